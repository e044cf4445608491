/-! curves: what is asked for -/
def sw (j : Nat) : Nat := if j ≤ 6 then 6 - j else j - 6
theorem sw_le {j : Nat} (h : j < 12) : sw j ≤ 6 := by unfold sw; split <;> omega
theorem swT_n : ∀ j, j < 12 → swT j = n3 (sw j) := by decide
def hB (c x : Nat) : Nat := c / 372 + (c / 12 % 31 - c / 372) * sw ((x + c % 12) % 12) / 6
theorem hB_le {c x : Nat} (h : c / 372 ≤ c / 12 % 31) : hB c x ≤ 30 := by
  unfold hB
  have h1 := sw_le (show (x + c % 12) % 12 < 12 by omega)
  have h2 : (c / 12 % 31 - c / 372) * sw ((x + c % 12) % 12) ≤ (c / 12 % 31 - c / 372) * 6 := Nat.mul_le_mul_left _ h1
  omega
theorem hB_mod (c x : Nat) : hB c (x % 12) = hB c x := by unfold hB; rw [show (x % 12 + c % 12) % 12 = (x + c % 12) % 12 by omega]
def ftc (T : Nat → Int32) (c : Nat) : Nat → Bool
  | 0 => decide (c / 372 ≤ c / 12 % 31)
  | i + 1 => ftc T c i && decide (hB c (u3 (T (2 * i))) = u3 (T (2 * i + 1)))
theorem ftc_m {T : Nat → Int32} {c i : Nat} (h : ftc T c i = false) : ∀ d, ftc T c (i + d) = false
  | 0 => h
  | d + 1 => by
    show (ftc T c (i + d) && _) = false
    rw [ftc_m h d]; rfl
theorem ftc_0 {T : Nat → Int32} {c : Nat} : ∀ {i : Nat}, ftc T c i = true → c / 372 ≤ c / 12 % 31
  | 0, h => of_decide_eq_true h
  | i + 1, h => by
    unfold ftc at h
    simp only [Bool.and_eq_true] at h
    exact ftc_0 h.1
theorem ftc_skip {T : Nat → Int32} {c : Nat} (h : c / 12 % 31 < c / 372) (i : Nat) : ftc T c i = false := by
  have := ftc_m (T := T) (c := c) (i := 0) (by unfold ftc; exact decide_eq_false (by omega)) i
  rw [Nat.zero_add] at this; exact this
theorem ftc_st {T : Nat → Int32} {c i : Nat} (h : ftc T c i = true) (e : hB c (u3 (T (2 * i))) = u3 (T (2 * i + 1))) : ftc T c (i + 1) = true := by unfold ftc; rw [h, decide_eq_true e]; rfl
theorem ftc_sf {T : Nat → Int32} {c i : Nat} (e : ¬ hB c (u3 (T (2 * i))) = u3 (T (2 * i + 1))) : ftc T c (i + 1) = false := by unfold ftc; rw [decide_eq_false e]; cases ftc T c i <;> rfl
/-- how many below c -/
def ctP (p : Nat → Bool) : Nat → Nat
  | 0 => 0
  | c + 1 => ctP p c + (if p c = true then 1 else 0)
theorem ctP_le (p : Nat → Bool) : ∀ c, ctP p c ≤ c
  | 0 => Nat.le_refl 0
  | c + 1 => by have := ctP_le p c; unfold ctP; split <;> omega
theorem ctP_t {p : Nat → Bool} {c : Nat} (h : p c = true) : ctP p (c + 1) = ctP p c + 1 := by
  show ctP p c + (if p c = true then 1 else 0) = _
  rw [if_pos h]
theorem ctP_f {p : Nat → Bool} {c : Nat} (h : p c = false) : ctP p (c + 1) = ctP p c := by
  show ctP p c + (if p c = true then 1 else 0) = _
  rw [if_neg (by rw [h]; decide)]; rfl
/-- the first from lo on -/
def fsu (p : Nat → Bool) (lo : Nat) : Nat → Nat
  | 0 => 4294967295
  | d + 1 => if p lo = true then lo else fsu p (lo + 1) d
theorem fsu_n (p : Nat → Bool) : ∀ (d lo : Nat), fsu p lo d = 4294967295 ∨ lo ≤ fsu p lo d ∧ fsu p lo d < lo + d
  | 0, lo => Or.inl rfl
  | d + 1, lo => by
    unfold fsu; split
    · right; omega
    · rcases fsu_n p d (lo + 1) with h | h
      · exact Or.inl h
      · right; omega
theorem fsu_e (p : Nat → Bool) : ∀ (d lo : Nat), lo + d < 4294967295 → fsu p lo (d + 1) = if fsu p lo d = 4294967295 then (if p (lo + d) = true then lo + d else 4294967295) else fsu p lo d
  | 0, lo, _ => rfl
  | d + 1, lo, h => by
    show (if p lo = true then lo else fsu p (lo + 1) (d + 1)) = if (if p lo = true then lo else fsu p (lo + 1) d) = 4294967295 then _ else (if p lo = true then lo else fsu p (lo + 1) d)
    by_cases hp : p lo = true
    · rw [if_pos hp, if_pos hp, if_neg (by omega)]
    · rw [if_neg hp, if_neg hp, fsu_e p d (lo + 1) (by omega), show lo + 1 + d = lo + (d + 1) by omega]
theorem fsu_c (p : Nat → Bool) : ∀ c, c < 4294967295 → (ctP p c = 0 ↔ fsu p 0 c = 4294967295)
  | 0, _ => ⟨fun _ => rfl, fun _ => rfl⟩
  | c + 1, h => by
    have ih := fsu_c p c (by omega)
    rw [fsu_e p c 0 (by omega), Nat.zero_add]
    have hn := fsu_n p c 0
    by_cases hp : p c = true
    · rw [ctP_t hp]
      by_cases h1 : fsu p 0 c = 4294967295
      · rw [if_pos h1, if_pos hp]; omega
      · rw [if_neg h1]; omega
    · rw [ctP_f (by simpa using hp)]
      by_cases h1 : fsu p 0 c = 4294967295
      · rw [if_pos h1, if_neg hp]; omega
      · rw [if_neg h1]; omega
theorem fsu_f {p : Nat → Bool} {c : Nat} (h : p c = false) (hc : c < 4294967295) : fsu p 0 (c + 1) = fsu p 0 c := by
  rw [fsu_e p c 0 (by omega), Nat.zero_add, if_neg (show ¬ p c = true by rw [h]; decide)]
  split
  · next e => exact e.symm
  · rfl
theorem fsu_t0 {p : Nat → Bool} {c : Nat} (h : p c = true) (h0 : ctP p c = 0) (hc : c < 4294967295) : fsu p 0 (c + 1) = c := by
  rw [fsu_e p c 0 (by omega), Nat.zero_add, if_pos ((fsu_c p c hc).1 h0), if_pos h]
theorem fsu_t1 {p : Nat → Bool} {c : Nat} (h0 : ctP p c ≠ 0) (hc : c < 4294967295) : fsu p 0 (c + 1) = fsu p 0 c := by
  rw [fsu_e p c 0 (by omega), Nat.zero_add, if_neg (fun e => h0 ((fsu_c p c hc).2 e))]
/-- what is not there is passed over -/
theorem ctP_gap {p : Nat → Bool} {c : Nat} : ∀ d, (∀ k, k < d → p (c + k) = false) → ctP p (c + d) = ctP p c
  | 0, _ => rfl
  | d + 1, h => by
    show ctP p ((c + d) + 1) = _
    rw [ctP_f (h d (by omega)), ctP_gap d (fun k hk => h k (by omega))]
theorem fsu_gap {p : Nat → Bool} {c : Nat} : ∀ d, c + d < 4294967295 → (∀ k, k < d → p (c + k) = false) → fsu p 0 (c + d) = fsu p 0 c
  | 0, _, _ => rfl
  | d + 1, hc, h => by
    show fsu p 0 ((c + d) + 1) = _
    rw [fsu_f (h d (by omega)) (by omega), fsu_gap d (by omega) (fun k hk => h k (by omega))]
/-- the greatest of the first -/
def mxv (f : Nat → Nat) : Nat → Nat
  | 0 => 0
  | v + 1 => max (mxv f v) (f v)
theorem mxv_up {f g : Nat → Nat} {v0 : Nat} (h : ∀ v, v ≠ v0 → g v = f v) (h0 : g v0 = f v0 + 1) : ∀ j, mxv g j = if v0 < j then max (mxv f j) (f v0 + 1) else mxv f j
  | 0 => by rw [if_neg (Nat.not_lt_zero _)]; rfl
  | j + 1 => by
    show max (mxv g j) (g j) = _
    rw [mxv_up h h0 j]
    by_cases e : j = v0
    · subst e
      rw [if_neg (by omega), if_pos (by omega), h0]
      show _ = max (max (mxv f j) (f j)) (f j + 1)
      omega
    · rw [h j e]
      by_cases e1 : v0 < j
      · rw [if_pos e1, if_pos (by omega)]
        show _ = max (max (mxv f j) (f j)) (f v0 + 1)
        omega
      · rw [if_neg e1, if_neg (by omega)]; rfl
theorem mxv_congr {f g : Nat → Nat} : ∀ j, (∀ v, v < j → g v = f v) → mxv g j = mxv f j
  | 0, _ => rfl
  | j + 1, h => by
    show max (mxv g j) (g j) = max (mxv f j) (f j)
    rw [mxv_congr j (fun v hv => h v (by omega)), h j (by omega)]
theorem mxv_le {f : Nat → Nat} {b : Nat} : ∀ j, (∀ v, v < j → f v ≤ b) → mxv f j ≤ b
  | 0, _ => Nat.zero_le b
  | j + 1, h => by
    have h1 := mxv_le j (fun v hv => h v (by omega))
    have h2 := h j (by omega)
    show max (mxv f j) (f j) ≤ b
    omega
/-- how many of the fitting ones below c have height v at the hour w -/
def prP (T : Nat → Int32) (r w v : Nat) : Nat → Bool := fun c => ftc T c r && decide (hB c w = v)
theorem prP_t {T : Nat → Int32} {r w v c : Nat} (h : ftc T c r = true) (e : hB c w = v) : prP T r w v c = true := by unfold prP; rw [h, decide_eq_true e]; rfl
theorem prP_f {T : Nat → Int32} {r w v c : Nat} (h : ftc T c r = false) : prP T r w v c = false := by unfold prP; rw [h]; rfl
theorem prP_n {T : Nat → Int32} {r w v c : Nat} (e : hB c w ≠ v) : prP T r w v c = false := by unfold prP; rw [decide_eq_false e]; cases ftc T c r <;> rfl
def gpC (T : Nat → Int32) (r w : Nat) : Nat := mxv (fun v => ctP (prP T r w v) 11532) 31
theorem ctP_mono {p q : Nat → Bool} (h : ∀ c, p c = true → q c = true) : ∀ c, ctP p c ≤ ctP q c
  | 0 => Nat.le_refl 0
  | c + 1 => by
    have ih := ctP_mono h c
    unfold ctP
    by_cases hp : p c = true
    · rw [if_pos hp, if_pos (h c hp)]; omega
    · rw [if_neg hp]; split <;> omega
theorem gpC_le (T : Nat → Int32) (r w : Nat) : gpC T r w ≤ ctP (fun c => ftc T c r) 11532 := mxv_le 31 (fun v _ => ctP_mono (fun c h => by
  unfold prP at h; simp only [Bool.and_eq_true] at h; exact h.1) 11532)
theorem gpC_mod (T : Nat → Int32) (r w : Nat) : gpC T r (w % 12) = gpC T r w := by
  unfold gpC prP; simp only [hB_mod]
def bsh (g : Nat → Nat) : Nat → Nat × Nat
  | 0 => (4294967295, 100000000)
  | i + 1 => if g i < (bsh g i).2 then (i, g i) else bsh g i
theorem bsh_le (g : Nat → Nat) : ∀ i k, k < i → (bsh g i).2 ≤ g k
  | 0, k, hk => absurd hk (Nat.not_lt_zero k)
  | i + 1, k, hk => by
    unfold bsh
    by_cases e : k = i
    · subst e; split
      · exact Nat.le_refl _
      · omega
    · have := bsh_le g i k (by omega)
      split
      · show g i ≤ g k
        omega
      · exact this
theorem bsh_per {g : Nat → Nat} (h : ∀ w, g (w % 12) = g w) : ∀ d, bsh g (12 + d) = bsh g 12
  | 0 => rfl
  | d + 1 => by
    show (if g (12 + d) < (bsh g (12 + d)).2 then (12 + d, g (12 + d)) else bsh g (12 + d)) = _
    rw [bsh_per h d, if_neg]
    have := bsh_le g 12 ((12 + d) % 12) (by omega)
    rw [h] at this; omega
theorem bsh_le2 (g : Nat → Nat) (i : Nat) : (bsh g i).2 ≤ 100000000 := by
  induction i with
  | zero => exact Nat.le_refl _
  | succ i ih =>
    unfold bsh; split
    · show g i ≤ _
      omega
    · exact ih
theorem bsh_in (g : Nat → Nat) (i : Nat) : (bsh g i).1 = 4294967295 ∨ (bsh g i).1 < i := by
  induction i with
  | zero => exact Or.inl rfl
  | succ i ih =>
    unfold bsh; split
    · right; show i < i + 1; omega
    · omega
theorem bsh_1 {g : Nat → Nat} (h : g 0 < 100000000) : ∀ i, bsh g (i + 1) ≠ bsh g 0 ∧ (bsh g (i + 1)).1 ≤ i
  | 0 => by
    have e : bsh g 1 = (0, g 0) := if_pos h
    rw [e]
    refine ⟨fun he => ?_, Nat.le_refl 0⟩
    have := congrArg Prod.fst he
    exact absurd this (show (0 : Nat) ≠ 4294967295 by decide)
  | i + 1 => by
    have ih := bsh_1 h i
    have e : bsh g (i + 1 + 1) = if g (i + 1) < (bsh g (i + 1)).2 then (i + 1, g (i + 1)) else bsh g (i + 1) := rfl
    rw [e]; split
    · refine ⟨fun he => ?_, Nat.le_refl _⟩
      have h1 : i + 1 = 4294967295 := congrArg Prod.fst he
      have h2 : g (i + 1) = 100000000 := congrArg Prod.snd he
      have := bsh_le2 g (i + 1); omega
    · exact ⟨ih.1, by omega⟩

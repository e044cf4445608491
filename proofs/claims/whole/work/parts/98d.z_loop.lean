/-! the law's loop -/
theorem small_end : ∀ L : Nat, L < 6 → ∀ i : Nat, i < 6 → Int32.ofNat L - 6 < n3 i := by decide
theorem law_all {N : Nat} (hN : 1099511627776 ≤ N) {Λ : Lay} {ad : Nat → Nat} (hY : Ly Λ ad) {L : Nat} (hL : L ≤ 3072) {sc : Nat → Int32} (v0 : Nat) : ∀ (n i : Nat) (μ : Mem), Rel ad μ → L + 6 ≤ i + 6 * n → i ≤ L → cw (fun (k : Int32 × Mem → Option Int32) (s : Int32 × Mem) => bd_L_law__23 N Λ L sc s.2 k v0 (ad 0) (ad 181) (ad 200) s.1) n (n3 i, μ) = some 1 := by
  intro n
  induction n with
  | zero => intro i μ _ h1 h2; omega
  | succ n ih =>
    intro i μ hr h1 h2
    show bd_L_law__23 N Λ L sc μ (cw _ n) v0 (ad 0) (ad 181) (ad 200) (n3 i) = some 1
    rw [bd_tl]
    by_cases hi : i + 6 ≤ L
    · rw [if_neg (show ¬ (Int32.ofNat L - 6 < n3 i) by
        rw [show (Int32.ofNat L - 6 : Int32) = n3 (L - 6) from n3_sub (a := L) (b := 6) (by omega), n3_lt_f (by omega) (by omega)]
        exact id), n3_inb (by omega) (by omega)]
      obtain ⟨μ2, hr2, e⟩ := lc_all hN hY hi hL hr v0
      show tl_0 N Λ L sc μ _ v0 (ad 0) (ad 181) (ad 200) (n3 i) = some 1
      rw [e]
      exact ih (i + 6) μ2 hr2 (by omega) hi
    · refine if_pos ?_
      by_cases h6 : L < 6
      · exact small_end L h6 i (by omega)
      · rw [show (Int32.ofNat L - 6 : Int32) = n3 (L - 6) from n3_sub (a := L) (b := 6) (by omega), n3_lt_t (by omega) (by omega)]
        trivial

/-! ships laid into rows of free places: what both ask for -/
def fitL (k : Nat) (l : Nat → Nat) : (Nat → Nat) → List Nat → Prop
  | _, [] => True
  | c, i :: r => ∃ j, j < k ∧ l i ≤ c j ∧ fitL k l (up c j (c j - l i)) r
def ldL (l a : Nat → Nat) (j : Nat) : List Nat → Nat
  | [] => 0
  | i :: r => (if a i = j then l i else 0) + ldL l a j r
theorem ldL_up {l a : Nat → Nat} {j i v : Nat} : ∀ {r : List Nat}, i ∉ r → ldL l (up a i v) j r = ldL l a j r
  | [], _ => rfl
  | x :: r, h => by
    have h1 : i ≠ x := fun e => h (e ▸ List.mem_cons_self ..)
    have h2 : i ∉ r := fun e => h (List.mem_cons_of_mem _ e)
    unfold ldL
    rw [ldL_up h2, up_n (fun e => h1 e.symm)]
theorem fitL_iff {k : Nat} {l : Nat → Nat} : ∀ {r : List Nat} {c : Nat → Nat}, r.Nodup → (fitL k l c r ↔ ∃ a : Nat → Nat, (∀ i, i ∈ r → a i < k) ∧ ∀ j, j < k → ldL l a j r ≤ c j)
  | [], c, _ => ⟨fun _ => ⟨fun _ => 0, fun i h => absurd h (List.not_mem_nil), fun j _ => Nat.zero_le _⟩, fun _ => trivial⟩
  | x :: r, c, hn => by
    have hx := (List.nodup_cons.1 hn).1
    have hr := (List.nodup_cons.1 hn).2
    unfold fitL
    refine ⟨fun h => ?_, fun h => ?_⟩
    · obtain ⟨j, hj, hl, hf⟩ := h
      obtain ⟨a, h1, h2⟩ := (fitL_iff hr).1 hf
      refine ⟨up a x j, fun i hi => ?_, fun i hi => ?_⟩
      · by_cases e : i = x
        · rw [e, up_e]; exact hj
        · rw [up_n e]
          rcases List.mem_cons.1 hi with e2 | e2
          · exact absurd e2 e
          · exact h1 i e2
      · unfold ldL
        rw [ldL_up hx, up_e]
        have := h2 i hi
        by_cases e : j = i
        · subst e; rw [up_e] at this; rw [if_pos rfl]; omega
        · rw [up_n (fun h => e h.symm)] at this; rw [if_neg e]; omega
    · obtain ⟨a, h1, h2⟩ := h
      have hax := h1 x (List.mem_cons_self ..)
      have h3 := h2 (a x) hax
      unfold ldL at h3
      rw [if_pos rfl] at h3
      refine ⟨a x, hax, by omega, (fitL_iff hr).2 ⟨a, fun i hi => h1 i (List.mem_cons_of_mem _ hi), fun j hj => ?_⟩⟩
      have h4 := h2 j hj
      unfold ldL at h4
      by_cases e : j = a x
      · rw [e, up_e]; omega
      · rw [up_n e]; rw [if_neg (fun h => e h.symm)] at h4; omega
/-- the members of a set, in their order -/
def ml (d : Nat) : Nat → List Nat
  | 0 => []
  | n + 1 => if d.testBit n = true then ml d n ++ [n] else ml d n
theorem ml_mem {d i : Nat} : ∀ {n : Nat}, i ∈ ml d n ↔ i < n ∧ d.testBit i = true
  | 0 => by unfold ml; simp
  | n + 1 => by
    have ih := ml_mem (d := d) (i := i) (n := n)
    unfold ml
    by_cases hb : d.testBit n = true
    · rw [if_pos hb, List.mem_append, ih, List.mem_singleton]
      refine ⟨fun h => ?_, fun h => ?_⟩
      · rcases h with h | h
        · exact ⟨by omega, h.2⟩
        · rw [h]; exact ⟨by omega, hb⟩
      · by_cases e : i = n
        · exact Or.inr e
        · exact Or.inl ⟨by omega, h.2⟩
    · rw [if_neg hb, ih]
      refine ⟨fun h => ⟨by omega, h.2⟩, fun h => ⟨?_, h.2⟩⟩
      by_cases e : i = n
      · rw [e] at h; exact absurd h.2 hb
      · omega
theorem ml_nodup (d : Nat) : ∀ n, (ml d n).Nodup
  | 0 => List.nodup_nil
  | n + 1 => by
    have ih := ml_nodup d n
    unfold ml
    by_cases hb : d.testBit n = true
    · rw [if_pos hb, List.nodup_append]
      refine ⟨ih, by simp, fun a ha b hb2 => ?_⟩
      rw [List.mem_singleton] at hb2
      have := (ml_mem.1 ha).1
      omega
    · rw [if_neg hb]; exact ih
def sl (l a : Nat → Nat) (d j : Nat) : Nat → Nat
  | 0 => 0
  | n + 1 => sl l a d j n + (if d.testBit n = true ∧ a n = j then l n else 0)
theorem ldL_app {l a : Nat → Nat} {j : Nat} : ∀ (r s : List Nat), ldL l a j (r ++ s) = ldL l a j r + ldL l a j s
  | [], s => by rw [List.nil_append]; unfold ldL; omega
  | x :: r, s => by
    have ih := ldL_app (l := l) (a := a) (j := j) r s
    show (if a x = j then l x else 0) + ldL l a j (r ++ s) = (if a x = j then l x else 0) + ldL l a j r + ldL l a j s
    omega
theorem ldL_ml {l a : Nat → Nat} {d j : Nat} : ∀ n, ldL l a j (ml d n) = sl l a d j n
  | 0 => rfl
  | n + 1 => by
    unfold ml sl
    by_cases hb : d.testBit n = true
    · rw [if_pos hb, ldL_app, ldL_ml n]
      show _ + ((if a n = j then l n else 0) + 0) = _
      by_cases e : a n = j
      · rw [if_pos e, if_pos ⟨hb, e⟩]; omega
      · rw [if_neg e, if_neg (fun h => e h.2)]
    · rw [if_neg hb, ldL_ml n, if_neg (fun h => hb h.1)]; rfl
theorem sl_rm {l a : Nat → Nat} {d i j : Nat} (hd : d < 256) (hi : i < 8) (hb : d.testBit i = true) : ∀ n, sl l a d j n = sl l a (rmv d i) j n + (if i < n ∧ a i = j then l i else 0)
  | 0 => by unfold sl; rw [if_neg (fun h => absurd h.1 (Nat.not_lt_zero _))]
  | n + 1 => by
    have ih := sl_rm (l := l) (a := a) (j := j) hd hi hb n
    unfold sl
    have e := rmv_bit d i n (by omega) (by omega)
    rw [ih]
    by_cases h : i = n
    · subst h
      have e2 : (rmv d i).testBit i = false := by rw [e]; simp
      rw [e2]
      by_cases hj : a i = j
      · rw [if_neg (by omega), if_pos ⟨hb, hj⟩, if_neg (by simp), if_pos ⟨by omega, hj⟩]
      · rw [if_neg (by omega), if_neg (fun h => hj h.2), if_neg (by simp), if_neg (fun h => hj h.2)]
    · have e2 : (rmv d i).testBit n = d.testBit n := by rw [e, decide_eq_false h]; simp
      rw [e2]
      have e3 : (i < n ∧ a i = j) ↔ (i < n + 1 ∧ a i = j) := ⟨fun x => ⟨by omega, x.2⟩, fun x => ⟨by omega, x.2⟩⟩
      by_cases hj : i < n ∧ a i = j
      · rw [if_pos hj, if_pos (e3.1 hj)]; omega
      · rw [if_neg hj, if_neg (fun h => hj (e3.2 h))]; omega
theorem sl_0 {l a : Nat → Nat} {j : Nat} : ∀ n, sl l a 0 j n = 0
  | 0 => rfl
  | n + 1 => by unfold sl; rw [sl_0 n, if_neg (by simp)]
/-! the least filling -/
def fbN (k : Nat) (z : Nat → Nat) (x : Nat) : Nat → Nat → Nat
  | 0, _ => 1048576
  | m + 1, u => if u + x ≤ z (k - (m + 1)) then 32 * (k - (m + 1)) + u + x else fbN k z x m 0
def fbF (k : Nat) (z : Nat → Nat) (v x : Nat) : Nat := fbN k z x (k - v / 32) (v % 32)
theorem fbN_hi {k x : Nat} {z : Nat → Nat} : ∀ m u, m ≤ k → fbN k z x m u = 1048576 ∨ ∃ b, k - m ≤ b ∧ b < k ∧ ((b = k - m ∧ fbN k z x m u = 32 * b + u + x ∧ u + x ≤ z b) ∨ (k - m < b ∧ fbN k z x m u = 32 * b + x ∧ x ≤ z b))
  | 0, _, _ => Or.inl rfl
  | m + 1, u, h => by
    unfold fbN
    by_cases hc : u + x ≤ z (k - (m + 1))
    · rw [if_pos hc]; exact Or.inr ⟨k - (m + 1), Nat.le_refl _, by omega, Or.inl ⟨rfl, rfl, hc⟩⟩
    · rw [if_neg hc]
      rcases fbN_hi (k := k) (z := z) (x := x) m 0 (by omega) with h1 | ⟨b, h1, h2, h3⟩
      · exact Or.inl h1
      · refine Or.inr ⟨b, by omega, h2, Or.inr ⟨by omega, ?_⟩⟩
        rcases h3 with ⟨a1, a2, a3⟩ | ⟨a1, a2, a3⟩
        · exact ⟨by omega, by omega⟩
        · exact ⟨a2, a3⟩
theorem fbN_lo {k x b w : Nat} {z : Nat → Nat} (hz : ∀ j, z j < 32) (hb : b < k) (hw : w + x ≤ z b) : ∀ m u, m ≤ k → k - m ≤ b → (k - m = b → u ≤ w) → fbN k z x m u ≤ 32 * b + w + x
  | 0, u, _, h, _ => by omega
  | m + 1, u, h, h1, h2 => by
    unfold fbN
    by_cases hc : u + x ≤ z (k - (m + 1))
    · rw [if_pos hc]
      have := hz (k - (m + 1))
      by_cases e : k - (m + 1) = b
      · have := h2 e; omega
      · omega
    · rw [if_neg hc]
      have e : k - (m + 1) ≠ b := fun e => by have := h2 e; rw [e] at hc; omega
      exact fbN_lo hz hb hw m 0 (by omega) (by omega) (fun _ => Nat.zero_le _)
def mnD (k : Nat) (z l : Nat → Nat) (d : Nat) (T : Nat → Nat) : Nat → Nat
  | 0 => 1048576
  | i + 1 => if d.testBit i = true then min (mnD k z l d T i) (fbF k z (T (rmv d i)) (l i)) else mnD k z l d T i
theorem mnD_le {k d : Nat} {z l T : Nat → Nat} {i : Nat} (hb : d.testBit i = true) : ∀ n, i < n → mnD k z l d T n ≤ fbF k z (T (rmv d i)) (l i)
  | 0, h => by omega
  | n + 1, h => by
    unfold mnD
    by_cases e : i = n
    · subst e; rw [if_pos hb]; exact Nat.min_le_right _ _
    · have := mnD_le (k := k) (z := z) (l := l) (T := T) hb n (by omega)
      by_cases hn : d.testBit n = true
      · rw [if_pos hn]; exact Nat.le_trans (Nat.min_le_left _ _) this
      · rw [if_neg hn]; exact this
theorem mnD_at {k d : Nat} {z l T : Nat → Nat} : ∀ n, mnD k z l d T n = 1048576 ∨ ∃ i, i < n ∧ d.testBit i = true ∧ mnD k z l d T n = fbF k z (T (rmv d i)) (l i)
  | 0 => Or.inl rfl
  | n + 1 => by
    have ih := mnD_at (k := k) (d := d) (z := z) (l := l) (T := T) n
    unfold mnD
    by_cases hn : d.testBit n = true
    · rw [if_pos hn]
      rcases Nat.le_total (mnD k z l d T n) (fbF k z (T (rmv d n)) (l n)) with h | h
      · rw [Nat.min_eq_left h]
        rcases ih with e | ⟨i, h1, h2, h3⟩
        · exact Or.inl e
        · exact Or.inr ⟨i, by omega, h2, h3⟩
      · rw [Nat.min_eq_right h]; exact Or.inr ⟨n, by omega, hn, rfl⟩
    · rw [if_neg hn]
      rcases ih with e | ⟨i, h1, h2, h3⟩
      · exact Or.inl e
      · exact Or.inr ⟨i, by omega, h2, h3⟩
theorem mnD_congr {k d : Nat} {z l T T' : Nat → Nat} (hd : d < 256) (h : ∀ e, e < d → T e = T' e) : ∀ n, n ≤ 8 → mnD k z l d T n = mnD k z l d T' n
  | 0, _ => rfl
  | n + 1, hn => by
    unfold mnD
    rw [mnD_congr hd h n (by omega)]
    by_cases hb : d.testBit n = true
    · rw [if_pos hb, if_pos hb, h _ (rmv_lt (by omega) (by omega) hb)]
    · rw [if_neg hb, if_neg hb]
def dV (k : Nat) (z l : Nat → Nat) (d : Nat) (T : Nat → Nat) : Nat := if d = 0 then 0 else mnD k z l d T 8
def dF (k : Nat) (z l : Nat → Nat) : Nat → Nat := tbu (dV k z l) 256
theorem dF_rec (k : Nat) (z l : Nat → Nat) (d : Nat) (hd : d < 256) : dF k z l d = dV k z l d (dF k z l) := by
  refine tbu_rec (dV k z l) (fun d T T' h1 h2 => ?_) d hd
  unfold dV
  by_cases e : d = 0
  · rw [if_pos e, if_pos e]
  · rw [if_neg e, if_neg e]; exact mnD_congr h1 h2 8 (by omega)
theorem dF_0 (k : Nat) (z l : Nat → Nat) : dF k z l 0 = 0 := by rw [dF_rec k z l 0 (by omega)]; exact if_pos rfl
theorem dF_s (k : Nat) (z l : Nat → Nat) {d : Nat} (h0 : 0 < d) (hd : d < 256) : dF k z l d = mnD k z l d (dF k z l) 8 := by rw [dF_rec k z l d hd]; exact if_neg (by omega)
theorem bit8 {d i : Nat} (hd : d < 256) (h : d.testBit i = true) : i < 8 := by
  by_cases hi : i < 8
  · exact hi
  · have : d.testBit i = false := Nat.testBit_lt_two_pow (Nat.lt_of_lt_of_le hd (Nat.pow_le_pow_right (n := 2) (by decide) (show 8 ≤ i by omega)))
    rw [this] at h; cases h
theorem dF_hi {k : Nat} {z l : Nat → Nat} (hk : k ≤ 24) (hz : ∀ j, z j < 32) : ∀ n d, d ≤ n → d < 256 → dF k z l d ≠ 1048576 → dF k z l d < 800 ∧ ∃ a : Nat → Nat, (∀ i, d.testBit i = true → a i ≤ dF k z l d / 32 ∧ a i < k) ∧ (∀ j, j < k → sl l a d j 8 ≤ z j) ∧ sl l a d (dF k z l d / 32) 8 ≤ dF k z l d % 32 := by
  intro n
  induction n with
  | zero =>
    intro d h1 h2 h3
    have : d = 0 := by omega
    subst this
    rw [dF_0]
    exact ⟨by omega, fun _ => 0, fun i h => by simp at h, fun j _ => by rw [sl_0]; exact Nat.zero_le _, by rw [sl_0]; exact Nat.zero_le _⟩
  | succ n ih =>
    intro d h1 h2 h3
    by_cases e : d ≤ n
    · exact ih d e h2 h3
    · rcases mnD_at (k := k) (d := d) (z := z) (l := l) (T := dF k z l) 8 with h | ⟨i, hi, hb, he⟩
      · rw [← dF_s k z l (by omega) h2] at h; exact absurd h h3
      · rw [← dF_s k z l (by omega) h2] at he
        have hlt := rmv_lt (s := i) (by omega) (by omega) hb
        have hv : dF k z l (rmv d i) ≠ 1048576 := fun hc => by
          rw [hc] at he
          unfold fbF at he
          rw [show k - 1048576 / 32 = 0 by omega] at he
          exact h3 he
        obtain ⟨g0, a, g1, g2, g3⟩ := ih (rmv d i) (by omega) (by omega) hv
        generalize hV : dF k z l (rmv d i) = V at he g0 g1 g3
        generalize hD : dF k z l d = D at he h3
        rcases fbN_hi (k := k) (z := z) (x := l i) (k - V / 32) (V % 32) (by omega) with h | ⟨b, b1, b2, b3⟩
        · exact absurd (he.trans h) h3
        · have he' : fbN k z (l i) (k - V / 32) (V % 32) = D := he.symm
          rw [he'] at b3
          have hzb := hz b
          have key : D / 32 = b ∧ V / 32 ≤ b ∧ D < 800 ∧ sl l a (rmv d i) b 8 + l i ≤ D % 32 ∧ D % 32 ≤ z b := by
            rcases b3 with ⟨c1, c2, c3⟩ | ⟨c1, c2, c3⟩
            · have e1 : b = V / 32 := by omega
              have e2 : D / 32 = b := by omega
              have e3 : D % 32 = V % 32 + l i := by omega
              rw [← e1] at g3
              exact ⟨e2, by omega, by omega, by omega, by omega⟩
            · have e2 : D / 32 = b := by omega
              have e3 : D % 32 = l i := by omega
              have e4 : sl l a (rmv d i) b 8 = 0 := by
                have key : ∀ m, m ≤ 8 → sl l a (rmv d i) b m = 0 := by
                  intro m
                  induction m with
                  | zero => intro _; rfl
                  | succ m im =>
                    intro hm
                    unfold sl
                    rw [im (by omega), if_neg (fun hc => by have := (g1 m hc.1).1; omega)]
                exact key 8 (Nat.le_refl _)
              exact ⟨e2, by omega, by omega, by omega, by omega⟩
          obtain ⟨k1, k2, k3, k4, k5⟩ := key
          have hup : ∀ j, sl l (up a i b) (rmv d i) j 8 = sl l a (rmv d i) j 8 := by
            intro j
            have key : ∀ m, sl l (up a i b) (rmv d i) j m = sl l a (rmv d i) j m := by
              intro m
              induction m with
              | zero => rfl
              | succ m im =>
                unfold sl
                rw [im]
                by_cases e : m = i
                · subst e
                  have e2 : (rmv d m).testBit m = false := by rw [rmv_bit d m m (by omega) (by omega)]; simp
                  rw [e2, if_neg (by simp), if_neg (by simp)]
                · rw [up_n e]
            exact key 8
          have hsl : ∀ j, sl l (up a i b) d j 8 = sl l a (rmv d i) j 8 + (if b = j then l i else 0) := by
            intro j
            rw [sl_rm h2 hi hb 8, hup, up_e]
            by_cases e : b = j
            · rw [if_pos e, if_pos ⟨hi, e⟩]
            · rw [if_neg e, if_neg (fun h => e h.2)]
          refine ⟨k3, up a i b, fun t ht => ?_, fun j hj => ?_, ?_⟩
          · by_cases e : t = i
            · rw [e, up_e]; omega
            · rw [up_n e]
              have hr : (rmv d i).testBit t = true := by
                rw [rmv_bit d i t (by omega) (by omega), ht, decide_eq_false (fun h => e h.symm)]; rfl
              have := g1 t hr
              omega
          · rw [hsl]
            have := g2 j hj
            by_cases e : b = j
            · rw [if_pos e, ← e]; omega
            · rw [if_neg e]; omega
          · rw [hsl, k1, if_pos rfl]; exact k4
theorem top_bit {a : Nat → Nat} {d : Nat} : ∀ n, (∀ i, i < n → d.testBit i = false) ∨ ∃ i, i < n ∧ d.testBit i = true ∧ ∀ t, t < n → d.testBit t = true → a t ≤ a i
  | 0 => Or.inl (fun i h => by omega)
  | n + 1 => by
    have ih := top_bit (a := a) (d := d) n
    by_cases hn : d.testBit n = true
    · rcases ih with h | ⟨i, h1, h2, h3⟩
      · refine Or.inr ⟨n, by omega, hn, fun t ht hb => ?_⟩
        by_cases e : t = n
        · rw [e]; exact Nat.le_refl _
        · rw [h t (by omega)] at hb; cases hb
      · rcases Nat.le_total (a i) (a n) with h | h
        · refine Or.inr ⟨n, by omega, hn, fun t ht hb => ?_⟩
          by_cases e : t = n
          · rw [e]; exact Nat.le_refl _
          · exact Nat.le_trans (h3 t (by omega) hb) h
        · refine Or.inr ⟨i, by omega, h2, fun t ht hb => ?_⟩
          by_cases e : t = n
          · rw [e]; exact h
          · exact h3 t (by omega) hb
    · rcases ih with h | ⟨i, h1, h2, h3⟩
      · refine Or.inl (fun i hi => ?_)
        by_cases e : i = n
        · rw [e]; exact Bool.eq_false_iff.2 hn
        · exact h i (by omega)
      · refine Or.inr ⟨i, by omega, h2, fun t ht hb => ?_⟩
        by_cases e : t = n
        · rw [e] at hb; exact absurd hb hn
        · exact h3 t (by omega) hb
theorem no_bits {d : Nat} (hd : d < 256) (h : ∀ i, i < 8 → d.testBit i = false) : d = 0 := by
  apply Nat.eq_of_testBit_eq
  intro i
  rw [Nat.zero_testBit]
  by_cases hi : i < 8
  · exact h i hi
  · exact Nat.testBit_lt_two_pow (Nat.lt_of_lt_of_le hd (Nat.pow_le_pow_right (n := 2) (by decide) (show 8 ≤ i by omega)))
theorem dF_lo {k : Nat} {z l a : Nat → Nat} (hz : ∀ j, z j < 32) : ∀ n d, d ≤ n → d < 256 → ∀ b u, b < k → (∀ i, d.testBit i = true → a i ≤ b) → (∀ j, j < k → sl l a d j 8 ≤ z j) → sl l a d b 8 ≤ u → dF k z l d ≤ 32 * b + u := by
  intro n
  induction n with
  | zero =>
    intro d h1 _ b u _ _ _ _
    rw [show d = 0 by omega, dF_0]; exact Nat.zero_le _
  | succ n ih =>
    intro d h1 h2 b u hb ha hs hu
    by_cases e : d ≤ n
    · exact ih d e h2 b u hb ha hs hu
    · rcases top_bit (a := a) (d := d) 8 with h | ⟨i, hi, hbi, hm⟩
      · have := no_bits h2 h; omega
      · have hab := ha i hbi
        have hlt := rmv_lt (s := i) (by omega) (by omega) hbi
        have hsl : ∀ j, sl l a d j 8 = sl l a (rmv d i) j 8 + (if a i = j then l i else 0) := by
          intro j
          rw [sl_rm h2 hi hbi 8]
          by_cases e : a i = j
          · rw [if_pos e, if_pos ⟨hi, e⟩]
          · rw [if_neg e, if_neg (fun h => e h.2)]
        have hsi := hsl (a i)
        rw [if_pos rfl] at hsi
        have hzi := hs (a i) (by omega)
        have hv := ih (rmv d i) (by omega) (by omega) (a i) (sl l a (rmv d i) (a i) 8) (by omega) (fun t ht => hm t (bit8 (by omega) ht) (by
          rw [rmv_bit d i t (by omega) (by omega)] at ht
          revert ht; cases d.testBit t <;> simp)) (fun j hj => by have := hs j hj; have := hsl j; omega) (Nat.le_refl _)
        have hd := mnD_le (k := k) (z := z) (l := l) (T := dF k z l) hbi 8 hi
        rw [← dF_s k z l (by omega) h2] at hd
        have hz2 := hz (a i)
        have hf : fbF k z (dF k z l (rmv d i)) (l i) ≤ 32 * a i + sl l a (rmv d i) (a i) 8 + l i := by
          unfold fbF
          refine fbN_lo hz (by omega) (by omega) _ _ (by omega) (by omega) (by omega)
        by_cases e2 : a i = b
        · rw [e2] at hf hsi; omega
        · omega
theorem dF_iff {k d : Nat} {z l : Nat → Nat} (hk : k ≤ 24) (hz : ∀ j, z j < 32) (hd : d < 256) : dF k z l d ≠ 1048576 ↔ fitL k l z (ml d 8) := by
  rw [fitL_iff (ml_nodup d 8)]
  refine ⟨fun h => ?_, fun h => ?_⟩
  · obtain ⟨_, a, h1, h2, _⟩ := dF_hi hk hz d d (Nat.le_refl _) hd h
    exact ⟨a, fun i hi => (h1 i (ml_mem.1 hi).2).2, fun j hj => by rw [ldL_ml]; exact h2 j hj⟩
  · obtain ⟨a, h1, h2⟩ := h
    by_cases e : d = 0
    · rw [e, dF_0]; omega
    · rcases top_bit (a := a) (d := d) 8 with h | ⟨i, hi, hb, hm⟩
      · exact absurd (no_bits hd h) e
      · have hk2 := h1 i (ml_mem.2 ⟨hi, hb⟩)
        have h3 := dF_lo (k := k) (z := z) (l := l) (a := a) hz d d (Nat.le_refl _) hd (a i) (sl l a d (a i) 8) hk2 (fun t ht => hm t (bit8 hd ht) ht) (fun j hj => by have := h2 j hj; rw [ldL_ml] at this; exact this) (Nat.le_refl _)
        have h4 := h2 (a i) hk2
        rw [ldL_ml] at h4
        have := hz (a i)
        omega
/-! rows of free places -/
def fre (t p : Nat) : Bool := decide (p < 24) && !t.testBit p
def cR (t : Nat) : Nat → Nat
  | 0 => 0
  | p + 1 => if fre t p = true then cR t p + 1 else 0
def bR (t : Nat) : Nat → Nat
  | 0 => 0
  | p + 1 => if fre t p = true then bR t p else if cR t p = 0 then bR t p else bR t p + 1
/-- the rows' lengths at a place -/
def sRw (t : Nat) : Nat → Nat → Nat
  | 0 => fun _ => 0
  | p + 1 => if fre t p = true then up (sRw t p) (bR t p) (cR t p + 1) else sRw t p
theorem cR_s (t p : Nat) : cR t (p + 1) = if fre t p = true then cR t p + 1 else 0 := rfl
theorem bR_s (t p : Nat) : bR t (p + 1) = if fre t p = true then bR t p else if cR t p = 0 then bR t p else bR t p + 1 := rfl
theorem sR_s (t p : Nat) : sRw t (p + 1) = if fre t p = true then up (sRw t p) (bR t p) (cR t p + 1) else sRw t p := rfl
theorem bc_le (t : Nat) : ∀ p, bR t p + cR t p ≤ p
  | 0 => Nat.le_refl _
  | p + 1 => by
    have ih := bc_le t p
    rw [bR_s, cR_s]
    by_cases h : fre t p = true
    · rw [if_pos h, if_pos h]; omega
    · rw [if_neg h, if_neg h]
      by_cases h0 : cR t p = 0
      · rw [if_pos h0]; omega
      · rw [if_neg h0]; omega
theorem sRw_at (t : Nat) : ∀ p, sRw t p (bR t p) = cR t p ∧ ∀ j, bR t p < j → sRw t p j = 0
  | 0 => ⟨rfl, fun _ _ => rfl⟩
  | p + 1 => by
    have ih := sRw_at t p
    rw [sR_s, bR_s, cR_s]
    by_cases h : fre t p = true
    · rw [if_pos h, if_pos h, if_pos h, up_e]
      exact ⟨rfl, fun j hj => by rw [up_n (by omega)]; exact ih.2 j hj⟩
    · rw [if_neg h, if_neg h, if_neg h]
      by_cases h0 : cR t p = 0
      · rw [if_pos h0]; exact ⟨by rw [ih.1, h0], ih.2⟩
      · rw [if_neg h0]; exact ⟨ih.2 _ (by omega), fun j hj => ih.2 j (by omega)⟩
theorem sR_le (t : Nat) : ∀ p j, sRw t p j ≤ p
  | 0, _ => Nat.le_refl _
  | p + 1, j => by
    have ih := sR_le t p j
    have h2 := bc_le t p
    rw [sR_s]
    by_cases h : fre t p = true
    · rw [if_pos h]
      by_cases e : j = bR t p
      · rw [e, up_e]; omega
      · rw [up_n e]; omega
    · rw [if_neg h]; omega
def kR (t : Nat) : Nat := bR t 25
def zR (t : Nat) : Nat → Nat := sRw t 25
theorem fre_24 (t : Nat) : fre t 24 = false := by unfold fre; rfl
theorem cR_25 (t : Nat) : cR t 25 = 0 := by
  show (if fre t 24 = true then cR t 24 + 1 else 0) = 0
  rw [fre_24]; rfl
theorem zR_24 (t : Nat) : zR t = sRw t 24 := by
  show (if fre t 24 = true then up (sRw t 24) (bR t 24) (cR t 24 + 1) else sRw t 24) = _
  rw [fre_24]; rfl
theorem kR_24 (t : Nat) : kR t = if cR t 24 = 0 then bR t 24 else bR t 24 + 1 := by
  show (if fre t 24 = true then bR t 24 else if cR t 24 = 0 then bR t 24 else bR t 24 + 1) = _
  rw [fre_24]; rfl
theorem kR_le (t : Nat) : kR t ≤ 24 := by
  have := bc_le t 24
  rw [kR_24]
  by_cases h : cR t 24 = 0
  · rw [if_pos h]; omega
  · rw [if_neg h]; omega
theorem zR_lt (t j : Nat) : zR t j < 32 := by have := sR_le t 25 j; unfold zR; omega
theorem c_findBins {N : Nat} (hN : 1099511627776 ≤ N) {Λ : Lay} {ad : Nat → Nat} {μ : Mem} (hQ : LyQ Λ ad) (hj : Inj ad) {t : Nat} (ht : t < 16777216) : ∃ μ', m_X6_findBins N Λ μ (ad 175) (n3 t) = some μ' ∧ μ'.1 (ad 175) 3 = n3 (kR t) ∧ (∀ j, j < kR t → μ'.1 (ad 177) j = n3 (zR t j)) ∧ Fr ad (fun i => i = 175 ∨ i = 177) μ μ' := by
  simp (disch := omega) only [m_X6_findBins, lp_X6_findBins_9, ↓lt_e, ↓gd_e, ↓Option.bind_some, ↓reduceIte, if_true, if_false, if_pT, if_nF, decide_true, Bool.not_true, Bool.not_false, not_true_eq_false, not_false_eq_true, Bool.false_eq_true, Bool.true_eq_false, eq_self, n3_lit]
  refine cw_iv (P := fun i x => ∃ μ1 : Mem, x = (n3 (cR t i), n3 i, μ1) ∧ μ1.1 (ad 175) 3 = n3 (bR t i) ∧ (∀ j, j < bR t i → μ1.1 (ad 177) j = n3 (sRw t i j)) ∧ Fr ad (fun i => i = 175 ∨ i = 177) μ μ1) (Q := fun X => ∃ μ', X = some μ' ∧ μ'.1 (ad 175) 3 = n3 (kR t) ∧ (∀ j, j < kR t → μ'.1 (ad 177) j = n3 (zR t j)) ∧ Fr ad (fun i => i = 175 ∨ i = 177) μ μ') 25 ⟨_, rfl, mse _ _ _ _, fun j hj => absurd hj (Nat.not_lt_zero j), (Fr.refl μ).set hj (Or.inl rfl)⟩ (fun i hi x hx => ?_) (fun x hx => ?_) (show 25 < N by omega)
  · obtain ⟨μ1, rfl, h1, h2, hf⟩ := hx
    left
    have hbc := bc_le t i
    have hsat := sRw_at t i
    by_cases hi2 : 24 ≤ i
    · have hfr : fre t i = false := by unfold fre; rw [decide_eq_false (by omega)]; rfl
      have ec : cR t (i + 1) = 0 := by show (if fre t i = true then cR t i + 1 else 0) = 0; rw [hfr]; rfl
      have es : sRw t (i + 1) = sRw t i := by show (if fre t i = true then up (sRw t i) (bR t i) (cR t i + 1) else sRw t i) = _; rw [hfr]; rfl
      by_cases h0 : cR t i = 0
      · have eb : bR t (i + 1) = bR t i := by show (if fre t i = true then bR t i else if cR t i = 0 then bR t i else bR t i + 1) = _; rw [hfr, if_pos h0]; rfl
        refine ⟨_, ⟨μ1, rfl, by rw [eb]; exact h1, by rw [eb, es]; exact h2, hf⟩, fun k => ?_⟩
        rw [ec, h0]
        simp (disch := omega) only [jn_X6_findBins_86, jn_X6_findBins_74, jn_X6_findBins_34, jn_X6_findBins_33, bd_X6_findBins_9, ↓ob (hQ.1), ↓ob (hQ.2.1), ↓ob (hQ.2.2.1), ↓ob (hQ.2.2.2.1), hQ.2.2.2.2.1, hQ.2.2.2.2.2.1, hQ.2.2.2.2.2.2.1, hQ.2.2.2.2.2.2.2.1, ↓ob (hQ.2.2.2.2.2.2.2.2.1), ↓ob (hQ.2.2.2.2.2.2.2.2.2.1), ↓ob (hQ.2.2.2.2.2.2.2.2.2.2.1), hQ.2.2.2.2.2.2.2.2.2.2.2.1, hQ.2.2.2.2.2.2.2.2.2.2.2.2.1, hQ.2.2.2.2.2.2.2.2.2.2.2.2.2.1, ↓ob (hQ.2.2.2.2.2.2.2.2.2.2.2.2.2.2.1), ↓ob (hQ.2.2.2.2.2.2.2.2.2.2.2.2.2.2.2.1), ↓ob (hQ.2.2.2.2.2.2.2.2.2.2.2.2.2.2.2.2.1), ↓ob (hQ.2.2.2.2.2.2.2.2.2.2.2.2.2.2.2.2.2.1), ↓ob (hQ.2.2.2.2.2.2.2.2.2.2.2.2.2.2.2.2.2.2.1), hQ.2.2.2.2.2.2.2.2.2.2.2.2.2.2.2.2.2.2.2.1, hQ.2.2.2.2.2.2.2.2.2.2.2.2.2.2.2.2.2.2.2.2.1, hQ.2.2.2.2.2.2.2.2.2.2.2.2.2.2.2.2.2.2.2.2.2.1, hQ.2.2.2.2.2.2.2.2.2.2.2.2.2.2.2.2.2.2.2.2.2.2.1, hQ.2.2.2.2.2.2.2.2.2.2.2.2.2.2.2.2.2.2.2.2.2.2.2, h1, ↓lt_e, ↓gd_e, ↓Option.bind_some, ↓reduceIte, if_true, if_false, if_pT, if_nF, decide_true, Bool.not_true, Bool.not_false, not_true_eq_false, not_false_eq_true, Bool.false_eq_true, Bool.true_eq_false, eq_self, n3_lit, n3_add, n3_mul, n3_sub, n3_tn, n3_le_t, n3_le_f, n3_lt_t, n3_lt_f, n3_eq_f, n3_eq_t, n3_inb, n3_rem, n3_div, n3_zb, bb_0, bb_1, zb_bb, bb_T, bb_F, n3_dec, n3_m1, n3_eqm, n3_eqmt, n3_ltm, n3_mlt, n3_lem, n3_mle, n3_neg_lt, n3_nlt_neg, n3_nle_neg, n3_neg_le]
      · have eb : bR t (i + 1) = bR t i + 1 := by show (if fre t i = true then bR t i else if cR t i = 0 then bR t i else bR t i + 1) = _; rw [hfr, if_neg h0]; rfl
        refine ⟨_, ⟨mset (mset μ1 (ad 177) (bR t i) (n3 (cR t i))) (ad 175) 3 (n3 (bR t i + 1)), rfl, by rw [eb, mse], fun j hjb => ?_, (hf.set hj (Or.inr rfl)).set hj (Or.inl rfl)⟩, fun k => ?_⟩
        · rw [es]
          rw [mso hj (by omega)]
          by_cases e : j = bR t i
          · rw [e, mse, hsat.1]
          · rw [msn e]; exact h2 j (by omega)
        · rw [ec]
          have h1' : (mset μ1 (ad 177) (bR t i) (n3 (cR t i))).1 (ad 175) 3 = n3 (bR t i) := by rw [mso hj (by omega)]; exact h1
          simp (disch := omega) only [jn_X6_findBins_86, jn_X6_findBins_74, jn_X6_findBins_34, jn_X6_findBins_33, bd_X6_findBins_9, ↓ob (hQ.1), ↓ob (hQ.2.1), ↓ob (hQ.2.2.1), ↓ob (hQ.2.2.2.1), hQ.2.2.2.2.1, hQ.2.2.2.2.2.1, hQ.2.2.2.2.2.2.1, hQ.2.2.2.2.2.2.2.1, ↓ob (hQ.2.2.2.2.2.2.2.2.1), ↓ob (hQ.2.2.2.2.2.2.2.2.2.1), ↓ob (hQ.2.2.2.2.2.2.2.2.2.2.1), hQ.2.2.2.2.2.2.2.2.2.2.2.1, hQ.2.2.2.2.2.2.2.2.2.2.2.2.1, hQ.2.2.2.2.2.2.2.2.2.2.2.2.2.1, ↓ob (hQ.2.2.2.2.2.2.2.2.2.2.2.2.2.2.1), ↓ob (hQ.2.2.2.2.2.2.2.2.2.2.2.2.2.2.2.1), ↓ob (hQ.2.2.2.2.2.2.2.2.2.2.2.2.2.2.2.2.1), ↓ob (hQ.2.2.2.2.2.2.2.2.2.2.2.2.2.2.2.2.2.1), ↓ob (hQ.2.2.2.2.2.2.2.2.2.2.2.2.2.2.2.2.2.2.1), hQ.2.2.2.2.2.2.2.2.2.2.2.2.2.2.2.2.2.2.2.1, hQ.2.2.2.2.2.2.2.2.2.2.2.2.2.2.2.2.2.2.2.2.1, hQ.2.2.2.2.2.2.2.2.2.2.2.2.2.2.2.2.2.2.2.2.2.1, hQ.2.2.2.2.2.2.2.2.2.2.2.2.2.2.2.2.2.2.2.2.2.2.1, hQ.2.2.2.2.2.2.2.2.2.2.2.2.2.2.2.2.2.2.2.2.2.2.2, h1, h1', ↓lt_e, ↓gd_e, ↓Option.bind_some, ↓reduceIte, if_true, if_false, if_pT, if_nF, decide_true, Bool.not_true, Bool.not_false, not_true_eq_false, not_false_eq_true, Bool.false_eq_true, Bool.true_eq_false, eq_self, n3_lit, n3_add, n3_mul, n3_sub, n3_tn, n3_le_t, n3_le_f, n3_lt_t, n3_lt_f, n3_eq_f, n3_eq_t, n3_inb, n3_rem, n3_div, n3_zb, bb_0, bb_1, zb_bb, bb_T, bb_F, n3_dec, n3_m1, n3_eqm, n3_eqmt, n3_ltm, n3_mlt, n3_lem, n3_mle, n3_neg_lt, n3_nlt_neg, n3_nle_neg, n3_neg_le]
    · have hnb := n3_bit (a := t) (b := i) (by omega) (by omega)
      by_cases hb : t.testBit i = true
      · rw [bb_t hb] at hnb
        have hfr : fre t i = false := by unfold fre; rw [hb, decide_eq_true (by omega)]; rfl
        have ec : cR t (i + 1) = 0 := by show (if fre t i = true then cR t i + 1 else 0) = 0; rw [hfr]; rfl
        have es : sRw t (i + 1) = sRw t i := by show (if fre t i = true then up (sRw t i) (bR t i) (cR t i + 1) else sRw t i) = _; rw [hfr]; rfl
        by_cases h0 : cR t i = 0
        · have eb : bR t (i + 1) = bR t i := by show (if fre t i = true then bR t i else if cR t i = 0 then bR t i else bR t i + 1) = _; rw [hfr, if_pos h0]; rfl
          refine ⟨_, ⟨μ1, rfl, by rw [eb]; exact h1, by rw [eb, es]; exact h2, hf⟩, fun k => ?_⟩
          rw [ec, h0]
          simp (disch := omega) only [jn_X6_findBins_86, jn_X6_findBins_74, jn_X6_findBins_34, jn_X6_findBins_33, bd_X6_findBins_9, ↓ob (hQ.1), ↓ob (hQ.2.1), ↓ob (hQ.2.2.1), ↓ob (hQ.2.2.2.1), hQ.2.2.2.2.1, hQ.2.2.2.2.2.1, hQ.2.2.2.2.2.2.1, hQ.2.2.2.2.2.2.2.1, ↓ob (hQ.2.2.2.2.2.2.2.2.1), ↓ob (hQ.2.2.2.2.2.2.2.2.2.1), ↓ob (hQ.2.2.2.2.2.2.2.2.2.2.1), hQ.2.2.2.2.2.2.2.2.2.2.2.1, hQ.2.2.2.2.2.2.2.2.2.2.2.2.1, hQ.2.2.2.2.2.2.2.2.2.2.2.2.2.1, ↓ob (hQ.2.2.2.2.2.2.2.2.2.2.2.2.2.2.1), ↓ob (hQ.2.2.2.2.2.2.2.2.2.2.2.2.2.2.2.1), ↓ob (hQ.2.2.2.2.2.2.2.2.2.2.2.2.2.2.2.2.1), ↓ob (hQ.2.2.2.2.2.2.2.2.2.2.2.2.2.2.2.2.2.1), ↓ob (hQ.2.2.2.2.2.2.2.2.2.2.2.2.2.2.2.2.2.2.1), hQ.2.2.2.2.2.2.2.2.2.2.2.2.2.2.2.2.2.2.2.1, hQ.2.2.2.2.2.2.2.2.2.2.2.2.2.2.2.2.2.2.2.2.1, hQ.2.2.2.2.2.2.2.2.2.2.2.2.2.2.2.2.2.2.2.2.2.1, hQ.2.2.2.2.2.2.2.2.2.2.2.2.2.2.2.2.2.2.2.2.2.2.1, hQ.2.2.2.2.2.2.2.2.2.2.2.2.2.2.2.2.2.2.2.2.2.2.2, h1, hnb, ↓lt_e, ↓gd_e, ↓Option.bind_some, ↓reduceIte, if_true, if_false, if_pT, if_nF, decide_true, Bool.not_true, Bool.not_false, not_true_eq_false, not_false_eq_true, Bool.false_eq_true, Bool.true_eq_false, eq_self, n3_lit, n3_add, n3_mul, n3_sub, n3_tn, n3_le_t, n3_le_f, n3_lt_t, n3_lt_f, n3_eq_f, n3_eq_t, n3_inb, n3_rem, n3_div, n3_zb, bb_0, bb_1, zb_bb, bb_T, bb_F, n3_dec, n3_m1, n3_eqm, n3_eqmt, n3_ltm, n3_mlt, n3_lem, n3_mle, n3_neg_lt, n3_nlt_neg, n3_nle_neg, n3_neg_le]
        · have eb : bR t (i + 1) = bR t i + 1 := by show (if fre t i = true then bR t i else if cR t i = 0 then bR t i else bR t i + 1) = _; rw [hfr, if_neg h0]; rfl
          refine ⟨_, ⟨mset (mset μ1 (ad 177) (bR t i) (n3 (cR t i))) (ad 175) 3 (n3 (bR t i + 1)), rfl, by rw [eb, mse], fun j hjb => ?_, (hf.set hj (Or.inr rfl)).set hj (Or.inl rfl)⟩, fun k => ?_⟩
          · rw [es]
            rw [mso hj (by omega)]
            by_cases e : j = bR t i
            · rw [e, mse, hsat.1]
            · rw [msn e]; exact h2 j (by omega)
          · rw [ec]
            have h1' : (mset μ1 (ad 177) (bR t i) (n3 (cR t i))).1 (ad 175) 3 = n3 (bR t i) := by rw [mso hj (by omega)]; exact h1
            simp (disch := omega) only [jn_X6_findBins_86, jn_X6_findBins_74, jn_X6_findBins_34, jn_X6_findBins_33, bd_X6_findBins_9, ↓ob (hQ.1), ↓ob (hQ.2.1), ↓ob (hQ.2.2.1), ↓ob (hQ.2.2.2.1), hQ.2.2.2.2.1, hQ.2.2.2.2.2.1, hQ.2.2.2.2.2.2.1, hQ.2.2.2.2.2.2.2.1, ↓ob (hQ.2.2.2.2.2.2.2.2.1), ↓ob (hQ.2.2.2.2.2.2.2.2.2.1), ↓ob (hQ.2.2.2.2.2.2.2.2.2.2.1), hQ.2.2.2.2.2.2.2.2.2.2.2.1, hQ.2.2.2.2.2.2.2.2.2.2.2.2.1, hQ.2.2.2.2.2.2.2.2.2.2.2.2.2.1, ↓ob (hQ.2.2.2.2.2.2.2.2.2.2.2.2.2.2.1), ↓ob (hQ.2.2.2.2.2.2.2.2.2.2.2.2.2.2.2.1), ↓ob (hQ.2.2.2.2.2.2.2.2.2.2.2.2.2.2.2.2.1), ↓ob (hQ.2.2.2.2.2.2.2.2.2.2.2.2.2.2.2.2.2.1), ↓ob (hQ.2.2.2.2.2.2.2.2.2.2.2.2.2.2.2.2.2.2.1), hQ.2.2.2.2.2.2.2.2.2.2.2.2.2.2.2.2.2.2.2.1, hQ.2.2.2.2.2.2.2.2.2.2.2.2.2.2.2.2.2.2.2.2.1, hQ.2.2.2.2.2.2.2.2.2.2.2.2.2.2.2.2.2.2.2.2.2.1, hQ.2.2.2.2.2.2.2.2.2.2.2.2.2.2.2.2.2.2.2.2.2.2.1, hQ.2.2.2.2.2.2.2.2.2.2.2.2.2.2.2.2.2.2.2.2.2.2.2, h1, h1', hnb, ↓lt_e, ↓gd_e, ↓Option.bind_some, ↓reduceIte, if_true, if_false, if_pT, if_nF, decide_true, Bool.not_true, Bool.not_false, not_true_eq_false, not_false_eq_true, Bool.false_eq_true, Bool.true_eq_false, eq_self, n3_lit, n3_add, n3_mul, n3_sub, n3_tn, n3_le_t, n3_le_f, n3_lt_t, n3_lt_f, n3_eq_f, n3_eq_t, n3_inb, n3_rem, n3_div, n3_zb, bb_0, bb_1, zb_bb, bb_T, bb_F, n3_dec, n3_m1, n3_eqm, n3_eqmt, n3_ltm, n3_mlt, n3_lem, n3_mle, n3_neg_lt, n3_nlt_neg, n3_nle_neg, n3_neg_le]
      · rw [bb_f hb] at hnb
        have hfr : fre t i = true := by unfold fre; rw [Bool.eq_false_iff.2 hb, decide_eq_true (by omega)]; rfl
        have ec : cR t (i + 1) = cR t i + 1 := if_pos hfr
        have es : sRw t (i + 1) = up (sRw t i) (bR t i) (cR t i + 1) := if_pos hfr
        have eb : bR t (i + 1) = bR t i := if_pos hfr
        refine ⟨_, ⟨μ1, rfl, by rw [eb]; exact h1, fun j hjb => ?_, hf⟩, fun k => ?_⟩
        · rw [eb] at hjb
          rw [es, up_n (by omega)]; exact h2 j hjb
        · rw [ec]
          simp (disch := omega) only [jn_X6_findBins_86, jn_X6_findBins_74, jn_X6_findBins_34, jn_X6_findBins_33, bd_X6_findBins_9, ↓ob (hQ.1), ↓ob (hQ.2.1), ↓ob (hQ.2.2.1), ↓ob (hQ.2.2.2.1), hQ.2.2.2.2.1, hQ.2.2.2.2.2.1, hQ.2.2.2.2.2.2.1, hQ.2.2.2.2.2.2.2.1, ↓ob (hQ.2.2.2.2.2.2.2.2.1), ↓ob (hQ.2.2.2.2.2.2.2.2.2.1), ↓ob (hQ.2.2.2.2.2.2.2.2.2.2.1), hQ.2.2.2.2.2.2.2.2.2.2.2.1, hQ.2.2.2.2.2.2.2.2.2.2.2.2.1, hQ.2.2.2.2.2.2.2.2.2.2.2.2.2.1, ↓ob (hQ.2.2.2.2.2.2.2.2.2.2.2.2.2.2.1), ↓ob (hQ.2.2.2.2.2.2.2.2.2.2.2.2.2.2.2.1), ↓ob (hQ.2.2.2.2.2.2.2.2.2.2.2.2.2.2.2.2.1), ↓ob (hQ.2.2.2.2.2.2.2.2.2.2.2.2.2.2.2.2.2.1), ↓ob (hQ.2.2.2.2.2.2.2.2.2.2.2.2.2.2.2.2.2.2.1), hQ.2.2.2.2.2.2.2.2.2.2.2.2.2.2.2.2.2.2.2.1, hQ.2.2.2.2.2.2.2.2.2.2.2.2.2.2.2.2.2.2.2.2.1, hQ.2.2.2.2.2.2.2.2.2.2.2.2.2.2.2.2.2.2.2.2.2.1, hQ.2.2.2.2.2.2.2.2.2.2.2.2.2.2.2.2.2.2.2.2.2.2.1, hQ.2.2.2.2.2.2.2.2.2.2.2.2.2.2.2.2.2.2.2.2.2.2.2, hnb, ↓lt_e, ↓gd_e, ↓Option.bind_some, ↓reduceIte, if_true, if_false, if_pT, if_nF, decide_true, Bool.not_true, Bool.not_false, not_true_eq_false, not_false_eq_true, Bool.false_eq_true, Bool.true_eq_false, eq_self, n3_lit, n3_add, n3_mul, n3_sub, n3_tn, n3_le_t, n3_le_f, n3_lt_t, n3_lt_f, n3_eq_f, n3_eq_t, n3_inb, n3_rem, n3_div, n3_zb, bb_0, bb_1, zb_bb, bb_T, bb_F, n3_dec, n3_m1, n3_eqm, n3_eqmt, n3_ltm, n3_mlt, n3_lem, n3_mle, n3_neg_lt, n3_nlt_neg, n3_nle_neg, n3_neg_le]
  · obtain ⟨μ1, rfl, h1, h2, hf⟩ := hx
    exact ⟨_, ⟨μ1, rfl, h1, h2, hf⟩, fun k => by simp (disch := omega) only [jn_X6_findBins_86, jn_X6_findBins_74, jn_X6_findBins_34, jn_X6_findBins_33, bd_X6_findBins_9, ↓lt_e, ↓gd_e, ↓Option.bind_some, ↓reduceIte, if_true, if_false, if_pT, if_nF, decide_true, Bool.not_true, Bool.not_false, not_true_eq_false, not_false_eq_true, Bool.false_eq_true, Bool.true_eq_false, eq_self, n3_lit, n3_add, n3_mul, n3_sub, n3_tn, n3_le_t, n3_le_f, n3_lt_t, n3_lt_f, n3_eq_f, n3_eq_t, n3_inb, n3_rem, n3_div, n3_zb, bb_0, bb_1, zb_bb, bb_T, bb_F, n3_dec, n3_m1, n3_eqm, n3_eqmt, n3_ltm, n3_mlt, n3_lem, n3_mle, n3_neg_lt, n3_nlt_neg, n3_nle_neg, n3_neg_le]⟩
theorem c_filledN {N : Nat} {Λ : Lay} {ad : Nat → Nat} {μ : Mem} (hQ : LyQ Λ ad) {k x : Nat} {z : Nat → Nat} (hk : k ≤ 24) (hz : ∀ j, z j < 32) (hx : x < 32) (h1 : μ.1 (ad 175) 3 = n3 k) (h2 : ∀ j, j < k → μ.1 (ad 177) j = n3 (z j)) : ∀ m M b u, k - b = m → m < M → b < 100000 → u < 32 → cw (fun k s => bd_X6_filledBy_11 N Λ μ k (ad 175) (n3 x) s.1 s.2) M (n3 u, n3 b) = some (n3 (fbN k z x m u))
  | 0, M + 1, b, u, hm, _, hb, hu => by
    show bd_X6_filledBy_11 N Λ μ _ (ad 175) (n3 x) (n3 u) (n3 b) = _
    simp (disch := omega) only [bd_X6_filledBy_11, ↓ob (hQ.1), ↓ob (hQ.2.1), ↓ob (hQ.2.2.1), ↓ob (hQ.2.2.2.1), hQ.2.2.2.2.1, hQ.2.2.2.2.2.1, hQ.2.2.2.2.2.2.1, hQ.2.2.2.2.2.2.2.1, ↓ob (hQ.2.2.2.2.2.2.2.2.1), ↓ob (hQ.2.2.2.2.2.2.2.2.2.1), ↓ob (hQ.2.2.2.2.2.2.2.2.2.2.1), hQ.2.2.2.2.2.2.2.2.2.2.2.1, hQ.2.2.2.2.2.2.2.2.2.2.2.2.1, hQ.2.2.2.2.2.2.2.2.2.2.2.2.2.1, ↓ob (hQ.2.2.2.2.2.2.2.2.2.2.2.2.2.2.1), ↓ob (hQ.2.2.2.2.2.2.2.2.2.2.2.2.2.2.2.1), ↓ob (hQ.2.2.2.2.2.2.2.2.2.2.2.2.2.2.2.2.1), ↓ob (hQ.2.2.2.2.2.2.2.2.2.2.2.2.2.2.2.2.2.1), ↓ob (hQ.2.2.2.2.2.2.2.2.2.2.2.2.2.2.2.2.2.2.1), hQ.2.2.2.2.2.2.2.2.2.2.2.2.2.2.2.2.2.2.2.1, hQ.2.2.2.2.2.2.2.2.2.2.2.2.2.2.2.2.2.2.2.2.1, hQ.2.2.2.2.2.2.2.2.2.2.2.2.2.2.2.2.2.2.2.2.2.1, hQ.2.2.2.2.2.2.2.2.2.2.2.2.2.2.2.2.2.2.2.2.2.2.1, hQ.2.2.2.2.2.2.2.2.2.2.2.2.2.2.2.2.2.2.2.2.2.2.2, h1, ↓lt_e, ↓gd_e, ↓Option.bind_some, ↓reduceIte, if_true, if_false, if_pT, if_nF, decide_true, Bool.not_true, Bool.not_false, not_true_eq_false, not_false_eq_true, Bool.false_eq_true, Bool.true_eq_false, eq_self, n3_lit, n3_add, n3_mul, n3_sub, n3_tn, n3_le_t, n3_le_f, n3_lt_t, n3_lt_f, n3_eq_f, n3_eq_t, n3_inb, n3_rem, n3_div, n3_zb, bb_0, bb_1, zb_bb, bb_T, bb_F, n3_dec, n3_m1, n3_eqm, n3_eqmt, n3_ltm, n3_mlt, n3_lem, n3_mle, n3_neg_lt, n3_nlt_neg, n3_nle_neg, n3_neg_le, fbN]
  | m + 1, M + 1, b, u, hm, hM, hb, hu => by
    show bd_X6_filledBy_11 N Λ μ _ (ad 175) (n3 x) (n3 u) (n3 b) = _
    have hzb := h2 b (by omega)
    have hz1 := hz b
    have eb : k - (m + 1) = b := by omega
    unfold fbN
    rw [eb]
    by_cases hc : u + x ≤ z b
    · rw [if_pos hc]
      simp (disch := omega) only [bd_X6_filledBy_11, ↓ob (hQ.1), ↓ob (hQ.2.1), ↓ob (hQ.2.2.1), ↓ob (hQ.2.2.2.1), hQ.2.2.2.2.1, hQ.2.2.2.2.2.1, hQ.2.2.2.2.2.2.1, hQ.2.2.2.2.2.2.2.1, ↓ob (hQ.2.2.2.2.2.2.2.2.1), ↓ob (hQ.2.2.2.2.2.2.2.2.2.1), ↓ob (hQ.2.2.2.2.2.2.2.2.2.2.1), hQ.2.2.2.2.2.2.2.2.2.2.2.1, hQ.2.2.2.2.2.2.2.2.2.2.2.2.1, hQ.2.2.2.2.2.2.2.2.2.2.2.2.2.1, ↓ob (hQ.2.2.2.2.2.2.2.2.2.2.2.2.2.2.1), ↓ob (hQ.2.2.2.2.2.2.2.2.2.2.2.2.2.2.2.1), ↓ob (hQ.2.2.2.2.2.2.2.2.2.2.2.2.2.2.2.2.1), ↓ob (hQ.2.2.2.2.2.2.2.2.2.2.2.2.2.2.2.2.2.1), ↓ob (hQ.2.2.2.2.2.2.2.2.2.2.2.2.2.2.2.2.2.2.1), hQ.2.2.2.2.2.2.2.2.2.2.2.2.2.2.2.2.2.2.2.1, hQ.2.2.2.2.2.2.2.2.2.2.2.2.2.2.2.2.2.2.2.2.1, hQ.2.2.2.2.2.2.2.2.2.2.2.2.2.2.2.2.2.2.2.2.2.1, hQ.2.2.2.2.2.2.2.2.2.2.2.2.2.2.2.2.2.2.2.2.2.2.1, hQ.2.2.2.2.2.2.2.2.2.2.2.2.2.2.2.2.2.2.2.2.2.2.2, h1, hzb, ↓lt_e, ↓gd_e, ↓Option.bind_some, ↓reduceIte, if_true, if_false, if_pT, if_nF, decide_true, Bool.not_true, Bool.not_false, not_true_eq_false, not_false_eq_true, Bool.false_eq_true, Bool.true_eq_false, eq_self, n3_lit, n3_add, n3_mul, n3_sub, n3_tn, n3_le_t, n3_le_f, n3_lt_t, n3_lt_f, n3_eq_f, n3_eq_t, n3_inb, n3_rem, n3_div, n3_zb, bb_0, bb_1, zb_bb, bb_T, bb_F, n3_dec, n3_m1, n3_eqm, n3_eqmt, n3_ltm, n3_mlt, n3_lem, n3_mle, n3_neg_lt, n3_nlt_neg, n3_nle_neg, n3_neg_le]
      rw [Nat.mul_comm b 32]
    · rw [if_neg hc, ← c_filledN (N := N) hQ hk hz hx h1 h2 m M (b + 1) 0 (by omega) (by omega) (by omega) (by omega)]
      simp (disch := omega) only [bd_X6_filledBy_11, ↓ob (hQ.1), ↓ob (hQ.2.1), ↓ob (hQ.2.2.1), ↓ob (hQ.2.2.2.1), hQ.2.2.2.2.1, hQ.2.2.2.2.2.1, hQ.2.2.2.2.2.2.1, hQ.2.2.2.2.2.2.2.1, ↓ob (hQ.2.2.2.2.2.2.2.2.1), ↓ob (hQ.2.2.2.2.2.2.2.2.2.1), ↓ob (hQ.2.2.2.2.2.2.2.2.2.2.1), hQ.2.2.2.2.2.2.2.2.2.2.2.1, hQ.2.2.2.2.2.2.2.2.2.2.2.2.1, hQ.2.2.2.2.2.2.2.2.2.2.2.2.2.1, ↓ob (hQ.2.2.2.2.2.2.2.2.2.2.2.2.2.2.1), ↓ob (hQ.2.2.2.2.2.2.2.2.2.2.2.2.2.2.2.1), ↓ob (hQ.2.2.2.2.2.2.2.2.2.2.2.2.2.2.2.2.1), ↓ob (hQ.2.2.2.2.2.2.2.2.2.2.2.2.2.2.2.2.2.1), ↓ob (hQ.2.2.2.2.2.2.2.2.2.2.2.2.2.2.2.2.2.2.1), hQ.2.2.2.2.2.2.2.2.2.2.2.2.2.2.2.2.2.2.2.1, hQ.2.2.2.2.2.2.2.2.2.2.2.2.2.2.2.2.2.2.2.2.1, hQ.2.2.2.2.2.2.2.2.2.2.2.2.2.2.2.2.2.2.2.2.2.1, hQ.2.2.2.2.2.2.2.2.2.2.2.2.2.2.2.2.2.2.2.2.2.2.1, hQ.2.2.2.2.2.2.2.2.2.2.2.2.2.2.2.2.2.2.2.2.2.2.2, h1, hzb, ↓lt_e, ↓gd_e, ↓Option.bind_some, ↓reduceIte, if_true, if_false, if_pT, if_nF, decide_true, Bool.not_true, Bool.not_false, not_true_eq_false, not_false_eq_true, Bool.false_eq_true, Bool.true_eq_false, eq_self, n3_lit, n3_add, n3_mul, n3_sub, n3_tn, n3_le_t, n3_le_f, n3_lt_t, n3_lt_f, n3_eq_f, n3_eq_t, n3_inb, n3_rem, n3_div, n3_zb, bb_0, bb_1, zb_bb, bb_T, bb_F, n3_dec, n3_m1, n3_eqm, n3_eqmt, n3_ltm, n3_mlt, n3_lem, n3_mle, n3_neg_lt, n3_nlt_neg, n3_nle_neg, n3_neg_le]
  | m, 0, _, _, _, h, _, _ => absurd h (by omega)
theorem c_filledBy {N : Nat} (hN : 1099511627776 ≤ N) {Λ : Lay} {ad : Nat → Nat} {μ : Mem} (hQ : LyQ Λ ad) {k x v : Nat} {z : Nat → Nat} (hk : k ≤ 24) (hz : ∀ j, z j < 32) (hx : x < 32) (hv : v ≤ 1048576) (h1 : μ.1 (ad 175) 3 = n3 k) (h2 : ∀ j, j < k → μ.1 (ad 177) j = n3 (z j)) : m_X6_filledBy N Λ μ (ad 175) (n3 v) (n3 x) = some (n3 (fbF k z v x)) := by
  have h := c_filledN (N := N) hQ hk hz hx h1 h2 (k - v / 32) N (v / 32) (v % 32) rfl (by omega) (by omega) (by omega)
  unfold fbF
  rw [← h]
  simp (disch := omega) only [m_X6_filledBy, lp_X6_filledBy_11, ↓lt_e, ↓gd_e, ↓Option.bind_some, ↓reduceIte, if_true, if_false, if_pT, if_nF, decide_true, Bool.not_true, Bool.not_false, not_true_eq_false, not_false_eq_true, Bool.false_eq_true, Bool.true_eq_false, eq_self, n3_lit, n3_rem, n3_div]
theorem fbF_le {k x v : Nat} {z : Nat → Nat} (hk : k ≤ 24) (hz : ∀ j, z j < 32) : fbF k z v x ≤ 1048576 := by
  rcases fbN_hi (k := k) (z := z) (x := x) (k - v / 32) (v % 32) (by omega) with h | ⟨b, h1, h2, h3⟩
  · unfold fbF; omega
  · have := hz b
    unfold fbF
    rcases h3 with h | h <;> omega
theorem mnD_full {k d : Nat} {z l T : Nat → Nat} : ∀ n, mnD k z l d T n ≤ 1048576
  | 0 => Nat.le_refl _
  | n + 1 => by
    have ih := mnD_full (k := k) (d := d) (z := z) (l := l) (T := T) n
    unfold mnD
    by_cases h : d.testBit n = true
    · rw [if_pos h]; omega
    · rw [if_neg h]; exact ih
theorem dF_full {k d : Nat} {z l : Nat → Nat} (hd : d < 256) : dF k z l d ≤ 1048576 := by
  by_cases e : d = 0
  · rw [e, dF_0]; omega
  · rw [dF_s k z l (by omega) hd]; exact mnD_full 8
def ln (F : Nat → Nat) (s : Nat) : Nat := F (25 + 6 * s)
theorem c_leastFilling {N : Nat} (hN : 1099511627776 ≤ N) {Λ : Lay} {ad : Nat → Nat} {σ : Nat} {μ : Mem} {F : Nat → Nat} (hS : LyS Λ ad σ) (hC : CS ad μ σ F)  (hQ : LyQ Λ ad) (hw : WF F) {k d : Nat} {z : Nat → Nat} (hk : k ≤ 24) (hz : ∀ j, z j < 32) (h0 : 0 < d) (hd : d < 256) (hdF : d < 2 ^ F 0) (h1 : μ.1 (ad 175) 3 = n3 k) (h2 : ∀ j, j < k → μ.1 (ad 177) j = n3 (z j)) (hT : ∀ e, e < d → Sub e d → μ.1 (ad 179) e = n3 (dF k z (ln F) e)) : m_X6_leastFilling N Λ μ (ad 175) (n3 d) (ad σ) = some (n3 (dF k z (ln F) d)) := by
  rw [dF_s k z (ln F) h0 hd]
  have hb := hw.1; unfold WB at hb
  unfold m_X6_leastFilling lp_X6_leastFilling_6
  refine cw_it (fun i => (n3 (mnD k z (ln F) d (dF k z (ln F)) i), n3 i)) 8 rfl (fun i hi k' => ?_) (fun k' => ?_) (by omega)
  · have hnb := n3_bit (a := d) (b := i) (by omega) (by omega)
    have hfu := mnD_full (k := k) (d := d) (z := z) (l := ln F) (T := dF k z (ln F)) i
    show bd_X6_leastFilling_6 N Λ μ k' (ad 175) (n3 d) (ad σ) (n3 (mnD k z (ln F) d (dF k z (ln F)) i)) (n3 i) = k' (n3 (if d.testBit i = true then min (mnD k z (ln F) d (dF k z (ln F)) i) (fbF k z (dF k z (ln F) (rmv d i)) (ln F i)) else mnD k z (ln F) d (dF k z (ln F)) i), n3 (i + 1))
    by_cases hbi : d.testBit i = true
    · rw [bb_t hbi] at hnb
      rw [if_pos hbi]
      have hiF := In_bit hdF hbi
      have hso := hw.2.2.1 i hiF
      unfold ShOk at hso
      have hrl := rmv_lt (s := i) (by omega) (by omega) hbi
      have ht := hT (rmv d i) hrl (Sub_rmv _ _)
      have q0 : μ.1 (ad (σ + 2)) i = n3 (ln F i) := hC.2.2.2.2.2.2.2.2.2.2.2.2.1 i hiF
      have hx : n3 d ^^^ ishl (n3 1) (n3 i) = n3 (rmv d i) := by rw [n3_shl (by omega), Nat.one_mul, n3_xor, xor_rm d hd i hi hbi]
      have hfb := c_filledBy hN hQ hk hz (x := ln F i) (v := dF k z (ln F) (rmv d i)) (by unfold ln; omega) (dF_full (by omega)) h1 h2
      have hfl := fbF_le (x := ln F i) (v := dF k z (ln F) (rmv d i)) hk hz
      simp (disch := omega) only [jn_X6_leastFilling_50, bd_X6_leastFilling_6, ↓ob (hS.1), ↓ob (hS.2.1), ↓ob (hS.2.2.1), ↓ob (hS.2.2.2.1), ↓ob (hS.2.2.2.2.1), ↓ob (hS.2.2.2.2.2.1), ↓ob (hS.2.2.2.2.2.2.1), ↓ob (hS.2.2.2.2.2.2.2.1), hS.2.2.2.2.2.2.2.2.1, hS.2.2.2.2.2.2.2.2.2.1, hS.2.2.2.2.2.2.2.2.2.2.1, hS.2.2.2.2.2.2.2.2.2.2.2.1, hS.2.2.2.2.2.2.2.2.2.2.2.2.1, hS.2.2.2.2.2.2.2.2.2.2.2.2.2.1, hS.2.2.2.2.2.2.2.2.2.2.2.2.2.2, ↓ob (hQ.1), ↓ob (hQ.2.1), ↓ob (hQ.2.2.1), ↓ob (hQ.2.2.2.1), hQ.2.2.2.2.1, hQ.2.2.2.2.2.1, hQ.2.2.2.2.2.2.1, hQ.2.2.2.2.2.2.2.1, ↓ob (hQ.2.2.2.2.2.2.2.2.1), ↓ob (hQ.2.2.2.2.2.2.2.2.2.1), ↓ob (hQ.2.2.2.2.2.2.2.2.2.2.1), hQ.2.2.2.2.2.2.2.2.2.2.2.1, hQ.2.2.2.2.2.2.2.2.2.2.2.2.1, hQ.2.2.2.2.2.2.2.2.2.2.2.2.2.1, ↓ob (hQ.2.2.2.2.2.2.2.2.2.2.2.2.2.2.1), ↓ob (hQ.2.2.2.2.2.2.2.2.2.2.2.2.2.2.2.1), ↓ob (hQ.2.2.2.2.2.2.2.2.2.2.2.2.2.2.2.2.1), ↓ob (hQ.2.2.2.2.2.2.2.2.2.2.2.2.2.2.2.2.2.1), ↓ob (hQ.2.2.2.2.2.2.2.2.2.2.2.2.2.2.2.2.2.2.1), hQ.2.2.2.2.2.2.2.2.2.2.2.2.2.2.2.2.2.2.2.1, hQ.2.2.2.2.2.2.2.2.2.2.2.2.2.2.2.2.2.2.2.2.1, hQ.2.2.2.2.2.2.2.2.2.2.2.2.2.2.2.2.2.2.2.2.2.1, hQ.2.2.2.2.2.2.2.2.2.2.2.2.2.2.2.2.2.2.2.2.2.2.1, hQ.2.2.2.2.2.2.2.2.2.2.2.2.2.2.2.2.2.2.2.2.2.2.2, ↓lt_e, ↓gd_e, ↓Option.bind_some, ↓reduceIte, if_true, if_false, if_pT, if_nF, decide_true, Bool.not_true, Bool.not_false, not_true_eq_false, not_false_eq_true, Bool.false_eq_true, Bool.true_eq_false, eq_self, n3_lit, n3_le_f, hnb, hx, n3_inb, n3_tn, ht, q0, hfb, n3_imin, n3_add]
    · rw [bb_f hbi] at hnb
      rw [if_neg hbi]
      simp (disch := omega) only [jn_X6_leastFilling_50, bd_X6_leastFilling_6, ↓ob (hS.1), ↓ob (hS.2.1), ↓ob (hS.2.2.1), ↓ob (hS.2.2.2.1), ↓ob (hS.2.2.2.2.1), ↓ob (hS.2.2.2.2.2.1), ↓ob (hS.2.2.2.2.2.2.1), ↓ob (hS.2.2.2.2.2.2.2.1), hS.2.2.2.2.2.2.2.2.1, hS.2.2.2.2.2.2.2.2.2.1, hS.2.2.2.2.2.2.2.2.2.2.1, hS.2.2.2.2.2.2.2.2.2.2.2.1, hS.2.2.2.2.2.2.2.2.2.2.2.2.1, hS.2.2.2.2.2.2.2.2.2.2.2.2.2.1, hS.2.2.2.2.2.2.2.2.2.2.2.2.2.2, ↓ob (hQ.1), ↓ob (hQ.2.1), ↓ob (hQ.2.2.1), ↓ob (hQ.2.2.2.1), hQ.2.2.2.2.1, hQ.2.2.2.2.2.1, hQ.2.2.2.2.2.2.1, hQ.2.2.2.2.2.2.2.1, ↓ob (hQ.2.2.2.2.2.2.2.2.1), ↓ob (hQ.2.2.2.2.2.2.2.2.2.1), ↓ob (hQ.2.2.2.2.2.2.2.2.2.2.1), hQ.2.2.2.2.2.2.2.2.2.2.2.1, hQ.2.2.2.2.2.2.2.2.2.2.2.2.1, hQ.2.2.2.2.2.2.2.2.2.2.2.2.2.1, ↓ob (hQ.2.2.2.2.2.2.2.2.2.2.2.2.2.2.1), ↓ob (hQ.2.2.2.2.2.2.2.2.2.2.2.2.2.2.2.1), ↓ob (hQ.2.2.2.2.2.2.2.2.2.2.2.2.2.2.2.2.1), ↓ob (hQ.2.2.2.2.2.2.2.2.2.2.2.2.2.2.2.2.2.1), ↓ob (hQ.2.2.2.2.2.2.2.2.2.2.2.2.2.2.2.2.2.2.1), hQ.2.2.2.2.2.2.2.2.2.2.2.2.2.2.2.2.2.2.2.1, hQ.2.2.2.2.2.2.2.2.2.2.2.2.2.2.2.2.2.2.2.2.1, hQ.2.2.2.2.2.2.2.2.2.2.2.2.2.2.2.2.2.2.2.2.2.1, hQ.2.2.2.2.2.2.2.2.2.2.2.2.2.2.2.2.2.2.2.2.2.2.1, hQ.2.2.2.2.2.2.2.2.2.2.2.2.2.2.2.2.2.2.2.2.2.2.2, hnb, ↓lt_e, ↓gd_e, ↓Option.bind_some, ↓reduceIte, if_true, if_false, if_pT, if_nF, decide_true, Bool.not_true, Bool.not_false, not_true_eq_false, not_false_eq_true, Bool.false_eq_true, Bool.true_eq_false, eq_self, n3_lit, n3_add, n3_mul, n3_sub, n3_tn, n3_le_t, n3_le_f, n3_lt_t, n3_lt_f, n3_eq_f, n3_eq_t, n3_inb, n3_rem, n3_div, n3_zb, bb_0, bb_1, zb_bb, bb_T, bb_F, n3_dec, n3_m1, n3_eqm, n3_eqmt, n3_ltm, n3_mlt, n3_lem, n3_mle, n3_neg_lt, n3_nlt_neg, n3_nle_neg, n3_neg_le]
  · simp (disch := omega) only [jn_X6_leastFilling_50, bd_X6_leastFilling_6, ↓lt_e, ↓gd_e, ↓Option.bind_some, ↓reduceIte, if_true, if_false, if_pT, if_nF, decide_true, Bool.not_true, Bool.not_false, not_true_eq_false, not_false_eq_true, Bool.false_eq_true, Bool.true_eq_false, eq_self, n3_lit, n3_add, n3_mul, n3_sub, n3_tn, n3_le_t, n3_le_f, n3_lt_t, n3_lt_f, n3_eq_f, n3_eq_t, n3_inb, n3_rem, n3_div, n3_zb, bb_0, bb_1, zb_bb, bb_T, bb_F, n3_dec, n3_m1, n3_eqm, n3_eqmt, n3_ltm, n3_mlt, n3_lem, n3_mle, n3_neg_lt, n3_nlt_neg, n3_nle_neg, n3_neg_le]
/-! load and which: the class -/
def fsm (F : Nat → Nat) (d : Nat) : Nat → Nat
  | 0 => 0
  | i + 1 => fsm F d i + (if d.testBit i = true then feeF F i else 0)
theorem fsm_ge {F : Nat → Nat} {d : Nat} (hd : d < 2 ^ F 0) : ∀ n, F 0 ≤ n → fsm F d n = fsm F d (F 0)
  | 0, h => by rw [show F 0 = 0 by omega]
  | n + 1, h => by
    by_cases e : F 0 = n + 1
    · rw [e]
    · have hb : d.testBit n = false := Nat.testBit_lt_two_pow (Nat.lt_of_lt_of_le hd (Nat.pow_le_pow_right (n := 2) (by decide) (by omega)))
      show fsm F d n + (if d.testBit n = true then feeF F n else 0) = fsm F d (F 0)
      rw [hb, fsm_ge hd n (by omega)]; rfl
theorem fsm_le {F : Nat → Nat} (hw : WF F) (hl : LawOk F) {d : Nat} (hd : d < 2 ^ F 0) : ∀ n, fsm F d n ≤ 516 * n
  | 0 => Nat.le_refl _
  | n + 1 => by
    have ih := fsm_le hw hl hd n
    show fsm F d n + (if d.testBit n = true then feeF F n else 0) ≤ _
    by_cases hb : d.testBit n = true
    · rw [if_pos hb]
      have := fee_le hw hl (In_bit hd hb)
      omega
    · rw [if_neg hb]; omega
theorem c_feesOf {N : Nat} (hN : 1099511627776 ≤ N) {Λ : Lay} {ad : Nat → Nat} {μ : Mem} {F : Nat → Nat} (hQ : LyQ Λ ad) (hw : WF F) (hl : LawOk F) {d : Nat} (hd : d < 256) (hdF : d < 2 ^ F 0) (hfee : ∀ s, s < 8 → μ.1 (ad 178) s = n3 (if s < F 0 then feeF F s else 0)) : m_X6_feesOf N Λ μ (ad 175) (n3 d) = some (n3 (fsm F d 8)) := by
  unfold m_X6_feesOf lp_X6_feesOf_4
  refine cw_it (fun i => (n3 (fsm F d i), n3 i)) 8 rfl (fun i hi k => ?_) (fun k => ?_) (by omega)
  · have hnb := n3_bit (a := d) (b := i) (by omega) (by omega)
    have hfi := hfee i hi
    show bd_X6_feesOf_4 N Λ μ k (ad 175) (n3 d) (n3 (fsm F d i)) (n3 i) = k (n3 (fsm F d i + (if d.testBit i = true then feeF F i else 0)), n3 (i + 1))
    by_cases hb : d.testBit i = true
    · rw [bb_t hb] at hnb
      rw [if_pos (In_bit hdF hb)] at hfi
      rw [if_pos hb]
      simp (disch := omega) only [bd_X6_feesOf_4, ↓ob (hQ.1), ↓ob (hQ.2.1), ↓ob (hQ.2.2.1), ↓ob (hQ.2.2.2.1), hQ.2.2.2.2.1, hQ.2.2.2.2.2.1, hQ.2.2.2.2.2.2.1, hQ.2.2.2.2.2.2.2.1, ↓ob (hQ.2.2.2.2.2.2.2.2.1), ↓ob (hQ.2.2.2.2.2.2.2.2.2.1), ↓ob (hQ.2.2.2.2.2.2.2.2.2.2.1), hQ.2.2.2.2.2.2.2.2.2.2.2.1, hQ.2.2.2.2.2.2.2.2.2.2.2.2.1, hQ.2.2.2.2.2.2.2.2.2.2.2.2.2.1, ↓ob (hQ.2.2.2.2.2.2.2.2.2.2.2.2.2.2.1), ↓ob (hQ.2.2.2.2.2.2.2.2.2.2.2.2.2.2.2.1), ↓ob (hQ.2.2.2.2.2.2.2.2.2.2.2.2.2.2.2.2.1), ↓ob (hQ.2.2.2.2.2.2.2.2.2.2.2.2.2.2.2.2.2.1), ↓ob (hQ.2.2.2.2.2.2.2.2.2.2.2.2.2.2.2.2.2.2.1), hQ.2.2.2.2.2.2.2.2.2.2.2.2.2.2.2.2.2.2.2.1, hQ.2.2.2.2.2.2.2.2.2.2.2.2.2.2.2.2.2.2.2.2.1, hQ.2.2.2.2.2.2.2.2.2.2.2.2.2.2.2.2.2.2.2.2.2.1, hQ.2.2.2.2.2.2.2.2.2.2.2.2.2.2.2.2.2.2.2.2.2.2.1, hQ.2.2.2.2.2.2.2.2.2.2.2.2.2.2.2.2.2.2.2.2.2.2.2, ↓lt_e, ↓gd_e, ↓Option.bind_some, ↓reduceIte, if_true, if_false, if_pT, if_nF, decide_true, Bool.not_true, Bool.not_false, not_true_eq_false, not_false_eq_true, Bool.false_eq_true, Bool.true_eq_false, eq_self, n3_lit, n3_le_f, n3_inb, n3_tn, hnb, hfi, n3_1mul, n3_add]
    · rw [bb_f hb] at hnb
      rw [if_neg hb]
      simp (disch := omega) only [bd_X6_feesOf_4, ↓ob (hQ.1), ↓ob (hQ.2.1), ↓ob (hQ.2.2.1), ↓ob (hQ.2.2.2.1), hQ.2.2.2.2.1, hQ.2.2.2.2.2.1, hQ.2.2.2.2.2.2.1, hQ.2.2.2.2.2.2.2.1, ↓ob (hQ.2.2.2.2.2.2.2.2.1), ↓ob (hQ.2.2.2.2.2.2.2.2.2.1), ↓ob (hQ.2.2.2.2.2.2.2.2.2.2.1), hQ.2.2.2.2.2.2.2.2.2.2.2.1, hQ.2.2.2.2.2.2.2.2.2.2.2.2.1, hQ.2.2.2.2.2.2.2.2.2.2.2.2.2.1, ↓ob (hQ.2.2.2.2.2.2.2.2.2.2.2.2.2.2.1), ↓ob (hQ.2.2.2.2.2.2.2.2.2.2.2.2.2.2.2.1), ↓ob (hQ.2.2.2.2.2.2.2.2.2.2.2.2.2.2.2.2.1), ↓ob (hQ.2.2.2.2.2.2.2.2.2.2.2.2.2.2.2.2.2.1), ↓ob (hQ.2.2.2.2.2.2.2.2.2.2.2.2.2.2.2.2.2.2.1), hQ.2.2.2.2.2.2.2.2.2.2.2.2.2.2.2.2.2.2.2.1, hQ.2.2.2.2.2.2.2.2.2.2.2.2.2.2.2.2.2.2.2.2.1, hQ.2.2.2.2.2.2.2.2.2.2.2.2.2.2.2.2.2.2.2.2.2.1, hQ.2.2.2.2.2.2.2.2.2.2.2.2.2.2.2.2.2.2.2.2.2.2.1, hQ.2.2.2.2.2.2.2.2.2.2.2.2.2.2.2.2.2.2.2.2.2.2.2, ↓lt_e, ↓gd_e, ↓Option.bind_some, ↓reduceIte, if_true, if_false, if_pT, if_nF, decide_true, Bool.not_true, Bool.not_false, not_true_eq_false, not_false_eq_true, Bool.false_eq_true, Bool.true_eq_false, eq_self, n3_lit, n3_le_f, n3_inb, n3_tn, hnb, n3_0mul, n3_add]
  · simp (disch := omega) only [bd_X6_feesOf_4, ↓lt_e, ↓gd_e, ↓Option.bind_some, ↓reduceIte, if_true, if_false, if_pT, if_nF, decide_true, Bool.not_true, Bool.not_false, not_true_eq_false, not_false_eq_true, Bool.false_eq_true, Bool.true_eq_false, eq_self, n3_lit, n3_add, n3_mul, n3_sub, n3_tn, n3_le_t, n3_le_f, n3_lt_t, n3_lt_f, n3_eq_f, n3_eq_t, n3_inb, n3_rem, n3_div, n3_zb, bb_0, bb_1, zb_bb, bb_T, bb_F, n3_dec, n3_m1, n3_eqm, n3_eqmt, n3_ltm, n3_mlt, n3_lem, n3_mle, n3_neg_lt, n3_nlt_neg, n3_nle_neg, n3_neg_le]
/-- those that may enter -/
def myb (F : Nat → Nat) (s : Nat) : Bool := decide (F (25 + 6 * s + 3) = 0) && decide (F (25 + 6 * s + 1) ≤ F 3)
def myA (F : Nat → Nat) : Nat := sb (myb F) (F 0)
theorem my_In (F : Nat → Nat) : InS F (myA F) := sb_lt _ _
/-- can be laid -/
def flD (F : Nat → Nat) (d : Nat) : Nat := dF (kR (tkn F (F 0))) (zR (tkn F (F 0))) (ln F) d
def bst (F : Nat → Nat) : Nat → Nat × Nat
  | 0 => (0, 0)
  | d + 1 => if (d &&& myA F = d ∧ flD F d ≠ 1048576) ∧ (bst F d).1 < fsm F d 8 then (fsm F d 8, d) else bst F d
theorem bst_s (F : Nat → Nat) (d : Nat) : bst F (d + 1) = if (d &&& myA F = d ∧ flD F d ≠ 1048576) ∧ (bst F d).1 < fsm F d 8 then (fsm F d 8, d) else bst F d := rfl
theorem fsm_0 (F : Nat → Nat) : ∀ n, fsm F 0 n = 0
  | 0 => rfl
  | n + 1 => by
    show fsm F 0 n + (if (0 : Nat).testBit n = true then feeF F n else 0) = 0
    rw [fsm_0 F n, if_neg (by simp)]
theorem bst_1 (F : Nat → Nat) : bst F 1 = (0, 0) := by
  rw [bst_s, if_neg]; rfl
  intro h
  have h2 := h.2
  rw [fsm_0] at h2
  exact absurd h2 (Nat.not_lt_zero _)
theorem bst_le {F : Nat → Nat} (hw : WF F) (hl : LawOk F) : ∀ n, n ≤ 256 → (bst F n).1 ≤ 4128 ∧ (bst F n).2 < 256 ∧ (bst F n).2 < 2 ^ F 0 ∧ fsm F (bst F n).2 8 = (bst F n).1
  | 0, _ => ⟨Nat.zero_le _, by show (0 : Nat) < 256; omega, Nat.two_pow_pos _, fsm_0 F 8⟩
  | n + 1, h => by
    have ih := bst_le hw hl n (by omega)
    rw [bst_s]
    by_cases hc : (n &&& myA F = n ∧ flD F n ≠ 1048576) ∧ (bst F n).1 < fsm F n 8
    · rw [if_pos hc]
      have hnF : n < 2 ^ F 0 := Nat.lt_of_le_of_lt (Sub.le hc.1.1) (my_In F)
      have := fsm_le hw hl hnF 8
      exact ⟨by show fsm F n 8 ≤ 4128; omega, by show n < 256; omega, hnF, rfl⟩
    · rw [if_neg hc]; exact ih
theorem c_fillDock {N : Nat} (hN : 1099511627776 ≤ N) {Λ : Lay} {ad : Nat → Nat} {σ : Nat} {μ : Mem} {F : Nat → Nat} (hS : LyS Λ ad σ) (hC : CS ad μ σ F)  {r : Nat} (hQ : LyQ Λ ad) (hL : LyL Λ ad r) (hj : Inj ad) (hw : WF F) (hl : LawOk F) (hd : σ + 8 < r) (hd2 : r + 5 < 166) (hc : CL ad μ r F) : ∃ μ', m_X6_fillDock N Λ μ (ad 175) (ad σ) (ad r) = some μ' ∧ μ'.1 (ad 175) 0 = n3 (bst F 256).1 ∧ μ'.1 (ad 175) 1 = n3 (bst F 256).2 ∧ Fr ad (fun i => i = 175 ∨ i = 177 ∨ i = 178 ∨ i = 179 ∨ i = r + 5) μ μ' := by
  have hb := hw.1; unfold WB at hb
  have tl := tkn_lt (F 0) hw.2.2.1
  have tk := c_taken hN hS hC hw.2.2.1 hb.1
  obtain ⟨μ1, e1, b1, b2, f1⟩ := c_findBins (μ := μ) hN hQ hj tl
  have hC1 := hC.fr f1 (fun i a b => by omega)
  have hc1 := hc.fr f1 (fun i a b => by omega)
  obtain ⟨μ2, e2, hfee, f2⟩ := c_findFees hN hS hC1 hQ hL hj hw hl hd hd2 hc1
  have hC2 := hC1.fr f2 (fun i a b => by omega)
  have hb1 : μ2.1 (ad 175) 3 = n3 (kR (tkn F (F 0))) := by rw [(f2 175 (by omega)).1]; exact b1
  have hb2 : ∀ j, j < kR (tkn F (F 0)) → μ2.1 (ad 177) j = n3 (zR (tkn F (F 0)) j) := fun j hj => by rw [(f2 177 (by omega)).1]; exact b2 j hj
  have hk := kR_le (tkn F (F 0))
  have hz := zR_lt (tkn F (F 0))
  have hm8 := (my_In F).lt hb.1
  simp (disch := omega) only [m_X6_fillDock, lp_X6_fillDock_19, tk, e1, e2, ↓lt_e, ↓gd_e, ↓Option.bind_some, ↓reduceIte, if_true, if_false, if_pT, if_nF, decide_true, Bool.not_true, Bool.not_false, not_true_eq_false, not_false_eq_true, Bool.false_eq_true, Bool.true_eq_false, eq_self]
  suffices hmain : ∃ μ', lp_X6_fillDock_89 N Λ (ad 175) (ad σ) (n3 (myA F)) (n3 1, mset (mset (mset μ2 (ad 175) 0 (n3 0)) (ad 175) 1 (n3 0)) (ad 179) 0 (n3 0)) = some μ' ∧ μ'.1 (ad 175) 0 = n3 (bst F 256).1 ∧ μ'.1 (ad 175) 1 = n3 (bst F 256).2 ∧ Fr ad (fun i => i = 175 ∨ i = 179) μ2 μ' by
    obtain ⟨μ3, e3, g1, g2, f3⟩ := hmain
    refine ⟨μ3, ?_, g1, g2, (f1.mono (fun i hi => by omega)).trans ((f2.mono (fun i hi => by omega)).trans (f3.mono (fun i hi => by omega)))⟩
    refine cw_it (fun i => (n3 (sb (myb F) i), n3 i, μ2)) (F 0) rfl (fun i hi k => ?_) (fun k => ?_) (by omega)
    · have q8 : μ2.1 (ad σ) 8 = n3 (F 0) := hC2.2.2.2.2.2.2.2.2.1
      have q0 : μ2.1 (ad σ) 0 = n3 (F 3) := hC2.1
      have q3 : μ2.1 (ad (σ + 5)) i = n3 (F (25 + 6 * i + 3)) := hC2.2.2.2.2.2.2.2.2.2.2.2.2.2.2.2.1 i hi
      have q1 : μ2.1 (ad (σ + 3)) i = n3 (F (25 + 6 * i + 1)) := hC2.2.2.2.2.2.2.2.2.2.2.2.2.2.1 i hi
      have hso := hw.2.2.1 i hi
      unfold ShOk at hso
      by_cases h3 : F (25 + 6 * i + 3) = 0
      · by_cases h1 : F (25 + 6 * i + 1) ≤ F 3
        · have e : myb F i = true := by simp [myb, h3, h1]
          simp (disch := omega) only [bd_X6_fillDock_19, jn_X6_fillDock_60, jn_X6_fillDock_61, ↓ob (hS.1), ↓ob (hS.2.1), ↓ob (hS.2.2.1), ↓ob (hS.2.2.2.1), ↓ob (hS.2.2.2.2.1), ↓ob (hS.2.2.2.2.2.1), ↓ob (hS.2.2.2.2.2.2.1), ↓ob (hS.2.2.2.2.2.2.2.1), hS.2.2.2.2.2.2.2.2.1, hS.2.2.2.2.2.2.2.2.2.1, hS.2.2.2.2.2.2.2.2.2.2.1, hS.2.2.2.2.2.2.2.2.2.2.2.1, hS.2.2.2.2.2.2.2.2.2.2.2.2.1, hS.2.2.2.2.2.2.2.2.2.2.2.2.2.1, hS.2.2.2.2.2.2.2.2.2.2.2.2.2.2, ↓ob (hQ.1), ↓ob (hQ.2.1), ↓ob (hQ.2.2.1), ↓ob (hQ.2.2.2.1), hQ.2.2.2.2.1, hQ.2.2.2.2.2.1, hQ.2.2.2.2.2.2.1, hQ.2.2.2.2.2.2.2.1, ↓ob (hQ.2.2.2.2.2.2.2.2.1), ↓ob (hQ.2.2.2.2.2.2.2.2.2.1), ↓ob (hQ.2.2.2.2.2.2.2.2.2.2.1), hQ.2.2.2.2.2.2.2.2.2.2.2.1, hQ.2.2.2.2.2.2.2.2.2.2.2.2.1, hQ.2.2.2.2.2.2.2.2.2.2.2.2.2.1, ↓ob (hQ.2.2.2.2.2.2.2.2.2.2.2.2.2.2.1), ↓ob (hQ.2.2.2.2.2.2.2.2.2.2.2.2.2.2.2.1), ↓ob (hQ.2.2.2.2.2.2.2.2.2.2.2.2.2.2.2.2.1), ↓ob (hQ.2.2.2.2.2.2.2.2.2.2.2.2.2.2.2.2.2.1), ↓ob (hQ.2.2.2.2.2.2.2.2.2.2.2.2.2.2.2.2.2.2.1), hQ.2.2.2.2.2.2.2.2.2.2.2.2.2.2.2.2.2.2.2.1, hQ.2.2.2.2.2.2.2.2.2.2.2.2.2.2.2.2.2.2.2.2.1, hQ.2.2.2.2.2.2.2.2.2.2.2.2.2.2.2.2.2.2.2.2.2.1, hQ.2.2.2.2.2.2.2.2.2.2.2.2.2.2.2.2.2.2.2.2.2.2.1, hQ.2.2.2.2.2.2.2.2.2.2.2.2.2.2.2.2.2.2.2.2.2.2.2, q8, q0, q3, q1, h3, sb_s, e, n3_shl, Nat.one_mul, n3_or, ↓lt_e, ↓gd_e, ↓Option.bind_some, ↓reduceIte, if_true, if_false, if_pT, if_nF, decide_true, Bool.not_true, Bool.not_false, not_true_eq_false, not_false_eq_true, Bool.false_eq_true, Bool.true_eq_false, eq_self, n3_lit, n3_add, n3_mul, n3_sub, n3_tn, n3_le_t, n3_le_f, n3_lt_t, n3_lt_f, n3_eq_f, n3_eq_t, n3_inb, n3_rem, n3_div, n3_zb, bb_0, bb_1, zb_bb, bb_T, bb_F, n3_dec, n3_m1, n3_eqm, n3_eqmt, n3_ltm, n3_mlt, n3_lem, n3_mle, n3_neg_lt, n3_nlt_neg, n3_nle_neg, n3_neg_le]
        · have e : myb F i = false := by simp [myb, h1]
          simp (disch := omega) only [bd_X6_fillDock_19, jn_X6_fillDock_60, jn_X6_fillDock_61, ↓ob (hS.1), ↓ob (hS.2.1), ↓ob (hS.2.2.1), ↓ob (hS.2.2.2.1), ↓ob (hS.2.2.2.2.1), ↓ob (hS.2.2.2.2.2.1), ↓ob (hS.2.2.2.2.2.2.1), ↓ob (hS.2.2.2.2.2.2.2.1), hS.2.2.2.2.2.2.2.2.1, hS.2.2.2.2.2.2.2.2.2.1, hS.2.2.2.2.2.2.2.2.2.2.1, hS.2.2.2.2.2.2.2.2.2.2.2.1, hS.2.2.2.2.2.2.2.2.2.2.2.2.1, hS.2.2.2.2.2.2.2.2.2.2.2.2.2.1, hS.2.2.2.2.2.2.2.2.2.2.2.2.2.2, ↓ob (hQ.1), ↓ob (hQ.2.1), ↓ob (hQ.2.2.1), ↓ob (hQ.2.2.2.1), hQ.2.2.2.2.1, hQ.2.2.2.2.2.1, hQ.2.2.2.2.2.2.1, hQ.2.2.2.2.2.2.2.1, ↓ob (hQ.2.2.2.2.2.2.2.2.1), ↓ob (hQ.2.2.2.2.2.2.2.2.2.1), ↓ob (hQ.2.2.2.2.2.2.2.2.2.2.1), hQ.2.2.2.2.2.2.2.2.2.2.2.1, hQ.2.2.2.2.2.2.2.2.2.2.2.2.1, hQ.2.2.2.2.2.2.2.2.2.2.2.2.2.1, ↓ob (hQ.2.2.2.2.2.2.2.2.2.2.2.2.2.2.1), ↓ob (hQ.2.2.2.2.2.2.2.2.2.2.2.2.2.2.2.1), ↓ob (hQ.2.2.2.2.2.2.2.2.2.2.2.2.2.2.2.2.1), ↓ob (hQ.2.2.2.2.2.2.2.2.2.2.2.2.2.2.2.2.2.1), ↓ob (hQ.2.2.2.2.2.2.2.2.2.2.2.2.2.2.2.2.2.2.1), hQ.2.2.2.2.2.2.2.2.2.2.2.2.2.2.2.2.2.2.2.1, hQ.2.2.2.2.2.2.2.2.2.2.2.2.2.2.2.2.2.2.2.2.1, hQ.2.2.2.2.2.2.2.2.2.2.2.2.2.2.2.2.2.2.2.2.2.1, hQ.2.2.2.2.2.2.2.2.2.2.2.2.2.2.2.2.2.2.2.2.2.2.1, hQ.2.2.2.2.2.2.2.2.2.2.2.2.2.2.2.2.2.2.2.2.2.2.2, q8, q0, q3, q1, h3, sb_s, e, n3_or, ↓lt_e, ↓gd_e, ↓Option.bind_some, ↓reduceIte, if_true, if_false, if_pT, if_nF, decide_true, Bool.not_true, Bool.not_false, not_true_eq_false, not_false_eq_true, Bool.false_eq_true, Bool.true_eq_false, eq_self, n3_lit, n3_add, n3_mul, n3_sub, n3_tn, n3_le_t, n3_le_f, n3_lt_t, n3_lt_f, n3_eq_f, n3_eq_t, n3_inb, n3_rem, n3_div, n3_zb, bb_0, bb_1, zb_bb, bb_T, bb_F, n3_dec, n3_m1, n3_eqm, n3_eqmt, n3_ltm, n3_mlt, n3_lem, n3_mle, n3_neg_lt, n3_nlt_neg, n3_nle_neg, n3_neg_le]
      · have e : myb F i = false := by simp [myb, h3]
        simp (disch := omega) only [bd_X6_fillDock_19, jn_X6_fillDock_60, jn_X6_fillDock_61, ↓ob (hS.1), ↓ob (hS.2.1), ↓ob (hS.2.2.1), ↓ob (hS.2.2.2.1), ↓ob (hS.2.2.2.2.1), ↓ob (hS.2.2.2.2.2.1), ↓ob (hS.2.2.2.2.2.2.1), ↓ob (hS.2.2.2.2.2.2.2.1), hS.2.2.2.2.2.2.2.2.1, hS.2.2.2.2.2.2.2.2.2.1, hS.2.2.2.2.2.2.2.2.2.2.1, hS.2.2.2.2.2.2.2.2.2.2.2.1, hS.2.2.2.2.2.2.2.2.2.2.2.2.1, hS.2.2.2.2.2.2.2.2.2.2.2.2.2.1, hS.2.2.2.2.2.2.2.2.2.2.2.2.2.2, ↓ob (hQ.1), ↓ob (hQ.2.1), ↓ob (hQ.2.2.1), ↓ob (hQ.2.2.2.1), hQ.2.2.2.2.1, hQ.2.2.2.2.2.1, hQ.2.2.2.2.2.2.1, hQ.2.2.2.2.2.2.2.1, ↓ob (hQ.2.2.2.2.2.2.2.2.1), ↓ob (hQ.2.2.2.2.2.2.2.2.2.1), ↓ob (hQ.2.2.2.2.2.2.2.2.2.2.1), hQ.2.2.2.2.2.2.2.2.2.2.2.1, hQ.2.2.2.2.2.2.2.2.2.2.2.2.1, hQ.2.2.2.2.2.2.2.2.2.2.2.2.2.1, ↓ob (hQ.2.2.2.2.2.2.2.2.2.2.2.2.2.2.1), ↓ob (hQ.2.2.2.2.2.2.2.2.2.2.2.2.2.2.2.1), ↓ob (hQ.2.2.2.2.2.2.2.2.2.2.2.2.2.2.2.2.1), ↓ob (hQ.2.2.2.2.2.2.2.2.2.2.2.2.2.2.2.2.2.1), ↓ob (hQ.2.2.2.2.2.2.2.2.2.2.2.2.2.2.2.2.2.2.1), hQ.2.2.2.2.2.2.2.2.2.2.2.2.2.2.2.2.2.2.2.1, hQ.2.2.2.2.2.2.2.2.2.2.2.2.2.2.2.2.2.2.2.2.1, hQ.2.2.2.2.2.2.2.2.2.2.2.2.2.2.2.2.2.2.2.2.2.1, hQ.2.2.2.2.2.2.2.2.2.2.2.2.2.2.2.2.2.2.2.2.2.2.1, hQ.2.2.2.2.2.2.2.2.2.2.2.2.2.2.2.2.2.2.2.2.2.2.2, q8, q3, sb_s, e, n3_or, ↓lt_e, ↓gd_e, ↓Option.bind_some, ↓reduceIte, if_true, if_false, if_pT, if_nF, decide_true, Bool.not_true, Bool.not_false, not_true_eq_false, not_false_eq_true, Bool.false_eq_true, Bool.true_eq_false, eq_self, n3_lit, n3_add, n3_mul, n3_sub, n3_tn, n3_le_t, n3_le_f, n3_lt_t, n3_lt_f, n3_eq_f, n3_eq_t, n3_inb, n3_rem, n3_div, n3_zb, bb_0, bb_1, zb_bb, bb_T, bb_F, n3_dec, n3_m1, n3_eqm, n3_eqmt, n3_ltm, n3_mlt, n3_lem, n3_mle, n3_neg_lt, n3_nlt_neg, n3_nle_neg, n3_neg_le]
    · have q8 : μ2.1 (ad σ) 8 = n3 (F 0) := hC2.2.2.2.2.2.2.2.2.1
      rw [← e3]
      show bd_X6_fillDock_19 N Λ μ2 k (ad 175) (ad σ) (n3 (myA F)) (n3 (F 0)) = _
      simp (disch := omega) only [bd_X6_fillDock_19, ↓ob (hS.1), ↓ob (hS.2.1), ↓ob (hS.2.2.1), ↓ob (hS.2.2.2.1), ↓ob (hS.2.2.2.2.1), ↓ob (hS.2.2.2.2.2.1), ↓ob (hS.2.2.2.2.2.2.1), ↓ob (hS.2.2.2.2.2.2.2.1), hS.2.2.2.2.2.2.2.2.1, hS.2.2.2.2.2.2.2.2.2.1, hS.2.2.2.2.2.2.2.2.2.2.1, hS.2.2.2.2.2.2.2.2.2.2.2.1, hS.2.2.2.2.2.2.2.2.2.2.2.2.1, hS.2.2.2.2.2.2.2.2.2.2.2.2.2.1, hS.2.2.2.2.2.2.2.2.2.2.2.2.2.2, ↓ob (hQ.1), ↓ob (hQ.2.1), ↓ob (hQ.2.2.1), ↓ob (hQ.2.2.2.1), hQ.2.2.2.2.1, hQ.2.2.2.2.2.1, hQ.2.2.2.2.2.2.1, hQ.2.2.2.2.2.2.2.1, ↓ob (hQ.2.2.2.2.2.2.2.2.1), ↓ob (hQ.2.2.2.2.2.2.2.2.2.1), ↓ob (hQ.2.2.2.2.2.2.2.2.2.2.1), hQ.2.2.2.2.2.2.2.2.2.2.2.1, hQ.2.2.2.2.2.2.2.2.2.2.2.2.1, hQ.2.2.2.2.2.2.2.2.2.2.2.2.2.1, ↓ob (hQ.2.2.2.2.2.2.2.2.2.2.2.2.2.2.1), ↓ob (hQ.2.2.2.2.2.2.2.2.2.2.2.2.2.2.2.1), ↓ob (hQ.2.2.2.2.2.2.2.2.2.2.2.2.2.2.2.2.1), ↓ob (hQ.2.2.2.2.2.2.2.2.2.2.2.2.2.2.2.2.2.1), ↓ob (hQ.2.2.2.2.2.2.2.2.2.2.2.2.2.2.2.2.2.2.1), hQ.2.2.2.2.2.2.2.2.2.2.2.2.2.2.2.2.2.2.2.1, hQ.2.2.2.2.2.2.2.2.2.2.2.2.2.2.2.2.2.2.2.2.1, hQ.2.2.2.2.2.2.2.2.2.2.2.2.2.2.2.2.2.2.2.2.2.1, hQ.2.2.2.2.2.2.2.2.2.2.2.2.2.2.2.2.2.2.2.2.2.2.1, hQ.2.2.2.2.2.2.2.2.2.2.2.2.2.2.2.2.2.2.2.2.2.2.2, q8, ↓lt_e, ↓gd_e, ↓Option.bind_some, ↓reduceIte, if_true, if_false, if_pT, if_nF, decide_true, Bool.not_true, Bool.not_false, not_true_eq_false, not_false_eq_true, Bool.false_eq_true, Bool.true_eq_false, eq_self, n3_lit, n3_add, n3_mul, n3_sub, n3_tn, n3_le_t, n3_le_f, n3_lt_t, n3_lt_f, n3_eq_f, n3_eq_t, n3_inb, n3_rem, n3_div, n3_zb, bb_0, bb_1, zb_bb, bb_T, bb_F, n3_dec, n3_m1, n3_eqm, n3_eqmt, n3_ltm, n3_mlt, n3_lem, n3_mle, n3_neg_lt, n3_nlt_neg, n3_nle_neg, n3_neg_le]
  unfold lp_X6_fillDock_89
  refine cw_iv (P := fun i x => ∃ μ3 : Mem, x = (n3 (i + 1), μ3) ∧ (∀ e, e < i + 1 → Sub e (myA F) → μ3.1 (ad 179) e = n3 (flD F e)) ∧ μ3.1 (ad 175) 0 = n3 (bst F (i + 1)).1 ∧ μ3.1 (ad 175) 1 = n3 (bst F (i + 1)).2 ∧ μ3.1 (ad 175) 3 = n3 (kR (tkn F (F 0))) ∧ Fr ad (fun i => i = 175 ∨ i = 179) μ2 μ3) (Q := fun X => ∃ μ', X = some μ' ∧ μ'.1 (ad 175) 0 = n3 (bst F 256).1 ∧ μ'.1 (ad 175) 1 = n3 (bst F 256).2 ∧ Fr ad (fun i => i = 175 ∨ i = 179) μ2 μ') 255 ⟨_, rfl, fun e h1 h2 => ?_, ?_, ?_, ?_, (((Fr.refl μ2).set hj (Or.inl rfl)).set hj (Or.inl rfl)).set hj (Or.inr rfl)⟩ (fun i hi x hx => ?_) (fun x hx => ?_) (show 255 < N by omega)
  · rw [show e = 0 by omega, mse]; unfold flD; rw [dF_0]
  · rw [bst_1, mso hj (by omega), msn (by omega), mse]
  · rw [bst_1, mso hj (by omega), mse]
  · rw [mso hj (by omega), msn (by omega), msn (by omega)]; exact hb1
  · obtain ⟨μ3, rfl, hT, g0, g1, g3, hf⟩ := hx
    left
    have hC3 := hC2.fr hf (fun i a b => by omega)
    have hb2' : ∀ j, j < kR (tkn F (F 0)) → μ3.1 (ad 177) j = n3 (zR (tkn F (F 0)) j) := fun j hj => by rw [(hf 177 (by omega)).1]; exact hb2 j hj
    have hfee3 : ∀ s, s < 8 → μ3.1 (ad 178) s = n3 (if s < F 0 then feeF F s else 0) := fun s hs => by rw [(hf 178 (by omega)).1]; exact hfee s hs
    have hbl := bst_le hw hl (i + 1) (by omega)
    by_cases hsub : Sub (i + 1) (myA F)
    · have hz0 : (n3 (i + 1) &&& (n3 (myA F) ^^^ -n3 1) = n3 0) = True := by rw [n3_sub0 (by omega)]; exact eq_true hsub
      have hdF : i + 1 < 2 ^ F 0 := Nat.lt_of_le_of_lt hsub.le (my_In F)
      have hlf := c_leastFilling hN hS hC3 hQ hw (d := i + 1) hk hz (by omega) (by omega) hdF g3 hb2' (fun e h1 h2 => hT e (by omega) (h2.trans hsub))
      have hfl : flD F (i + 1) ≤ 1048576 := dF_full (by omega)
      have hgen : dF (kR (tkn F (F 0))) (zR (tkn F (F 0))) (ln F) (i + 1) = flD F (i + 1) := rfl
      rw [hgen] at hlf
      generalize hM4 : mset μ3 (ad 179) (i + 1) (n3 (flD F (i + 1))) = μ4
      have f4 : Fr ad (fun i => i = 179) μ3 μ4 := by rw [← hM4]; exact (Fr.refl μ3).set hj (by rfl)
      have t4 : μ4.1 (ad 179) (i + 1) = n3 (flD F (i + 1)) := by rw [← hM4, mse]
      have hT4 : ∀ e, e < i + 1 + 1 → Sub e (myA F) → μ4.1 (ad 179) e = n3 (flD F e) := by
        intro e h1 h2
        by_cases ee : e = i + 1
        · rw [ee]; exact t4
        · rw [← hM4, msn ee]; exact hT e (by omega) h2
      have g0' : μ4.1 (ad 175) 0 = n3 (bst F (i + 1)).1 := by rw [(f4 175 (by omega)).1]; exact g0
      have g1' : μ4.1 (ad 175) 1 = n3 (bst F (i + 1)).2 := by rw [(f4 175 (by omega)).1]; exact g1
      have g3' : μ4.1 (ad 175) 3 = n3 (kR (tkn F (F 0))) := by rw [(f4 175 (by omega)).1]; exact g3
      have hf4 : Fr ad (fun i => i = 175 ∨ i = 179) μ2 μ4 := hf.trans (f4.mono (fun i hi => Or.inr hi))
      have hfe := c_feesOf (μ := μ4) hN hQ hw hl (d := i + 1) (by omega) hdF (fun s hs => by rw [(f4 178 (by omega)).1]; exact hfee3 s hs)
      have hfs := fsm_le hw hl hdF 8
      by_cases hfu : flD F (i + 1) = 1048576
      · have eb : bst F (i + 1 + 1) = bst F (i + 1) := by rw [bst_s, if_neg (fun h => h.1.2 hfu)]
        refine ⟨_, ⟨μ4, rfl, hT4, by rw [eb]; exact g0', by rw [eb]; exact g1', g3', hf4⟩, fun k => ?_⟩
        have q : (n3 (flD F (i + 1)) = n3 1048576) = True := by rw [hfu]; exact eq_true rfl
        simp (disch := omega) only [bd_X6_fillDock_89, jn_X6_fillDock_124, jn_X6_fillDock_166, ↓ob (hQ.1), ↓ob (hQ.2.1), ↓ob (hQ.2.2.1), ↓ob (hQ.2.2.2.1), hQ.2.2.2.2.1, hQ.2.2.2.2.2.1, hQ.2.2.2.2.2.2.1, hQ.2.2.2.2.2.2.2.1, ↓ob (hQ.2.2.2.2.2.2.2.2.1), ↓ob (hQ.2.2.2.2.2.2.2.2.2.1), ↓ob (hQ.2.2.2.2.2.2.2.2.2.2.1), hQ.2.2.2.2.2.2.2.2.2.2.2.1, hQ.2.2.2.2.2.2.2.2.2.2.2.2.1, hQ.2.2.2.2.2.2.2.2.2.2.2.2.2.1, ↓ob (hQ.2.2.2.2.2.2.2.2.2.2.2.2.2.2.1), ↓ob (hQ.2.2.2.2.2.2.2.2.2.2.2.2.2.2.2.1), ↓ob (hQ.2.2.2.2.2.2.2.2.2.2.2.2.2.2.2.2.1), ↓ob (hQ.2.2.2.2.2.2.2.2.2.2.2.2.2.2.2.2.2.1), ↓ob (hQ.2.2.2.2.2.2.2.2.2.2.2.2.2.2.2.2.2.2.1), hQ.2.2.2.2.2.2.2.2.2.2.2.2.2.2.2.2.2.2.2.1, hQ.2.2.2.2.2.2.2.2.2.2.2.2.2.2.2.2.2.2.2.2.1, hQ.2.2.2.2.2.2.2.2.2.2.2.2.2.2.2.2.2.2.2.2.2.1, hQ.2.2.2.2.2.2.2.2.2.2.2.2.2.2.2.2.2.2.2.2.2.2.1, hQ.2.2.2.2.2.2.2.2.2.2.2.2.2.2.2.2.2.2.2.2.2.2.2, hz0, hlf, hM4, t4, q, ↓lt_e, ↓gd_e, ↓Option.bind_some, ↓reduceIte, if_true, if_false, if_pT, if_nF, decide_true, Bool.not_true, Bool.not_false, not_true_eq_false, not_false_eq_true, Bool.false_eq_true, Bool.true_eq_false, eq_self, n3_lit, n3_le_f, n3_inb, n3_tn, n3_add]
      · have q : (n3 (flD F (i + 1)) = n3 1048576) = False := n3_eq_f hfu (by omega) (by omega)
        by_cases hgt : (bst F (i + 1)).1 < fsm F (i + 1) 8
        · have eb : bst F (i + 1 + 1) = (fsm F (i + 1) 8, i + 1) := by rw [bst_s, if_pos ⟨⟨hsub, hfu⟩, hgt⟩]
          refine ⟨_, ⟨mset (mset μ4 (ad 175) 0 (n3 (fsm F (i + 1) 8))) (ad 175) 1 (n3 (i + 1)), rfl, fun e h1 h2 => ?_, ?_, ?_, ?_, (hf4.set hj (Or.inl rfl)).set hj (Or.inl rfl)⟩, fun k => ?_⟩
          · rw [mso hj (by omega), mso hj (by omega)]; exact hT4 e h1 h2
          · rw [eb, msn (by omega), mse]
          · rw [eb, mse]
          · rw [msn (by omega), msn (by omega)]; exact g3'
          · simp (disch := omega) only [bd_X6_fillDock_89, jn_X6_fillDock_124, jn_X6_fillDock_166, ↓ob (hQ.1), ↓ob (hQ.2.1), ↓ob (hQ.2.2.1), ↓ob (hQ.2.2.2.1), hQ.2.2.2.2.1, hQ.2.2.2.2.2.1, hQ.2.2.2.2.2.2.1, hQ.2.2.2.2.2.2.2.1, ↓ob (hQ.2.2.2.2.2.2.2.2.1), ↓ob (hQ.2.2.2.2.2.2.2.2.2.1), ↓ob (hQ.2.2.2.2.2.2.2.2.2.2.1), hQ.2.2.2.2.2.2.2.2.2.2.2.1, hQ.2.2.2.2.2.2.2.2.2.2.2.2.1, hQ.2.2.2.2.2.2.2.2.2.2.2.2.2.1, ↓ob (hQ.2.2.2.2.2.2.2.2.2.2.2.2.2.2.1), ↓ob (hQ.2.2.2.2.2.2.2.2.2.2.2.2.2.2.2.1), ↓ob (hQ.2.2.2.2.2.2.2.2.2.2.2.2.2.2.2.2.1), ↓ob (hQ.2.2.2.2.2.2.2.2.2.2.2.2.2.2.2.2.2.1), ↓ob (hQ.2.2.2.2.2.2.2.2.2.2.2.2.2.2.2.2.2.2.1), hQ.2.2.2.2.2.2.2.2.2.2.2.2.2.2.2.2.2.2.2.1, hQ.2.2.2.2.2.2.2.2.2.2.2.2.2.2.2.2.2.2.2.2.1, hQ.2.2.2.2.2.2.2.2.2.2.2.2.2.2.2.2.2.2.2.2.2.1, hQ.2.2.2.2.2.2.2.2.2.2.2.2.2.2.2.2.2.2.2.2.2.2.1, hQ.2.2.2.2.2.2.2.2.2.2.2.2.2.2.2.2.2.2.2.2.2.2.2, hz0, hlf, hM4, t4, q, hfe, g0', ↓lt_e, ↓gd_e, ↓Option.bind_some, ↓reduceIte, if_true, if_false, if_pT, if_nF, decide_true, Bool.not_true, Bool.not_false, not_true_eq_false, not_false_eq_true, Bool.false_eq_true, Bool.true_eq_false, eq_self, n3_lit, n3_le_f, n3_inb, n3_tn, n3_add]
        · have eb : bst F (i + 1 + 1) = bst F (i + 1) := by rw [bst_s, if_neg (fun h => hgt h.2)]
          refine ⟨_, ⟨μ4, rfl, hT4, by rw [eb]; exact g0', by rw [eb]; exact g1', g3', hf4⟩, fun k => ?_⟩
          simp (disch := omega) only [bd_X6_fillDock_89, jn_X6_fillDock_124, jn_X6_fillDock_166, ↓ob (hQ.1), ↓ob (hQ.2.1), ↓ob (hQ.2.2.1), ↓ob (hQ.2.2.2.1), hQ.2.2.2.2.1, hQ.2.2.2.2.2.1, hQ.2.2.2.2.2.2.1, hQ.2.2.2.2.2.2.2.1, ↓ob (hQ.2.2.2.2.2.2.2.2.1), ↓ob (hQ.2.2.2.2.2.2.2.2.2.1), ↓ob (hQ.2.2.2.2.2.2.2.2.2.2.1), hQ.2.2.2.2.2.2.2.2.2.2.2.1, hQ.2.2.2.2.2.2.2.2.2.2.2.2.1, hQ.2.2.2.2.2.2.2.2.2.2.2.2.2.1, ↓ob (hQ.2.2.2.2.2.2.2.2.2.2.2.2.2.2.1), ↓ob (hQ.2.2.2.2.2.2.2.2.2.2.2.2.2.2.2.1), ↓ob (hQ.2.2.2.2.2.2.2.2.2.2.2.2.2.2.2.2.1), ↓ob (hQ.2.2.2.2.2.2.2.2.2.2.2.2.2.2.2.2.2.1), ↓ob (hQ.2.2.2.2.2.2.2.2.2.2.2.2.2.2.2.2.2.2.1), hQ.2.2.2.2.2.2.2.2.2.2.2.2.2.2.2.2.2.2.2.1, hQ.2.2.2.2.2.2.2.2.2.2.2.2.2.2.2.2.2.2.2.2.1, hQ.2.2.2.2.2.2.2.2.2.2.2.2.2.2.2.2.2.2.2.2.2.1, hQ.2.2.2.2.2.2.2.2.2.2.2.2.2.2.2.2.2.2.2.2.2.2.1, hQ.2.2.2.2.2.2.2.2.2.2.2.2.2.2.2.2.2.2.2.2.2.2.2, hz0, hlf, hM4, t4, q, hfe, g0', ↓lt_e, ↓gd_e, ↓Option.bind_some, ↓reduceIte, if_true, if_false, if_pT, if_nF, decide_true, Bool.not_true, Bool.not_false, not_true_eq_false, not_false_eq_true, Bool.false_eq_true, Bool.true_eq_false, eq_self, n3_lit, n3_le_f, n3_le_t, n3_inb, n3_tn, n3_add]
    · have hz0 : (n3 (i + 1) &&& (n3 (myA F) ^^^ -n3 1) = n3 0) = False := by rw [n3_sub0 (by omega)]; exact eq_false hsub
      have eb : bst F (i + 1 + 1) = bst F (i + 1) := by rw [bst_s, if_neg (fun h => hsub h.1.1)]
      refine ⟨_, ⟨mset μ3 (ad 179) (i + 1) (n3 1048576), rfl, fun e h1 h2 => ?_, ?_, ?_, ?_, hf.set hj (Or.inr rfl)⟩, fun k => ?_⟩
      · by_cases ee : e = i + 1
        · rw [ee] at h2; exact absurd h2 hsub
        · rw [msn ee]; exact hT e (by omega) h2
      · rw [eb, mso hj (by omega)]; exact g0
      · rw [eb, mso hj (by omega)]; exact g1
      · rw [mso hj (by omega)]; exact g3
      · simp (disch := omega) only [bd_X6_fillDock_89, jn_X6_fillDock_124, jn_X6_fillDock_166, ↓ob (hQ.1), ↓ob (hQ.2.1), ↓ob (hQ.2.2.1), ↓ob (hQ.2.2.2.1), hQ.2.2.2.2.1, hQ.2.2.2.2.2.1, hQ.2.2.2.2.2.2.1, hQ.2.2.2.2.2.2.2.1, ↓ob (hQ.2.2.2.2.2.2.2.2.1), ↓ob (hQ.2.2.2.2.2.2.2.2.2.1), ↓ob (hQ.2.2.2.2.2.2.2.2.2.2.1), hQ.2.2.2.2.2.2.2.2.2.2.2.1, hQ.2.2.2.2.2.2.2.2.2.2.2.2.1, hQ.2.2.2.2.2.2.2.2.2.2.2.2.2.1, ↓ob (hQ.2.2.2.2.2.2.2.2.2.2.2.2.2.2.1), ↓ob (hQ.2.2.2.2.2.2.2.2.2.2.2.2.2.2.2.1), ↓ob (hQ.2.2.2.2.2.2.2.2.2.2.2.2.2.2.2.2.1), ↓ob (hQ.2.2.2.2.2.2.2.2.2.2.2.2.2.2.2.2.2.1), ↓ob (hQ.2.2.2.2.2.2.2.2.2.2.2.2.2.2.2.2.2.2.1), hQ.2.2.2.2.2.2.2.2.2.2.2.2.2.2.2.2.2.2.2.1, hQ.2.2.2.2.2.2.2.2.2.2.2.2.2.2.2.2.2.2.2.2.1, hQ.2.2.2.2.2.2.2.2.2.2.2.2.2.2.2.2.2.2.2.2.2.1, hQ.2.2.2.2.2.2.2.2.2.2.2.2.2.2.2.2.2.2.2.2.2.2.1, hQ.2.2.2.2.2.2.2.2.2.2.2.2.2.2.2.2.2.2.2.2.2.2.2, hz0, mse, ↓lt_e, ↓gd_e, ↓Option.bind_some, ↓reduceIte, if_true, if_false, if_pT, if_nF, decide_true, Bool.not_true, Bool.not_false, not_true_eq_false, not_false_eq_true, Bool.false_eq_true, Bool.true_eq_false, eq_self, n3_lit, n3_le_f, n3_inb, n3_tn, n3_add]
  · obtain ⟨μ3, rfl, hT, g0, g1, g3, hf⟩ := hx
    exact ⟨_, ⟨μ3, rfl, g0, g1, hf⟩, fun k => by simp (disch := omega) only [bd_X6_fillDock_89, ↓lt_e, ↓gd_e, ↓Option.bind_some, ↓reduceIte, if_true, if_false, if_pT, if_nF, decide_true, Bool.not_true, Bool.not_false, not_true_eq_false, not_false_eq_true, Bool.false_eq_true, Bool.true_eq_false, eq_self, n3_lit, n3_add, n3_mul, n3_sub, n3_tn, n3_le_t, n3_le_f, n3_lt_t, n3_lt_f, n3_eq_f, n3_eq_t, n3_inb, n3_rem, n3_div, n3_zb, bb_0, bb_1, zb_bb, bb_T, bb_F, n3_dec, n3_m1, n3_eqm, n3_eqmt, n3_ltm, n3_mlt, n3_lem, n3_mle, n3_neg_lt, n3_nlt_neg, n3_nle_neg, n3_neg_le]⟩
theorem C_load {N : Nat} (hN : 1099511627776 ≤ N) {Λ : Lay} {ad : Nat → Nat} {μ : Mem} {F : Nat → Nat} {m : Nat} {A : Nat → Nat → Nat} {b : Nat} {J : Nat → Nat} {T : Nat → Int32} {n : Nat} {f : Int32} (hY : Ly Λ ad) (h : RC ad μ F m A b J T n f) (ho : Ok F m A b J T n)  : CV ad μ (m_X11_load N Λ μ (ad 0)) (n3 (bst F 256).1) F m A b J T n f := by
  have hj := hY.1
  have hP := hY.2.2.1
  have hS := hY.2.2.2.1 3 (Or.inl rfl)
  have hL := hY.2.2.2.2.1 30 (Or.inl rfl)
  have hC := h.1
  have hw := ho.1
  have hl := ho.2.1
  have hb := hw.1; unfold WB at hb
  obtain ⟨μ1, e1, h1, h2, f1⟩ := c_fillDock hN hS hC hY.2.2.2.2.2.2.2.1 hL hj hw hl (by omega) (by omega) h.2.1
  exact CV.scr h (f1.mono (fun i hi => by unfold ScC; omega)) (by simp (disch := omega) only [m_X11_load, ↓ob (hP.1), ↓ob (hP.2.1), ↓ob (hP.2.2.1), ↓ob (hP.2.2.2.1), ↓ob (hP.2.2.2.2.1), ↓ob (hP.2.2.2.2.2.1), ↓ob (hP.2.2.2.2.2.2.1), ↓ob (hP.2.2.2.2.2.2.2.1), ↓ob (hP.2.2.2.2.2.2.2.2.1), ↓ob (hP.2.2.2.2.2.2.2.2.2.1), ↓ob (hP.2.2.2.2.2.2.2.2.2.2.1), ↓ob (hP.2.2.2.2.2.2.2.2.2.2.2.1), ↓ob (hP.2.2.2.2.2.2.2.2.2.2.2.2.1), ↓ob (hP.2.2.2.2.2.2.2.2.2.2.2.2.2.1), hP.2.2.2.2.2.2.2.2.2.2.2.2.2.2, e1, h1, ↓lt_e, ↓gd_e, ↓Option.bind_some, ↓reduceIte, if_true, if_false, if_pT, if_nF, decide_true, Bool.not_true, Bool.not_false, not_true_eq_false, not_false_eq_true, Bool.false_eq_true, Bool.true_eq_false, eq_self])
theorem C_which {N : Nat} (hN : 1099511627776 ≤ N) {Λ : Lay} {ad : Nat → Nat} {μ : Mem} {F : Nat → Nat} {m : Nat} {A : Nat → Nat → Nat} {b : Nat} {J : Nat → Nat} {T : Nat → Int32} {n : Nat} {f : Int32} (hY : Ly Λ ad) (h : RC ad μ F m A b J T n f) (ho : Ok F m A b J T n)  : CV ad μ (m_X11_which N Λ μ (ad 0)) (n3 (bst F 256).2) F m A b J T n f := by
  have hj := hY.1
  have hP := hY.2.2.1
  have hS := hY.2.2.2.1 3 (Or.inl rfl)
  have hL := hY.2.2.2.2.1 30 (Or.inl rfl)
  have hC := h.1
  have hw := ho.1
  have hl := ho.2.1
  have hb := hw.1; unfold WB at hb
  obtain ⟨μ1, e1, h1, h2, f1⟩ := c_fillDock hN hS hC hY.2.2.2.2.2.2.2.1 hL hj hw hl (by omega) (by omega) h.2.1
  exact CV.scr h (f1.mono (fun i hi => by unfold ScC; omega)) (by simp (disch := omega) only [m_X11_which, ↓ob (hP.1), ↓ob (hP.2.1), ↓ob (hP.2.2.1), ↓ob (hP.2.2.2.1), ↓ob (hP.2.2.2.2.1), ↓ob (hP.2.2.2.2.2.1), ↓ob (hP.2.2.2.2.2.2.1), ↓ob (hP.2.2.2.2.2.2.2.1), ↓ob (hP.2.2.2.2.2.2.2.2.1), ↓ob (hP.2.2.2.2.2.2.2.2.2.1), ↓ob (hP.2.2.2.2.2.2.2.2.2.2.1), ↓ob (hP.2.2.2.2.2.2.2.2.2.2.2.1), ↓ob (hP.2.2.2.2.2.2.2.2.2.2.2.2.1), ↓ob (hP.2.2.2.2.2.2.2.2.2.2.2.2.2.1), hP.2.2.2.2.2.2.2.2.2.2.2.2.2.2, e1, h2, ↓lt_e, ↓gd_e, ↓Option.bind_some, ↓reduceIte, if_true, if_false, if_pT, if_nF, decide_true, Bool.not_true, Bool.not_false, not_true_eq_false, not_false_eq_true, Bool.false_eq_true, Bool.true_eq_false, eq_self])

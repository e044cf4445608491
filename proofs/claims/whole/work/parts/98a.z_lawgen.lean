/-! the law's calls: forms -/
def Rel (ad : Nat → Nat) (μ : Mem) : Prop := ∃ (F : Nat → Nat) (m : Nat) (A : Nat → Nat → Nat) (b : Nat) (J : Nat → Nat) (T : Nat → Int32) (n : Nat) (f : Int32), RC ad μ F m A b J T n f ∧ RR ad μ F m A b J T n f ∧ Ok F m A b J T n
theorem lgc (x : Int64) : lg_cmp x x = 0 := by
  unfold lg_cmp
  rw [if_neg (by exact Int64.lt_irrefl), if_pos rfl]
theorem law_T {N : Nat} {Λ : Lay} {ad : Nat → Nat} {μ : Mem} {F : Nat → Nat} {m : Nat} {A : Nat → Nat → Nat} {b : Nat} {J : Nat → Nat} {T : Nat → Int32} {n : Nat} {f : Int32} {F' : Nat → Nat} {m' : Nat} {A' : Nat → Nat → Nat} {b' : Nat} {J' : Nat → Nat} {T' : Nat → Int32} {n' : Nat} {f' : Int32} (hY : Ly Λ ad) (h' : RR ad μ F m A b J T n f) (ok' : Ok F' m' A' b' J' T' n') {c t : Nat} {v : Int32} {rc : Option RX_} {fr : Mem → Option (Int32 × Mem)} {wl : Option (Int32 × Mem)} (hc : CT ad μ rc c v F' m' A' b' J' T' n' f') (hw : ∀ μ', rc = some (c, v, μ') → wl = some (n3 t, if t = 0 then msetL μ' (ad 200) 0 (Int32.toInt64 v) else μ')) (ht : t ≤ 2) (hr : ∀ μ', RR ad μ' F m A b J T n f → μ'.1 (ad 182) = μ.1 (ad 182) → RV ad μ' (fr μ') t v F' m' A' b' J' T' n' f') : ∃ μ2, Rel ad μ2 ∧ ∀ K : Mem → Option Int32, (wl.bind fun r28 => (fr r28.2).bind fun r30 => (m_X12_thrown N Λ r30.2 (ad 181)).bind fun r32 => if r32 = r28.1 then (if r28.1 = 0 then (gd (inb 0 (aZ Λ (ad 200))) <| if (lg_cmp (r30.2.2 (ad 200) (0 : Int32).toNatClampNeg) (Int32.toInt64 r30.1)) = 0 then K r30.2 else (some 0)) else K r30.2) else (some 0)) = K μ2 := by
  have hj := hY.1
  have a200 : aZ Λ (ad 200) = 1 := hY.2.2.2.2.2.2.2.2.2.2.2.1
  obtain ⟨μ1, e1, h1, f1⟩ := hc
  have e2 := hw μ1 e1
  have f2 : Fr ad (fun i => i < 181 ∨ i = 200) μ (if t = 0 then msetL μ1 (ad 200) 0 (Int32.toInt64 v) else μ1) := by
    split
    · exact (f1.mono (fun i hi => Or.inl hi)).setL hj (Or.inr rfl)
    · exact f1.mono (fun i hi => Or.inl hi)
  have hC : RC ad (if t = 0 then msetL μ1 (ad 200) 0 (Int32.toInt64 v) else μ1) F' m' A' b' J' T' n' f' := by
    split
    · exact h1.fr (((Fr.refl μ1).setL hj (i := 200) (I := fun i => i = 200) rfl).mono (fun i hi => by unfold ScC; omega))
    · exact h1
  have hl : t = 0 → (if t = 0 then msetL μ1 (ad 200) 0 (Int32.toInt64 v) else μ1).2 (ad 200) 0 = Int32.toInt64 v := fun h0 => by rw [if_pos h0, mLe]
  generalize (if t = 0 then msetL μ1 (ad 200) 0 (Int32.toInt64 v) else μ1) = μ3 at e2 f2 hC hl
  obtain ⟨μ4, e4, t4, h4, f4⟩ := hr μ3 (h'.frC f2) (f2 182 (by omega)).1
  refine ⟨μ4, ⟨F', m', A', b', J', T', n', f', hC.frR (f4.mono (fun i hi => hi.1)), h4, ok'⟩, fun K => ?_⟩
  rw [e2, Option.bind_some, e4, Option.bind_some]
  show (if μ4.1 (ad 181) 0 = n3 t then _ else _) = _
  rw [if_pos t4]
  by_cases h0 : t = 0
  · have e5 : μ4.2 (ad 200) 0 = Int32.toInt64 v := by rw [(f4 200 (by omega)).2]; exact hl h0
    subst h0
    rw [if_pos (show (n3 0 : Int32) = 0 from rfl), a200]
    show (if lg_cmp (μ4.2 (ad 200) 0) (Int32.toInt64 v) = 0 then _ else _) = _
    rw [e5, if_pos (lgc _)]
  · rw [if_neg (show ¬ (n3 t = 0) by rw [n3_lit 0, n3_eq_f (a := t) (b := 0) h0 (by omega) (by omega)]; exact id)]
theorem law_V {ad : Nat → Nat} {μ : Mem} {F : Nat → Nat} {m : Nat} {A : Nat → Nat → Nat} {b : Nat} {J : Nat → Nat} {T : Nat → Int32} {n : Nat} {f : Int32} {F' : Nat → Nat} {m' : Nat} {A' : Nat → Nat → Nat} {b' : Nat} {J' : Nat → Nat} {T' : Nat → Int32} {n' : Nat} {f' : Int32} (h' : RR ad μ F m A b J T n f) (ok' : Ok F' m' A' b' J' T' n') {v : Int32} {rc : Option (Int32 × Mem)} {fr : Mem → Option (Int32 × Mem)} (hc : CV ad μ rc v F' m' A' b' J' T' n' f') (hr : ∀ μ', RR ad μ' F m A b J T n f → RV ad μ' (fr μ') 0 v F' m' A' b' J' T' n' f') : ∃ μ2, Rel ad μ2 ∧ ∀ K : Mem → Option Int32, (rc.bind fun r9 => (fr r9.2).bind fun r16 => if r9.1 = r16.1 then K r16.2 else some 0) = K μ2 := by
  obtain ⟨μ1, e1, h1, f1⟩ := hc
  obtain ⟨μ4, e4, t4, h4, f4⟩ := hr μ1 (h'.frC (f1.mono (fun i hi => Or.inl hi)))
  refine ⟨μ4, ⟨F', m', A', b', J', T', n', f', h1.frR (f4.mono (fun i hi => hi.1)), h4, ok'⟩, fun K => ?_⟩
  rw [e1, Option.bind_some, e4, Option.bind_some]
  exact if_pos rfl
theorem law_P {ad : Nat → Nat} {μ : Mem} {F : Nat → Nat} {m : Nat} {A : Nat → Nat → Nat} {b : Nat} {J : Nat → Nat} {T : Nat → Int32} {n : Nat} {f : Int32} (h : RC ad μ F m A b J T n f) (ok : Ok F m A b J T n) {v : Int32} {rc : Option Int32} {fr : Option (Int32 × Mem)} (hc : rc = some v) (hr : RV ad μ fr 0 v F m A b J T n f) : ∃ μ2, Rel ad μ2 ∧ ∀ K : Mem → Option Int32, (rc.bind fun r9 => fr.bind fun r16 => if r9 = r16.1 then K r16.2 else some 0) = K μ2 := by
  obtain ⟨μ4, e4, t4, h4, f4⟩ := hr
  refine ⟨μ4, ⟨F, m, A, b, J, T, n, f, h.frR (f4.mono (fun i hi => hi.1)), h4, ok⟩, fun K => ?_⟩
  rw [hc, Option.bind_some, e4, Option.bind_some]
  exact if_pos rfl
/-- answers that are true or not -/
theorem law_B {N : Nat} {Λ : Lay} {ad : Nat → Nat} {μ : Mem} {F : Nat → Nat} {m : Nat} {A : Nat → Nat → Nat} {b : Nat} {J : Nat → Nat} {T : Nat → Int32} {n : Nat} {f : Int32} {F' : Nat → Nat} {m' : Nat} {A' : Nat → Nat → Nat} {b' : Nat} {J' : Nat → Nat} {T' : Nat → Int32} {n' : Nat} {f' : Int32} (hY : Ly Λ ad) (h' : RR ad μ F m A b J T n f) (ok' : Ok F' m' A' b' J' T' n') {c t z : Nat} (hz : z ≤ 1) {rc : Option RX_} {fr : Mem → Option (Int32 × Mem)} {wl : Option (Int32 × Mem)} (hc : CT ad μ rc c (n3 z) F' m' A' b' J' T' n' f') (hw : ∀ μ', rc = some (c, n3 z, μ') → wl = some (n3 t, if t = 0 then msetL μ' (ad 200) 0 (n6 z) else μ')) (ht : t ≤ 2) (hr : ∀ μ', RR ad μ' F m A b J T n f → RV ad μ' (fr μ') t (n3 z) F' m' A' b' J' T' n' f') : ∃ μ2, Rel ad μ2 ∧ ∀ K : Mem → Option Int32, (wl.bind fun r28 => (fr r28.2).bind fun r30 => (m_X12_thrown N Λ r30.2 (ad 181)).bind fun r32 => if r32 = r28.1 then (if r28.1 = 0 then (gd (inb 0 (aZ Λ (ad 200))) <| if r30.1 = 0 then (if (lg_cmp (r30.2.2 (ad 200) (0 : Int32).toNatClampNeg) 0) = 0 then K r30.2 else (some 0)) else (if (lg_cmp (r30.2.2 (ad 200) (0 : Int32).toNatClampNeg) 1) = 0 then K r30.2 else (some 0))) else K r30.2) else (some 0)) = K μ2 := by
  have hj := hY.1
  have a200 : aZ Λ (ad 200) = 1 := hY.2.2.2.2.2.2.2.2.2.2.2.1
  obtain ⟨μ1, e1, h1, f1⟩ := hc
  have e2 := hw μ1 e1
  have f2 : Fr ad (fun i => i < 181 ∨ i = 200) μ (if t = 0 then msetL μ1 (ad 200) 0 (n6 z) else μ1) := by
    split
    · exact (f1.mono (fun i hi => Or.inl hi)).setL hj (Or.inr rfl)
    · exact f1.mono (fun i hi => Or.inl hi)
  have hC : RC ad (if t = 0 then msetL μ1 (ad 200) 0 (n6 z) else μ1) F' m' A' b' J' T' n' f' := by
    split
    · exact h1.fr (((Fr.refl μ1).setL hj (i := 200) (I := fun i => i = 200) rfl).mono (fun i hi => by unfold ScC; omega))
    · exact h1
  have hl : t = 0 → (if t = 0 then msetL μ1 (ad 200) 0 (n6 z) else μ1).2 (ad 200) 0 = n6 z := fun h0 => by rw [if_pos h0, mLe]
  generalize (if t = 0 then msetL μ1 (ad 200) 0 (n6 z) else μ1) = μ3 at e2 f2 hC hl
  obtain ⟨μ4, e4, t4, h4, f4⟩ := hr μ3 (h'.frC f2)
  refine ⟨μ4, ⟨F', m', A', b', J', T', n', f', hC.frR (f4.mono (fun i hi => hi.1)), h4, ok'⟩, fun K => ?_⟩
  rw [e2, Option.bind_some, e4, Option.bind_some]
  show (if μ4.1 (ad 181) 0 = n3 t then _ else _) = _
  rw [if_pos t4]
  by_cases h0 : t = 0
  · have e5 : μ4.2 (ad 200) 0 = n6 z := by rw [(f4 200 (by omega)).2]; exact hl h0
    subst h0
    rw [if_pos (show (n3 0 : Int32) = 0 from rfl), a200]
    show (if n3 z = 0 then (if lg_cmp (μ4.2 (ad 200) 0) 0 = 0 then _ else _) else (if lg_cmp (μ4.2 (ad 200) 0) 1 = 0 then _ else _)) = _
    rw [e5]
    match z, hz with
    | 0, _ => rfl
    | 1, _ => rfl
  · rw [if_neg (show ¬ (n3 t = 0) by rw [n3_lit 0, n3_eq_f (a := t) (b := 0) h0 (by omega) (by omega)]; exact id)]

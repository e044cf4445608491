/-! the memory of the two systems: static layout and mutable store -/
abbrev Mem : Type := (Nat → Nat → Int32) × (Nat → Nat → Int64)
abbrev Lay : Type := List Nat × (Nat → Nat) × (Nat → Nat → Option Nat) × (Nat → Nat) × (Nat → ClassId) × va_G × (Nat → Nat)
/-- the addresses -/
def aL (Λ : Lay) : List Nat := Λ.1
/-- the kind of each -/
def aK (Λ : Lay) : Nat → Nat := Λ.2.1
/-- references: address and place -/
def aR (Λ : Lay) : Nat → Nat → Option Nat := Λ.2.2.1
/-- how long an array is -/
def aZ (Λ : Lay) : Nat → Nat := Λ.2.2.2.1
/-- the array classes -/
def aC (Λ : Lay) : Nat → ClassId := Λ.2.2.2.2.1
def aD (Λ : Lay) : va_G := Λ.2.2.2.2.2.1
/-- where the static arrays lie -/
def aS (Λ : Lay) : Nat → Nat := Λ.2.2.2.2.2.2
def fty (k : Nat) : List Bool := match k with
  | 0 => [true, true, true, false, false, false, false]
  | 1 => [false, true, true, true, false, false, false, false]
  | 2 => [true, true, false, false, false, false, false]
  | 3 => [false, true, true, true, false, false, false, false]
  | 4 => [true, true, false]
  | 5 => [true, true, false]
  | 6 => [true, true, false, true, false, false, false, false]
  | 7 => [true, true, true, true, false, false, false]
  | 8 => [true, true, true, true, true, true, true, true, true, true, true, true, false, false, false, false, false, false, false]
  | 9 => [false, true]
  | 10 => [false, false, false, false, false, false, false, false, false, false, false, false, false, true, true]
  | 11 => [true, false, false, false, false, false, true, true, false, true, true, true, true, true, true, false, true, false, false, false, false, false, false, false, false, false, false, false]
  | _ => []
def fls (Λ : Lay) (μ : Mem) (a : Nat) : List Bool → Nat → List Value
  | [], _ => []
  | true :: t, k => .int (μ.1 a k) :: fls Λ μ a t (k + 1)
  | false :: t, k => va_rf (aR Λ a k) :: fls Λ μ a t (k + 1)
def ent (Λ : Lay) (μ : Mem) (a : Nat) : va_E := match aK Λ a with
  | 12 => .inl (aC Λ 0, aZ Λ a, .inl (μ.1 a))
  | 13 => .inl (aC Λ 1, aZ Λ a, .inl (μ.1 a))
  | 14 => .inl (aC Λ 2, aZ Λ a, .inr (.inl (μ.2 a)))
  | 15 => .inl (aC Λ 3, aZ Λ a, .inl (μ.1 a))
  | 16 => .inl (aC Λ 4, aZ Λ a, .inr (.inr (.inr (.inr (aR Λ a)))))
  | k => .inr (k, fls Λ μ a (fty k) 0)
def pool (Λ : Lay) (μ : Mem) : va_W := va_pl (aL Λ) (ent Λ μ)
def tysL (Λ : Lay) : List (ClassId × FieldType) := [(aC Λ 0, .byte), (aC Λ 1, .int), (aC Λ 2, .long), (aC Λ 3, .boolean), (aC Λ 4, .object "DryDock$State")]
def inL (Λ : Lay) (a k : Nat) : Prop := a ∈ aL Λ ∧ aK Λ a = k
def AL (Λ : Lay) (sz : Nat) : Nat → Prop := fun q => q ∈ aL Λ ∨ sz ≤ q
def mset (μ : Mem) (a i : Nat) (v : Int32) : Mem := (va_up μ.1 a (upd (μ.1 a) i v), μ.2)
def msetL (μ : Mem) (a i : Nat) (v : Int64) : Mem := (μ.1, va_up μ.2 a (vp_updL (μ.2 a) i v))
def mrow (μ : Mem) (a : Nat) (f : Nat → Int32) : Mem := (va_up μ.1 a f, μ.2)
/-- a reference that is there and of its kind -/
def dr (Λ : Lay) (a i k : Nat) : Option Nat := match aR Λ a i with
  | some q => if q ∈ aL Λ ∧ aK Λ q = k then some q else none
  | none => none
theorem dr_spec {Λ : Lay} {a i k q : Nat} (h : dr Λ a i k = some q) : aR Λ a i = some q ∧ inL Λ q k := by
  unfold dr at h
  split at h
  · next z hz =>
    split at h
    · next hc => cases h; exact ⟨hz, hc⟩
    · cases h
  · cases h
def inb (i : Int32) (n : Nat) : Bool := decide (¬ (i < 0 ∨ n ≤ i.toNatClampNeg))
theorem inb_in {i : Int32} {n : Nat} (h : inb i n = true) : vp_in i n := of_decide_eq_true (p := ¬ (i < 0 ∨ n ≤ i.toNatClampNeg)) h
def zb (v : Int32) : Bool := decide (v = 0 ∨ v = 1)
/-- what is asked first -/
def gd {α : Type} (b : Bool) (x : Option α) : Option α := if b = true then x else none
theorem gd_some {α : Type} {b : Bool} {x : Option α} {r : α} (h : gd b x = some r) : b = true ∧ x = some r := by
  unfold gd at h
  split at h
  · next hb => exact ⟨hb, h⟩
  · cases h
theorem bd_some {α β : Type} {x : Option α} {f : α → Option β} {r : β} (h : x.bind f = some r) : ∃ y, x = some y ∧ f y = some r := by
  cases x with
  | none => cases h
  | some y => exact ⟨y, rfl, h⟩
theorem if_t {c : Prop} [Decidable c] {α : Type} {a b r : α} (h : (if c then a else b) = r) (hc : c) : a = r := by rw [if_pos hc] at h; exact h
theorem if_f {c : Prop} [Decidable c] {α : Type} {a b r : α} (h : (if c then a else b) = r) (hc : ¬ c) : b = r := by rw [if_neg hc] at h; exact h
def irem (a b : Int32) : Int32 := a - a / b * b
def ishl (a b : Int32) : Int32 := a <<< (b &&& 31)
def ishr (a b : Int32) : Int32 := a >>> (b &&& 31)
def iushr (a b : Int32) : Int32 := (a.toUInt32 >>> (b.toUInt32 &&& Int32.toUInt32 31)).toInt32
def imin (a b : Int32) : Int32 := if b < a then b else a
def imax (a b : Int32) : Int32 := if a < b then b else a
def iabs (a : Int32) : Int32 := if 0 ≤ a then a else 0 - a
def lcm3 (a b : Int64) : Int32 := if a < b then -1 else if a = b then 0 else 1
def lt {α β : Type} (v : α) (f : α → β) : β := f v
theorem lt_some {α β : Type} {v : α} {f : α → β} {r : β} (h : lt v f = r) : ∃ y, y = v ∧ f y = r := ⟨v, rfl, h⟩
theorem nn {p : Prop} [Decidable p] (h : ¬ ¬ p) : p := Decidable.of_not_not h
def cpyOk (Λ : Lay) (a b : Nat) (sp dp n : Int32) : Bool := decide (¬ sp < 0 ∧ ¬ dp < 0 ∧ ¬ n < 0 ∧ sp.toNatClampNeg + n.toNatClampNeg ≤ aZ Λ a ∧ dp.toNatClampNeg + n.toNatClampNeg ≤ aZ Λ b)
/-- loops -/
def cw {σ ρ : Type} (stp : (σ → Option ρ) → σ → Option ρ) : Nat → σ → Option ρ
  | 0, _ => none
  | n + 1, s => stp (cw stp n) s
theorem cw_ind {σ ρ : Type} {stp : (σ → Option ρ) → σ → Option ρ} {P : σ → ρ → Prop} (h : ∀ (k : σ → Option ρ), (∀ s r, k s = some r → P s r) → ∀ s r, stp k s = some r → P s r) : ∀ (n : Nat) (s : σ) (r : ρ), cw stp n s = some r → P s r
  | 0, _, _, e => by cases e
  | n + 1, s, r, e => h (cw stp n) (fun s r e => cw_ind h n s r e) s r e
/-! the cells -/
theorem fls_len (Λ : Lay) (μ : Mem) (a : Nat) : ∀ (t : List Bool) (k : Nat), (fls Λ μ a t k).length = t.length
  | [], _ => rfl
  | true :: t, k => congrArg (· + 1) (fls_len Λ μ a t (k + 1))
  | false :: t, k => congrArg (· + 1) (fls_len Λ μ a t (k + 1))
theorem fls_int (Λ : Lay) (μ : Mem) (a : Nat) : ∀ (t : List Bool) (k j : Nat), t[j]? = some true → (fls Λ μ a t k)[j]? = some (.int (μ.1 a (k + j)))
  | true :: t, k, 0, _ => rfl
  | false :: t, k, 0, h => by cases h
  | true :: t, k, j + 1, h => by have e := fls_int Λ μ a t (k + 1) j h; rw [show k + 1 + j = k + (j + 1) by omega] at e; exact e
  | false :: t, k, j + 1, h => by have e := fls_int Λ μ a t (k + 1) j h; rw [show k + 1 + j = k + (j + 1) by omega] at e; exact e
  | [], _, _, h => by simp at h
theorem fls_ref (Λ : Lay) (μ : Mem) (a : Nat) : ∀ (t : List Bool) (k j : Nat), t[j]? = some false → (fls Λ μ a t k)[j]? = some (va_rf (aR Λ a (k + j)))
  | false :: t, k, 0, _ => rfl
  | true :: t, k, 0, h => by cases h
  | true :: t, k, j + 1, h => by have e := fls_ref Λ μ a t (k + 1) j h; rw [show k + 1 + j = k + (j + 1) by omega] at e; exact e
  | false :: t, k, j + 1, h => by have e := fls_ref Λ μ a t (k + 1) j h; rw [show k + 1 + j = k + (j + 1) by omega] at e; exact e
  | [], _, _, h => by simp at h
theorem fls_same {Λ : Lay} {μ μ' : Mem} {a : Nat} (h : ∀ i, μ.1 a i = μ'.1 a i) : ∀ (t : List Bool) (k : Nat), fls Λ μ a t k = fls Λ μ' a t k
  | [], _ => rfl
  | true :: t, k => by show _ :: _ = _ :: _; rw [h k, fls_same h t (k + 1)]
  | false :: t, k => by show _ :: _ = _ :: _; rw [fls_same h t (k + 1)]
theorem fls_same_from {Λ : Lay} {μ μ' : Mem} {a : Nat} : ∀ (t : List Bool) (k : Nat), (∀ i, k ≤ i → μ.1 a i = μ'.1 a i) → fls Λ μ a t k = fls Λ μ' a t k
  | [], _, _ => rfl
  | true :: t, k, h => by show _ :: _ = _ :: _; rw [h k (Nat.le_refl k), fls_same_from t (k + 1) (fun i hi => h i (by omega))]
  | false :: t, k, h => by show _ :: _ = _ :: _; rw [fls_same_from t (k + 1) (fun i hi => h i (by omega))]
theorem mset_at (μ : Mem) (a i : Nat) (v : Int32) : (mset μ a i v).1 a = upd (μ.1 a) i v := va_up_self _ _ _
theorem mset_ne {μ : Mem} {a i b : Nat} {v : Int32} (h : b ≠ a) : (mset μ a i v).1 b = μ.1 b := va_up_ne _ _ h
theorem fls_set (Λ : Lay) (μ : Mem) (a : Nat) (v : Int32) : ∀ (t : List Bool) (k j : Nat), t[j]? = some true → (fls Λ μ a t k).set j (.int v) = fls Λ (mset μ a (k + j) v) a t k
  | true :: t, k, 0, _ => by
    show _ :: _ = _ :: _
    rw [mset_at, show upd (μ.1 a) (k + 0) v k = v by simp [upd], fls_same_from (μ := μ) (μ' := mset μ a (k + 0) v) t (k + 1) (fun i hi => by rw [mset_at]; simp [upd]; omega)]
  | false :: t, k, 0, h => by cases h
  | true :: t, k, j + 1, h => by
    have e := fls_set Λ μ a v t (k + 1) j h
    rw [show k + 1 + j = k + (j + 1) by omega] at e
    show _ :: _ = _ :: _
    rw [e, mset_at, show upd (μ.1 a) (k + (j + 1)) v k = μ.1 a k by simp [upd]]
  | false :: t, k, j + 1, h => by
    have e := fls_set Λ μ a v t (k + 1) j h
    rw [show k + 1 + j = k + (j + 1) by omega] at e
    show _ :: _ = _ :: _
    rw [e]
  | [], _, _, h => by simp at h
theorem ent_same {Λ : Lay} {μ μ' : Mem} {a : Nat} (h : μ.1 a = μ'.1 a) (h2 : μ.2 a = μ'.2 a) : ent Λ μ a = ent Λ μ' a := by
  unfold ent
  rw [h, h2]
  split <;> first | rfl | (rw [fls_same (μ := μ) (μ' := μ') (fun i => by rw [h])])
theorem ent_ob {Λ : Lay} {μ : Mem} {a k : Nat} (h : aK Λ a = k) (hk : k < 12) : ent Λ μ a = .inr (k, fls Λ μ a (fty k) 0) := by
  unfold ent
  rw [h]
  match k, hk with
  | 0, _ => rfl
  | 1, _ => rfl
  | 2, _ => rfl
  | 3, _ => rfl
  | 4, _ => rfl
  | 5, _ => rfl
  | 6, _ => rfl
  | 7, _ => rfl
  | 8, _ => rfl
  | 9, _ => rfl
  | 10, _ => rfl
  | 11, _ => rfl
theorem ent_12 {Λ : Lay} {μ : Mem} {a : Nat} (h : aK Λ a = 12) : ent Λ μ a = .inl (aC Λ 0, aZ Λ a, .inl (μ.1 a)) := by unfold ent; rw [h]; rfl
theorem ent_13 {Λ : Lay} {μ : Mem} {a : Nat} (h : aK Λ a = 13) : ent Λ μ a = .inl (aC Λ 1, aZ Λ a, .inl (μ.1 a)) := by unfold ent; rw [h]; rfl
theorem ent_14 {Λ : Lay} {μ : Mem} {a : Nat} (h : aK Λ a = 14) : ent Λ μ a = .inl (aC Λ 2, aZ Λ a, .inr (.inl (μ.2 a))) := by unfold ent; rw [h]; rfl
theorem ent_15 {Λ : Lay} {μ : Mem} {a : Nat} (h : aK Λ a = 15) : ent Λ μ a = .inl (aC Λ 3, aZ Λ a, .inl (μ.1 a)) := by unfold ent; rw [h]; rfl
theorem ent_16 {Λ : Lay} {μ : Mem} {a : Nat} (h : aK Λ a = 16) : ent Λ μ a = .inl (aC Λ 4, aZ Λ a, .inr (.inr (.inr (.inr (aR Λ a))))) := by unfold ent; rw [h]; rfl
theorem pool_at {Λ : Lay} {μ : Mem} {a : Nat} (h : a ∈ aL Λ) : ∃ q : Nat, (pool Λ μ)[q]? = some (a, ent Λ μ a) := va_pl_get (X := []) h
theorem pool_set {Λ : Lay} {μ μ' : Mem} {A : Nat → Prop} {a q : Nat} {e : va_E} (hD : va_D A (pool Λ μ)) (h : a ∈ aL Λ) (hq : (pool Λ μ)[q]? = some (a, ent Λ μ a)) (he : ∀ b, va_up (ent Λ μ) a e b = ent Λ μ' b) : (pool Λ μ).set q (a, e) = pool Λ μ' := (va_pl_set (X := []) hD h hq).trans (va_pl_congr he)
theorem ent_up {Λ : Lay} {μ μ' : Mem} {a : Nat} {e : va_E} (h0 : e = ent Λ μ' a) (h1 : ∀ b, b ≠ a → μ.1 b = μ'.1 b ∧ μ.2 b = μ'.2 b) : ∀ b, va_up (ent Λ μ) a e b = ent Λ μ' b := by
  intro b
  by_cases hb : b = a
  · subst hb; rw [va_up_self]; exact h0
  · rw [va_up_ne _ _ hb]; exact ent_same (h1 b hb).1 (h1 b hb).2
theorem mset_off {μ : Mem} {a i : Nat} {v : Int32} : ∀ b, b ≠ a → μ.1 b = (mset μ a i v).1 b ∧ μ.2 b = (mset μ a i v).2 b := fun _ h => ⟨(mset_ne h).symm, rfl⟩
theorem msetL_off {μ : Mem} {a i : Nat} {v : Int64} : ∀ b, b ≠ a → μ.1 b = (msetL μ a i v).1 b ∧ μ.2 b = (msetL μ a i v).2 b := fun _ h => ⟨rfl, (va_up_ne _ _ h).symm⟩
theorem mrow_off {μ : Mem} {a : Nat} {f : Nat → Int32} : ∀ b, b ≠ a → μ.1 b = (mrow μ a f).1 b ∧ μ.2 b = (mrow μ a f).2 b := fun _ h => ⟨(va_up_ne _ _ h).symm, rfl⟩

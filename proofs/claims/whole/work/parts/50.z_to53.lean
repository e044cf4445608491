/-! pure part, base: numbers, loops, memory -/
def n3 (a : Nat) : Int32 := Int32.ofNat a
def u3 (x : Int32) : Nat := x.toBitVec.toNat
def bb (p : Prop) [Decidable p] : Nat := if p then 1 else 0
theorem n3_u3 (x : Int32) : n3 (u3 x) = x := Int32.toBitVec_inj.1 (by simp [n3, u3])
theorem u3_lt (x : Int32) : u3 x < 4294967296 := x.toBitVec.isLt
theorem u3_n3 {a : Nat} (h : a < 4294967296) : u3 (n3 a) = a := by
  show (BitVec.ofNat 32 a).toNat = a
  rw [BitVec.toNat_ofNat]; exact Nat.mod_eq_of_lt h
theorem n3_mod (a : Nat) : n3 (a % 4294967296) = n3 a := by
  apply Int32.toBitVec_inj.1
  show BitVec.ofNat 32 _ = BitVec.ofNat 32 _
  apply BitVec.eq_of_toNat_eq
  simp [BitVec.toNat_ofNat]
theorem u3_n3_mod (a : Nat) : u3 (n3 a) = a % 4294967296 := by
  show (BitVec.ofNat 32 a).toNat = _
  rw [BitVec.toNat_ofNat]
theorem n3_inj {a b : Nat} (ha : a < 4294967296) (hb : b < 4294967296) (h : n3 a = n3 b) : a = b := by
  rw [← u3_n3 ha, ← u3_n3 hb, h]
theorem n3_lit (k : Nat) : (no_index (OfNat.ofNat k) : Int32) = n3 k := rfl
theorem n3_neg1 : -n3 1 = n3 4294967295 := by decide
theorem n3_add (a b : Nat) : n3 a + n3 b = n3 (a + b) := (Int32.ofNat_add a b).symm
theorem n3_mul (a b : Nat) : n3 a * n3 b = n3 (a * b) := (Int32.ofNat_mul a b).symm
theorem n3_sub {a b : Nat} (h : b ≤ a) : n3 a - n3 b = n3 (a - b) := (Int32.ofNat_sub a b h).symm
theorem n3_toInt {a : Nat} (h : a < 2147483648) : (n3 a).toInt = a := Int32.toInt_ofNat_of_lt h
theorem n3_tn {a : Nat} (h : a < 2147483648) : (n3 a).toNatClampNeg = a := Int32.toNatClampNeg_ofNat_of_lt h
theorem n3_le_c {a b : Nat} (ha : a < 2147483648) (hb : b < 2147483648) : (n3 a ≤ n3 b) = (a ≤ b) := propext (Int32.ofNat_le_iff_le ha hb)
theorem n3_lt_c {a b : Nat} (ha : a < 2147483648) (hb : b < 2147483648) : (n3 a < n3 b) = (a < b) := propext (Int32.ofNat_lt_iff_lt ha hb)
theorem n3_eq_c {a b : Nat} (ha : a < 4294967296) (hb : b < 4294967296) : (n3 a = n3 b) = (a = b) := propext ⟨n3_inj ha hb, fun h => by rw [h]⟩
theorem n3_le_t {a b : Nat} (h : a ≤ b) (hb : b < 2147483648) : (n3 a ≤ n3 b) = True := by rw [n3_le_c (by omega) hb]; exact eq_true h
theorem n3_le_f {a b : Nat} (h : b < a) (ha : a < 2147483648) : (n3 a ≤ n3 b) = False := by rw [n3_le_c ha (by omega)]; exact eq_false (by omega)
theorem n3_lt_t {a b : Nat} (h : a < b) (hb : b < 2147483648) : (n3 a < n3 b) = True := by rw [n3_lt_c (by omega) hb]; exact eq_true h
theorem n3_lt_f {a b : Nat} (h : b ≤ a) (ha : a < 2147483648) : (n3 a < n3 b) = False := by rw [n3_lt_c ha (by omega)]; exact eq_false (by omega)
theorem n3_eq_f {a b : Nat} (h : a ≠ b) (ha : a < 4294967296) (hb : b < 4294967296) : (n3 a = n3 b) = False := by rw [n3_eq_c ha hb]; exact eq_false h
theorem n3_eq_t {a b : Nat} (h : a = b) : (n3 a = n3 b) = True := by rw [h]; exact eq_self _
theorem n3_inb {a m : Nat} (h : a < m) (ha : a < 2147483648) : inb (n3 a) m = true := by
  unfold inb
  rw [n3_tn ha]
  refine decide_eq_true (fun hc => ?_)
  rcases hc with hc | hc
  · have : (n3 a < n3 0) = False := n3_lt_f (Nat.zero_le a) ha
    rw [n3_lit, this] at hc; exact hc
  · omega
theorem n3_div {a b : Nat} (ha : a < 2147483648) (hb : b < 2147483648) : n3 a / n3 b = n3 (a / b) := (Int32.ofNat_div ha hb).symm
theorem n3_rem {a b : Nat} (ha : a < 2147483648) (hb : b < 2147483648) : irem (n3 a) (n3 b) = n3 (a % b) := by
  unfold irem
  rw [n3_div ha hb, n3_mul, n3_sub (Nat.div_mul_le_self a b)]
  congr 1
  have := Nat.div_add_mod a b
  rw [Nat.mul_comm] at this
  omega
theorem n3_zb {a : Nat} (h : a ≤ 1) : zb (n3 a) = true := by
  match a, h with
  | 0, _ => rfl
  | 1, _ => rfl
theorem n3_and (a b : Nat) : n3 a &&& n3 b = n3 (a &&& b) := Int32.toBitVec_inj.1 (by show BitVec.ofNat 32 a &&& BitVec.ofNat 32 b = BitVec.ofNat 32 (a &&& b); exact BitVec.ofNat_and.symm)
theorem n3_or (a b : Nat) : n3 a ||| n3 b = n3 (a ||| b) := Int32.toBitVec_inj.1 (by show BitVec.ofNat 32 a ||| BitVec.ofNat 32 b = BitVec.ofNat 32 (a ||| b); exact BitVec.ofNat_or.symm)
theorem n3_xor (a b : Nat) : n3 a ^^^ n3 b = n3 (a ^^^ b) := Int32.toBitVec_inj.1 (by show BitVec.ofNat 32 a ^^^ BitVec.ofNat 32 b = BitVec.ofNat 32 (a ^^^ b); exact BitVec.ofNat_xor.symm)
theorem bb_le (p : Prop) [Decidable p] : bb p ≤ 1 := by unfold bb; split <;> omega
theorem bb_0 (p : Prop) [Decidable p] : (n3 (bb p) = n3 0) = ¬ p := by
  unfold bb; split
  · next h => exact (eq_false (by decide)).trans (eq_false (fun hn => hn h)).symm
  · next h => exact (eq_self _).trans (eq_true h).symm
theorem bb_1 (p : Prop) [Decidable p] : (n3 (bb p) = n3 1) = p := by
  unfold bb; split
  · next h => exact (eq_self _).trans (eq_true h).symm
  · next h => exact (eq_false (by decide)).trans (eq_false h).symm
theorem zb_bb (p : Prop) [Decidable p] : zb (n3 (bb p)) = true := n3_zb (bb_le p)
theorem bb_T [Decidable True] : bb True = 1 := if_pos trivial
theorem bb_F [Decidable False] : bb False = 0 := if_neg id
theorem bb_t {p : Prop} [Decidable p] (h : p) : bb p = 1 := if_pos h
theorem bb_f {p : Prop} [Decidable p] (h : ¬ p) : bb p = 0 := if_neg h
theorem bb_n (p : Prop) [Decidable p] : 1 - bb p = bb (¬ p) := by unfold bb; by_cases h : p <;> simp [h]
theorem bb_c {p q : Prop} [Decidable p] [Decidable q] (h : p ↔ q) : bb p = bb q := by unfold bb; by_cases hp : p <;> simp [hp, ← h]
theorem ite_bb (p : Prop) [Decidable p] : (if p then some (n3 1) else some (n3 0)) = some (n3 (bb p)) := by unfold bb; split <;> rfl
theorem ite_bbn (p : Prop) [Decidable p] : (if p then some (n3 0) else some (n3 1)) = some (n3 (bb (¬ p))) := by unfold bb; by_cases h : p <;> simp [h]
theorem gd_t {α : Type} (x : Option α) : gd true x = x := if_pos rfl
theorem gd_e {α : Type} (b : Bool) (x : Option α) : gd b x = if b = true then x else none := rfl
theorem lt_e {α β : Type} (v : α) (f : α → β) : lt v f = f v := rfl
theorem ob {α β : Type} {x : Option α} {q : α} (h : x = some q) (f : α → Option β) : x.bind f = f q := by rw [h] <;> rfl
theorem if_pT {α : Type} {p : Prop} [Decidable p] {a b : α} (h : p = True) : (if p then a else b) = a := if_pos (of_eq_true h)
theorem if_nF {α : Type} {p : Prop} [Decidable p] {a b : α} (h : p = False) : (if p then a else b) = b := if_neg (fun hp => by rw [h] at hp; exact hp)
/-- an int that lies in bounds -/
theorem n3_of {x : Int32} {b : Nat} (hb : b < 2147483648) (h0 : n3 0 ≤ x) (h1 : x ≤ n3 b) : ∃ a, a ≤ b ∧ x = n3 a := by
  rw [Int32.le_iff_toInt_le, n3_toInt (by omega)] at h0
  rw [Int32.le_iff_toInt_le, n3_toInt hb] at h1
  refine ⟨x.toInt.toNat, by omega, ?_⟩
  apply Int32.toInt_inj.1
  rw [n3_toInt (by omega)]
  omega
theorem n3_of_lt {x : Int32} {b : Nat} (hb : b < 2147483648) (h0 : n3 0 ≤ x) (h1 : x < n3 b) : ∃ a, a < b ∧ x = n3 a := by
  rw [Int32.le_iff_toInt_le, n3_toInt (by omega)] at h0
  rw [Int32.lt_iff_toInt_lt, n3_toInt hb] at h1
  refine ⟨x.toInt.toNat, by omega, ?_⟩
  apply Int32.toInt_inj.1
  rw [n3_toInt (by omega)]
  omega
/-! loops -/
theorem cw_itx {σ ρ : Type} {stp : (σ → Option ρ) → σ → Option ρ} {X : Option ρ} {F : Nat → σ} {n : Nat} (hs : ∀ i, i < n → ∀ k, stp k (F i) = k (F (i + 1))) (he : ∀ k, stp k (F n) = X) : ∀ (d N j : Nat), j + d = n → d < N → cw stp N (F j) = X
  | 0, N + 1, j, hj, _ => by rw [show j = n by omega]; exact he _
  | d + 1, N + 1, j, hj, hN => (hs j (by omega) _).trans (cw_itx hs he d N (j + 1) (by omega) (by omega))
  | d, 0, _, _, h => absurd h (by omega)
theorem cw_it {σ ρ : Type} {stp : (σ → Option ρ) → σ → Option ρ} {X : Option ρ} {N : Nat} {s : σ} (F : Nat → σ) (n : Nat) (h0 : s = F 0) (hs : ∀ i, i < n → ∀ k, stp k (F i) = k (F (i + 1))) (he : ∀ k, stp k (F n) = X) (hN : n < N) : cw stp N s = X := by
  rw [h0]; exact cw_itx hs he n N 0 (by omega) hN
theorem cw_me {σ ρ : Type} {stp : (σ → Option ρ) → σ → Option ρ} {P : σ → Prop} {Q : Option ρ → Prop} (m : σ → Nat) (h : ∀ s, P s → (∃ s', P s' ∧ m s' < m s ∧ ∀ k, stp k s = k s') ∨ (∃ X, Q X ∧ ∀ k, stp k s = X)) : ∀ (N : Nat) (s : σ), P s → m s < N → Q (cw stp N s)
  | 0, _, _, h => absurd h (by omega)
  | N + 1, s, hp, hm => by
    rcases h s hp with ⟨s', hp', hm', hk⟩ | ⟨X, hq, hk⟩
    · show Q (stp (cw stp N) s)
      rw [hk]; exact cw_me m h N s' hp' (by omega)
    · show Q (stp (cw stp N) s)
      rw [hk]; exact hq
theorem cw_iv {σ ρ : Type} {stp : (σ → Option ρ) → σ → Option ρ} {N : Nat} {s : σ} {P : Nat → σ → Prop} {Q : Option ρ → Prop} (n : Nat) (h0 : P 0 s) (hs : ∀ i, i < n → ∀ s, P i s → (∃ s', P (i + 1) s' ∧ ∀ k, stp k s = k s') ∨ (∃ X, Q X ∧ ∀ k, stp k s = X)) (he : ∀ s, P n s → ∃ X, Q X ∧ ∀ k, stp k s = X) (hN : n < N) : Q (cw stp N s) := by
  suffices ∀ (d N j : Nat) (s : σ), j + d = n → d < N → P j s → Q (cw stp N s) from this n N 0 s (by omega) hN h0
  intro d
  induction d with
  | zero =>
    intro N j s hj hN hp
    obtain ⟨N, rfl⟩ : ∃ M, N = M + 1 := ⟨N - 1, by omega⟩
    rw [show j = n by omega] at hp
    obtain ⟨X, hq, hk⟩ := he s hp
    show Q (stp (cw stp N) s)
    rw [hk]; exact hq
  | succ d ih =>
    intro N j s hj hN hp
    obtain ⟨N, rfl⟩ : ∃ M, N = M + 1 := ⟨N - 1, by omega⟩
    show Q (stp (cw stp N) s)
    rcases hs j (by omega) s hp with ⟨s', hp', hk⟩ | ⟨X, hq, hk⟩
    · rw [hk]; exact ih N (j + 1) s' (by omega) (by omega) hp'
    · rw [hk]; exact hq
/-! memory -/
def up (F : Nat → Nat) (j v : Nat) : Nat → Nat := fun k => if k = j then v else F k
theorem up_e (F : Nat → Nat) (j v : Nat) : up F j v j = v := if_pos rfl
theorem up_n {F : Nat → Nat} {j v k : Nat} (h : k ≠ j) : up F j v k = F k := if_neg h
abbrev Row (μ : Mem) (a n : Nat) (F : Nat → Nat) : Prop := ∀ k, k < n → μ.1 a k = n3 (F k)
def Inj (ad : Nat → Nat) : Prop := ∀ i j, ad i = ad j → i = j
theorem mse (μ : Mem) (a k : Nat) (v : Int32) : (mset μ a k v).1 a k = v := by rw [mset_at]; exact if_pos rfl
theorem msn {μ : Mem} {a k l : Nat} {v : Int32} (h : l ≠ k) : (mset μ a k v).1 a l = μ.1 a l := by rw [mset_at]; exact if_neg h
theorem mso {ad : Nat → Nat} (hj : Inj ad) {μ : Mem} {i j k : Nat} {v : Int32} (h : j ≠ i) : (mset μ (ad i) k v).1 (ad j) = μ.1 (ad j) := mset_ne (fun e => h (hj _ _ e))
theorem ms2 {μ : Mem} {a k : Nat} {v : Int32} : (mset μ a k v).2 = μ.2 := rfl
theorem Row.set {μ : Mem} {a n : Nat} {F : Nat → Nat} (h : Row μ a n F) (j v : Nat) : Row (mset μ a j (n3 v)) a n (up F j v) := fun k hk => by
  by_cases e : k = j
  · subst e; rw [mse, up_e]
  · rw [msn e, up_n e]; exact h k hk
theorem Row.off {μ μ' : Mem} {a n : Nat} {F : Nat → Nat} (h : Row μ a n F) (e : μ'.1 a = μ.1 a) : Row μ' a n F := fun k hk => by rw [e]; exact h k hk
theorem Row.to {μ : Mem} {a n m : Nat} {F G : Nat → Nat} (h : Row μ a n F) (hm : m ≤ n) (hg : ∀ k, k < m → F k = G k) : Row μ a m G := fun k hk => by rw [h k (by omega), hg k hk]
/-- what is written to: the cells whose numbers are in I -/
def Fr (ad : Nat → Nat) (I : Nat → Prop) (μ μ' : Mem) : Prop := ∀ i, ¬ I i → μ'.1 (ad i) = μ.1 (ad i) ∧ μ'.2 (ad i) = μ.2 (ad i)
theorem Fr.refl {ad : Nat → Nat} {I : Nat → Prop} (μ : Mem) : Fr ad I μ μ := fun _ _ => ⟨rfl, rfl⟩
theorem Fr.trans {ad : Nat → Nat} {I : Nat → Prop} {μ μ' μ'' : Mem} (h : Fr ad I μ μ') (h' : Fr ad I μ' μ'') : Fr ad I μ μ'' := fun i hi => ⟨(h' i hi).1.trans (h i hi).1, (h' i hi).2.trans (h i hi).2⟩
theorem Fr.mono {ad : Nat → Nat} {I J : Nat → Prop} {μ μ' : Mem} (h : Fr ad I μ μ') (hs : ∀ i, I i → J i) : Fr ad J μ μ' := fun i hi => h i (fun hc => hi (hs i hc))
theorem Fr.set {ad : Nat → Nat} (hj : Inj ad) {I : Nat → Prop} {μ μ' : Mem} (h : Fr ad I μ μ') {i k : Nat} {v : Int32} (hi : I i) : Fr ad I μ (mset μ' (ad i) k v) := fun q hq => ⟨(mso hj (fun e => hq (by rw [e]; exact hi))).trans (h q hq).1, (h q hq).2⟩
theorem Fr.row {ad : Nat → Nat} (hj : Inj ad) {I : Nat → Prop} {μ μ' : Mem} (h : Fr ad I μ μ') {i : Nat} {f : Nat → Int32} (hi : I i) : Fr ad I μ (mrow μ' (ad i) f) := fun q hq => ⟨(va_up_ne _ _ (fun e => hq (by rw [hj _ _ e]; exact hi))).trans (h q hq).1, (h q hq).2⟩
/-! where all lies -/
def LyS (Λ : Lay) (ad : Nat → Nat) (σ : Nat) : Prop := dr Λ (ad σ) 12 13 = some (ad (σ + 1)) ∧ dr Λ (ad σ) 13 13 = some (ad (σ + 2)) ∧ dr Λ (ad σ) 14 13 = some (ad (σ + 3)) ∧ dr Λ (ad σ) 15 13 = some (ad (σ + 4)) ∧ dr Λ (ad σ) 16 13 = some (ad (σ + 5)) ∧ dr Λ (ad σ) 17 13 = some (ad (σ + 6)) ∧ dr Λ (ad σ) 18 4 = some (ad (σ + 7)) ∧ dr Λ (ad (σ + 7)) 2 13 = some (ad (σ + 8)) ∧ aZ Λ (ad (σ + 1)) = 12 ∧ aZ Λ (ad (σ + 2)) = 8 ∧ aZ Λ (ad (σ + 3)) = 8 ∧ aZ Λ (ad (σ + 4)) = 8 ∧ aZ Λ (ad (σ + 5)) = 8 ∧ aZ Λ (ad (σ + 6)) = 8 ∧ aZ Λ (ad (σ + 8)) = 300
def LyL (Λ : Lay) (ad : Nat → Nat) (r : Nat) : Prop := dr Λ (ad r) 2 13 = some (ad (r + 1)) ∧ dr Λ (ad r) 3 13 = some (ad (r + 2)) ∧ dr Λ (ad r) 4 13 = some (ad (r + 3)) ∧ dr Λ (ad r) 5 13 = some (ad (r + 4)) ∧ dr Λ (ad r) 6 13 = some (ad (r + 5)) ∧ aZ Λ (ad (r + 1)) = 12 ∧ aZ Λ (ad (r + 2)) = 12 ∧ aZ Λ (ad (r + 3)) = 12 ∧ aZ Λ (ad (r + 4)) = 400 ∧ aZ Λ (ad (r + 5)) = 32
def LyR (Λ : Lay) (ad : Nat → Nat) : Prop := dr Λ (ad 181) 1 13 = some (ad 182) ∧ dr Λ (ad 181) 2 13 = some (ad 183) ∧ dr Λ (ad 181) 3 13 = some (ad 184) ∧ dr Λ (ad 181) 4 13 = some (ad 185) ∧ dr Λ (ad 181) 5 13 = some (ad 186) ∧ dr Λ (ad 181) 8 12 = some (ad 187) ∧ dr Λ (ad 181) 15 13 = some (ad 188) ∧ dr Λ (ad 181) 17 13 = some (ad 189) ∧ dr Λ (ad 181) 18 13 = some (ad 190) ∧ dr Λ (ad 181) 19 13 = some (ad 191) ∧ dr Λ (ad 181) 20 13 = some (ad 192) ∧ dr Λ (ad 181) 21 13 = some (ad 193) ∧ dr Λ (ad 181) 22 15 = some (ad 194) ∧ dr Λ (ad 181) 23 13 = some (ad 195) ∧ dr Λ (ad 181) 24 13 = some (ad 196) ∧ dr Λ (ad 181) 25 13 = some (ad 197) ∧ dr Λ (ad 181) 26 13 = some (ad 198) ∧ dr Λ (ad 181) 27 14 = some (ad 199) ∧ aZ Λ (ad 182) = 2071 ∧ aZ Λ (ad 183) = 1222 ∧ aZ Λ (ad 184) = 1222 ∧ aZ Λ (ad 185) = 373 ∧ aZ Λ (ad 186) = 4476 ∧ aZ Λ (ad 187) = 400 ∧ aZ Λ (ad 188) = 5 ∧ aZ Λ (ad 189) = 400 ∧ aZ Λ (ad 190) = 8 ∧ aZ Λ (ad 191) = 24 ∧ aZ Λ (ad 192) = 8 ∧ aZ Λ (ad 193) = 256 ∧ aZ Λ (ad 194) = 11532 ∧ aZ Λ (ad 195) = 31 ∧ aZ Λ (ad 196) = 25 ∧ aZ Λ (ad 197) = 225 ∧ aZ Λ (ad 198) = 256 ∧ aZ Λ (ad 199) = 6
def LyP (Λ : Lay) (ad : Nat → Nat) : Prop := dr Λ (ad 0) 0 9 = some (ad 1) ∧ dr Λ (ad 0) 1 8 = some (ad 3) ∧ dr Λ (ad 0) 2 8 = some (ad 12) ∧ dr Λ (ad 0) 3 8 = some (ad 21) ∧ dr Λ (ad 0) 4 2 = some (ad 30) ∧ dr Λ (ad 0) 5 2 = some (ad 36) ∧ dr Λ (ad 0) 6 2 = some (ad 42) ∧ dr Λ (ad 0) 7 1 = some (ad 48) ∧ dr Λ (ad 0) 8 3 = some (ad 52) ∧ dr Λ (ad 0) 9 5 = some (ad 56) ∧ dr Λ (ad 0) 10 0 = some (ad 166) ∧ dr Λ (ad 0) 11 7 = some (ad 171) ∧ dr Λ (ad 0) 12 6 = some (ad 175) ∧ dr Λ (ad 1) 0 12 = some (ad 2) ∧ aZ Λ (ad 2) = 400
def LyD (Λ : Lay) (ad : Nat → Nat) (r i k : Nat) : Prop := dr Λ (ad r) 0 9 = some (ad 1) ∧ dr Λ (ad r) 4 13 = some (ad (r + 1)) ∧ dr Λ (ad r) 5 13 = some (ad (r + 2)) ∧ dr Λ (ad r) 6 13 = some (ad (r + 3)) ∧ dr Λ (ad r) 7 k = some (ad i) ∧ aZ Λ (ad (r + 1)) = 401 ∧ aZ Λ (ad (r + 2)) = 401 ∧ aZ Λ (ad (r + 3)) = 401
def LyQ (Λ : Lay) (ad : Nat → Nat) : Prop := dr Λ (ad 166) 3 13 = some (ad 167) ∧ dr Λ (ad 166) 4 13 = some (ad 168) ∧ dr Λ (ad 166) 5 13 = some (ad 169) ∧ dr Λ (ad 166) 6 13 = some (ad 170) ∧ aZ Λ (ad 167) = 20 ∧ aZ Λ (ad 168) = 20 ∧ aZ Λ (ad 169) = 7 ∧ aZ Λ (ad 170) = 372 ∧ dr Λ (ad 171) 4 13 = some (ad 172) ∧ dr Λ (ad 171) 5 15 = some (ad 173) ∧ dr Λ (ad 171) 6 13 = some (ad 174) ∧ aZ Λ (ad 172) = 20 ∧ aZ Λ (ad 173) = 20 ∧ aZ Λ (ad 174) = 24 ∧ dr Λ (ad 175) 2 13 = some (ad 176) ∧ dr Λ (ad 175) 4 13 = some (ad 177) ∧ dr Λ (ad 175) 5 13 = some (ad 178) ∧ dr Λ (ad 175) 6 13 = some (ad 179) ∧ dr Λ (ad 175) 7 13 = some (ad 180) ∧ aZ Λ (ad 176) = 8 ∧ aZ Λ (ad 177) = 24 ∧ aZ Λ (ad 178) = 8 ∧ aZ Λ (ad 179) = 256 ∧ aZ Λ (ad 180) = 225
/-- the numbers of the states -/
def IsS (σ : Nat) : Prop := σ = 3 ∨ σ = 12 ∨ σ = 21 ∨ ∃ i, i < 12 ∧ σ = 58 + 9 * i
def Ly (Λ : Lay) (ad : Nat → Nat) : Prop := Inj ad ∧ LyR Λ ad ∧ LyP Λ ad ∧ (∀ σ, IsS σ → LyS Λ ad σ) ∧ (∀ r, r = 30 ∨ r = 36 ∨ r = 42 → LyL Λ ad r) ∧ LyD Λ ad 48 12 8 ∧ LyD Λ ad 52 36 2 ∧ LyQ Λ ad ∧ dr Λ (ad 56) 2 16 = some (ad 57) ∧ aZ Λ (ad 57) = 12 ∧ (∀ i, i < 12 → dr Λ (ad 57) i 8 = some (ad (58 + 9 * i))) ∧ aZ Λ (ad 200) = 1 ∧ inL Λ (ad 0) 10 ∧ inL Λ (ad 181) 11 ∧ inL Λ (ad 200) 14
/-! shifts -/
theorem n3_31 {b : Nat} (h : b < 32) : n3 b &&& n3 31 = n3 b := by
  rw [n3_and]
  congr 1
  rw [show (31 : Nat) = 2 ^ 5 - 1 from rfl, Nat.and_two_pow_sub_one_eq_mod]
  exact Nat.mod_eq_of_lt h
theorem n3_shl {a b : Nat} (h : b < 32) : ishl (n3 a) (n3 b) = n3 (a * 2 ^ b) := by
  unfold ishl
  rw [n3_lit 31, n3_31 h]
  apply Int32.toBitVec_inj.1
  apply BitVec.eq_of_toNat_eq
  show (BitVec.ofNat 32 a <<< ((BitVec.ofNat 32 b).smod 32)).toNat = _
  have hb : (BitVec.ofNat 32 b).smod 32 = BitVec.ofNat 32 b := by
    revert h; revert b; decide
  rw [hb]
  simp [n3, BitVec.toNat_ofNat, Nat.shiftLeft_eq, Nat.mod_eq_of_lt (show b < 4294967296 by omega), Nat.mul_mod]
theorem n3_shr {a b : Nat} (ha : a < 2147483648) (h : b < 32) : ishr (n3 a) (n3 b) = n3 (a / 2 ^ b) := by
  unfold ishr
  rw [n3_lit 31, n3_31 h]
  apply Int32.toBitVec_inj.1
  apply BitVec.eq_of_toNat_eq
  show ((BitVec.ofNat 32 a).sshiftRight' ((BitVec.ofNat 32 b).smod 32)).toNat = _
  have hb : (BitVec.ofNat 32 b).smod 32 = BitVec.ofNat 32 b := by
    revert h; revert b; decide
  have hm : (BitVec.ofNat 32 a).msb = false := by
    rw [BitVec.msb_eq_decide]; simp [Nat.mod_eq_of_lt (show a < 4294967296 by omega)]; omega
  rw [hb, BitVec.sshiftRight_eq', BitVec.sshiftRight_eq_of_msb_false hm]
  have h1 : a / 2 ^ b < 4294967296 := Nat.lt_of_le_of_lt (Nat.div_le_self _ _) (by omega)
  simp [n3, BitVec.toNat_ofNat, Nat.shiftRight_eq_div_pow, Nat.mod_eq_of_lt (show b < 4294967296 by omega), Nat.mod_eq_of_lt (show a < 4294967296 by omega), Nat.mod_eq_of_lt h1]
/-- a bit -/
theorem n3_bit {a b : Nat} (ha : a < 2147483648) (h : b < 32) : ishr (n3 a) (n3 b) &&& n3 1 = n3 (bb (a.testBit b = true)) := by
  rw [n3_shr ha h, n3_and]
  congr 1
  rw [Nat.and_one_is_mod, Nat.testBit_eq_decide_div_mod_eq]
  unfold bb
  simp only [decide_eq_true_eq]
  split <;> omega
theorem n3_and0 {a b : Nat} (h : a < 4294967296) : (n3 a &&& n3 b = n3 0) = (a &&& b = 0) := by
  rw [n3_and, n3_eq_c (Nat.lt_of_le_of_lt Nat.and_le_left h) (by omega)]
/-! the places of a ship -/
def rn (p l : Nat) : Nat := (2 ^ l - 1) * 2 ^ p
theorem rn_lt {p l : Nat} (h : p + l ≤ 24) : rn p l < 16777216 := by
  unfold rn
  have h1 : 2 ^ l * 2 ^ p ≤ 2 ^ 24 := by rw [← Nat.pow_add]; exact Nat.pow_le_pow_right (by decide) (by omega)
  have h2 : (2 ^ l - 1) * 2 ^ p < 2 ^ l * 2 ^ p := Nat.mul_lt_mul_of_pos_right (by have := Nat.two_pow_pos l; omega) (Nat.two_pow_pos p)
  have h3 : (2 : Nat) ^ 24 = 16777216 := rfl
  omega
theorem rn_bit (p l k : Nat) : (rn p l).testBit k = true ↔ p ≤ k ∧ k < p + l := by
  unfold rn
  rw [← Nat.shiftLeft_eq, Nat.testBit_shiftLeft, Nat.testBit_two_pow_sub_one]
  simp only [Bool.and_eq_true, decide_eq_true_eq]
  omega
theorem n3_run {p l : Nat} (hp : p < 32) (hl : l < 32) : ishl (ishl (n3 1) (n3 l) - n3 1) (n3 p) = n3 (rn p l) := by
  have h1 : 1 ≤ 1 * 2 ^ l := by have := Nat.two_pow_pos l; omega
  rw [n3_shl hl, n3_sub h1, n3_shl hp, Nat.one_mul] <;> rfl
/-! what holds of a row of the world -/
def ShOk (F : Nat → Nat) (s : Nat) : Prop := 1 ≤ F (25 + 6 * s) ∧ F (25 + 6 * s) ≤ 12 ∧ 1 ≤ F (25 + 6 * s + 1) ∧ F (25 + 6 * s + 1) ≤ 20 ∧ F (25 + 6 * s + 2) ≤ 99 ∧ F (25 + 6 * s + 3) ≤ 2 ∧ (F (25 + 6 * s + 3) = 1 → F (25 + 6 * s + 4) + F (25 + 6 * s) ≤ 24) ∧ (F (25 + 6 * s + 3) ≠ 1 → F (25 + 6 * s + 4) = 4294967295) ∧ F (25 + 6 * s + 5) ≤ 1
def pl (F : Nat → Nat) (s : Nat) : Nat := if F (25 + 6 * s + 3) = 1 then rn (F (25 + 6 * s + 4)) (F (25 + 6 * s)) else 0
def tkn (F : Nat → Nat) : Nat → Nat
  | 0 => 0
  | n + 1 => tkn F n ||| pl F n
def WB (F : Nat → Nat) : Prop := F 0 ≤ 8 ∧ F 1 ≤ 12 ∧ F 2 ≤ 1 ∧ F 3 ≤ 40 ∧ F 4 ≤ 1 ∧ F 5 ≤ 9 ∧ F 6 ≤ 9 ∧ F 7 ≤ 5 ∧ F 8 ≤ 9999 ∧ F 9 ≤ 9999 ∧ F 10 < 16777216 ∧ F 11 ≤ 60 ∧ F 12 < 4294967296
def WF (F : Nat → Nat) : Prop := WB F ∧ (∀ k, k < 12 → F (13 + k) ≤ 30) ∧ (∀ s, s < F 0 → ShOk F s) ∧ (∀ s t, s < t → t < F 0 → pl F s &&& pl F t = 0)
theorem pl_lt {F : Nat → Nat} {s : Nat} (h : ShOk F s) : pl F s < 16777216 := by
  unfold pl; split
  · next h1 => exact rn_lt (h.2.2.2.2.2.2.1 h1)
  · decide
theorem tkn_lt {F : Nat → Nat} : ∀ n, (∀ s, s < n → ShOk F s) → tkn F n < 16777216
  | 0, _ => by show (0 : Nat) < 16777216; decide
  | n + 1, h => by
    show tkn F n ||| pl F n < 2 ^ 24
    exact Nat.or_lt_two_pow (tkn_lt n (fun s hs => h s (by omega))) (pl_lt (h n (by omega)))
/-! the class's state that stands for a row -/
def hbt (F : Nat → Nat) : Nat → Nat
  | 0 => 0
  | n + 1 => hbt F n ||| (if decide (F (25 + 6 * n + 5) = 1) = true then 2 ^ n else 0)
def LgR (ad : Nat → Nat) (μ : Mem) (σ : Nat) (F : Nat → Nat) : Prop := ∃ nx, nx < 60 ∧ μ.1 (ad (σ + 7)) 1 = n3 nx ∧ ∀ k w, k < F 11 → w < 5 → μ.1 (ad (σ + 8)) ((nx + 59 - k) % 60 * 5 + w) = n3 (F (73 + 5 * k + w))
def CS (ad : Nat → Nat) (μ : Mem) (σ : Nat) (F : Nat → Nat) : Prop := μ.1 (ad σ) 0 = n3 (F 3) ∧ μ.1 (ad σ) 1 = n3 (F 9) ∧ μ.1 (ad σ) 2 = n3 (F 5) ∧ μ.1 (ad σ) 3 = n3 (F 6) ∧ μ.1 (ad σ) 4 = n3 (F 7) ∧ μ.1 (ad σ) 5 = n3 (F 8) ∧ μ.1 (ad σ) 6 = n3 (F 12) ∧ μ.1 (ad σ) 7 = n3 (F 1) ∧ μ.1 (ad σ) 8 = n3 (F 0) ∧ μ.1 (ad σ) 9 = n3 (F 10) ∧ μ.1 (ad σ) 11 = n3 (F 4) ∧ Row μ (ad (σ + 1)) 12 (fun k => F (13 + k)) ∧ Row μ (ad (σ + 2)) (F 0) (fun s => F (25 + 6 * s)) ∧ Row μ (ad (σ + 3)) (F 0) (fun s => F (25 + 6 * s + 1)) ∧ Row μ (ad (σ + 4)) (F 0) (fun s => F (25 + 6 * s + 2)) ∧ Row μ (ad (σ + 5)) (F 0) (fun s => F (25 + 6 * s + 3)) ∧ Row μ (ad (σ + 6)) (F 0) (fun s => F (25 + 6 * s + 4)) ∧ μ.1 (ad σ) 10 = n3 (hbt F (F 0)) ∧ μ.1 (ad (σ + 7)) 0 = n3 (F 11) ∧ LgR ad μ σ F
/-! the reference: what it reads -/
theorem r_in {N : Nat} {Λ : Lay} {μ : Mem} (a b c : Int32) : m_X12_in N Λ μ a b c = some (n3 (bb (b ≤ a ∧ a ≤ c))) := by
  simp only [jn_X12_in_15, jn_X12_in_14, m_X12_in, ↓lt_e, ↓gd_e, ↓Option.bind_some, ↓reduceIte, if_true, if_false, if_pT, if_nF, decide_true, Bool.not_true, Bool.not_false, not_true_eq_false, not_false_eq_true, Bool.false_eq_true, Bool.true_eq_false, eq_self, n3_lit, n3_add, n3_mul, n3_sub, n3_tn, n3_le_t, n3_le_f, n3_lt_t, n3_lt_f, n3_eq_f, n3_eq_t, n3_inb, n3_rem, n3_div, n3_zb, bb_0, bb_1, zb_bb, bb_T, bb_F]
  by_cases h1 : a < b
  · rw [if_pos h1, bb_f (fun h => Int32.not_le.2 h1 h.1)]; simp (disch := omega) only [↓lt_e, ↓gd_e, ↓Option.bind_some, ↓reduceIte, if_true, if_false, if_pT, if_nF, decide_true, Bool.not_true, Bool.not_false, not_true_eq_false, not_false_eq_true, Bool.false_eq_true, Bool.true_eq_false, eq_self, n3_lit, n3_add, n3_mul, n3_sub, n3_tn, n3_le_t, n3_le_f, n3_lt_t, n3_lt_f, n3_eq_f, n3_eq_t, n3_inb, n3_rem, n3_div, n3_zb, bb_0, bb_1, zb_bb, bb_T, bb_F]
  · rw [if_neg h1]
    by_cases h2 : c < a
    · rw [if_pos h2, bb_f (fun h => Int32.not_le.2 h2 h.2)]; simp (disch := omega) only [↓lt_e, ↓gd_e, ↓Option.bind_some, ↓reduceIte, if_true, if_false, if_pT, if_nF, decide_true, Bool.not_true, Bool.not_false, not_true_eq_false, not_false_eq_true, Bool.false_eq_true, Bool.true_eq_false, eq_self, n3_lit, n3_add, n3_mul, n3_sub, n3_tn, n3_le_t, n3_le_f, n3_lt_t, n3_lt_f, n3_eq_f, n3_eq_t, n3_inb, n3_rem, n3_div, n3_zb, bb_0, bb_1, zb_bb, bb_T, bb_F]
    · rw [if_neg h2, bb_t ⟨Int32.not_lt.1 h1, Int32.not_lt.1 h2⟩]; simp (disch := omega) only [↓lt_e, ↓gd_e, ↓Option.bind_some, ↓reduceIte, if_true, if_false, if_pT, if_nF, decide_true, Bool.not_true, Bool.not_false, not_true_eq_false, not_false_eq_true, Bool.false_eq_true, Bool.true_eq_false, eq_self, n3_lit, n3_add, n3_mul, n3_sub, n3_tn, n3_le_t, n3_le_f, n3_lt_t, n3_lt_f, n3_eq_f, n3_eq_t, n3_inb, n3_rem, n3_div, n3_zb, bb_0, bb_1, zb_bb, bb_T, bb_F]
theorem r_has {N : Nat} {Λ : Lay} {μ : Mem} {a b : Nat} (ha : a < 2147483648) (hb : b < 32) : m_X12_has N Λ μ (n3 a) (n3 b) = some (n3 (bb (a.testBit b = true))) := by
  simp (disch := omega) only [jn_X12_has_14, m_X12_has, n3_bit, ↓lt_e, ↓gd_e, ↓Option.bind_some, ↓reduceIte, if_true, if_false, if_pT, if_nF, decide_true, Bool.not_true, Bool.not_false, not_true_eq_false, not_false_eq_true, Bool.false_eq_true, Bool.true_eq_false, eq_self, n3_lit, n3_add, n3_mul, n3_sub, n3_tn, n3_le_t, n3_le_f, n3_lt_t, n3_lt_f, n3_eq_f, n3_eq_t, n3_inb, n3_rem, n3_div, n3_zb, bb_0, bb_1, zb_bb, bb_T, bb_F, ite_bb]
theorem r_run {N : Nat} {Λ : Lay} {μ : Mem} {p l : Nat} (hp : p < 32) (hl : l < 32) : m_X12_run N Λ μ (n3 p) (n3 l) = some (n3 (rn p l)) := by
  unfold m_X12_run; rw [n3_lit 1, n3_run hp hl]
theorem c_placeBits {N : Nat} {Λ : Lay} {μ : Mem} {p l : Nat} (hp : p < 32) (hl : l < 32) : m_X11_placeBits N Λ μ (n3 p) (n3 l) = some (n3 (rn p l)) := by
  unfold m_X11_placeBits; rw [n3_lit 1, n3_run hp hl]
def fit (t p l : Nat) : Prop := p + l ≤ 24 ∧ t &&& rn p l = 0
def fitb (t p l : Nat) : Bool := decide (p + l ≤ 24) && decide (t &&& rn p l = 0)
theorem fitb_iff {t p l : Nat} : fitb t p l = true ↔ p + l ≤ 24 ∧ t &&& rn p l = 0 := by simp [fitb]
theorem r_fitsIn {N : Nat} {Λ : Lay} {μ : Mem} {t p l : Nat} (ht : t < 4294967296) (hp : p < 32) (hl : l < 32) : m_X12_fitsIn N Λ μ (n3 t) (n3 p) (n3 l) = some (n3 (bb (fitb t p l = true))) := by
  simp (disch := omega) only [jn_X12_fitsIn_27, jn_X12_fitsIn_26, m_X12_fitsIn, r_run, ↓lt_e, ↓gd_e, ↓Option.bind_some, ↓reduceIte, if_true, if_false, if_pT, if_nF, decide_true, Bool.not_true, Bool.not_false, not_true_eq_false, not_false_eq_true, Bool.false_eq_true, Bool.true_eq_false, eq_self, n3_lit, n3_add, n3_mul, n3_sub, n3_tn, n3_le_t, n3_le_f, n3_lt_t, n3_lt_f, n3_eq_f, n3_eq_t, n3_inb, n3_rem, n3_div, n3_zb, bb_0, bb_1, zb_bb, bb_T, bb_F, n3_and0]
  by_cases h1 : p + l ≤ 24
  · by_cases h2 : t &&& rn p l = 0
    · rw [bb_t (fitb_iff.2 ⟨h1, h2⟩)]; simp (disch := omega) only [↓lt_e, ↓gd_e, ↓Option.bind_some, ↓reduceIte, if_true, if_false, if_pT, if_nF, decide_true, Bool.not_true, Bool.not_false, not_true_eq_false, not_false_eq_true, Bool.false_eq_true, Bool.true_eq_false, eq_self, n3_lit, n3_add, n3_mul, n3_sub, n3_tn, n3_le_t, n3_le_f, n3_lt_t, n3_lt_f, n3_eq_f, n3_eq_t, n3_inb, n3_rem, n3_div, n3_zb, bb_0, bb_1, zb_bb, bb_T, bb_F, h2]
    · rw [bb_f (fun h => h2 (fitb_iff.1 h).2)]; simp (disch := omega) only [↓lt_e, ↓gd_e, ↓Option.bind_some, ↓reduceIte, if_true, if_false, if_pT, if_nF, decide_true, Bool.not_true, Bool.not_false, not_true_eq_false, not_false_eq_true, Bool.false_eq_true, Bool.true_eq_false, eq_self, n3_lit, n3_add, n3_mul, n3_sub, n3_tn, n3_le_t, n3_le_f, n3_lt_t, n3_lt_f, n3_eq_f, n3_eq_t, n3_inb, n3_rem, n3_div, n3_zb, bb_0, bb_1, zb_bb, bb_T, bb_F, h2]
  · rw [bb_f (fun h => h1 (fitb_iff.1 h).1)]; simp (disch := omega) only [↓lt_e, ↓gd_e, ↓Option.bind_some, ↓reduceIte, if_true, if_false, if_pT, if_nF, decide_true, Bool.not_true, Bool.not_false, not_true_eq_false, not_false_eq_true, Bool.false_eq_true, Bool.true_eq_false, eq_self, n3_lit, n3_add, n3_mul, n3_sub, n3_tn, n3_le_t, n3_le_f, n3_lt_t, n3_lt_f, n3_eq_f, n3_eq_t, n3_inb, n3_rem, n3_div, n3_zb, bb_0, bb_1, zb_bb, bb_T, bb_F]
theorem c_isRoom {N : Nat} {Λ : Lay} {μ : Mem} {t p l : Nat} (ht : t < 4294967296) (hp : p < 32) (hl : l < 32) : m_X11_isRoom N Λ μ (n3 t) (n3 p) (n3 l) = some (n3 (bb (fitb t p l = true))) := by
  simp (disch := omega) only [jn_X11_isRoom_23, jn_X11_isRoom_22, m_X11_isRoom, c_placeBits, ↓lt_e, ↓gd_e, ↓Option.bind_some, ↓reduceIte, if_true, if_false, if_pT, if_nF, decide_true, Bool.not_true, Bool.not_false, not_true_eq_false, not_false_eq_true, Bool.false_eq_true, Bool.true_eq_false, eq_self, n3_lit, n3_add, n3_mul, n3_sub, n3_tn, n3_le_t, n3_le_f, n3_lt_t, n3_lt_f, n3_eq_f, n3_eq_t, n3_inb, n3_rem, n3_div, n3_zb, bb_0, bb_1, zb_bb, bb_T, bb_F, n3_and0]
  by_cases h1 : p + l ≤ 24
  · by_cases h2 : t &&& rn p l = 0
    · rw [bb_t (fitb_iff.2 ⟨h1, h2⟩)]; simp (disch := omega) only [↓lt_e, ↓gd_e, ↓Option.bind_some, ↓reduceIte, if_true, if_false, if_pT, if_nF, decide_true, Bool.not_true, Bool.not_false, not_true_eq_false, not_false_eq_true, Bool.false_eq_true, Bool.true_eq_false, eq_self, n3_lit, n3_add, n3_mul, n3_sub, n3_tn, n3_le_t, n3_le_f, n3_lt_t, n3_lt_f, n3_eq_f, n3_eq_t, n3_inb, n3_rem, n3_div, n3_zb, bb_0, bb_1, zb_bb, bb_T, bb_F, h2]
    · rw [bb_f (fun h => h2 (fitb_iff.1 h).2)]; simp (disch := omega) only [↓lt_e, ↓gd_e, ↓Option.bind_some, ↓reduceIte, if_true, if_false, if_pT, if_nF, decide_true, Bool.not_true, Bool.not_false, not_true_eq_false, not_false_eq_true, Bool.false_eq_true, Bool.true_eq_false, eq_self, n3_lit, n3_add, n3_mul, n3_sub, n3_tn, n3_le_t, n3_le_f, n3_lt_t, n3_lt_f, n3_eq_f, n3_eq_t, n3_inb, n3_rem, n3_div, n3_zb, bb_0, bb_1, zb_bb, bb_T, bb_F, h2]
  · rw [bb_f (fun h => h1 (fitb_iff.1 h).1)]; simp (disch := omega) only [↓lt_e, ↓gd_e, ↓Option.bind_some, ↓reduceIte, if_true, if_false, if_pT, if_nF, decide_true, Bool.not_true, Bool.not_false, not_true_eq_false, not_false_eq_true, Bool.false_eq_true, Bool.true_eq_false, eq_self, n3_lit, n3_add, n3_mul, n3_sub, n3_tn, n3_le_t, n3_le_f, n3_lt_t, n3_lt_f, n3_eq_f, n3_eq_t, n3_inb, n3_rem, n3_div, n3_zb, bb_0, bb_1, zb_bb, bb_T, bb_F]
theorem r_noPlace {N : Nat} {Λ : Lay} {μ : Mem} (a : Int32) : m_X12_noPlace N Λ μ a = some (n3 (bb (¬ (n3 0 ≤ a ∧ a ≤ n3 23)))) := by
  simp (disch := omega) only [jn_X12_noPlace_15, m_X12_noPlace, r_in, ↓lt_e, ↓gd_e, ↓Option.bind_some, ↓reduceIte, if_true, if_false, if_pT, if_nF, decide_true, Bool.not_true, Bool.not_false, not_true_eq_false, not_false_eq_true, Bool.false_eq_true, Bool.true_eq_false, eq_self, n3_lit, n3_add, n3_mul, n3_sub, n3_tn, n3_le_t, n3_le_f, n3_lt_t, n3_lt_f, n3_eq_f, n3_eq_t, n3_inb, n3_rem, n3_div, n3_zb, bb_0, bb_1, zb_bb, bb_T, bb_F, ite_bb]
theorem r_ships {N : Nat} {Λ : Lay} {ad : Nat → Nat} {μ : Mem} {F : Nat → Nat} (hR : LyR Λ ad) (hW : Row μ (ad 182) 1222 F)  : m_X12_ships N Λ μ (ad 181) = some (n3 (F 0)) := by
  simp (disch := omega) only [m_X12_ships, ↓lt_e, ↓gd_e, ↓Option.bind_some, ↓reduceIte, if_true, if_false, if_pT, if_nF, decide_true, Bool.not_true, Bool.not_false, not_true_eq_false, not_false_eq_true, Bool.false_eq_true, Bool.true_eq_false, eq_self, n3_lit, n3_add, n3_mul, n3_sub, n3_tn, n3_le_t, n3_le_f, n3_lt_t, n3_lt_f, n3_eq_f, n3_eq_t, n3_inb, n3_rem, n3_div, n3_zb, bb_0, bb_1, zb_bb, bb_T, bb_F, ↓ob (hR.1), ↓ob (hR.2.1), ↓ob (hR.2.2.1), ↓ob (hR.2.2.2.1), ↓ob (hR.2.2.2.2.1), ↓ob (hR.2.2.2.2.2.1), ↓ob (hR.2.2.2.2.2.2.1), ↓ob (hR.2.2.2.2.2.2.2.1), ↓ob (hR.2.2.2.2.2.2.2.2.1), ↓ob (hR.2.2.2.2.2.2.2.2.2.1), ↓ob (hR.2.2.2.2.2.2.2.2.2.2.1), ↓ob (hR.2.2.2.2.2.2.2.2.2.2.2.1), ↓ob (hR.2.2.2.2.2.2.2.2.2.2.2.2.1), ↓ob (hR.2.2.2.2.2.2.2.2.2.2.2.2.2.1), ↓ob (hR.2.2.2.2.2.2.2.2.2.2.2.2.2.2.1), ↓ob (hR.2.2.2.2.2.2.2.2.2.2.2.2.2.2.2.1), ↓ob (hR.2.2.2.2.2.2.2.2.2.2.2.2.2.2.2.2.1), ↓ob (hR.2.2.2.2.2.2.2.2.2.2.2.2.2.2.2.2.2.1), hR.2.2.2.2.2.2.2.2.2.2.2.2.2.2.2.2.2.2.1, hR.2.2.2.2.2.2.2.2.2.2.2.2.2.2.2.2.2.2.2.1, hR.2.2.2.2.2.2.2.2.2.2.2.2.2.2.2.2.2.2.2.2.1, hR.2.2.2.2.2.2.2.2.2.2.2.2.2.2.2.2.2.2.2.2.2.1, hR.2.2.2.2.2.2.2.2.2.2.2.2.2.2.2.2.2.2.2.2.2.2.1, hR.2.2.2.2.2.2.2.2.2.2.2.2.2.2.2.2.2.2.2.2.2.2.2.1, hR.2.2.2.2.2.2.2.2.2.2.2.2.2.2.2.2.2.2.2.2.2.2.2.2.1, hR.2.2.2.2.2.2.2.2.2.2.2.2.2.2.2.2.2.2.2.2.2.2.2.2.2.1, hR.2.2.2.2.2.2.2.2.2.2.2.2.2.2.2.2.2.2.2.2.2.2.2.2.2.2.1, hR.2.2.2.2.2.2.2.2.2.2.2.2.2.2.2.2.2.2.2.2.2.2.2.2.2.2.2.1, hR.2.2.2.2.2.2.2.2.2.2.2.2.2.2.2.2.2.2.2.2.2.2.2.2.2.2.2.2.1, hR.2.2.2.2.2.2.2.2.2.2.2.2.2.2.2.2.2.2.2.2.2.2.2.2.2.2.2.2.2.1, hR.2.2.2.2.2.2.2.2.2.2.2.2.2.2.2.2.2.2.2.2.2.2.2.2.2.2.2.2.2.2.1, hR.2.2.2.2.2.2.2.2.2.2.2.2.2.2.2.2.2.2.2.2.2.2.2.2.2.2.2.2.2.2.2.1, hR.2.2.2.2.2.2.2.2.2.2.2.2.2.2.2.2.2.2.2.2.2.2.2.2.2.2.2.2.2.2.2.2.1, hR.2.2.2.2.2.2.2.2.2.2.2.2.2.2.2.2.2.2.2.2.2.2.2.2.2.2.2.2.2.2.2.2.2.1, hR.2.2.2.2.2.2.2.2.2.2.2.2.2.2.2.2.2.2.2.2.2.2.2.2.2.2.2.2.2.2.2.2.2.2.1, hR.2.2.2.2.2.2.2.2.2.2.2.2.2.2.2.2.2.2.2.2.2.2.2.2.2.2.2.2.2.2.2.2.2.2.2, hW]
theorem r_noShip {N : Nat} {Λ : Lay} {ad : Nat → Nat} {μ : Mem} {F : Nat → Nat} (hR : LyR Λ ad) (hW : Row μ (ad 182) 1222 F)  (a : Int32) : m_X12_noShip N Λ μ (ad 181) a = some (n3 (bb (¬ (n3 0 ≤ a ∧ a ≤ n3 (F 0) - n3 1)))) := by
  simp (disch := omega) only [jn_X12_noShip_19, m_X12_noShip, r_ships hR hW, r_in, ↓lt_e, ↓gd_e, ↓Option.bind_some, ↓reduceIte, if_true, if_false, if_pT, if_nF, decide_true, Bool.not_true, Bool.not_false, not_true_eq_false, not_false_eq_true, Bool.false_eq_true, Bool.true_eq_false, eq_self, n3_lit, n3_add, n3_mul, n3_sub, n3_tn, n3_le_t, n3_le_f, n3_lt_t, n3_lt_f, n3_eq_f, n3_eq_t, n3_inb, n3_rem, n3_div, n3_zb, bb_0, bb_1, zb_bb, bb_T, bb_F, ite_bb]
theorem r_shipAt {N : Nat} {Λ : Lay} {μ : Mem} (s w : Nat) : m_X12_shipAt N Λ μ (n3 s) (n3 w) = some (n3 (25 + 6 * s + w)) := by
  simp (disch := omega) only [m_X12_shipAt, ↓lt_e, ↓gd_e, ↓Option.bind_some, ↓reduceIte, if_true, if_false, if_pT, if_nF, decide_true, Bool.not_true, Bool.not_false, not_true_eq_false, not_false_eq_true, Bool.false_eq_true, Bool.true_eq_false, eq_self, n3_lit, n3_add, n3_mul, n3_sub, n3_tn, n3_le_t, n3_le_f, n3_lt_t, n3_lt_f, n3_eq_f, n3_eq_t, n3_inb, n3_rem, n3_div, n3_zb, bb_0, bb_1, zb_bb, bb_T, bb_F]
theorem r_of {N : Nat} {Λ : Lay} {ad : Nat → Nat} {μ : Mem} {F : Nat → Nat} (hR : LyR Λ ad) (hW : Row μ (ad 182) 1222 F)  (s w : Nat) (h : 25 + 6 * s + w < 1222) : m_X12_of N Λ μ (ad 181) (n3 s) (n3 w) = some (n3 (F (25 + 6 * s + w))) := by
  simp (disch := omega) only [m_X12_of, r_shipAt, ↓lt_e, ↓gd_e, ↓Option.bind_some, ↓reduceIte, if_true, if_false, if_pT, if_nF, decide_true, Bool.not_true, Bool.not_false, not_true_eq_false, not_false_eq_true, Bool.false_eq_true, Bool.true_eq_false, eq_self, n3_lit, n3_add, n3_mul, n3_sub, n3_tn, n3_le_t, n3_le_f, n3_lt_t, n3_lt_f, n3_eq_f, n3_eq_t, n3_inb, n3_rem, n3_div, n3_zb, bb_0, bb_1, zb_bb, bb_T, bb_F, ↓ob (hR.1), ↓ob (hR.2.1), ↓ob (hR.2.2.1), ↓ob (hR.2.2.2.1), ↓ob (hR.2.2.2.2.1), ↓ob (hR.2.2.2.2.2.1), ↓ob (hR.2.2.2.2.2.2.1), ↓ob (hR.2.2.2.2.2.2.2.1), ↓ob (hR.2.2.2.2.2.2.2.2.1), ↓ob (hR.2.2.2.2.2.2.2.2.2.1), ↓ob (hR.2.2.2.2.2.2.2.2.2.2.1), ↓ob (hR.2.2.2.2.2.2.2.2.2.2.2.1), ↓ob (hR.2.2.2.2.2.2.2.2.2.2.2.2.1), ↓ob (hR.2.2.2.2.2.2.2.2.2.2.2.2.2.1), ↓ob (hR.2.2.2.2.2.2.2.2.2.2.2.2.2.2.1), ↓ob (hR.2.2.2.2.2.2.2.2.2.2.2.2.2.2.2.1), ↓ob (hR.2.2.2.2.2.2.2.2.2.2.2.2.2.2.2.2.1), ↓ob (hR.2.2.2.2.2.2.2.2.2.2.2.2.2.2.2.2.2.1), hR.2.2.2.2.2.2.2.2.2.2.2.2.2.2.2.2.2.2.1, hR.2.2.2.2.2.2.2.2.2.2.2.2.2.2.2.2.2.2.2.1, hR.2.2.2.2.2.2.2.2.2.2.2.2.2.2.2.2.2.2.2.2.1, hR.2.2.2.2.2.2.2.2.2.2.2.2.2.2.2.2.2.2.2.2.2.1, hR.2.2.2.2.2.2.2.2.2.2.2.2.2.2.2.2.2.2.2.2.2.2.1, hR.2.2.2.2.2.2.2.2.2.2.2.2.2.2.2.2.2.2.2.2.2.2.2.1, hR.2.2.2.2.2.2.2.2.2.2.2.2.2.2.2.2.2.2.2.2.2.2.2.2.1, hR.2.2.2.2.2.2.2.2.2.2.2.2.2.2.2.2.2.2.2.2.2.2.2.2.2.1, hR.2.2.2.2.2.2.2.2.2.2.2.2.2.2.2.2.2.2.2.2.2.2.2.2.2.2.1, hR.2.2.2.2.2.2.2.2.2.2.2.2.2.2.2.2.2.2.2.2.2.2.2.2.2.2.2.1, hR.2.2.2.2.2.2.2.2.2.2.2.2.2.2.2.2.2.2.2.2.2.2.2.2.2.2.2.2.1, hR.2.2.2.2.2.2.2.2.2.2.2.2.2.2.2.2.2.2.2.2.2.2.2.2.2.2.2.2.2.1, hR.2.2.2.2.2.2.2.2.2.2.2.2.2.2.2.2.2.2.2.2.2.2.2.2.2.2.2.2.2.2.1, hR.2.2.2.2.2.2.2.2.2.2.2.2.2.2.2.2.2.2.2.2.2.2.2.2.2.2.2.2.2.2.2.1, hR.2.2.2.2.2.2.2.2.2.2.2.2.2.2.2.2.2.2.2.2.2.2.2.2.2.2.2.2.2.2.2.2.1, hR.2.2.2.2.2.2.2.2.2.2.2.2.2.2.2.2.2.2.2.2.2.2.2.2.2.2.2.2.2.2.2.2.2.1, hR.2.2.2.2.2.2.2.2.2.2.2.2.2.2.2.2.2.2.2.2.2.2.2.2.2.2.2.2.2.2.2.2.2.2.1, hR.2.2.2.2.2.2.2.2.2.2.2.2.2.2.2.2.2.2.2.2.2.2.2.2.2.2.2.2.2.2.2.2.2.2.2, hW]
theorem r_isDocked {N : Nat} {Λ : Lay} {ad : Nat → Nat} {μ : Mem} {F : Nat → Nat} (hR : LyR Λ ad) (hW : Row μ (ad 182) 1222 F)  (s : Nat) (hs : s < 8) (h : F (25 + 6 * s + 3) < 4294967296) : m_X12_isDocked N Λ μ (ad 181) (n3 s) = some (n3 (bb (F (25 + 6 * s + 3) = 1))) := by
  simp (disch := omega) only [jn_X12_isDocked_15, m_X12_isDocked, r_of hR hW, ↓lt_e, ↓gd_e, ↓Option.bind_some, ↓reduceIte, if_true, if_false, if_pT, if_nF, decide_true, Bool.not_true, Bool.not_false, not_true_eq_false, not_false_eq_true, Bool.false_eq_true, Bool.true_eq_false, eq_self, n3_lit, n3_add, n3_mul, n3_sub, n3_tn, n3_le_t, n3_le_f, n3_lt_t, n3_lt_f, n3_eq_f, n3_eq_t, n3_inb, n3_rem, n3_div, n3_zb, bb_0, bb_1, zb_bb, bb_T, bb_F]
  simp (disch := omega) only [n3_le_c, n3_lt_c, n3_eq_c, ite_bb, ite_bbn]
theorem r_placesOf {N : Nat} {Λ : Lay} {ad : Nat → Nat} {μ : Mem} {F : Nat → Nat} (hR : LyR Λ ad) (hW : Row μ (ad 182) 1222 F)  (s : Nat) (hs : s < 8) (h : ShOk F s) : m_X12_placesOf N Λ μ (ad 181) (n3 s) = some (n3 (pl F s)) := by
  unfold ShOk at h
  simp (disch := omega) only [jn_X12_placesOf_27, m_X12_placesOf, r_of hR hW, r_isDocked hR hW, ↓lt_e, ↓gd_e, ↓Option.bind_some, ↓reduceIte, if_true, if_false, if_pT, if_nF, decide_true, Bool.not_true, Bool.not_false, not_true_eq_false, not_false_eq_true, Bool.false_eq_true, Bool.true_eq_false, eq_self, n3_lit, n3_add, n3_mul, n3_sub, n3_tn, n3_le_t, n3_le_f, n3_lt_t, n3_lt_f, n3_eq_f, n3_eq_t, n3_inb, n3_rem, n3_div, n3_zb, bb_0, bb_1, zb_bb, bb_T, bb_F]
  unfold pl
  by_cases h1 : F (25 + 6 * s + 3) = 1
  · simp (disch := omega) only [h1, r_run, Nat.add_zero, ↓lt_e, ↓gd_e, ↓Option.bind_some, ↓reduceIte, if_true, if_false, if_pT, if_nF, decide_true, Bool.not_true, Bool.not_false, not_true_eq_false, not_false_eq_true, Bool.false_eq_true, Bool.true_eq_false, eq_self, n3_lit, n3_add, n3_mul, n3_sub, n3_tn, n3_le_t, n3_le_f, n3_lt_t, n3_lt_f, n3_eq_f, n3_eq_t, n3_inb, n3_rem, n3_div, n3_zb, bb_0, bb_1, zb_bb, bb_T, bb_F]
  · simp (disch := omega) only [h1, ↓lt_e, ↓gd_e, ↓Option.bind_some, ↓reduceIte, if_true, if_false, if_pT, if_nF, decide_true, Bool.not_true, Bool.not_false, not_true_eq_false, not_false_eq_true, Bool.false_eq_true, Bool.true_eq_false, eq_self, n3_lit, n3_add, n3_mul, n3_sub, n3_tn, n3_le_t, n3_le_f, n3_lt_t, n3_lt_f, n3_eq_f, n3_eq_t, n3_inb, n3_rem, n3_div, n3_zb, bb_0, bb_1, zb_bb, bb_T, bb_F]
theorem r_taken {N : Nat} (hN : 1099511627776 ≤ N) {Λ : Lay} {ad : Nat → Nat} {μ : Mem} {F : Nat → Nat} (hR : LyR Λ ad) (hW : Row μ (ad 182) 1222 F)  (hw : ∀ s, s < F 0 → ShOk F s) (h8 : F 0 ≤ 8) : m_X12_taken N Λ μ (ad 181) = some (n3 (tkn F (F 0))) := by
  unfold m_X12_taken lp_X12_taken_4
  refine cw_it (fun i => (n3 (tkn F i), n3 i)) (F 0) rfl (fun i hi k => ?_) (fun k => ?_) (by omega)
  · have := hw i hi
    simp (disch := omega) only [bd_X12_taken_4, r_ships hR hW, r_placesOf hR hW i (by omega) this, ↓lt_e, ↓gd_e, ↓Option.bind_some, ↓reduceIte, if_true, if_false, if_pT, if_nF, decide_true, Bool.not_true, Bool.not_false, not_true_eq_false, not_false_eq_true, Bool.false_eq_true, Bool.true_eq_false, eq_self, n3_lit, n3_add, n3_mul, n3_sub, n3_tn, n3_le_t, n3_le_f, n3_lt_t, n3_lt_f, n3_eq_f, n3_eq_t, n3_inb, n3_rem, n3_div, n3_zb, bb_0, bb_1, zb_bb, bb_T, bb_F, n3_or] <;> rfl
  · simp (disch := omega) only [bd_X12_taken_4, r_ships hR hW, ↓lt_e, ↓gd_e, ↓Option.bind_some, ↓reduceIte, if_true, if_false, if_pT, if_nF, decide_true, Bool.not_true, Bool.not_false, not_true_eq_false, not_false_eq_true, Bool.false_eq_true, Bool.true_eq_false, eq_self, n3_lit, n3_add, n3_mul, n3_sub, n3_tn, n3_le_t, n3_le_f, n3_lt_t, n3_lt_f, n3_eq_f, n3_eq_t, n3_inb, n3_rem, n3_div, n3_zb, bb_0, bb_1, zb_bb, bb_T, bb_F]
theorem c_taken {N : Nat} (hN : 1099511627776 ≤ N) {Λ : Lay} {ad : Nat → Nat} {σ : Nat} {μ : Mem} {F : Nat → Nat} (hS : LyS Λ ad σ) (hC : CS ad μ σ F)  (hw : ∀ s, s < F 0 → ShOk F s) (h8 : F 0 ≤ 8) : m_X9_takenPlaces N Λ μ (ad σ) = some (n3 (tkn F (F 0))) := by
  unfold m_X9_takenPlaces lp_X9_takenPlaces_4
  refine cw_it (fun i => (n3 (tkn F i), n3 i)) (F 0) rfl (fun i hi k => ?_) (fun k => ?_) (by omega)
  · have h := hw i hi
    unfold ShOk at h
    have e : tkn F (i + 1) = tkn F i ||| pl F i := rfl
    simp (disch := omega) only [jn_X9_takenPlaces_42, bd_X9_takenPlaces_4, hC.1, hC.2.1, hC.2.2.1, hC.2.2.2.1, hC.2.2.2.2.1, hC.2.2.2.2.2.1, hC.2.2.2.2.2.2.1, hC.2.2.2.2.2.2.2.1, hC.2.2.2.2.2.2.2.2.1, hC.2.2.2.2.2.2.2.2.2.1, hC.2.2.2.2.2.2.2.2.2.2.1, hC.2.2.2.2.2.2.2.2.2.2.2.1, hC.2.2.2.2.2.2.2.2.2.2.2.2.1, hC.2.2.2.2.2.2.2.2.2.2.2.2.2.1, hC.2.2.2.2.2.2.2.2.2.2.2.2.2.2.1, hC.2.2.2.2.2.2.2.2.2.2.2.2.2.2.2.1, hC.2.2.2.2.2.2.2.2.2.2.2.2.2.2.2.2.1, ↓ob (hS.1), ↓ob (hS.2.1), ↓ob (hS.2.2.1), ↓ob (hS.2.2.2.1), ↓ob (hS.2.2.2.2.1), ↓ob (hS.2.2.2.2.2.1), ↓ob (hS.2.2.2.2.2.2.1), ↓ob (hS.2.2.2.2.2.2.2.1), hS.2.2.2.2.2.2.2.2.1, hS.2.2.2.2.2.2.2.2.2.1, hS.2.2.2.2.2.2.2.2.2.2.1, hS.2.2.2.2.2.2.2.2.2.2.2.1, hS.2.2.2.2.2.2.2.2.2.2.2.2.1, hS.2.2.2.2.2.2.2.2.2.2.2.2.2.1, hS.2.2.2.2.2.2.2.2.2.2.2.2.2.2, ↓lt_e, ↓gd_e, ↓Option.bind_some, ↓reduceIte, if_true, if_false, if_pT, if_nF, decide_true, Bool.not_true, Bool.not_false, not_true_eq_false, not_false_eq_true, Bool.false_eq_true, Bool.true_eq_false, eq_self, n3_lit, n3_add, n3_mul, n3_sub, n3_tn, n3_le_t, n3_le_f, n3_lt_t, n3_lt_f, n3_eq_f, n3_eq_t, n3_inb, n3_rem, n3_div, n3_zb, bb_0, bb_1, zb_bb, bb_T, bb_F, e, ← n3_or]
    unfold pl
    by_cases h1 : F (25 + 6 * i + 3) = 1
    · simp (disch := omega) only [h1, c_placeBits, ↓lt_e, ↓gd_e, ↓Option.bind_some, ↓reduceIte, if_true, if_false, if_pT, if_nF, decide_true, Bool.not_true, Bool.not_false, not_true_eq_false, not_false_eq_true, Bool.false_eq_true, Bool.true_eq_false, eq_self, n3_lit, n3_add, n3_mul, n3_sub, n3_tn, n3_le_t, n3_le_f, n3_lt_t, n3_lt_f, n3_eq_f, n3_eq_t, n3_inb, n3_rem, n3_div, n3_zb, bb_0, bb_1, zb_bb, bb_T, bb_F]
    · simp (disch := omega) only [h1, ↓lt_e, ↓gd_e, ↓Option.bind_some, ↓reduceIte, if_true, if_false, if_pT, if_nF, decide_true, Bool.not_true, Bool.not_false, not_true_eq_false, not_false_eq_true, Bool.false_eq_true, Bool.true_eq_false, eq_self, n3_lit, n3_add, n3_mul, n3_sub, n3_tn, n3_le_t, n3_le_f, n3_lt_t, n3_lt_f, n3_eq_f, n3_eq_t, n3_inb, n3_rem, n3_div, n3_zb, bb_0, bb_1, zb_bb, bb_T, bb_F]
  · simp (disch := omega) only [jn_X9_takenPlaces_42, bd_X9_takenPlaces_4, hC.1, hC.2.1, hC.2.2.1, hC.2.2.2.1, hC.2.2.2.2.1, hC.2.2.2.2.2.1, hC.2.2.2.2.2.2.1, hC.2.2.2.2.2.2.2.1, hC.2.2.2.2.2.2.2.2.1, hC.2.2.2.2.2.2.2.2.2.1, hC.2.2.2.2.2.2.2.2.2.2.1, hC.2.2.2.2.2.2.2.2.2.2.2.1, hC.2.2.2.2.2.2.2.2.2.2.2.2.1, hC.2.2.2.2.2.2.2.2.2.2.2.2.2.1, hC.2.2.2.2.2.2.2.2.2.2.2.2.2.2.1, hC.2.2.2.2.2.2.2.2.2.2.2.2.2.2.2.1, hC.2.2.2.2.2.2.2.2.2.2.2.2.2.2.2.2.1, ↓lt_e, ↓gd_e, ↓Option.bind_some, ↓reduceIte, if_true, if_false, if_pT, if_nF, decide_true, Bool.not_true, Bool.not_false, not_true_eq_false, not_false_eq_true, Bool.false_eq_true, Bool.true_eq_false, eq_self, n3_lit, n3_add, n3_mul, n3_sub, n3_tn, n3_le_t, n3_le_f, n3_lt_t, n3_lt_f, n3_eq_f, n3_eq_t, n3_inb, n3_rem, n3_div, n3_zb, bb_0, bb_1, zb_bb, bb_T, bb_F]
def td (F : Nat → Nat) (n : Nat) : Nat := F (13 + (F 9 + n) % 12)
theorem r_tideIn {N : Nat} {Λ : Lay} {ad : Nat → Nat} {μ : Mem} {F : Nat → Nat} (hR : LyR Λ ad) (hW : Row μ (ad 182) 1222 F)  (n : Nat) (hn : n < 1000) (h9 : F 9 ≤ 9999) : m_X12_tideIn N Λ μ (ad 181) (n3 n) = some (n3 (td F n)) := by
  simp (disch := omega) only [m_X12_tideIn, ↓ob (hR.1), ↓ob (hR.2.1), ↓ob (hR.2.2.1), ↓ob (hR.2.2.2.1), ↓ob (hR.2.2.2.2.1), ↓ob (hR.2.2.2.2.2.1), ↓ob (hR.2.2.2.2.2.2.1), ↓ob (hR.2.2.2.2.2.2.2.1), ↓ob (hR.2.2.2.2.2.2.2.2.1), ↓ob (hR.2.2.2.2.2.2.2.2.2.1), ↓ob (hR.2.2.2.2.2.2.2.2.2.2.1), ↓ob (hR.2.2.2.2.2.2.2.2.2.2.2.1), ↓ob (hR.2.2.2.2.2.2.2.2.2.2.2.2.1), ↓ob (hR.2.2.2.2.2.2.2.2.2.2.2.2.2.1), ↓ob (hR.2.2.2.2.2.2.2.2.2.2.2.2.2.2.1), ↓ob (hR.2.2.2.2.2.2.2.2.2.2.2.2.2.2.2.1), ↓ob (hR.2.2.2.2.2.2.2.2.2.2.2.2.2.2.2.2.1), ↓ob (hR.2.2.2.2.2.2.2.2.2.2.2.2.2.2.2.2.2.1), hR.2.2.2.2.2.2.2.2.2.2.2.2.2.2.2.2.2.2.1, hR.2.2.2.2.2.2.2.2.2.2.2.2.2.2.2.2.2.2.2.1, hR.2.2.2.2.2.2.2.2.2.2.2.2.2.2.2.2.2.2.2.2.1, hR.2.2.2.2.2.2.2.2.2.2.2.2.2.2.2.2.2.2.2.2.2.1, hR.2.2.2.2.2.2.2.2.2.2.2.2.2.2.2.2.2.2.2.2.2.2.1, hR.2.2.2.2.2.2.2.2.2.2.2.2.2.2.2.2.2.2.2.2.2.2.2.1, hR.2.2.2.2.2.2.2.2.2.2.2.2.2.2.2.2.2.2.2.2.2.2.2.2.1, hR.2.2.2.2.2.2.2.2.2.2.2.2.2.2.2.2.2.2.2.2.2.2.2.2.2.1, hR.2.2.2.2.2.2.2.2.2.2.2.2.2.2.2.2.2.2.2.2.2.2.2.2.2.2.1, hR.2.2.2.2.2.2.2.2.2.2.2.2.2.2.2.2.2.2.2.2.2.2.2.2.2.2.2.1, hR.2.2.2.2.2.2.2.2.2.2.2.2.2.2.2.2.2.2.2.2.2.2.2.2.2.2.2.2.1, hR.2.2.2.2.2.2.2.2.2.2.2.2.2.2.2.2.2.2.2.2.2.2.2.2.2.2.2.2.2.1, hR.2.2.2.2.2.2.2.2.2.2.2.2.2.2.2.2.2.2.2.2.2.2.2.2.2.2.2.2.2.2.1, hR.2.2.2.2.2.2.2.2.2.2.2.2.2.2.2.2.2.2.2.2.2.2.2.2.2.2.2.2.2.2.2.1, hR.2.2.2.2.2.2.2.2.2.2.2.2.2.2.2.2.2.2.2.2.2.2.2.2.2.2.2.2.2.2.2.2.1, hR.2.2.2.2.2.2.2.2.2.2.2.2.2.2.2.2.2.2.2.2.2.2.2.2.2.2.2.2.2.2.2.2.2.1, hR.2.2.2.2.2.2.2.2.2.2.2.2.2.2.2.2.2.2.2.2.2.2.2.2.2.2.2.2.2.2.2.2.2.2.1, hR.2.2.2.2.2.2.2.2.2.2.2.2.2.2.2.2.2.2.2.2.2.2.2.2.2.2.2.2.2.2.2.2.2.2.2, hW, ↓lt_e, ↓gd_e, ↓Option.bind_some, ↓reduceIte, if_true, if_false, if_pT, if_nF, decide_true, Bool.not_true, Bool.not_false, not_true_eq_false, not_false_eq_true, Bool.false_eq_true, Bool.true_eq_false, eq_self, n3_lit, n3_add, n3_mul, n3_sub, n3_tn, n3_le_t, n3_le_f, n3_lt_t, n3_lt_f, n3_eq_f, n3_eq_t, n3_inb, n3_rem, n3_div, n3_zb, bb_0, bb_1, zb_bb, bb_T, bb_F, td]
theorem c_tideNow {N : Nat} {Λ : Lay} {ad : Nat → Nat} {σ : Nat} {μ : Mem} {F : Nat → Nat} (hS : LyS Λ ad σ) (hC : CS ad μ σ F)  (h9 : F 9 ≤ 9999) : m_X9_tideNow N Λ μ (ad σ) = some (n3 (td F 0)) := by
  simp (disch := omega) only [m_X9_tideNow, ↓ob (hS.1), ↓ob (hS.2.1), ↓ob (hS.2.2.1), ↓ob (hS.2.2.2.1), ↓ob (hS.2.2.2.2.1), ↓ob (hS.2.2.2.2.2.1), ↓ob (hS.2.2.2.2.2.2.1), ↓ob (hS.2.2.2.2.2.2.2.1), hS.2.2.2.2.2.2.2.2.1, hS.2.2.2.2.2.2.2.2.2.1, hS.2.2.2.2.2.2.2.2.2.2.1, hS.2.2.2.2.2.2.2.2.2.2.2.1, hS.2.2.2.2.2.2.2.2.2.2.2.2.1, hS.2.2.2.2.2.2.2.2.2.2.2.2.2.1, hS.2.2.2.2.2.2.2.2.2.2.2.2.2.2, hC.1, hC.2.1, hC.2.2.1, hC.2.2.2.1, hC.2.2.2.2.1, hC.2.2.2.2.2.1, hC.2.2.2.2.2.2.1, hC.2.2.2.2.2.2.2.1, hC.2.2.2.2.2.2.2.2.1, hC.2.2.2.2.2.2.2.2.2.1, hC.2.2.2.2.2.2.2.2.2.2.1, hC.2.2.2.2.2.2.2.2.2.2.2.1, hC.2.2.2.2.2.2.2.2.2.2.2.2.1, hC.2.2.2.2.2.2.2.2.2.2.2.2.2.1, hC.2.2.2.2.2.2.2.2.2.2.2.2.2.2.1, hC.2.2.2.2.2.2.2.2.2.2.2.2.2.2.2.1, hC.2.2.2.2.2.2.2.2.2.2.2.2.2.2.2.2.1, ↓lt_e, ↓gd_e, ↓Option.bind_some, ↓reduceIte, if_true, if_false, if_pT, if_nF, decide_true, Bool.not_true, Bool.not_false, not_true_eq_false, not_false_eq_true, Bool.false_eq_true, Bool.true_eq_false, eq_self, n3_lit, n3_add, n3_mul, n3_sub, n3_tn, n3_le_t, n3_le_f, n3_lt_t, n3_lt_f, n3_eq_f, n3_eq_t, n3_inb, n3_rem, n3_div, n3_zb, bb_0, bb_1, zb_bb, bb_T, bb_F, td, Nat.add_zero]
/-! searching, sets of bits -/
def ff (p : Nat → Bool) : Nat → Nat
  | 0 => 0
  | n + 1 => if ff p n < n then ff p n else if p n = true then n else n + 1
theorem ff_le (p : Nat → Bool) : ∀ n, ff p n ≤ n
  | 0 => Nat.le_refl 0
  | n + 1 => by
    have := ff_le p n
    unfold ff; split
    · omega
    · split <;> omega
theorem ff_no {p : Nat → Bool} : ∀ {n i : Nat}, i < ff p n → p i = false
  | 0, i, h => by simp [ff] at h
  | n + 1, i, h => by
    have hl := ff_le p n
    unfold ff at h
    split at h
    · exact ff_no h
    · next h1 =>
      split at h
      · exact ff_no (n := n) (by omega)
      · next h2 =>
        by_cases e : i = n
        · rw [e]; exact Bool.eq_false_iff.2 h2
        · exact ff_no (n := n) (by omega)
theorem ff_yes {p : Nat → Bool} : ∀ {n : Nat}, ff p n < n → p (ff p n) = true
  | 0, h => absurd h (by omega)
  | n + 1, h => by
    unfold ff at h ⊢
    split
    · next h1 => exact ff_yes h1
    · next h1 =>
      rw [if_neg h1] at h
      split
      · next h2 => exact h2
      · next h2 => rw [if_neg h2] at h; omega
theorem ff_eq {p : Nat → Bool} {n m : Nat} (hm : m ≤ n) (h0 : ∀ i, i < m → p i = false) (h1 : m = n ∨ p m = true) : ff p n = m := by
  rcases Nat.lt_trichotomy (ff p n) m with h | h | h
  · have := ff_yes (p := p) (n := n) (by omega)
    rw [h0 _ h] at this; cases this
  · exact h
  · have hl := ff_le p n
    rcases h1 with h1 | h1
    · omega
    · rw [ff_no h] at h1; cases h1
theorem ff_congr {p q : Nat → Bool} {n : Nat} (h : ∀ i, i < n → p i = q i) : ff p n = ff q n := by
  refine ff_eq (ff_le q n) (fun i hi => ?_) ?_
  · rw [h i (by have := ff_le q n; omega)]; exact ff_no hi
  · by_cases e : ff q n = n
    · exact Or.inl e
    · have := ff_le q n
      right; rw [h _ (by omega)]; exact ff_yes (by omega)
/-- none: the number of -1 -/
def nf (k n : Nat) : Nat := if k < n then k else 4294967295
theorem nf_lt (k : Nat) {n : Nat} (h : n < 4294967296) : nf k n < 4294967296 := by unfold nf; split <;> omega
def dn (p : Nat → Bool) (n : Nat) : Nat → Nat
  | 0 => 4294967295
  | i + 1 => if p (n - (i + 1)) = true then n - (i + 1) else dn p n i
theorem dn_s (p : Nat → Bool) (n i : Nat) : dn p n (i + 1) = if p (n - (i + 1)) = true then n - (i + 1) else dn p n i := rfl
theorem dn_spec (p : Nat → Bool) (n : Nat) : ∀ i, i ≤ n → ((∀ j, n - i ≤ j → j < n → p j = false) ∧ dn p n i = 4294967295) ∨ (n - i ≤ dn p n i ∧ dn p n i < n ∧ p (dn p n i) = true ∧ ∀ j, n - i ≤ j → j < dn p n i → p j = false)
  | 0, _ => Or.inl ⟨fun j h1 h2 => by omega, rfl⟩
  | i + 1, h => by
    have ih := dn_spec p n i (by omega)
    unfold dn
    split
    · next hp => exact Or.inr ⟨by omega, by omega, hp, fun j h1 h2 => by omega⟩
    · next hp =>
      have hp' : p (n - (i + 1)) = false := Bool.eq_false_iff.2 hp
      rcases ih with ⟨h1, h2⟩ | ⟨h1, h2, h3, h4⟩
      · refine Or.inl ⟨fun j hj1 hj2 => ?_, h2⟩
        by_cases e : j = n - (i + 1)
        · rw [e]; exact hp'
        · exact h1 j (by omega) hj2
      · refine Or.inr ⟨by omega, h2, h3, fun j hj1 hj2 => ?_⟩
        by_cases e : j = n - (i + 1)
        · rw [e]; exact hp'
        · exact h4 j (by omega) hj2
theorem dn_ff (p : Nat → Bool) (n : Nat) : dn p n n = nf (ff p n) n := by
  rcases dn_spec p n n (Nat.le_refl n) with ⟨h1, h2⟩ | ⟨h1, h2, h3, h4⟩
  · rw [h2, ff_eq (Nat.le_refl n) (fun i hi => h1 i (by omega) hi) (Or.inl rfl)]
    exact (if_neg (Nat.lt_irrefl n)).symm
  · rw [ff_eq (m := dn p n n) (by omega) (fun i hi => h4 i (by omega) hi) (Or.inr h3)]
    exact (if_pos h2).symm
def sb (p : Nat → Bool) : Nat → Nat
  | 0 => 0
  | n + 1 => sb p n ||| (if p n = true then 2 ^ n else 0)
theorem sb_s (p : Nat → Bool) (n : Nat) : sb p (n + 1) = sb p n ||| (if p n = true then 2 ^ n else 0) := rfl
theorem sb_lt (p : Nat → Bool) : ∀ n, sb p n < 2 ^ n
  | 0 => by show (0 : Nat) < 1; decide
  | n + 1 => by
    have h := sb_lt p n
    have e : 2 ^ n < 2 ^ (n + 1) := Nat.pow_lt_pow_right (by decide) (by omega)
    refine Nat.or_lt_two_pow (by omega) ?_
    split
    · exact e
    · exact Nat.two_pow_pos _
theorem sb_bit (p : Nat → Bool) : ∀ n k, (sb p n).testBit k = (decide (k < n) && p k)
  | 0, k => by simp [sb]
  | n + 1, k => by
    unfold sb
    rw [Nat.testBit_or, sb_bit p n k]
    by_cases e : k = n
    · subst e; by_cases h : p k = true <;> simp [h, Nat.testBit_two_pow_self]
    · have e2 : (decide (k < n + 1)) = decide (k < n) := by
        by_cases h : k < n
        · simp [h]; omega
        · simp [h]; omega
      rw [e2]
      by_cases h : p n = true
      · rw [if_pos h, Nat.testBit_two_pow_of_ne (Ne.symm e), Bool.or_false]
      · rw [if_neg h, Nat.zero_testBit, Bool.or_false]
theorem sb_congr {p q : Nat → Bool} : ∀ {n : Nat}, (∀ i, i < n → p i = q i) → sb p n = sb q n
  | 0, _ => rfl
  | n + 1, h => by unfold sb; rw [sb_congr (fun i hi => h i (by omega)), h n (by omega)]
/-! differences -/
theorem n3_sub_toInt {a b : Nat} (ha : a < 1073741824) (hb : b < 1073741824) : (n3 a - n3 b).toInt = (a : Int) - b := by
  rw [Int32.toInt_sub, n3_toInt (by omega), n3_toInt (by omega)]
  exact Int.bmod_eq_of_le (by omega) (by omega)
theorem n3_even {a b : Nat} (ha : a ≤ 1000) (hb : b ≤ 1000) : (iabs (n3 a - n3 b) ≤ n3 1) = (a ≤ b + 1 ∧ b ≤ a + 1) := by
  apply propext
  unfold iabs
  have hs := n3_sub_toInt (a := a) (b := b) (by omega) (by omega)
  have h0 : (0 : Int32).toInt = 0 := rfl
  split
  · next h => rw [Int32.le_iff_toInt_le, hs, h0] at h; rw [Int32.le_iff_toInt_le, n3_toInt (by omega), n3_sub_toInt (by omega) (by omega)]; omega
  · next h => rw [Int32.le_iff_toInt_le, hs, h0] at h; rw [n3_lit 0, Int32.le_iff_toInt_le, n3_toInt (by omega), Int32.toInt_sub, n3_toInt (by omega), n3_sub_toInt (by omega) (by omega), Int.bmod_eq_of_le (by omega) (by omega)]; omega
theorem n3_odd {a b : Nat} (ha : a ≤ 1000) (hb : b ≤ 1000) : (n3 1 < iabs (n3 a - n3 b)) = ¬ (a ≤ b + 1 ∧ b ≤ a + 1) := by
  rw [← n3_even ha hb, Int32.not_le]
theorem n3_ssub (a b : Int32) : a - (a - b) = b := Int32.toBitVec_inj.1 (by apply BitVec.eq_of_toNat_eq; have h1 := a.toBitVec.isLt; have h2 := b.toBitVec.isLt; simp only [Int32.toBitVec_sub, BitVec.toNat_sub]; omega)
theorem n3_subs {a b c d : Nat} (h : a + d = c + b) : n3 a - n3 b = n3 c - n3 d := by
  have e : n3 a + n3 d = n3 c + n3 b := by rw [n3_add, n3_add, h]
  grind
theorem n3_subc {a b c : Nat} (h : a = c + b) : n3 a - n3 b = n3 c := by rw [h, n3_sub (by omega), Nat.add_sub_cancel]
theorem n3_imin {a b : Nat} (ha : a < 2147483648) (hb : b < 2147483648) : imin (n3 a) (n3 b) = n3 (min a b) := by
  unfold imin; simp only [n3_lt_c hb ha]; split <;> congr 1 <;> omega
theorem n3_imax {a b : Nat} (ha : a < 2147483648) (hb : b < 2147483648) : imax (n3 a) (n3 b) = n3 (max a b) := by
  unfold imax; simp only [n3_lt_c ha hb]; split <;> congr 1 <;> omega
theorem n3_imax1 {b : Nat} (hb : b < 2147483648) : imax (n3 b) (n3 4294967295) = n3 b := by
  unfold imax
  rw [if_neg]
  rw [Int32.lt_iff_toInt_lt, n3_toInt hb]
  have : (n3 4294967295).toInt = -1 := by decide
  omega
theorem n3_neg_lt {b : Nat} (hb : b < 2147483648) : (n3 4294967295 < n3 b) = True := by
  rw [Int32.lt_iff_toInt_lt, n3_toInt hb]
  have : (n3 4294967295).toInt = -1 := by decide
  exact eq_true (by omega)
theorem n3_nlt_neg {b : Nat} (hb : b < 2147483648) : (n3 b < n3 4294967295) = False := by
  rw [Int32.lt_iff_toInt_lt, n3_toInt hb]
  have : (n3 4294967295).toInt = -1 := by decide
  exact eq_false (by omega)
theorem n3_nle_neg {b : Nat} (hb : b < 2147483648) : (n3 b ≤ n3 4294967295) = False := by
  rw [Int32.le_iff_toInt_le, n3_toInt hb]
  have : (n3 4294967295).toInt = -1 := by decide
  exact eq_false (by omega)
theorem n3_neg_le {b : Nat} (hb : b < 2147483648) : (n3 4294967295 ≤ n3 b) = True := by
  rw [Int32.le_iff_toInt_le, n3_toInt hb]
  have : (n3 4294967295).toInt = -1 := by decide
  exact eq_true (by omega)
theorem n3_dec (a : Nat) : n3 a + -n3 1 = n3 a - n3 1 := (Int32.sub_eq_add_neg _ _).symm
theorem n3_m1 : n3 0 - n3 1 = n3 4294967295 := by decide
theorem n3_eqm {a : Nat} (h : a < 4294967295) : (n3 a = -n3 1) = False := by rw [n3_neg1, n3_eq_f (by omega) (by omega) (by omega)]
theorem n3_eqmt : (n3 4294967295 = -n3 1) = True := by rw [n3_neg1]; exact eq_self _
theorem n3_ltm {a : Nat} (h : a < 2147483648) : (n3 a < -n3 1) = False := by rw [n3_neg1, n3_nlt_neg h]
theorem n3_mlt {a : Nat} (h : a < 2147483648) : (-n3 1 < n3 a) = True := by rw [n3_neg1, n3_neg_lt h]
theorem n3_lem {a : Nat} (h : a < 2147483648) : (n3 a ≤ -n3 1) = False := by rw [n3_neg1, n3_nle_neg h]
theorem n3_mle {a : Nat} (h : a < 2147483648) : (-n3 1 ≤ n3 a) = True := by rw [n3_neg1, n3_neg_le h]
def bc (v : Int32) : Int32 := (m_XI_bitCount 0 ([], fun _ => 0, fun _ _ => none, fun _ => 0, fun _ => 0, (fun _ => 0, fun _ _ => 0), fun _ => 0) (fun _ _ => 0, fun _ _ => 0) v).getD 0
theorem r_bc {N : Nat} {Λ : Lay} {μ : Mem} (v : Int32) : m_XI_bitCount N Λ μ v = some (bc v) := rfl

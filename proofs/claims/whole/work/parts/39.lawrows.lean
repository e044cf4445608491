def wc (x : Ctx) (c d : Nat) : Ctx := (x.1, x.2.1, x.2.2.1, xR x, xs x, xm x, xa x, xb x, xM x, xc x, c, d)
def SCx (x : Ctx) (Λ : Lay) (b L : Nat) (sc : Nat → Int32) : Prop := va_X b L sc (xs x) (xs x).heap ∧ b < (xs x).heap.size ∧ ¬ AL Λ (xs x).heap.size b ∧ xa x = #[Value.ref b]
theorem hk_room {x : Ctx} {a b K M : Nat} {rm : Room} (h : xk x + a ≤ K ∧ xl x + b ≤ M) (hKM : K ≤ rm.cells ∧ M ≤ rm.slots) : xk x + a ≤ rm.cells ∧ xl x + b ≤ rm.slots := ⟨Nat.le_trans h.1 hKM.1, Nat.le_trans h.2 hKM.2⟩
section JL
variable {x : Ctx} {cc : ByteArray} {nL : Nat} {ret : Option FieldType} {own : String} {Λ : Lay} {rm : Room} {Q : State → Prop} {pc : Nat} {lv lv' : List (Nat × Value)} {st stk : List Value} {μ μ1 : Mem}
theorem j_sld (C : Cx x cc nL ret own Λ rm) {b L : Nat} {sc : Nat → Int32} (hS : SCx x Λ b L sc) {i : Int32} (hi : inb i L = true) (hd : decode cc pc = .ok (.iaload, 1)) (K : J x nL Λ Q (pc + 1) lv (.int (sc i.toNatClampNeg) :: st) μ) : J x nL Λ Q pc lv (.int i :: .ref b :: st) μ := fun H locs ls hw hl => va_sld C.1 C.2.1 hS.1 hS.2.1 hS.2.2.1 hw.2.2 (inb_in hi) hd (K H locs ls hw hl)
theorem j_slen (C : Cx x cc nL ret own Λ rm) {b L : Nat} {sc : Nat → Int32} (hS : SCx x Λ b L sc) (hd : decode cc pc = .ok (.arraylength, 1)) (K : J x nL Λ Q (pc + 1) lv (.int (Int32.ofNat L) :: st) μ) : J x nL Λ Q pc lv (.ref b :: st) μ := fun H locs ls hw hl => va_slen C.1 C.2.1 hS.1 hS.2.1 hS.2.2.1 hw.2.2 hd (K H locs ls hw hl)
/-- the law's end with 1 -/
theorem jl_ret (C : Cx x cL_law_ 7 (some .boolean) own Λ room_1) {b L : Nat} {sc : Nat → Int32} (hS : SCx x Λ b L sc) (hAL : ∀ q ∈ aL Λ, (xs x).heap.size ≤ q) {K M n m : Nat} (hKM : K ≤ room_1.cells ∧ M ≤ room_1.slots) (hk : xk x + n ≤ K ∧ xl x + m ≤ M) (hd : decode cL_law_ pc = .ok (.ireturn, 1)) : J x 7 Λ (lw_Z (xb x) (xa x) (xs x)) pc lv [.int 1] μ := by
  intro H locs ls hw hl
  have hRR : xR x = room_1 := C.2.2.2.2.2.2.2.2.2.1
  refine va_forget (fun q hq => ?_) ?_
  · rcases hw.2.2.2.2 q hq with h | h
    · exact hAL _ h
    · exact h
  refine W.widen (k := 601024) (n := 7293034) ?_ ?_ ?_
  · have := Nat.le_trans hk.1 hKM.1
    have h2 : room_1.cells = 601024 := rfl
    omega
  · have := Nat.le_trans hk.2 hKM.2
    have h2 : room_1.slots = 7293034 := rfl
    omega
  rw [hRR, hS.2.2.2]
  exact lw_ret C.1 C.2.1 C.2.2.1 C.2.2.2.2.2.2.1 hd
/-- the law's loop, out of one turn of it: each makes 3 cells at most -/
theorem law_loop {N : Nat} {L : Nat} {sc : Nat → Int32} {v0 v1 v2 v3 : Nat} (C : Cx x cL_law_ 7 (some .boolean) RL Λ room_1) (hS : SCx x Λ v0 L sc) (hst : x.2.1.stackTraces = false) (hAL : ∀ q ∈ aL Λ, (xs x).heap.size ≤ q) (hv1 : inL Λ v1 10) (hv2 : inL Λ v2 11) (hv3 : inL Λ v3 14)
    {stp : (Int32 × Mem → Option Int32) → Int32 × Mem → Option Int32}
    (hb : ∀ (y : Ctx), Cx y cL_law_ 7 (some .boolean) RL Λ room_1 → SCx y Λ v0 L sc → y.2.1.stackTraces = false → (∀ q ∈ aL Λ, (xs y).heap.size ≤ q) → ∀ (K M : Nat), K ≤ room_1.cells ∧ M ≤ room_1.slots → xk y + 3 ≤ K ∧ xl y + 18 ≤ M → ∀ (k : Int32 × Mem → Option Int32), (∀ (s : Int32 × Mem), k s = some 1 → ∀ (c d : Nat), c ≤ K → d ≤ M → J (wc y c d) 7 Λ (lw_Z (xb y) (xa y) (xs y)) 23 [(0, .ref v0), (1, .ref v1), (2, .ref v2), (3, .ref v3), (4, .int s.1)] [] s.2) → ∀ (s : Int32 × Mem), stp k s = some 1 → J y 7 Λ (lw_Z (xb y) (xa y) (xs y)) 23 [(0, .ref v0), (1, .ref v1), (2, .ref v2), (3, .ref v3), (4, .int s.1)] [] s.2) :
    ∀ (n : Nat) (s : Int32 × Mem) (c d : Nat), c + 3 * n ≤ room_1.cells → d + 18 * n ≤ room_1.slots → cw stp n s = some 1 → J (wc x c d) 7 Λ (lw_Z (xb x) (xa x) (xs x)) 23 [(0, .ref v0), (1, .ref v1), (2, .ref v2), (3, .ref v3), (4, .int s.1)] [] s.2 := by
  intro n
  induction n with
  | zero => intro s c d _ _ h; cases h
  | succ n ih =>
    intro s c d hc hd h
    have hC : Cx (wc x c d) cL_law_ 7 (some .boolean) RL Λ room_1 := by
      obtain ⟨h1, h2, h3, h4, h5, h6, h7, h8, h9, h10, -, -⟩ := C
      exact ⟨h1, h2, h3, h4, h5, h6, h7, h8, h9, h10, by show c ≤ _; omega, by show d ≤ _; omega⟩
    refine hb (wc x c d) hC hS hst hAL (c + 3) (d + 18) ⟨by omega, by omega⟩ ⟨Nat.le_refl _, Nat.le_refl _⟩ (cw stp n) ?_ s h
    intro s2 h2 c2 d2 hc2 hd2
    exact ih s2 c2 d2 (by omega) (by omega) h2
end JL

def ClF (ci : Nat) (Cn : String) (T : u_T) (N : Nat) : Prop := vwCl[ci]? = some (Cn, T, N) ∧ (∀ w ∈ u_ws Cn T N, w ∈ GW) ∧ ci < 12
def FL (own : String) (idx : Nat) (T : u_T) (k : Nat) : Prop := ∃ ref, Cond.fieldLink own idx ref (T k).2.1 (T k).2.2.1 ∈ GW ∧ (ref = (T k).1 ∨ Cond.sameField ref (T k).1 (T k).2.1 (T k).2.2.1 ∈ GW)
def FG (own : String) (idx ci k : Nat) (b : Bool) : Prop := ∃ (Cn : String) (T : u_T) (N : Nat), ClF ci Cn T N ∧ k < N ∧ (fty ci)[k]? = some b ∧ FL own idx T k
def FP (own : String) (idx ci k : Nat) (ty : FieldType) : Prop := ∃ (Cn : String) (T : u_T) (N : Nat) (tyf : Nat → FieldType), ClF ci Cn T N ∧ k < N ∧ (fty ci)[k]? = some true ∧ FL own idx T k ∧ (∀ k, k < N → parseFieldDescriptor (T k).2.2.1 = some (tyf k)) ∧ (∀ a, a < N → ∀ b, b < N → a ≠ b → (T a).2.1 ≠ (T b).2.1) ∧ (T k).2.2.2 = false ∧ parseFieldDescriptor (T k).2.2.1 = some ty
section JF
variable {x : Ctx} {cc : ByteArray} {nL : Nat} {ret : Option FieldType} {own : String} {Λ : Lay} {rm : Room} {Q : State → Prop} {pc : Nat} {lv lv' : List (Nat × Value)} {st : List Value} {μ μ1 : Mem}
theorem FL_same {idx k : Nat} {T : u_T} {ref : String} {s : State} {args : Array Value} (hts : ∀ w ∈ GW, w.before args s = true) (h : ref = (T k).1 ∨ Cond.sameField ref (T k).1 (T k).2.1 (T k).2.2.1 ∈ GW) : ∀ z, s.fieldFound? (T k).1 (T k).2.1 (T k).2.2.1 = some z → s.fieldFound? ref (T k).2.1 (T k).2.2.1 = some z := by
  intro z hz
  rcases h with h | h
  · rw [h]; exact hz
  · exact u_same (hts _ h) z hz
theorem j_getI (C : Cx x cc nL ret own Λ rm) {idx ci k : Nat} (F : FG own idx ci k true) {a : Nat} (ha : inL Λ a ci) (hd : decode cc pc = .ok (.getfield idx, 3)) (K : J x nL Λ Q (pc + 3) lv (.int (μ.1 a k) :: st) μ) : J x nL Λ Q pc lv (.ref a :: st) μ := by
  intro H locs ls hw hl
  obtain ⟨Cn, T, N, F, hk, hf, ref, hlink, hsame⟩ := F
  obtain ⟨q0, hq⟩ := pool_at (μ := μ) ha.1
  rw [ent_ob ha.2 F.2.2] at hq
  have hv := fls_int Λ μ a (fty ci) 0 k hf
  rw [Nat.zero_add] at hv
  exact va_get (D := aD Λ) (ci := ci) (C := Cn) (T := T) (N := N) C.1 C.2.1 C.2.2.2.2.2.1 F.2.1 C.2.2.2.2.1 C.2.2.2.2.2.2.2.1 hw.1 q0 hq F.1 k hk (C.2.2.2.2.2.1 _ hlink) (FL_same (idx := idx) C.2.2.2.2.2.1 hsame) hv hd (K H locs ls hw hl)
theorem j_getR (C : Cx x cc nL ret own Λ rm) {idx ci k : Nat} (F : FG own idx ci k false) {a q : Nat} (ha : inL Λ a ci) (hr : aR Λ a k = some q) (hd : decode cc pc = .ok (.getfield idx, 3)) (K : J x nL Λ Q (pc + 3) lv (.ref q :: st) μ) : J x nL Λ Q pc lv (.ref a :: st) μ := by
  intro H locs ls hw hl
  obtain ⟨Cn, T, N, F, hk, hf, ref, hlink, hsame⟩ := F
  obtain ⟨q0, hq⟩ := pool_at (μ := μ) ha.1
  rw [ent_ob ha.2 F.2.2] at hq
  have hv := fls_ref Λ μ a (fty ci) 0 k hf
  rw [Nat.zero_add, hr] at hv
  exact va_get (D := aD Λ) (ci := ci) (C := Cn) (T := T) (N := N) C.1 C.2.1 C.2.2.2.2.2.1 F.2.1 C.2.2.2.2.1 C.2.2.2.2.2.2.2.1 hw.1 q0 hq F.1 k hk (C.2.2.2.2.2.1 _ hlink) (FL_same (idx := idx) C.2.2.2.2.2.1 hsame) hv hd (K H locs ls hw hl)
theorem Wd_set {H H1 : Heap} {locs locs1 : List Loc} {a q0 : Nat} {e : va_E} (hw : Wd x Λ μ H locs) (ha : a ∈ aL Λ) (hq : (pool Λ μ)[q0]? = some (a, ent Λ μ a)) (he : ∀ b, va_up (ent Λ μ) a e b = ent Λ μ1 b) (hP : va_P (aD Λ) vwCl ((pool Λ μ).set q0 (a, e)) H1) (hD : va_D (AL Λ (xs x).heap.size) ((pool Λ μ).set q0 (a, e))) (hS : va_S (AL Λ (xs x).heap.size) (xs x).heap H1 locs1) : Wd x Λ μ1 H1 locs1 := by
  have e1 := pool_set (μ' := μ1) hw.2.1 ha hq he
  rw [e1] at hP hD
  exact ⟨hP, hD, hS⟩
theorem put_core (C : Cx x cc nL ret own Λ rm) {idx ci k : Nat} {ty : FieldType} (F : FP own idx ci k ty) {a : Nat} {v : Int32} (hn : narrow ty (.int v) = .int v) (hfit : fits ty (.int v) = true) (ha : inL Λ a ci) (he : μ1 = mset μ a k v) (hd : decode cc pc = .ok (.putfield idx, 3)) (K : J x nL Λ Q (pc + 3) lv st μ1) : J x nL Λ Q pc lv (.int v :: .ref a :: st) μ := by
  intro H locs ls hw hl
  subst he
  obtain ⟨Cn, T, N, tyf, F, hk, hf, ⟨ref, hlink, hsame⟩, hty, hnm, hfin, hpd⟩ := F
  obtain ⟨q0, hq0⟩ := pool_at (μ := μ) ha.1
  have hq := hq0
  rw [ent_ob ha.2 F.2.2] at hq
  refine va_put (D := aD Λ) (ci := ci) (C := Cn) (T := T) (N := N) (ty := ty) (v := .int v) C.1 C.2.1 C.2.2.2.2.2.1 F.2.1 tyf hty hnm C.2.2.2.2.1 C.2.2.2.2.2.2.2.1 hw.1 hw.2.1 hw.2.2 q0 hq F.1 k hk (C.2.2.2.2.2.1 _ hlink) (FL_same (idx := idx) C.2.2.2.2.2.1 hsame) hfin hpd hn hfit (by rw [fls_len]; exact (List.getElem?_eq_some_iff.mp hf).1) hd (fun H1 locs1 hP hD hS => ?_)
  refine K H1 locs1 ls (Wd_set hw ha.1 hq0 (ent_up ?_ mset_off) hP hD hS) hl
  rw [ent_ob ha.2 F.2.2, fls_set Λ μ a v (fty ci) 0 k hf, Nat.zero_add]
theorem j_putI (C : Cx x cc nL ret own Λ rm) {idx ci k : Nat} (F : FP own idx ci k .int) {a : Nat} {v : Int32} (ha : inL Λ a ci) (he : μ1 = mset μ a k v) (hd : decode cc pc = .ok (.putfield idx, 3)) (K : J x nL Λ Q (pc + 3) lv st μ1) : J x nL Λ Q pc lv (.int v :: .ref a :: st) μ := put_core C F (vp_nar_int v) rfl ha he hd K
theorem j_putZ (C : Cx x cc nL ret own Λ rm) {idx ci k : Nat} (F : FP own idx ci k .boolean) {a : Nat} {v : Int32} (hz : zb v = true) (ha : inL Λ a ci) (he : μ1 = mset μ a k v) (hd : decode cc pc = .ok (.putfield idx, 3)) (K : J x nL Λ Q (pc + 3) lv st μ1) : J x nL Λ Q pc lv (.int v :: .ref a :: st) μ := by
  have h : v = 0 ∨ v = 1 := of_decide_eq_true hz
  refine put_core C F ?_ ?_ ha he hd K
  · rcases h with rfl | rfl <;> rfl
  · rcases h with rfl | rfl <;> rfl
theorem j_iald (C : Cx x cc nL ret own Λ rm) {a : Nat} {i : Int32} (ha : inL Λ a 13) (hi : inb i (aZ Λ a) = true) (hd : decode cc pc = .ok (.iaload, 1)) (K : J x nL Λ Q (pc + 1) lv (.int (μ.1 a i.toNatClampNeg) :: st) μ) : J x nL Λ Q pc lv (.int i :: .ref a :: st) μ := by
  intro H locs ls hw hl
  obtain ⟨q0, hq⟩ := pool_at (μ := μ) ha.1
  rw [ent_13 ha.2] at hq
  exact va_iald C.1 C.2.1 C.2.2.2.2.2.2.2.1 hw.1 q0 1 hq rfl (inb_in hi) hd (K H locs ls hw hl)
theorem j_bald (C : Cx x cc nL ret own Λ rm) {a : Nat} {i : Int32} (ha : inL Λ a 12) (hi : inb i (aZ Λ a) = true) (hd : decode cc pc = .ok (.baload, 1)) (K : J x nL Λ Q (pc + 1) lv (.int (μ.1 a i.toNatClampNeg) :: st) μ) : J x nL Λ Q pc lv (.int i :: .ref a :: st) μ := by
  intro H locs ls hw hl
  obtain ⟨q0, hq⟩ := pool_at (μ := μ) ha.1
  rw [ent_12 ha.2] at hq
  exact va_bald C.1 C.2.1 C.2.2.2.2.2.2.2.1 hw.1 q0 0 hq rfl (inb_in hi) hd (K H locs ls hw hl)
theorem j_zald (C : Cx x cc nL ret own Λ rm) {a : Nat} {i : Int32} (ha : inL Λ a 15) (hi : inb i (aZ Λ a) = true) (hd : decode cc pc = .ok (.baload, 1)) (K : J x nL Λ Q (pc + 1) lv (.int (μ.1 a i.toNatClampNeg) :: st) μ) : J x nL Λ Q pc lv (.int i :: .ref a :: st) μ := by
  intro H locs ls hw hl
  obtain ⟨q0, hq⟩ := pool_at (μ := μ) ha.1
  rw [ent_15 ha.2] at hq
  exact va_zald C.1 C.2.1 C.2.2.2.2.2.2.2.1 hw.1 q0 3 hq rfl (inb_in hi) hd (K H locs ls hw hl)
theorem j_lald (C : Cx x cc nL ret own Λ rm) {a : Nat} {i : Int32} (ha : inL Λ a 14) (hi : inb i (aZ Λ a) = true) (hd : decode cc pc = .ok (.laload, 1)) (K : J x nL Λ Q (pc + 1) lv (.long (μ.2 a i.toNatClampNeg) :: st) μ) : J x nL Λ Q pc lv (.int i :: .ref a :: st) μ := by
  intro H locs ls hw hl
  obtain ⟨q0, hq⟩ := pool_at (μ := μ) ha.1
  rw [ent_14 ha.2] at hq
  exact va_lald C.1 C.2.1 C.2.2.2.2.2.2.2.1 hw.1 q0 2 hq rfl (inb_in hi) hd (K H locs ls hw hl)
theorem j_aald (C : Cx x cc nL ret own Λ rm) {a q : Nat} {i : Int32} (ha : inL Λ a 16) (hi : inb i (aZ Λ a) = true) (hr : aR Λ a i.toNatClampNeg = some q) (hd : decode cc pc = .ok (.aaload, 1)) (K : J x nL Λ Q (pc + 1) lv (.ref q :: st) μ) : J x nL Λ Q pc lv (.int i :: .ref a :: st) μ := by
  intro H locs ls hw hl
  obtain ⟨q0, hq⟩ := pool_at (μ := μ) ha.1
  rw [ent_16 ha.2] at hq
  refine va_aldq C.1 C.2.1 C.2.2.2.2.2.2.2.1 hw.1 q0 4 hq rfl (inb_in hi) hd ?_
  rw [hr]
  exact K H locs ls hw hl
theorem j_iast (C : Cx x cc nL ret own Λ rm) {a : Nat} {i v : Int32} (ha : inL Λ a 13) (hi : inb i (aZ Λ a) = true) (he : μ1 = mset μ a i.toNatClampNeg v) (hd : decode cc pc = .ok (.iastore, 1)) (K : J x nL Λ Q (pc + 1) lv st μ1) : J x nL Λ Q pc lv (.int v :: .int i :: .ref a :: st) μ := by
  intro H locs ls hw hl
  subst he
  obtain ⟨q0, hq0⟩ := pool_at (μ := μ) ha.1
  have hq := hq0
  rw [ent_13 ha.2] at hq
  refine va_iast C.1 C.2.1 C.2.2.2.2.2.2.2.1 hw.1 hw.2.1 hw.2.2 q0 1 hq rfl (inb_in hi) hd (fun H1 locs1 hP hD hS => ?_)
  refine K H1 locs1 ls (Wd_set hw ha.1 hq0 (ent_up ?_ mset_off) hP hD hS) hl
  rw [ent_13 ha.2, mset_at]
theorem j_bast (C : Cx x cc nL ret own Λ rm) {a : Nat} {i v : Int32} (ha : inL Λ a 12) (hi : inb i (aZ Λ a) = true) (he : μ1 = mset μ a i.toNatClampNeg (v.toInt8.toInt32)) (hd : decode cc pc = .ok (.bastore, 1)) (K : J x nL Λ Q (pc + 1) lv st μ1) : J x nL Λ Q pc lv (.int v :: .int i :: .ref a :: st) μ := by
  intro H locs ls hw hl
  subst he
  obtain ⟨q0, hq0⟩ := pool_at (μ := μ) ha.1
  have hq := hq0
  rw [ent_12 ha.2] at hq
  refine va_bast C.1 C.2.1 C.2.2.2.2.2.2.2.1 hw.1 hw.2.1 hw.2.2 q0 0 hq rfl (inb_in hi) hd (fun H1 locs1 hP hD hS => ?_)
  refine K H1 locs1 ls (Wd_set hw ha.1 hq0 (ent_up ?_ mset_off) hP hD hS) hl
  rw [ent_12 ha.2, mset_at, vp_nar_byte]
theorem j_zast (C : Cx x cc nL ret own Λ rm) {a : Nat} {i v : Int32} (ha : inL Λ a 15) (hi : inb i (aZ Λ a) = true) (he : μ1 = mset μ a i.toNatClampNeg (v &&& 1)) (hd : decode cc pc = .ok (.bastore, 1)) (K : J x nL Λ Q (pc + 1) lv st μ1) : J x nL Λ Q pc lv (.int v :: .int i :: .ref a :: st) μ := by
  intro H locs ls hw hl
  subst he
  obtain ⟨q0, hq0⟩ := pool_at (μ := μ) ha.1
  have hq := hq0
  rw [ent_15 ha.2] at hq
  refine va_zast C.1 C.2.1 C.2.2.2.2.2.2.2.1 hw.1 hw.2.1 hw.2.2 q0 3 hq rfl (inb_in hi) hd (fun H1 locs1 hP hD hS => ?_)
  refine K H1 locs1 ls (Wd_set hw ha.1 hq0 (ent_up ?_ mset_off) hP hD hS) hl
  rw [ent_15 ha.2, mset_at]
  rfl
theorem j_last (C : Cx x cc nL ret own Λ rm) {a : Nat} {i : Int32} {v : Int64} (ha : inL Λ a 14) (hi : inb i (aZ Λ a) = true) (he : μ1 = msetL μ a i.toNatClampNeg v) (hd : decode cc pc = .ok (.lastore, 1)) (K : J x nL Λ Q (pc + 1) lv st μ1) : J x nL Λ Q pc lv (.long v :: .int i :: .ref a :: st) μ := by
  intro H locs ls hw hl
  subst he
  obtain ⟨q0, hq0⟩ := pool_at (μ := μ) ha.1
  have hq := hq0
  rw [ent_14 ha.2] at hq
  refine va_last C.1 C.2.1 C.2.2.2.2.2.2.2.1 hw.1 hw.2.1 hw.2.2 q0 2 hq rfl (inb_in hi) hd (fun H1 locs1 hP hD hS => ?_)
  refine K H1 locs1 ls (Wd_set hw ha.1 hq0 (ent_up ?_ msetL_off) hP hD hS) hl
  rw [ent_14 ha.2, show (msetL μ a i.toNatClampNeg v).2 a = vp_updL (μ.2 a) i.toNatClampNeg v from va_up_self _ _ _]
theorem j_topi {a b : Int32} (h : b = a) (K : J x nL Λ Q pc lv (.int b :: st) μ) : J x nL Λ Q pc lv (.int a :: st) μ := by rw [← h]; exact K
theorem j_topl {a b : Int64} (h : b = a) (K : J x nL Λ Q pc lv (.long b :: st) μ) : J x nL Λ Q pc lv (.long a :: st) μ := by rw [← h]; exact K
theorem j_ireti (C : Cx x cc nL (some .int) own Λ rm) {v : Int32} (hd : decode cc pc = .ok (.ireturn, 1)) : J x nL Λ (QI x Λ v μ) pc lv [.int v] μ := by
  intro H locs ls hw hl
  exact W.iret C.1 C.2.1 C.2.2.1 (fun t ht hW => ⟨⟨v, (), rfl, rfl, by show va_P (aD Λ) vwCl (pool Λ μ) t.heap; rw [ht]; exact hw.1⟩, hw.2.2.F ht⟩) hw.2.2.2.2 hd C.2.2.2.2.2.2.1
theorem j_iretz (C : Cx x cc nL (some .boolean) own Λ rm) {v : Int32} (hz : zb v = true) (hd : decode cc pc = .ok (.ireturn, 1)) : J x nL Λ (QI x Λ v μ) pc lv [.int v] μ := by
  intro H locs ls hw hl
  have h : v = 0 ∨ v = 1 := of_decide_eq_true hz
  exact W.zret C.1 C.2.1 C.2.2.1 (by rcases h with rfl | rfl <;> rfl) (fun t ht hW => ⟨⟨v, (), rfl, rfl, by show va_P (aD Λ) vwCl (pool Λ μ) t.heap; rw [ht]; exact hw.1⟩, hw.2.2.F ht⟩) hw.2.2.2.2 hd C.2.2.2.2.2.2.1
theorem j_vret (C : Cx x cc nL none own Λ rm) (hd : decode cc pc = .ok (.return_, 1)) : J x nL Λ (QV x Λ μ) pc lv [] μ := by
  intro H locs ls hw hl
  exact W.vret C.1 C.2.1 C.2.2.1 (fun t ht hW => ⟨⟨(), rfl, trivial, by show va_P (aD Λ) vwCl (pool Λ μ) t.heap; rw [ht]; exact hw.1⟩, hw.2.2.F ht⟩) hw.2.2.2.2 hd C.2.2.2.2.2.2.1
end JF

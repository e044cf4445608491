/-! constructors: the layout grows -/
def ad (Λ : Lay) (q k n : Nat) : Lay := (aL Λ ++ [q], va_up (aK Λ) q k, va_up (aR Λ) q (fun _ => none), va_up (aZ Λ) q n, aC Λ, aD Λ, aS Λ)
def mz (μ : Mem) (q : Nat) : Mem := (va_up μ.1 q (fun _ => 0), va_up μ.2 q (fun _ => 0))
def sR (Λ : Lay) (a i q : Nat) : Lay := (aL Λ, aK Λ, va_up (aR Λ) a (va_up (aR Λ a) i (some q)), aZ Λ, aC Λ, aD Λ, aS Λ)
theorem fls_congr {Λ Λ' : Lay} {μ μ' : Mem} {a : Nat} (h : ∀ i, μ.1 a i = μ'.1 a i) (h2 : ∀ i, aR Λ a i = aR Λ' a i) : ∀ (t : List Bool) (k : Nat), fls Λ μ a t k = fls Λ' μ' a t k
  | [], _ => rfl
  | true :: t, k => by show _ :: _ = _ :: _; rw [h k, fls_congr h h2 t (k + 1)]
  | false :: t, k => by show _ :: _ = _ :: _; rw [h2 k, fls_congr h h2 t (k + 1)]
theorem ent_congr {Λ Λ' : Lay} {μ μ' : Mem} {a : Nat} (h1 : μ.1 a = μ'.1 a) (h2 : μ.2 a = μ'.2 a) (h3 : aK Λ a = aK Λ' a) (h4 : aR Λ a = aR Λ' a) (h5 : aZ Λ a = aZ Λ' a) (h6 : aC Λ = aC Λ') : ent Λ μ a = ent Λ' μ' a := by
  unfold ent
  rw [h1, h2, h3, h4, h5, h6]
  split <;> first | rfl | (rw [fls_congr (Λ := Λ) (Λ' := Λ') (μ := μ) (μ' := μ') (fun i => by rw [h1]) (fun i => by rw [h4])])
theorem pool_ad {Λ : Lay} {μ : Mem} {q k n : Nat} (hq : q ∉ aL Λ) : pool (ad Λ q k n) (mz μ q) = pool Λ μ ++ [(q, ent (ad Λ q k n) (mz μ q) q)] := by
  show va_pl (aL Λ ++ [q]) _ = va_pl (aL Λ) _ ++ _
  unfold va_pl
  rw [List.map_append]
  congr 1
  refine List.map_congr_left (fun b hb => ?_)
  have hne : b ≠ q := fun e => hq (e ▸ hb)
  refine congrArg (Prod.mk b) (ent_congr ?_ ?_ ?_ ?_ ?_ rfl)
  · exact va_up_ne _ _ hne
  · exact va_up_ne _ _ hne
  · exact va_up_ne _ _ hne
  · exact va_up_ne _ _ hne
  · exact va_up_ne _ _ hne
theorem fls_setR (Λ : Lay) (μ : Mem) (a q : Nat) : ∀ (t : List Bool) (k j : Nat), t[j]? = some false → (fls Λ μ a t k).set j (va_rf (some q)) = fls (sR Λ a (k + j) q) μ a t k
  | false :: t, k, 0, _ => by
    show _ :: _ = va_rf (aR (sR Λ a (k + 0) q) a k) :: _
    have e1 : aR (sR Λ a (k + 0) q) a k = some q := by
      show va_up (aR Λ) a (va_up (aR Λ a) (k + 0) (some q)) a k = some q
      rw [va_up_self]; exact va_up_self _ _ _
    rw [e1]
    congr 1
    exact fls_from t (k + 1) (fun i hi => by
      show aR Λ a i = va_up (aR Λ) a (va_up (aR Λ a) (k + 0) (some q)) a i
      rw [va_up_self, va_up_ne _ _ (by omega)])
  | true :: t, k, 0, h => by cases h
  | true :: t, k, j + 1, h => by
    have e := fls_setR Λ μ a q t (k + 1) j h
    rw [show k + 1 + j = k + (j + 1) by omega] at e
    show _ :: _ = _ :: _
    rw [e]
  | false :: t, k, j + 1, h => by
    have e := fls_setR Λ μ a q t (k + 1) j h
    rw [show k + 1 + j = k + (j + 1) by omega] at e
    show va_rf (aR Λ a k) :: _ = va_rf (aR (sR Λ a (k + (j + 1)) q) a k) :: _
    have e1 : aR (sR Λ a (k + (j + 1)) q) a k = aR Λ a k := by
      show va_up (aR Λ) a (va_up (aR Λ a) (k + (j + 1)) (some q)) a k = _
      rw [va_up_self]; exact va_up_ne _ _ (by omega)
    rw [e1]
    exact congrArg _ e
  | [], _, _, h => by simp at h
where
  fls_from {Λ Λ' : Lay} {μ : Mem} {a : Nat} : ∀ (t : List Bool) (k : Nat), (∀ i, k ≤ i → aR Λ a i = aR Λ' a i) → fls Λ μ a t k = fls Λ' μ a t k
    | [], _, _ => rfl
    | true :: t, k, h => by show _ :: _ = _ :: _; rw [fls_from t (k + 1) (fun i hi => h i (by omega))]
    | false :: t, k, h => by show _ :: _ = _ :: _; rw [h k (Nat.le_refl k), fls_from t (k + 1) (fun i hi => h i (by omega))]
theorem AL_ad {Λ : Lay} {q k n sz : Nat} (h : sz ≤ q) : AL (ad Λ q k n) sz = AL Λ sz := by
  funext z
  refine propext ⟨fun hz => ?_, fun hz => ?_⟩
  · rcases hz with hz | hz
    · rcases List.mem_append.mp hz with h1 | h1
      · exact Or.inl h1
      · rw [List.mem_singleton.mp h1]; exact Or.inr h
    · exact Or.inr hz
  · rcases hz with hz | hz
    · exact Or.inl (List.mem_append_left _ hz)
    · exact Or.inr hz
/-- what a constructor may do to the layout -/
def Grow (sz : Nat) (Λ Λ' : Lay) : Prop := aC Λ' = aC Λ ∧ aD Λ' = aD Λ ∧ aS Λ' = aS Λ ∧ (∀ a ∈ aL Λ, a ∈ aL Λ' ∧ aK Λ' a = aK Λ a) ∧ (∀ a ∈ aL Λ', a ∈ aL Λ ∨ sz ≤ a)
theorem Grow.rf {sz : Nat} {Λ : Lay} : Grow sz Λ Λ := ⟨rfl, rfl, rfl, fun _ h => ⟨h, rfl⟩, fun _ h => Or.inl h⟩
theorem Grow.tr {sz sz2 : Nat} {Λ Λ1 Λ2 : Lay} (h : Grow sz Λ Λ1) (h2 : Grow sz2 Λ1 Λ2) (hs : sz ≤ sz2) : Grow sz Λ Λ2 := by
  obtain ⟨a1, a2, a3, a4, a5⟩ := h
  obtain ⟨b1, b2, b3, b4, b5⟩ := h2
  refine ⟨b1.trans a1, b2.trans a2, b3.trans a3, fun a ha => ⟨(b4 a (a4 a ha).1).1, (b4 a (a4 a ha).1).2.trans (a4 a ha).2⟩, fun a ha => ?_⟩
  rcases b5 a ha with h | h
  · exact a5 a h
  · exact Or.inr (Nat.le_trans hs h)
theorem Grow.ad {sz : Nat} {Λ : Lay} {q k n : Nat} (hq : q ∉ aL Λ) (h : sz ≤ q) : Grow sz Λ (ad Λ q k n) := by
  refine ⟨rfl, rfl, rfl, fun a ha => ⟨List.mem_append_left _ ha, va_up_ne _ _ (fun e => hq (e ▸ ha))⟩, fun a ha => ?_⟩
  rcases List.mem_append.mp ha with h1 | h1
  · exact Or.inl h1
  · rw [List.mem_singleton.mp h1]; exact Or.inr h
theorem Grow.sR {sz : Nat} {Λ : Lay} {a i q : Nat} : Grow sz Λ (sR Λ a i q) := ⟨rfl, rfl, rfl, fun _ h => ⟨h, rfl⟩, fun _ h => Or.inl h⟩
theorem Grow.AL {sz : Nat} {Λ Λ' : Lay} (h : Grow sz Λ Λ') : AL Λ' sz = AL Λ sz := by
  funext z
  refine propext ⟨fun hz => ?_, fun hz => ?_⟩
  · rcases hz with hz | hz
    · rcases h.2.2.2.2 z hz with h1 | h1
      · exact Or.inl h1
      · exact Or.inr h1
    · exact Or.inr hz
  · rcases hz with hz | hz
    · exact Or.inl (h.2.2.2.1 z hz).1
    · exact Or.inr hz
theorem Grow.inL {sz : Nat} {Λ Λ' : Lay} (h : Grow sz Λ Λ') {a k : Nat} (ha : inL Λ a k) : inL Λ' a k := ⟨(h.2.2.2.1 a ha.1).1, (h.2.2.2.1 a ha.1).2.trans ha.2⟩
theorem Gl_grow {sz : Nat} {Λ Λ' : Lay} {A : Nat → Prop} {s : State} (h : Grow sz Λ Λ') (hG : Gl Λ A s) : Gl Λ' A s := by
  have e : ∀ i, aS Λ' i = aS Λ i := fun i => by rw [h.2.2.1]
  have eK : sK Λ' = sK Λ := by funext i; exact e _
  have eV : sV Λ' = sV Λ := by funext i; exact e _
  unfold Gl GlS at hG ⊢
  rw [e 0, e 1, eK, eV]
  exact hG
theorem Cx_grow {x : Ctx} {cc : ByteArray} {nL : Nat} {ret : Option FieldType} {own : String} {Λ Λ' : Lay} {rm : Room} (C : Cx x cc nL ret own Λ rm) (h : Grow (xs x).heap.size Λ Λ') : Cx x cc nL ret own Λ' rm := by
  obtain ⟨h1, h2, h3, h4, h5, h6, h7, h8, h9, h10, h11, h12⟩ := C
  refine ⟨h1, h2, h3, h4, h5, h6, h7, ?_, ?_, h10, h11, h12⟩
  · unfold tysL
    rw [h.1, h.2.1]
    exact h8
  · rw [h.AL]
    exact Gl_grow h h9
theorem Grow.down {sz sz2 : Nat} {Λ Λ' : Lay} (h : Grow sz2 Λ Λ') (hs : sz ≤ sz2) : Grow sz Λ Λ' := Grow.tr (Grow.rf (sz := sz)) h hs
def dfl (t : List Bool) : List Value := t.map (fun b => if b = true then .int 0 else .null)
theorem fls_new (Λ : Lay) (μ : Mem) (q k n : Nat) : ∀ (t : List Bool) (j : Nat), fls (ad Λ q k n) (mz μ q) q t j = dfl t
  | [], _ => rfl
  | true :: t, j => by
    show Value.int ((mz μ q).1 q j) :: _ = Value.int 0 :: dfl t
    rw [fls_new Λ μ q k n t (j + 1), show (mz μ q).1 q j = 0 by show va_up μ.1 q (fun _ => 0) q j = 0; rw [va_up_self]]
  | false :: t, j => by
    show va_rf (aR (ad Λ q k n) q j) :: _ = Value.null :: dfl t
    rw [fls_new Λ μ q k n t (j + 1), show aR (ad Λ q k n) q j = none by show va_up (aR Λ) q (fun _ => none) q j = none; rw [va_up_self]]
    rfl
theorem ad_K {Λ : Lay} {q k n : Nat} : aK (ad Λ q k n) q = k := va_up_self _ _ _
theorem ad_Z {Λ : Lay} {q k n : Nat} : aZ (ad Λ q k n) q = n := va_up_self _ _ _
theorem ad_in {Λ : Lay} {q k n : Nat} : inL (ad Λ q k n) q k := ⟨List.mem_append_right _ List.mem_cons_self, ad_K⟩
theorem ad_Zne {Λ : Lay} {q k n a : Nat} (hq : q ∉ aL Λ) (ha : a ∈ aL Λ) : aZ (ad Λ q k n) a = aZ Λ a := va_up_ne _ _ (fun e => hq (e ▸ ha))
theorem ad_Rne {Λ : Lay} {q k n a : Nat} (hq : q ∉ aL Λ) (ha : a ∈ aL Λ) : aR (ad Λ q k n) a = aR Λ a := va_up_ne _ _ (fun e => hq (e ▸ ha))
theorem sR_at {Λ : Lay} {a i q : Nat} : aR (sR Λ a i q) a i = some q := by
  show va_up (aR Λ) a (va_up (aR Λ a) i (some q)) a i = some q
  rw [va_up_self]; exact va_up_self _ _ _
theorem sR_ne {Λ : Lay} {a i q j : Nat} (h : j ≠ i) : aR (sR Λ a i q) a j = aR Λ a j := by
  show va_up (aR Λ) a (va_up (aR Λ a) i (some q)) a j = _
  rw [va_up_self]; exact va_up_ne _ _ h
theorem sR_off {Λ : Lay} {a i q b : Nat} (h : b ≠ a) : aR (sR Λ a i q) b = aR Λ b := va_up_ne _ _ h
abbrev qC (Λ0 : Lay) (sz : Nat) (Rel : Lay → Mem → Prop) : Array Value → State → Outcome → State → Prop := va_Qv (fun (u : Lay × Mem) => Rel u.1 u.2 ∧ Grow sz Λ0 u.1) (fun u t => va_P (aD u.1) vwCl (pool u.1 u.2) t.heap ∧ va_D (AL Λ0 sz) (pool u.1 u.2)) (AL Λ0 sz)
def QC (x : Ctx) (Λ0 : Lay) (rm : Room) (Rel : Lay → Mem → Prop) : State → Prop := MQ (xb x) (qC Λ0 (xs x).heap.size Rel) (xa x) (xs x) rm.cells rm.slots (AL Λ0 (xs x).heap.size)
/-- a constructor -/
def MCc (l : Launch) (y : MethodName) (cb : ByteArray) (nL : Nat) (rm : Room) (Λ : Lay) (av : List Value) (μ : Mem) (Rel : Lay → Mem → Prop) : Prop :=
  ∀ sz, Met l y (wsG y cb nL none) rm (va_Pc av (Pr Λ μ sz)) (qC Λ sz Rel) rm.cells rm.slots (AL Λ sz)
theorem mcc_of {l : Launch} {y : MethodName} {cb : ByteArray} {nL : Nat} {rm : Room} {Λ : Lay} {av : List Value} {μ : Mem} {Rel : Lay → Mem → Prop} (hpl : plainName y.cls = true) (hy : y.name = "<init>") (hn : (lg_sl av).length ≤ nL)
    (h : ∀ x : Ctx, Cx x cb nL none y.cls Λ rm → x.2.1 = l → (xM x).name = "<init>" → xk x = 0 ∧ xl x = 0 → J x nL Λ (QC x Λ rm Rel) 0 (lv_args 0 av) [] μ) : MCc l y cb nL rm Λ av μ Rel := by
  intro sz
  refine Met.ofW (cc := cb) (maxL := nL) (ret := none) hpl rfl ?_
  intro p e s m args below meth c s₁ B hml hv
  obtain ⟨rfl, hsz, hP, hD, hK, hG⟩ := hv
  subst hsz
  have hts := atoms_spec (ws := wsG y cb nL none) B.pre
  have hown : s.vm.findClass y.cls = some m.cls := findClass_of_methodNamed B.named
  have hin : meth.name = "<init>" := (name_of_methodNamed B.named B.method).1.trans hy
  rw [lg_entry_eq]
  exact h (p, l, e, (headSpec (wsG y cb nL none) rm).room, s, m, av.toArray, below, meth, c, 0, 0) ⟨B.exec, B.bytes, B.returns, hml, hown, fun w hw => hts w (List.mem_cons_of_mem _ hw), B.notSynchronized, hK, hG, rfl, Nat.zero_le _, Nat.zero_le _⟩ rfl hin ⟨rfl, rfl⟩ s.heap [] _ ⟨hP, hD, va_S.rf⟩ (lv_entry av hn)
section JK
variable {x : Ctx} {cc : ByteArray} {nL : Nat} {ret : Option FieldType} {own : String} {Λ Λ0 : Lay} {rm : Room} {Q : State → Prop} {pc : Nat} {lv lv' : List (Nat × Value)} {st stk : List Value} {μ μ1 : Mem}
theorem jc_ret (C : Cx x cc nL none own Λ rm) {Rel : Lay → Mem → Prop} (hG : Grow (xs x).heap.size Λ0 Λ) (hR : Rel Λ μ) (hd : decode cc pc = .ok (.return_, 1)) : J x nL Λ (QC x Λ0 rm Rel) pc lv [] μ := by
  intro H locs ls hw hl
  obtain ⟨-, -, -, -, -, -, -, -, -, -, hk1, hk2⟩ := id C
  refine W.widen (k := rm.cells) (n := rm.slots) hk1 hk2 ?_
  obtain ⟨hP, hD, hS⟩ := hw
  rw [hG.AL] at hD hS
  exact W.vret C.1 C.2.1 C.2.2.1 (fun t ht hW => ⟨⟨(Λ, μ), rfl, ⟨hR, hG⟩, by show va_P (aD Λ) vwCl (pool Λ μ) t.heap ∧ _; rw [ht]; exact ⟨hP, hD⟩⟩, hS.F ht⟩) hS.2.2 hd C.2.2.2.2.2.2.1
theorem Wd_add {H1 : Heap} {locs1 : List Loc} {q k n a b : Nat} {e : va_E} (he : e = ent (ad Λ q k n) (mz μ q) q) (hP : va_P (aD Λ) vwCl (pool Λ μ ++ [(q, e)]) H1) (hD : va_D (AL Λ (xs x).heap.size) (pool Λ μ ++ [(q, e)])) (hS : va_S (AL Λ (xs x).heap.size) (xs x).heap H1 locs1) : q ∉ aL Λ ∧ (xs x).heap.size ≤ q ∧ Wd (bump x a b) (ad Λ q k n) (mz μ q) H1 locs1 := by
  have hq : q ∉ aL Λ := by
    intro h
    obtain ⟨j, hj⟩ := pool_at (μ := μ) h
    have hl : (pool Λ μ ++ [(q, e)])[(pool Λ μ).length]? = some (q, e) := by simp
    have hj2 : (pool Λ μ ++ [(q, e)])[j]? = some (q, ent Λ μ q) := by
      rw [List.getElem?_append_left (List.getElem?_eq_some_iff.mp hj).1]; exact hj
    have := hD.1 j (pool Λ μ).length _ _ hj2 hl rfl
    have hlt := (List.getElem?_eq_some_iff.mp hj).1
    omega
  have hA : AL Λ (xs x).heap.size q := hD.2 (pool Λ μ).length (q, e) (by simp)
  have hsz : (xs x).heap.size ≤ q := hA.elim (fun h => absurd h hq) id
  refine ⟨hq, hsz, ?_⟩
  rw [he, ← pool_ad hq] at hP hD
  refine ⟨hP, ?_, ?_⟩
  · show va_D (AL (ad Λ q k n) (xs x).heap.size) _
    rw [AL_ad hsz]; exact hD
  · show va_S (AL (ad Λ q k n) (xs x).heap.size) (xs x).heap H1 locs1
    rw [AL_ad hsz]; exact hS
def CN (own : String) (idx ci N : Nat) : Prop := ∃ (Cn : String) (T : u_T) (tyf : Nat → FieldType), ClF ci Cn T N ∧ (∀ k, k < N → parseFieldDescriptor (T k).2.2.1 = some (tyf k)) ∧ (∀ j, j < N → defaultValue (tyf j) = vp_V (dfl (fty ci)) j) ∧ Cond.classLink own idx Cn ∈ GW ∧ Cond.instantiable Cn N ∈ GW ∧ Cond.initialized Cn ∈ GW
theorem jc_new (C : Cx x cc nL ret own Λ rm) {idx ci N : Nat} (F : CN own idx ci N) (hk : xk x + 1 ≤ rm.cells ∧ xl x + N ≤ rm.slots) (hd : decode cc pc = .ok (.new idx, 3))
    (K : ∀ (q : Nat) (Λ1 : Lay) (μ1 : Mem), q ∉ aL Λ → (xs x).heap.size ≤ q → Λ1 = ad Λ q ci 0 → μ1 = mz μ q → J (bump x 1 N) nL Λ1 Q (pc + 3) lv (.ref q :: st) μ1) : J x nL Λ Q pc lv st μ := by
  intro H locs ls hw hl
  obtain ⟨Cn, T, tyf, F, hty, hdf, h1, h2, h3⟩ := F
  have hRR : xR x = rm := C.2.2.2.2.2.2.2.2.2.1
  refine va_new (ci := ci) (fs := dfl (fty ci)) (C := Cn) (T := T) (N := N) C.1 C.2.1 C.2.2.2.2.2.1 F.2.1 tyf hty C.2.2.2.2.1 (C.2.2.2.2.2.1 _ h1) (C.2.2.2.2.2.1 _ h2) (C.2.2.2.2.2.1 _ h3) C.2.2.2.2.2.2.2.1 hw.1 hw.2.1 hw.2.2 (fun q h => Or.inr h) F.1 hdf (by rw [hRR]; exact hk.1) (by rw [hRR]; exact hk.2) hd (fun q H1 hP hD hS => ?_)
  obtain ⟨h4, h5, h6⟩ := Wd_add (x := x) (k := ci) (n := 0) (a := 1) (b := N) (by rw [ent_ob ad_K F.2.2, fls_new]) hP hD hS
  exact K q _ _ h4 h5 rfl rfl H1 locs ls h6 hl
theorem arr_eq {t : Nat} {ty : FieldType} {cA : ClassId} {s : State} (hs : (tysL Λ)[t]? = some (aC Λ t, ty)) (hne : ∀ C, ty ≠ .object C) (hK : va_K (aD Λ) vwCl (tysL Λ ++ [(cA, ty)]) s) : cA = aC Λ t := by
  have h1 := (hK.2 5 (cA, ty) rfl).2
  have h2 := (hK.2 t (aC Λ t, ty) (by rw [List.getElem?_append_left (List.getElem?_eq_some_iff.mp hs).1]; exact hs)).2
  unfold va_RA at h1 h2
  cases ty with
  | object C => exact absurd rfl (hne C)
  | _ => exact Option.some.inj (h1.symm.trans h2)
theorem jc_newI (C : Cx x cc nL ret own Λ rm) {v : Int32} {n : Nat} (hv : ¬ v < 0 ∧ v.toNatClampNeg = n ∧ n * 4 ≤ 536870912) (hk : xk x + 1 ≤ rm.cells ∧ xl x + n ≤ rm.slots) (ha : Cond.arrayClass .int ∈ GW) (hd : decode cc pc = .ok (.newarray .int, 2))
    (K : ∀ (q : Nat) (Λ1 : Lay) (μ1 : Mem), q ∉ aL Λ → (xs x).heap.size ≤ q → Λ1 = ad Λ q 13 n → μ1 = mz μ q → J (bump x 1 n) nL Λ1 Q (pc + 2) lv (.ref q :: st) μ1) : J x nL Λ Q pc lv (.int v :: st) μ := by
  intro H locs ls hw hl
  have hRR : xR x = rm := C.2.2.2.2.2.2.2.2.2.1
  refine va_newa (atype := .int) (ty := .int) (a0 := (n, .inl (fun _ => 0))) C.1 C.2.1 (C.2.2.2.2.2.1 _ ha) rfl C.2.2.2.2.2.2.2.1 hw.1 hw.2.1 hw.2.2 (fun q h => Or.inr h) (fun cA => rfl) hv.1 hv.2.1 hv.2.2 (by rw [hRR]; exact hk.1) (by rw [hRR]; exact hk.2) hd (fun q cA H1 hK hP hD hS => ?_)
  have e := arr_eq (t := 1) rfl (fun _ h => by cases h) hK
  subst e
  obtain ⟨h4, h5, h6⟩ := Wd_add (x := x) (k := 13) (n := n) (a := 1) (b := n) (by rw [ent_13 ad_K, ad_Z, show (mz μ q).1 q = fun _ => 0 from va_up_self _ _ _]; rfl) hP hD hS
  exact K q _ _ h4 h5 rfl rfl H1 locs ls h6 hl
theorem jc_newB (C : Cx x cc nL ret own Λ rm) {v : Int32} {n : Nat} (hv : ¬ v < 0 ∧ v.toNatClampNeg = n ∧ n * 1 ≤ 536870912) (hk : xk x + 1 ≤ rm.cells ∧ xl x + n ≤ rm.slots) (ha : Cond.arrayClass .byte ∈ GW) (hd : decode cc pc = .ok (.newarray .byte, 2))
    (K : ∀ (q : Nat) (Λ1 : Lay) (μ1 : Mem), q ∉ aL Λ → (xs x).heap.size ≤ q → Λ1 = ad Λ q 12 n → μ1 = mz μ q → J (bump x 1 n) nL Λ1 Q (pc + 2) lv (.ref q :: st) μ1) : J x nL Λ Q pc lv (.int v :: st) μ := by
  intro H locs ls hw hl
  have hRR : xR x = rm := C.2.2.2.2.2.2.2.2.2.1
  refine va_newa (atype := .byte) (ty := .byte) (a0 := (n, .inl (fun _ => 0))) C.1 C.2.1 (C.2.2.2.2.2.1 _ ha) rfl C.2.2.2.2.2.2.2.1 hw.1 hw.2.1 hw.2.2 (fun q h => Or.inr h) (fun cA => rfl) hv.1 hv.2.1 hv.2.2 (by rw [hRR]; exact hk.1) (by rw [hRR]; exact hk.2) hd (fun q cA H1 hK hP hD hS => ?_)
  have e := arr_eq (t := 0) rfl (fun _ h => by cases h) hK
  subst e
  obtain ⟨h4, h5, h6⟩ := Wd_add (x := x) (k := 12) (n := n) (a := 1) (b := n) (by rw [ent_12 ad_K, ad_Z, show (mz μ q).1 q = fun _ => 0 from va_up_self _ _ _]; rfl) hP hD hS
  exact K q _ _ h4 h5 rfl rfl H1 locs ls h6 hl
theorem jc_newZ (C : Cx x cc nL ret own Λ rm) {v : Int32} {n : Nat} (hv : ¬ v < 0 ∧ v.toNatClampNeg = n ∧ n * 1 ≤ 536870912) (hk : xk x + 1 ≤ rm.cells ∧ xl x + n ≤ rm.slots) (ha : Cond.arrayClass .boolean ∈ GW) (hd : decode cc pc = .ok (.newarray .boolean, 2))
    (K : ∀ (q : Nat) (Λ1 : Lay) (μ1 : Mem), q ∉ aL Λ → (xs x).heap.size ≤ q → Λ1 = ad Λ q 15 n → μ1 = mz μ q → J (bump x 1 n) nL Λ1 Q (pc + 2) lv (.ref q :: st) μ1) : J x nL Λ Q pc lv (.int v :: st) μ := by
  intro H locs ls hw hl
  have hRR : xR x = rm := C.2.2.2.2.2.2.2.2.2.1
  refine va_newa (atype := .boolean) (ty := .boolean) (a0 := (n, .inl (fun _ => 0))) C.1 C.2.1 (C.2.2.2.2.2.1 _ ha) rfl C.2.2.2.2.2.2.2.1 hw.1 hw.2.1 hw.2.2 (fun q h => Or.inr h) (fun cA => rfl) hv.1 hv.2.1 hv.2.2 (by rw [hRR]; exact hk.1) (by rw [hRR]; exact hk.2) hd (fun q cA H1 hK hP hD hS => ?_)
  have e := arr_eq (t := 3) rfl (fun _ h => by cases h) hK
  subst e
  obtain ⟨h4, h5, h6⟩ := Wd_add (x := x) (k := 15) (n := n) (a := 1) (b := n) (by rw [ent_15 ad_K, ad_Z, show (mz μ q).1 q = fun _ => 0 from va_up_self _ _ _]; rfl) hP hD hS
  exact K q _ _ h4 h5 rfl rfl H1 locs ls h6 hl
theorem jc_newJ (C : Cx x cc nL ret own Λ rm) {v : Int32} {n : Nat} (hv : ¬ v < 0 ∧ v.toNatClampNeg = n ∧ n * 8 ≤ 536870912) (hk : xk x + 1 ≤ rm.cells ∧ xl x + n ≤ rm.slots) (ha : Cond.arrayClass .long ∈ GW) (hd : decode cc pc = .ok (.newarray .long, 2))
    (K : ∀ (q : Nat) (Λ1 : Lay) (μ1 : Mem), q ∉ aL Λ → (xs x).heap.size ≤ q → Λ1 = ad Λ q 14 n → μ1 = mz μ q → J (bump x 1 n) nL Λ1 Q (pc + 2) lv (.ref q :: st) μ1) : J x nL Λ Q pc lv (.int v :: st) μ := by
  intro H locs ls hw hl
  have hRR : xR x = rm := C.2.2.2.2.2.2.2.2.2.1
  refine va_newa (atype := .long) (ty := .long) (a0 := (n, .inr (.inl (fun _ => 0)))) C.1 C.2.1 (C.2.2.2.2.2.1 _ ha) rfl C.2.2.2.2.2.2.2.1 hw.1 hw.2.1 hw.2.2 (fun q h => Or.inr h) (fun cA => rfl) hv.1 hv.2.1 hv.2.2 (by rw [hRR]; exact hk.1) (by rw [hRR]; exact hk.2) hd (fun q cA H1 hK hP hD hS => ?_)
  have e := arr_eq (t := 2) rfl (fun _ h => by cases h) hK
  subst e
  obtain ⟨h4, h5, h6⟩ := Wd_add (x := x) (k := 14) (n := n) (a := 1) (b := n) (by rw [ent_14 ad_K, ad_Z, show (mz μ q).2 q = fun _ => 0 from va_up_self _ _ _]; rfl) hP hD hS
  exact K q _ _ h4 h5 rfl rfl H1 locs ls h6 hl
end JK
/-! the world as a list of entries: address, kind, length, references, ints, longs -/
abbrev En : Type := Nat × Nat × Nat × (Nat → Option Nat) × (Nat → Int32) × (Nat → Int64)
def lk {β : Type} (d : β) (f : En → β) : List En → Nat → β
  | [], _ => d
  | e :: E, b => if b = e.1 then f e else lk d f E b
def adr (E : List En) : List Nat := E.map (fun e => e.1)
def BL (c : Lay) (E : List En) : Lay := (adr E, lk 0 (fun e => e.2.1) E, lk (fun _ => none) (fun e => e.2.2.2.1) E, lk 0 (fun e => e.2.2.1) E, aC c, aD c, aS c)
def BM (E : List En) : Mem := (lk (fun _ => 0) (fun e => e.2.2.2.2.1) E, lk (fun _ => 0) (fun e => e.2.2.2.2.2) E)
def rfE : List (Nat × Nat) → Nat → Option Nat
  | [] => fun _ => none
  | (i, q) :: l => va_up (rfE l) i (some q)
def inE : List (Nat × Int32) → Nat → Int32
  | [] => fun _ => 0
  | (i, v) :: l => upd (inE l) i v
def z64 : Nat → Int64 := fun _ => 0
abbrev nw (q k n : Nat) : En := (q, k, n, rfE [], inE [], z64)
theorem lk_new {β : Type} {d : β} {f : En → β} {e : En} : ∀ {E : List En}, e.1 ∉ adr E → lk d f (E ++ [e]) = va_up (lk d f E) e.1 (f e)
  | [], _ => by
    funext b
    by_cases hb : b = e.1
    · subst hb; rw [va_up_self]; show (if e.1 = e.1 then f e else _) = _; rw [if_pos rfl]
    · rw [va_up_ne _ _ hb]; show (if b = e.1 then f e else lk d f [] b) = _; rw [if_neg hb]
  | x :: E, h => by
    have h1 : e.1 ≠ x.1 := fun q => h (q ▸ List.mem_cons_self)
    have h2 : e.1 ∉ adr E := fun q => h (List.mem_cons_of_mem _ q)
    have ih := lk_new (d := d) (f := f) h2
    funext b
    show (if b = x.1 then f x else lk d f (E ++ [e]) b) = _
    rw [ih]
    by_cases hb : b = e.1
    · subst hb; rw [if_neg h1, va_up_self, va_up_self]
    · rw [va_up_ne _ _ hb, va_up_ne _ _ hb]; rfl
theorem mem_adr {E : List En} {j : Nat} {e : En} (h : E[j]? = some e) : e.1 ∈ adr E := List.mem_map_of_mem (List.mem_of_getElem? h)
theorem lk_at {β : Type} {d : β} {f : En → β} {e : En} : ∀ {E : List En} {j : Nat}, E[j]? = some e → (adr E).Nodup → lk d f E e.1 = f e
  | [], _, h, _ => by simp at h
  | x :: E, 0, h, _ => by
    have h : x = e := by simpa using h
    subst h
    show (if x.1 = x.1 then f x else _) = _
    rw [if_pos rfl]
  | x :: E, j + 1, h, hn => by
    have h : E[j]? = some e := by simpa using h
    have hn := List.nodup_cons.mp hn
    have h1 : e.1 ≠ x.1 := fun q => hn.1 (by have := mem_adr h; rw [q] at this; exact this)
    show (if e.1 = x.1 then f x else lk d f E e.1) = _
    rw [if_neg h1]
    exact lk_at h hn.2
theorem lk_set {β : Type} {d : β} {f : En → β} {e e' : En} (h' : e'.1 = e.1) : ∀ {E : List En} {j : Nat}, E[j]? = some e → (adr E).Nodup → lk d f (E.set j e') = va_up (lk d f E) e.1 (f e')
  | [], _, h, _ => by simp at h
  | x :: E, 0, h, _ => by
    have h : x = e := by simpa using h
    subst h
    funext b
    show (if b = e'.1 then f e' else lk d f E b) = _
    rw [h']
    by_cases hb : b = x.1
    · subst hb; rw [if_pos rfl, va_up_self]
    · rw [if_neg hb, va_up_ne _ _ hb]; show _ = (if b = x.1 then f x else lk d f E b); rw [if_neg hb]
  | x :: E, j + 1, h, hn => by
    have h : E[j]? = some e := by simpa using h
    have hn := List.nodup_cons.mp hn
    have h1 : e.1 ≠ x.1 := fun q => hn.1 (by have := mem_adr h; rw [q] at this; exact this)
    funext b
    show (if b = x.1 then f x else lk d f (E.set j e') b) = _
    rw [lk_set h' h hn.2]
    by_cases hb : b = e.1
    · subst hb; rw [if_neg h1, va_up_self, va_up_self]
    · rw [va_up_ne _ _ hb, va_up_ne _ _ hb]; rfl
theorem adr_set {e e' : En} (h' : e'.1 = e.1) : ∀ {E : List En} {j : Nat}, E[j]? = some e → adr (E.set j e') = adr E
  | [], _, h => by simp at h
  | x :: E, 0, h => by
    have h : x = e := by simpa using h
    subst h
    show e'.1 :: _ = x.1 :: _
    rw [h']
  | x :: E, j + 1, h => by
    have h : E[j]? = some e := by simpa using h
    show x.1 :: adr (E.set j e') = x.1 :: adr E
    rw [adr_set h' h]
theorem app_at {E0 L : List En} {j : Nat} {e : En} (h : L[j]? = some e) : (E0 ++ L)[E0.length + j]? = some e := by
  rw [List.getElem?_append_right (Nat.le_add_right _ _), Nat.add_sub_cancel_left]; exact h
theorem app_set {E0 L : List En} {j : Nat} {e : En} : (E0 ++ L).set (E0.length + j) e = E0 ++ L.set j e := by
  rw [List.set_append_right _ _ (Nat.le_add_right _ _), Nat.add_sub_cancel_left]
theorem BL_new {c : Lay} {E : List En} {q k n : Nat} (h : q ∉ adr E) : ad (BL c E) q k n = BL c (E ++ [nw q k n]) := by
  have e1 := lk_new (d := 0) (f := fun e => e.2.1) (e := nw q k n) h
  have e2 := lk_new (d := fun _ => none) (f := fun e => e.2.2.2.1) (e := nw q k n) h
  have e3 := lk_new (d := 0) (f := fun e => e.2.2.1) (e := nw q k n) h
  show (adr E ++ [q], va_up _ q k, va_up _ q (fun _ => none), va_up _ q n, _) = (adr (E ++ [nw q k n]), lk 0 _ _, lk _ _ _, lk 0 _ _, _)
  rw [e1, e2, e3, show adr (E ++ [nw q k n]) = adr E ++ [q] by unfold adr; rw [List.map_append]; rfl]
  rfl
theorem BM_new {E : List En} {q k n : Nat} (h : q ∉ adr E) : mz (BM E) q = BM (E ++ [nw q k n]) := by
  have e1 := lk_new (d := fun _ => (0 : Int32)) (f := fun e => e.2.2.2.2.1) (e := nw q k n) h
  have e2 := lk_new (d := fun _ => (0 : Int64)) (f := fun e => e.2.2.2.2.2) (e := nw q k n) h
  show (va_up _ q _, va_up _ q _) = (lk _ _ _, lk _ _ _)
  rw [e1, e2]
  rfl
section BE
variable {c : Lay} {E0 L : List En} {j a k n : Nat} {R : Nat → Option Nat} {I : Nat → Int32} {G : Nat → Int64}
theorem BL_in (hn : (adr (E0 ++ L)).Nodup) (h : L[j]? = some (a, k, n, R, I, G)) : inL (BL c (E0 ++ L)) a k := ⟨mem_adr (app_at h), lk_at (e := (a, k, n, R, I, G)) (f := fun e => e.2.1) (app_at h) hn⟩
theorem BL_Z (hn : (adr (E0 ++ L)).Nodup) (h : L[j]? = some (a, k, n, R, I, G)) : aZ (BL c (E0 ++ L)) a = n := lk_at (e := (a, k, n, R, I, G)) (f := fun e => e.2.2.1) (app_at h) hn
theorem BL_R (hn : (adr (E0 ++ L)).Nodup) (h : L[j]? = some (a, k, n, R, I, G)) : aR (BL c (E0 ++ L)) a = R := lk_at (e := (a, k, n, R, I, G)) (f := fun e => e.2.2.2.1) (app_at h) hn
theorem BL_setR {i q : Nat} (hn : (adr (E0 ++ L)).Nodup) (h : L[j]? = some (a, k, n, R, I, G)) : sR (BL c (E0 ++ L)) a i q = BL c (E0 ++ L.set j (a, k, n, va_up R i (some q), I, G)) := by
  have e1 := lk_set (d := 0) (f := fun e => e.2.1) (e := (a, k, n, R, I, G)) (e' := (a, k, n, va_up R i (some q), I, G)) rfl (app_at h) hn
  have e2 := lk_set (d := fun _ => none) (f := fun e => e.2.2.2.1) (e := (a, k, n, R, I, G)) (e' := (a, k, n, va_up R i (some q), I, G)) rfl (app_at h) hn
  have e3 := lk_set (d := 0) (f := fun e => e.2.2.1) (e := (a, k, n, R, I, G)) (e' := (a, k, n, va_up R i (some q), I, G)) rfl (app_at h) hn
  have e4 := adr_set (e := (a, k, n, R, I, G)) (e' := (a, k, n, va_up R i (some q), I, G)) rfl (app_at (E0 := E0) h)
  have f1 : lk 0 (fun e => e.2.1) (E0 ++ L) a = k := lk_at (e := (a, k, n, R, I, G)) (app_at h) hn
  have f2 : lk (fun _ => none) (fun e => e.2.2.2.1) (E0 ++ L) a = R := lk_at (e := (a, k, n, R, I, G)) (app_at h) hn
  have f3 : lk 0 (fun e => e.2.2.1) (E0 ++ L) a = n := lk_at (e := (a, k, n, R, I, G)) (app_at h) hn
  rw [app_set] at e1 e2 e3 e4
  show (adr (E0 ++ L), lk 0 (fun e => e.2.1) (E0 ++ L), va_up _ a (va_up (lk (fun _ => none) (fun e => e.2.2.2.1) (E0 ++ L) a) i (some q)), lk 0 (fun e => e.2.2.1) (E0 ++ L), _) = (adr _, lk 0 _ _, lk _ _ _, lk 0 _ _, _)
  rw [e1, e2, e3, e4, f2]
  have g1 : va_up (lk 0 (fun e => e.2.1) (E0 ++ L)) a k = lk 0 (fun e => e.2.1) (E0 ++ L) := by
    funext b
    by_cases hb : b = a
    · subst hb; rw [va_up_self, f1]
    · rw [va_up_ne _ _ hb]
  have g3 : va_up (lk 0 (fun e => e.2.2.1) (E0 ++ L)) a n = lk 0 (fun e => e.2.2.1) (E0 ++ L) := by
    funext b
    by_cases hb : b = a
    · subst hb; rw [va_up_self, f3]
    · rw [va_up_ne _ _ hb]
  show _ = (adr (E0 ++ L), va_up (lk 0 (fun e => e.2.1) (E0 ++ L)) a k, _, va_up (lk 0 (fun e => e.2.2.1) (E0 ++ L)) a n, _)
  rw [g1, g3]
  rfl
theorem va_up_id {β : Type} {f : Nat → β} {a : Nat} {v : β} (h : f a = v) : va_up f a v = f := by
  funext b
  by_cases hb : b = a
  · subst hb; rw [va_up_self, h]
  · rw [va_up_ne _ _ hb]
theorem BM_setR {i q : Nat} (hn : (adr (E0 ++ L)).Nodup) (h : L[j]? = some (a, k, n, R, I, G)) : BM (E0 ++ L) = BM (E0 ++ L.set j (a, k, n, va_up R i (some q), I, G)) := by
  have e1 := lk_set (d := fun _ => (0 : Int32)) (f := fun e => e.2.2.2.2.1) (e := (a, k, n, R, I, G)) (e' := (a, k, n, va_up R i (some q), I, G)) rfl (app_at h) hn
  have e2 := lk_set (d := fun _ => (0 : Int64)) (f := fun e => e.2.2.2.2.2) (e := (a, k, n, R, I, G)) (e' := (a, k, n, va_up R i (some q), I, G)) rfl (app_at h) hn
  have f1 : lk (fun _ => (0 : Int32)) (fun e => e.2.2.2.2.1) (E0 ++ L) a = I := lk_at (e := (a, k, n, R, I, G)) (app_at h) hn
  have f2 : lk (fun _ => (0 : Int64)) (fun e => e.2.2.2.2.2) (E0 ++ L) a = G := lk_at (e := (a, k, n, R, I, G)) (app_at h) hn
  rw [app_set] at e1 e2
  show (lk (fun _ => (0 : Int32)) (fun e => e.2.2.2.2.1) (E0 ++ L), lk (fun _ => (0 : Int64)) (fun e => e.2.2.2.2.2) (E0 ++ L)) = (lk _ _ _, lk _ _ _)
  rw [e1, e2]
  exact Prod.ext (va_up_id f1).symm (va_up_id f2).symm
theorem BL_setI {i : Nat} {v : Int32} (hn : (adr (E0 ++ L)).Nodup) (h : L[j]? = some (a, k, n, R, I, G)) : BL c (E0 ++ L) = BL c (E0 ++ L.set j (a, k, n, R, upd I i v, G)) := by
  have e1 := lk_set (d := 0) (f := fun e => e.2.1) (e := (a, k, n, R, I, G)) (e' := (a, k, n, R, upd I i v, G)) rfl (app_at h) hn
  have e2 := lk_set (d := fun _ => none) (f := fun e => e.2.2.2.1) (e := (a, k, n, R, I, G)) (e' := (a, k, n, R, upd I i v, G)) rfl (app_at h) hn
  have e3 := lk_set (d := 0) (f := fun e => e.2.2.1) (e := (a, k, n, R, I, G)) (e' := (a, k, n, R, upd I i v, G)) rfl (app_at h) hn
  have e4 := adr_set (e := (a, k, n, R, I, G)) (e' := (a, k, n, R, upd I i v, G)) rfl (app_at (E0 := E0) h)
  have f1 : lk 0 (fun e => e.2.1) (E0 ++ L) a = k := lk_at (e := (a, k, n, R, I, G)) (app_at h) hn
  have f2 : lk (fun _ => none) (fun e => e.2.2.2.1) (E0 ++ L) a = R := lk_at (e := (a, k, n, R, I, G)) (app_at h) hn
  have f3 : lk 0 (fun e => e.2.2.1) (E0 ++ L) a = n := lk_at (e := (a, k, n, R, I, G)) (app_at h) hn
  rw [app_set] at e1 e2 e3 e4
  have h1 := e1.trans (va_up_id f1)
  have h2 := e2.trans (va_up_id f2)
  have h3 := e3.trans (va_up_id f3)
  unfold BL
  rw [h1, h2, h3, e4]
theorem BM_setI {i : Nat} {v : Int32} (hn : (adr (E0 ++ L)).Nodup) (h : L[j]? = some (a, k, n, R, I, G)) : mset (BM (E0 ++ L)) a i v = BM (E0 ++ L.set j (a, k, n, R, upd I i v, G)) := by
  have e1 := lk_set (d := fun _ => (0 : Int32)) (f := fun e => e.2.2.2.2.1) (e := (a, k, n, R, I, G)) (e' := (a, k, n, R, upd I i v, G)) rfl (app_at h) hn
  have e2 := lk_set (d := fun _ => (0 : Int64)) (f := fun e => e.2.2.2.2.2) (e := (a, k, n, R, I, G)) (e' := (a, k, n, R, upd I i v, G)) rfl (app_at h) hn
  have f1 : lk (fun _ => (0 : Int32)) (fun e => e.2.2.2.2.1) (E0 ++ L) a = I := lk_at (e := (a, k, n, R, I, G)) (app_at h) hn
  have f2 : lk (fun _ => (0 : Int64)) (fun e => e.2.2.2.2.2) (E0 ++ L) a = G := lk_at (e := (a, k, n, R, I, G)) (app_at h) hn
  rw [app_set] at e1 e2
  have h2 := e2.trans (va_up_id f2)
  show (va_up (lk (fun _ => (0 : Int32)) (fun e => e.2.2.2.2.1) (E0 ++ L)) a (upd (lk (fun _ => (0 : Int32)) (fun e => e.2.2.2.2.1) (E0 ++ L) a) i v), lk (fun _ => (0 : Int64)) (fun e => e.2.2.2.2.2) (E0 ++ L)) = (lk _ _ _, lk _ _ _)
  rw [e1, h2, f1]
theorem adr_sets {e' : En} (h' : e'.1 = a) (h : L[j]? = some (a, k, n, R, I, G)) : adr (E0 ++ L.set j e') = adr (E0 ++ L) := by
  have e4 := adr_set (e := (a, k, n, R, I, G)) (e' := e') h' (app_at (E0 := E0) h)
  rw [app_set] at e4
  exact e4
end BE
section JE
variable {x : Ctx} {cc : ByteArray} {nL : Nat} {ret : Option FieldType} {own : String} {c Λ0 : Lay} {rm : Room} {Q : State → Prop} {pc : Nat} {lv lv' : List (Nat × Value)} {st stk : List Value} {E0 L L' : List En} {a k n j : Nat} {R : Nat → Option Nat} {I : Nat → Int32} {G : Nat → Int64}
/-- what stands while a constructor runs -/
def CE (x : Ctx) (cc : ByteArray) (nL : Nat) (ret : Option FieldType) (own : String) (c Λ0 : Lay) (rm : Room) (E : List En) : Prop := Cx x cc nL ret own (BL c E) rm ∧ (adr E).Nodup ∧ Grow (xs x).heap.size Λ0 (BL c E)
theorem CE_new (C : CE x cc nL ret own c Λ0 rm (E0 ++ L)) {q k n s : Nat} (h1 : q ∉ adr (E0 ++ L)) (h2 : (xs x).heap.size ≤ q) (hk : xk x + 1 ≤ rm.cells ∧ xl x + s ≤ rm.slots) : CE (bump x 1 s) cc nL ret own c Λ0 rm (E0 ++ (L ++ [nw q k n])) := by
  obtain ⟨C, hn, hG⟩ := C
  have hg : Grow (xs x).heap.size (BL c (E0 ++ L)) (BL c (E0 ++ L ++ [nw q k n])) := by
    rw [← BL_new h1]; exact Grow.ad h1 h2
  rw [← List.append_assoc]
  refine ⟨Cx_bump (Cx_grow C hg) hk, ?_, hG.tr hg (Nat.le_refl _)⟩
  show (adr (E0 ++ L ++ [nw q k n])).Nodup
  unfold adr
  rw [List.map_append]
  refine List.nodup_append.mpr ⟨hn, List.nodup_cons.mpr ⟨List.not_mem_nil, List.nodup_nil⟩, fun y hy z hz => ?_⟩
  rw [List.mem_singleton.mp hz]
  intro e
  have e : y = q := e
  subst e
  exact h1 hy
theorem je_new (C : CE x cc nL ret own c Λ0 rm (E0 ++ L)) {idx ci N : Nat} (F : CN own idx ci N) (hk : xk x + 1 ≤ rm.cells ∧ xl x + N ≤ rm.slots) (hd : decode cc pc = .ok (.new idx, 3))
    (K : ∀ q : Nat, (xs x).heap.size ≤ q → CE (bump x 1 N) cc nL ret own c Λ0 rm (E0 ++ (L ++ [nw q ci 0])) → J (bump x 1 N) nL (BL c (E0 ++ (L ++ [nw q ci 0]))) Q (pc + 3) lv (.ref q :: st) (BM (E0 ++ (L ++ [nw q ci 0])))) : J x nL (BL c (E0 ++ L)) Q pc lv st (BM (E0 ++ L)) := by
  refine jc_new C.1 F hk hd (fun q Λ1 μ1 h1 h2 e1 e2 => ?_)
  subst e1 e2
  rw [BL_new h1, BM_new (k := ci) (n := 0) h1, List.append_assoc]
  exact K q h2 (CE_new C h1 h2 hk)
theorem je_newI (C : CE x cc nL ret own c Λ0 rm (E0 ++ L)) {v : Int32} {n : Nat} (hv : ¬ v < 0 ∧ v.toNatClampNeg = n ∧ n * 4 ≤ 536870912) (hk : xk x + 1 ≤ rm.cells ∧ xl x + n ≤ rm.slots) (ha : Cond.arrayClass .int ∈ GW) (hd : decode cc pc = .ok (.newarray .int, 2))
    (K : ∀ q : Nat, (xs x).heap.size ≤ q → CE (bump x 1 n) cc nL ret own c Λ0 rm (E0 ++ (L ++ [nw q 13 n])) → J (bump x 1 n) nL (BL c (E0 ++ (L ++ [nw q 13 n]))) Q (pc + 2) lv (.ref q :: st) (BM (E0 ++ (L ++ [nw q 13 n])))) : J x nL (BL c (E0 ++ L)) Q pc lv (.int v :: st) (BM (E0 ++ L)) := by
  refine jc_newI C.1 hv hk ha hd (fun q Λ1 μ1 h1 h2 e1 e2 => ?_)
  subst e1 e2
  rw [BL_new h1, BM_new (k := 13) (n := n) h1, List.append_assoc]
  exact K q h2 (CE_new C h1 h2 hk)
theorem je_newB (C : CE x cc nL ret own c Λ0 rm (E0 ++ L)) {v : Int32} {n : Nat} (hv : ¬ v < 0 ∧ v.toNatClampNeg = n ∧ n * 1 ≤ 536870912) (hk : xk x + 1 ≤ rm.cells ∧ xl x + n ≤ rm.slots) (ha : Cond.arrayClass .byte ∈ GW) (hd : decode cc pc = .ok (.newarray .byte, 2))
    (K : ∀ q : Nat, (xs x).heap.size ≤ q → CE (bump x 1 n) cc nL ret own c Λ0 rm (E0 ++ (L ++ [nw q 12 n])) → J (bump x 1 n) nL (BL c (E0 ++ (L ++ [nw q 12 n]))) Q (pc + 2) lv (.ref q :: st) (BM (E0 ++ (L ++ [nw q 12 n])))) : J x nL (BL c (E0 ++ L)) Q pc lv (.int v :: st) (BM (E0 ++ L)) := by
  refine jc_newB C.1 hv hk ha hd (fun q Λ1 μ1 h1 h2 e1 e2 => ?_)
  subst e1 e2
  rw [BL_new h1, BM_new (k := 12) (n := n) h1, List.append_assoc]
  exact K q h2 (CE_new C h1 h2 hk)
theorem je_newZ (C : CE x cc nL ret own c Λ0 rm (E0 ++ L)) {v : Int32} {n : Nat} (hv : ¬ v < 0 ∧ v.toNatClampNeg = n ∧ n * 1 ≤ 536870912) (hk : xk x + 1 ≤ rm.cells ∧ xl x + n ≤ rm.slots) (ha : Cond.arrayClass .boolean ∈ GW) (hd : decode cc pc = .ok (.newarray .boolean, 2))
    (K : ∀ q : Nat, (xs x).heap.size ≤ q → CE (bump x 1 n) cc nL ret own c Λ0 rm (E0 ++ (L ++ [nw q 15 n])) → J (bump x 1 n) nL (BL c (E0 ++ (L ++ [nw q 15 n]))) Q (pc + 2) lv (.ref q :: st) (BM (E0 ++ (L ++ [nw q 15 n])))) : J x nL (BL c (E0 ++ L)) Q pc lv (.int v :: st) (BM (E0 ++ L)) := by
  refine jc_newZ C.1 hv hk ha hd (fun q Λ1 μ1 h1 h2 e1 e2 => ?_)
  subst e1 e2
  rw [BL_new h1, BM_new (k := 15) (n := n) h1, List.append_assoc]
  exact K q h2 (CE_new C h1 h2 hk)
theorem je_newJ (C : CE x cc nL ret own c Λ0 rm (E0 ++ L)) {v : Int32} {n : Nat} (hv : ¬ v < 0 ∧ v.toNatClampNeg = n ∧ n * 8 ≤ 536870912) (hk : xk x + 1 ≤ rm.cells ∧ xl x + n ≤ rm.slots) (ha : Cond.arrayClass .long ∈ GW) (hd : decode cc pc = .ok (.newarray .long, 2))
    (K : ∀ q : Nat, (xs x).heap.size ≤ q → CE (bump x 1 n) cc nL ret own c Λ0 rm (E0 ++ (L ++ [nw q 14 n])) → J (bump x 1 n) nL (BL c (E0 ++ (L ++ [nw q 14 n]))) Q (pc + 2) lv (.ref q :: st) (BM (E0 ++ (L ++ [nw q 14 n])))) : J x nL (BL c (E0 ++ L)) Q pc lv (.int v :: st) (BM (E0 ++ L)) := by
  refine jc_newJ C.1 hv hk ha hd (fun q Λ1 μ1 h1 h2 e1 e2 => ?_)
  subst e1 e2
  rw [BL_new h1, BM_new (k := 14) (n := n) h1, List.append_assoc]
  exact K q h2 (CE_new C h1 h2 hk)
theorem jc_newq {Λ : Lay} {μ : Mem} (C : Cx x cc nL ret own Λ rm) {idx : Nat} {v : Int32} {n : Nat} (hv : ¬ v < 0 ∧ v.toNatClampNeg = n ∧ n * 4 ≤ 536870912) (hk : xk x + 1 ≤ rm.cells ∧ xl x + n ≤ rm.slots) (ha : Cond.classLink own idx "DryDock$State" ∈ GW) (hd : decode cc pc = .ok (.anewarray idx, 3))
    (K : ∀ (q : Nat) (Λ1 : Lay) (μ1 : Mem), q ∉ aL Λ → (xs x).heap.size ≤ q → Λ1 = ad Λ q 16 n → μ1 = mz μ q → J (bump x 1 n) nL Λ1 Q (pc + 3) lv (.ref q :: st) μ1) : J x nL Λ Q pc lv (.int v :: st) μ := by
  intro H locs ls hw hl
  have hRR : xR x = rm := C.2.2.2.2.2.2.2.2.2.1
  refine va_newq (C := "DryDock$State") C.1 C.2.1 C.2.2.2.2.1 (C.2.2.2.2.2.1 _ ha) C.2.2.2.2.2.2.2.2.1.2.2.2.2.2.2.2.2.2.2.2 C.2.2.2.2.2.2.2.1 hw.1 hw.2.1 hw.2.2 (fun q h => Or.inr h) hv.1 hv.2.1 hv.2.2 (by rw [hRR]; exact hk.1) (by rw [hRR]; exact hk.2) hd (fun q cA H1 hK hP hD hS => ?_)
  have e : cA = aC Λ 4 := by
    have h1 := (hK.2 5 (cA, .object "DryDock$State") rfl).2
    have h2 := (hK.2 4 (aC Λ 4, .object "DryDock$State") rfl).2
    unfold va_RA at h1 h2
    obtain ⟨-, -, -, -, -, h1⟩ := h1
    obtain ⟨-, -, -, -, -, h2⟩ := h2
    exact Option.some.inj (h1.symm.trans h2)
  subst e
  obtain ⟨h4, h5, h6⟩ := Wd_add (x := x) (k := 16) (n := n) (a := 1) (b := n) (by rw [ent_16 ad_K, ad_Z, show aR (ad Λ q 16 n) q = fun _ => none from va_up_self _ _ _]; rfl) hP hD hS
  exact K q _ _ h4 h5 rfl rfl H1 locs ls h6 hl
theorem je_newq (C : CE x cc nL ret own c Λ0 rm (E0 ++ L)) {idx : Nat} {v : Int32} {n : Nat} (hv : ¬ v < 0 ∧ v.toNatClampNeg = n ∧ n * 4 ≤ 536870912) (hk : xk x + 1 ≤ rm.cells ∧ xl x + n ≤ rm.slots) (ha : Cond.classLink own idx "DryDock$State" ∈ GW) (hd : decode cc pc = .ok (.anewarray idx, 3))
    (K : ∀ q : Nat, (xs x).heap.size ≤ q → CE (bump x 1 n) cc nL ret own c Λ0 rm (E0 ++ (L ++ [nw q 16 n])) → J (bump x 1 n) nL (BL c (E0 ++ (L ++ [nw q 16 n]))) Q (pc + 3) lv (.ref q :: st) (BM (E0 ++ (L ++ [nw q 16 n])))) : J x nL (BL c (E0 ++ L)) Q pc lv (.int v :: st) (BM (E0 ++ L)) := by
  refine jc_newq C.1 hv hk ha hd (fun q Λ1 μ1 h1 h2 e1 e2 => ?_)
  subst e1 e2
  rw [BL_new h1, BM_new (k := 16) (n := n) h1, List.append_assoc]
  exact K q h2 (CE_new C h1 h2 hk)
theorem CE_setI (C : CE x cc nL ret own c Λ0 rm (E0 ++ L)) {i : Nat} {v : Int32} (h : L[j]? = some (a, k, n, R, I, G)) (hL : L' = L.set j (a, k, n, R, upd I i v, G)) : CE x cc nL ret own c Λ0 rm (E0 ++ L') := by
  subst hL
  obtain ⟨C, hn, hG⟩ := C
  refine ⟨?_, ?_, ?_⟩
  · rw [← BL_setI hn h]; exact C
  · rw [adr_sets rfl h]; exact hn
  · rw [← BL_setI hn h]; exact hG
theorem je_putI {ls0 : List (Nat × Int32)} (C : CE x cc nL ret own c Λ0 rm (E0 ++ L)) {idx i : Nat} (F : FP own idx k i .int) {v : Int32} (h : L[j]? = some (a, k, n, R, inE ls0, G)) (hL : L' = L.set j (a, k, n, R, inE ((i, v) :: ls0), G)) (hd : decode cc pc = .ok (.putfield idx, 3)) (K : CE x cc nL ret own c Λ0 rm (E0 ++ L') → J x nL (BL c (E0 ++ L')) Q (pc + 3) lv st (BM (E0 ++ L'))) : J x nL (BL c (E0 ++ L)) Q pc lv (.int v :: .ref a :: st) (BM (E0 ++ L)) := by
  replace hL : L' = L.set j (a, k, n, R, upd (inE ls0) i v, G) := hL
  have hK := K (CE_setI C h hL)
  subst hL
  rw [← BL_setI C.2.1 h] at hK
  exact j_putI C.1 F (BL_in C.2.1 h) (BM_setI C.2.1 h).symm hd hK
theorem je_putZ {ls0 : List (Nat × Int32)} (C : CE x cc nL ret own c Λ0 rm (E0 ++ L)) {idx i : Nat} (F : FP own idx k i .boolean) {v : Int32} (hz : zb v = true) (h : L[j]? = some (a, k, n, R, inE ls0, G)) (hL : L' = L.set j (a, k, n, R, inE ((i, v) :: ls0), G)) (hd : decode cc pc = .ok (.putfield idx, 3)) (K : CE x cc nL ret own c Λ0 rm (E0 ++ L') → J x nL (BL c (E0 ++ L')) Q (pc + 3) lv st (BM (E0 ++ L'))) : J x nL (BL c (E0 ++ L)) Q pc lv (.int v :: .ref a :: st) (BM (E0 ++ L)) := by
  replace hL : L' = L.set j (a, k, n, R, upd (inE ls0) i v, G) := hL
  have hK := K (CE_setI C h hL)
  subst hL
  rw [← BL_setI C.2.1 h] at hK
  exact j_putZ C.1 F hz (BL_in C.2.1 h) (BM_setI C.2.1 h).symm hd hK
theorem je_iast {ls0 : List (Nat × Int32)} (C : CE x cc nL ret own c Λ0 rm (E0 ++ L)) {i v : Int32} {i' : Nat} (h : L[j]? = some (a, 13, n, R, inE ls0, G)) (hi : inb i n = true) (hi' : i.toNatClampNeg = i') (hL : L' = L.set j (a, 13, n, R, inE ((i', v) :: ls0), G)) (hd : decode cc pc = .ok (.iastore, 1)) (K : CE x cc nL ret own c Λ0 rm (E0 ++ L') → J x nL (BL c (E0 ++ L')) Q (pc + 1) lv st (BM (E0 ++ L'))) : J x nL (BL c (E0 ++ L)) Q pc lv (.int v :: .int i :: .ref a :: st) (BM (E0 ++ L)) := by
  replace hL : L' = L.set j (a, 13, n, R, upd (inE ls0) i' v, G) := hL
  have hK := K (CE_setI C h hL)
  subst hL hi'
  rw [← BL_setI C.2.1 h] at hK
  exact j_iast C.1 (BL_in C.2.1 h) (by rw [BL_Z C.2.1 h]; exact hi) (BM_setI C.2.1 h).symm hd hK
theorem je_getR (C : CE x cc nL ret own c Λ0 rm (E0 ++ L)) {idx i q : Nat} (F : FG own idx k i false) (h : L[j]? = some (a, k, n, R, I, G)) (hr : R i = some q) (hd : decode cc pc = .ok (.getfield idx, 3)) (K : J x nL (BL c (E0 ++ L)) Q (pc + 3) lv (.ref q :: st) (BM (E0 ++ L))) : J x nL (BL c (E0 ++ L)) Q pc lv (.ref a :: st) (BM (E0 ++ L)) := j_getR C.1 F (BL_in C.2.1 h) (by rw [BL_R C.2.1 h]; exact hr) hd K
theorem CE_setR (C : CE x cc nL ret own c Λ0 rm (E0 ++ L)) {i q : Nat} (h : L[j]? = some (a, k, n, R, I, G)) (hL : L' = L.set j (a, k, n, va_up R i (some q), I, G)) : CE x cc nL ret own c Λ0 rm (E0 ++ L') := by
  subst hL
  obtain ⟨C, hn, hG⟩ := C
  have hg : Grow (xs x).heap.size (BL c (E0 ++ L)) (BL c (E0 ++ L.set j (a, k, n, va_up R i (some q), I, G))) := by
    rw [← BL_setR hn h]; exact Grow.sR
  exact ⟨Cx_grow C hg, by rw [adr_sets rfl h]; exact hn, hG.tr hg (Nat.le_refl _)⟩
theorem pool_sR {Λ : Lay} {μ : Mem} {A : Nat → Prop} {a q i q0 : Nat} {e : va_E} (hD : va_D A (pool Λ μ)) (h : a ∈ aL Λ) (hq : (pool Λ μ)[q0]? = some (a, ent Λ μ a)) (he : e = ent (sR Λ a i q) μ a) : (pool Λ μ).set q0 (a, e) = pool (sR Λ a i q) μ := by
  refine (va_pl_set (X := []) hD h hq).trans (va_pl_congr (fun b => ?_))
  by_cases hb : b = a
  · subst hb; rw [va_up_self]; exact he
  · rw [va_up_ne _ _ hb]; exact ent_congr rfl rfl rfl (sR_off hb).symm rfl rfl
/-- a final field of a constructor's own object -/
def FR (own : String) (idx ci k : Nat) : Prop := ∃ (Cn : String) (T : u_T) (N : Nat) (tyf : Nat → FieldType) (ty : FieldType), ClF ci Cn T N ∧ k < N ∧ (fty ci)[k]? = some false ∧ FL own idx T k ∧ (∀ k, k < N → parseFieldDescriptor (T k).2.2.1 = some (tyf k)) ∧ (∀ a, a < N → ∀ b, b < N → a ≠ b → (T a).2.1 ≠ (T b).2.1) ∧ (T k).2.2.2 = true ∧ (T k).1 = own ∧ parseFieldDescriptor (T k).2.2.1 = some ty ∧ ∀ v : Nat, narrow ty (.ref v) = .ref v ∧ fits ty (.ref v) = true
theorem Wd_setR {Λ : Lay} {μ : Mem} {H1 : Heap} {locs1 : List Loc} {a i q q0 : Nat} {e : va_E} (hD0 : va_D (AL Λ (xs x).heap.size) (pool Λ μ)) (ha : a ∈ aL Λ) (hq : (pool Λ μ)[q0]? = some (a, ent Λ μ a)) (he : e = ent (sR Λ a i q) μ a) (hP : va_P (aD Λ) vwCl ((pool Λ μ).set q0 (a, e)) H1) (hD : va_D (AL Λ (xs x).heap.size) ((pool Λ μ).set q0 (a, e))) (hS : va_S (AL Λ (xs x).heap.size) (xs x).heap H1 locs1) : Wd x (sR Λ a i q) μ H1 locs1 := by
  rw [pool_sR hD0 ha hq he] at hP hD
  exact ⟨hP, hD, hS⟩
theorem jc_putR {Λ : Lay} {μ : Mem} (C : Cx x cc nL ret own Λ rm) (hin : (xM x).name = "<init>") {idx ci k : Nat} (F : FR own idx ci k) {a v : Nat} (ha : inL Λ a ci) (hd : decode cc pc = .ok (.putfield idx, 3)) (K : J x nL (sR Λ a k v) Q (pc + 3) lv st μ) : J x nL Λ Q pc lv (.ref v :: .ref a :: st) μ := by
  intro H locs ls hw hl
  obtain ⟨Cn, T, N, tyf, ty, F, hk, hf, ⟨ref, hlink, hsame⟩, hty, hnm, hfin, hdecl, hpd, hv⟩ := F
  obtain ⟨q0, hq0⟩ := pool_at (μ := μ) ha.1
  have hq := hq0
  rw [ent_ob ha.2 F.2.2] at hq
  refine va_putF (D := aD Λ) (ci := ci) (C := Cn) (T := T) (N := N) (ty := ty) (v := .ref v) C.1 C.2.1 C.2.2.2.2.2.1 F.2.1 tyf hty hnm C.2.2.2.2.1 C.2.2.2.2.2.2.2.1 hw.1 hw.2.1 hw.2.2 q0 hq F.1 k hk (C.2.2.2.2.2.1 _ hlink) (FL_same (idx := idx) C.2.2.2.2.2.1 hsame) hfin hin hdecl hpd (hv v).1 (hv v).2 (by rw [fls_len]; exact (List.getElem?_eq_some_iff.mp hf).1) hd (fun H1 locs1 hP hD hS => ?_)
  refine K H1 locs1 ls (Wd_setR hw.2.1 ha.1 hq0 ?_ hP hD hS) hl
  have e := fls_setR Λ μ a v (fty ci) 0 k hf
  rw [Nat.zero_add] at e
  rw [ent_ob (Λ := sR Λ a k v) ha.2 F.2.2, ← e]
  rfl
theorem je_putR {ls0 : List (Nat × Nat)} (C : CE x cc nL ret own c Λ0 rm (E0 ++ L)) (hin : (xM x).name = "<init>") {idx i v : Nat} (F : FR own idx k i) (h : L[j]? = some (a, k, n, rfE ls0, I, G)) (hL : L' = L.set j (a, k, n, rfE ((i, v) :: ls0), I, G)) (hd : decode cc pc = .ok (.putfield idx, 3)) (K : CE x cc nL ret own c Λ0 rm (E0 ++ L') → J x nL (BL c (E0 ++ L')) Q (pc + 3) lv st (BM (E0 ++ L'))) : J x nL (BL c (E0 ++ L)) Q pc lv (.ref v :: .ref a :: st) (BM (E0 ++ L)) := by
  replace hL : L' = L.set j (a, k, n, va_up (rfE ls0) i (some v), I, G) := hL
  have hK := K (CE_setR C h hL)
  subst hL
  rw [← BL_setR C.2.1 h, ← BM_setR C.2.1 h] at hK
  exact jc_putR C.1 hin F (BL_in C.2.1 h) hd hK
theorem jc_ast {Λ : Lay} {μ : Mem} (C : Cx x cc nL ret own Λ rm) {a v : Nat} {i : Int32} (ha : inL Λ a 16) (hv : inL Λ v 8) (hi : inb i (aZ Λ a) = true) (hd : decode cc pc = .ok (.aastore, 1)) (K : J x nL (sR Λ a i.toNatClampNeg v) Q (pc + 1) lv st μ) : J x nL Λ Q pc lv (.ref v :: .int i :: .ref a :: st) μ := by
  intro H locs ls hw hl
  obtain ⟨q0, hq0⟩ := pool_at (μ := μ) ha.1
  have hq := hq0
  rw [ent_16 ha.2] at hq
  obtain ⟨q1, hq1⟩ := pool_at (μ := μ) hv.1
  rw [ent_ob hv.2 (by decide)] at hq1
  refine va_astq C.1 C.2.1 C.2.2.2.2.2.2.2.1 hw.1 hw.2.1 hw.2.2 q0 4 q1 8 (r := (_, _, _)) hq rfl hq1 rfl (inb_in hi) hd (fun H1 locs1 hP hD hS => ?_)
  refine K H1 locs1 ls (Wd_setR hw.2.1 ha.1 hq0 ?_ hP hD hS) hl
  rw [ent_16 (Λ := sR Λ a i.toNatClampNeg v) ha.2]
  show _ = Sum.inl (aC Λ 4, aZ Λ a, Sum.inr (Sum.inr (Sum.inr (Sum.inr (va_up (aR Λ) a (va_up (aR Λ a) i.toNatClampNeg (some v)) a)))))
  rw [va_up_self]
theorem je_ast {ls0 : List (Nat × Nat)} (C : CE x cc nL ret own c Λ0 rm (E0 ++ L)) {v i' jv nv : Nat} {i : Int32} {Rv : Nat → Option Nat} {Iv : Nat → Int32} {Gv : Nat → Int64} (h : L[j]? = some (a, 16, n, rfE ls0, I, G)) (hv : L[jv]? = some (v, 8, nv, Rv, Iv, Gv)) (hi : inb i n = true) (hi' : i.toNatClampNeg = i') (hL : L' = L.set j (a, 16, n, rfE ((i', v) :: ls0), I, G)) (hd : decode cc pc = .ok (.aastore, 1)) (K : CE x cc nL ret own c Λ0 rm (E0 ++ L') → J x nL (BL c (E0 ++ L')) Q (pc + 1) lv st (BM (E0 ++ L'))) : J x nL (BL c (E0 ++ L)) Q pc lv (.ref v :: .int i :: .ref a :: st) (BM (E0 ++ L)) := by
  replace hL : L' = L.set j (a, 16, n, va_up (rfE ls0) i' (some v), I, G) := hL
  have hK := K (CE_setR C h hL)
  subst hL hi'
  rw [← BL_setR C.2.1 h, ← BM_setR C.2.1 h] at hK
  exact jc_ast C.1 (BL_in C.2.1 h) (BL_in C.2.1 hv) (by rw [BL_Z C.2.1 h]; exact hi) hd hK
theorem jc_obj {Λ : Lay} {μ : Mem} (C : Cx x cc nL ret own Λ rm) {idx a : Nat} (h1 : Cond.methodLink own idx ⟨"java/lang/Object", "<init>", "()V"⟩ ∈ GW) (h2 : Cond.instanceMethod ⟨"java/lang/Object", "<init>", "()V"⟩ ∈ GW) (h3 : Cond.code ⟨"java/lang/Object", "<init>", "()V"⟩ ⟨#[0xb1]⟩ 1 none ∈ GW) (hR : 1 ≤ rm.frames ∧ 20 ≤ rm.locals) (hW : (st.map fun v => v.category).sum ≤ 8) (hd : decode cc pc = .ok (.invokespecial idx, 3)) (K : J x nL Λ Q (pc + 3) lv st μ) : J x nL Λ Q pc lv (.ref a :: st) μ := by
  intro H locs ls hw hl
  have hRR : xR x = rm := C.2.2.2.2.2.2.2.2.2.1
  refine W.objInit C.1 C.2.1 C.2.2.2.2.1 (C.2.2.2.2.2.1 _ h1) (C.2.2.2.2.2.1 _ h2) (C.2.2.2.2.2.1 _ h3) rfl (by rw [C.2.2.2.1]; exact hl.1) rfl hd (by rw [hRR]; exact hR.1) (by rw [hRR]; have hq := lv_room (m := xm x) (pc := pc) (ls := ls) (rest := Value.ref a :: st) hW; have := hR.2; omega) ?_
  exact W.eq (g2 := F0 (xm x) (pc + 3) ls st) rfl (K H locs ls hw hl)
abbrev RelE {σ : Type} (c : Lay) (E0 : List En) (out : σ → List En) : Lay → Mem → Prop := fun Λ μ => ∃ q : σ, (adr (E0 ++ out q)).Nodup ∧ Λ = BL c (E0 ++ out q) ∧ μ = BM (E0 ++ out q)
def LI (own : String) (idx : Nat) (y : MethodName) (cb : ByteArray) (nL : Nat) (n : Nat) : Prop := (Cond.methodLink own idx y ∈ GW ∧ Cond.instanceMethod y ∈ GW ∧ Cond.initialized y.cls ∈ GW ∧ Cond.code y cb nL none ∈ GW) ∧ y.name = "<init>" ∧ okN y n
def LIN (own : String) (idx : Nat) (host : String) (y : MethodName) (cb : ByteArray) (nL : Nat) (n : Nat) : Prop := (Cond.methodLinkNest own idx y host ∈ NWs ∧ Cond.instanceMethod y ∈ GW ∧ Cond.initialized y.cls ∈ GW ∧ Cond.code y cb nL none ∈ GW) ∧ y.name = "<init>" ∧ okN y n
abbrev roomC (rm' rm : Room) (nL' : Nat) : Prop := rm'.frames + 1 ≤ rm.frames ∧ 8 + (nL' + 11) + rm'.locals ≤ rm.locals
abbrev vRunC (x : Ctx) (Λ : Lay) (μ : Mem) (nL pc mc ms : Nat) (lv : List (Nat × Value)) (stk st : List Value) (Qc : Nat → Array Value → State → Outcome → State → Prop) (av : List Value) : Prop :=
  ∀ (H : Heap) (locs : List Loc) (ls : Array Slot), Wd x Λ μ H locs → lv_has ls nL lv → va_Run x.1 x.2.1 x.2.2.1 (xR x) (xs x) (xm x) (xa x) (xb x) (xM x) (xc x) H locs (xk x) (xl x) mc ms (F0 (xm x) pc ls stk) st (Qc H.size av.toArray) (AL Λ H.size)
theorem run_LI {Λ : Lay} {μ : Mem} (C : Cx x cc nL ret own Λ rm) {idx : Nat} {y : MethodName} {cb : ByteArray} {nL' n : Nat} (Lk : LI own idx y cb nL' n) {rm' : Room} (hR : roomC rm' rm nL') (hk : xk x + rm'.cells ≤ rm.cells ∧ xl x + rm'.slots ≤ rm.slots) {a : Nat} {As : List Value} (hn : As.length = n) (hst : stk = As.reverse ++ .ref a :: st) (hW : (st.map fun v => v.category).sum ≤ 8) (hd : decode cc pc = .ok (.invokespecial idx, 3))
    {Qc : Nat → Array Value → State → Outcome → State → Prop} (hM : ∀ sz, Met x.2.1 y (wsG y cb nL' none) rm' (va_Pc (.ref a :: As) (Pr Λ μ sz)) (Qc sz) rm'.cells rm'.slots (AL Λ sz)) : vRunC x Λ μ nL pc rm'.cells rm'.slots lv stk st Qc (.ref a :: As) := by
  intro H locs ls hw hl
  obtain ⟨⟨h1, h2, h3, h4⟩, h5, hok⟩ := Lk
  have hRR : xR x = rm := C.2.2.2.2.2.2.2.2.2.1
  exact va_runI (As := As) (rest := st) (fix_of C) (hM H.size) (cwI n C.2.2.2.2.2.1 (GW_code h4) rfl rfl rfl (C.2.2.2.2.2.1 _ h3) (C.2.2.2.2.2.1 _ h1) (C.2.2.2.2.2.1 _ h2) h5 hok (by rw [hRR]; exact hR)) ⟨Pr_blind _, Pr_of C hw _⟩ rfl hn hl.1 hst (lv_room hW) hd (by rw [hRR]; exact hk)
theorem run_LIN {Λ : Lay} {μ : Mem} (C : Cx x cc nL ret own Λ rm) {idx : Nat} {host : String} {y : MethodName} {cb : ByteArray} {nL' n : Nat} (Lk : LIN own idx host y cb nL' n) {rm' : Room} (hR : roomC rm' rm nL') (hk : xk x + rm'.cells ≤ rm.cells ∧ xl x + rm'.slots ≤ rm.slots) {a : Nat} {As : List Value} (hn : As.length = n) (hst : stk = As.reverse ++ .ref a :: st) (hW : (st.map fun v => v.category).sum ≤ 8) (hd : decode cc pc = .ok (.invokespecial idx, 3))
    {Qc : Nat → Array Value → State → Outcome → State → Prop} (hM : ∀ sz, Met x.2.1 y (wsG y cb nL' none) rm' (va_Pc (.ref a :: As) (Pr Λ μ sz)) (Qc sz) rm'.cells rm'.slots (AL Λ sz)) : vRunC x Λ μ nL pc rm'.cells rm'.slots lv stk st Qc (.ref a :: As) := by
  intro H locs ls hw hl
  obtain ⟨⟨h1, h2, h3, h4⟩, h5, hok⟩ := Lk
  have hRR : xR x = rm := C.2.2.2.2.2.2.2.2.2.1
  exact va_runIN (As := As) (rest := st) (fix_of C) (hM H.size) ⟨va_cnB n C.2.2.2.2.2.1 (GW_code h4) rfl rfl rfl (C.2.2.2.2.2.2.2.2.1.1 _ h1) (C.2.2.2.2.2.1 _ h3) hok (by rw [hRR]; exact hR), h5, C.2.2.2.2.2.1 _ h2⟩ ⟨Pr_blind _, Pr_of C hw _⟩ rfl hn hl.1 hst (lv_room hW) hd (by rw [hRR]; exact hk)
theorem jc_call {Λ : Lay} {μ : Mem} {mc ms : Nat} {av : List Value} {Rel : Lay → Mem → Prop} (hr : vRunC x Λ μ nL pc mc ms lv stk st (fun sz => qC Λ sz Rel) av) (K : ∀ Λ1 μ1, Rel Λ1 μ1 → Grow (xs x).heap.size Λ Λ1 → J (bump x mc ms) nL Λ1 Q (pc + 3) lv st μ1) : J x nL Λ Q pc lv stk μ := by
  intro H locs ls hw hl
  refine va_callv (hr H locs ls hw hl) hw.2.2 (fun q _ h => AL_sub hw.2.2.1 q h) (fun q h => AL_sub hw.2.2.1 q h) (fun u t H1 locs1 ht hvm hp hB hz hk hS => ?_)
  obtain ⟨hR, hG⟩ := hp
  have hG2 : Grow (xs x).heap.size Λ u.1 := hG.down hw.2.2.1
  obtain ⟨hP, hD⟩ := hB
  rw [ht] at hP
  have hP : va_P (aD u.1) vwCl (pool u.1 u.2) H1 := hP
  refine K u.1 u.2 hR hG2 H1 locs1 ls ⟨hP, ?_, ?_⟩ hl
  · show va_D (AL u.1 (xs x).heap.size) _
    rw [hG2.AL]
    exact hD.weaken (fun q e h1 h2 => AL_sub hw.2.2.1 _ (by first | exact h2 | exact h1))
  · show va_S (AL u.1 (xs x).heap.size) (xs x).heap H1 locs1
    rw [hG2.AL]; exact hS
/-- a constructor, from the object just made -/
def MCE {σ : Type} (l : Launch) (y : MethodName) (cb : ByteArray) (nL : Nat) (rm : Room) (c : Lay) (E0 : List En) (a k : Nat) (As : List Value) (out : σ → List En) : Prop := MCc l y cb nL rm (BL c (E0 ++ [nw a k 0])) (.ref a :: As) (BM (E0 ++ [nw a k 0])) (RelE c E0 out)
theorem je_callI {σ : Type} {out : σ → List En} {k : Nat} {L1 : List En} (C : CE x cc nL ret own c Λ0 rm (E0 ++ L1)) (hL1 : L1 = L ++ [nw a k 0]) {idx : Nat} {y : MethodName} {cb : ByteArray} {nL' n : Nat} (Lk : LI own idx y cb nL' n) {rm' : Room} (hR : roomC rm' rm nL') (hk : xk x + rm'.cells ≤ rm.cells ∧ xl x + rm'.slots ≤ rm.slots) {As : List Value} (hn : As.length = n) (hst : stk = As.reverse ++ .ref a :: st) (hW : (st.map fun v => v.category).sum ≤ 8) (hd : decode cc pc = .ok (.invokespecial idx, 3)) (hM : (adr ((E0 ++ L) ++ [nw a k 0])).Nodup → MCE x.2.1 y cb nL' rm' c (E0 ++ L) a k As out) (K : ∀ q : σ, CE (bump x rm'.cells rm'.slots) cc nL ret own c Λ0 rm (E0 ++ (L ++ out q)) → J (bump x rm'.cells rm'.slots) nL (BL c (E0 ++ (L ++ out q))) Q (pc + 3) lv st (BM (E0 ++ (L ++ out q)))) : J x nL (BL c (E0 ++ L1)) Q pc lv stk (BM (E0 ++ L1)) := by
  subst hL1
  rw [← List.append_assoc] at C ⊢
  refine jc_call (run_LI C.1 Lk hR hk hn hst hW hd (hM C.2.1)) (fun Λ1 μ1 hR hG => ?_)
  obtain ⟨q, hn, e1, e2⟩ := hR
  subst e1 e2
  have hG2 := C.2.2.tr hG (Nat.le_refl _)
  have C2 := Cx_bump (Cx_grow C.1 hG) hk
  rw [List.append_assoc] at hn hG2 C2 ⊢
  exact K q ⟨C2, hn, hG2⟩
theorem je_callN {σ : Type} {out : σ → List En} {k : Nat} {L1 : List En} (C : CE x cc nL ret own c Λ0 rm (E0 ++ L1)) (hL1 : L1 = L ++ [nw a k 0]) {idx : Nat} {host : String} {y : MethodName} {cb : ByteArray} {nL' n : Nat} (Lk : LIN own idx host y cb nL' n) {rm' : Room} (hR : roomC rm' rm nL') (hk : xk x + rm'.cells ≤ rm.cells ∧ xl x + rm'.slots ≤ rm.slots) {As : List Value} (hn : As.length = n) (hst : stk = As.reverse ++ .ref a :: st) (hW : (st.map fun v => v.category).sum ≤ 8) (hd : decode cc pc = .ok (.invokespecial idx, 3)) (hM : (adr ((E0 ++ L) ++ [nw a k 0])).Nodup → MCE x.2.1 y cb nL' rm' c (E0 ++ L) a k As out) (K : ∀ q : σ, CE (bump x rm'.cells rm'.slots) cc nL ret own c Λ0 rm (E0 ++ (L ++ out q)) → J (bump x rm'.cells rm'.slots) nL (BL c (E0 ++ (L ++ out q))) Q (pc + 3) lv st (BM (E0 ++ (L ++ out q)))) : J x nL (BL c (E0 ++ L1)) Q pc lv stk (BM (E0 ++ L1)) := by
  subst hL1
  rw [← List.append_assoc] at C ⊢
  refine jc_call (run_LIN C.1 Lk hR hk hn hst hW hd (hM C.2.1)) (fun Λ1 μ1 hR hG => ?_)
  obtain ⟨q, hn, e1, e2⟩ := hR
  subst e1 e2
  have hG2 := C.2.2.tr hG (Nat.le_refl _)
  have C2 := Cx_bump (Cx_grow C.1 hG) hk
  rw [List.append_assoc] at hn hG2 C2 ⊢
  exact K q ⟨C2, hn, hG2⟩
theorem QC_bump {x : Ctx} {a b : Nat} {Λ : Lay} {rm : Room} {Rel : Lay → Mem → Prop} : QC (bump x a b) Λ rm Rel = QC x Λ rm Rel := rfl
theorem je_ret {σ : Type} {out : σ → List En} (C : CE x cc nL none own c (BL c (E0 ++ [nw a k 0])) rm (E0 ++ L)) (hQ : Q = QC x (BL c (E0 ++ [nw a k 0])) rm (RelE c E0 out)) (q : σ) (hq : L = out q) (hd : decode cc pc = .ok (.return_, 1)) : J x nL (BL c (E0 ++ L)) Q pc lv [] (BM (E0 ++ L)) := by
  subst hq
  rw [hQ]
  exact jc_ret C.1 C.2.2 ⟨q, C.2.1, rfl, rfl⟩ hd
theorem mce_of {σ : Type} {l : Launch} {y : MethodName} {cb : ByteArray} {nL : Nat} {rm : Room} {c : Lay} {E0 : List En} {a k : Nat} {As : List Value} {out : σ → List En} (hn : (adr (E0 ++ [nw a k 0])).Nodup) (hpl : plainName y.cls = true) (hy : y.name = "<init>") (hnL : (lg_sl (.ref a :: As)).length ≤ nL)
    (h : ∀ x : Ctx, CE x cb nL none y.cls c (BL c (E0 ++ [nw a k 0])) rm (E0 ++ [nw a k 0]) → x.2.1 = l → (xM x).name = "<init>" → xk x = 0 ∧ xl x = 0 → ∀ Q : State → Prop, Q = QC x (BL c (E0 ++ [nw a k 0])) rm (RelE c E0 out) → J x nL (BL c (E0 ++ [nw a k 0])) Q 0 (lv_args 0 (.ref a :: As)) [] (BM (E0 ++ [nw a k 0]))) : MCE l y cb nL rm c E0 a k As out := mcc_of hpl hy hnL (fun x C hl hi h0 => h x ⟨C, hn, Grow.rf⟩ hl hi h0 _ rfl)
end JE

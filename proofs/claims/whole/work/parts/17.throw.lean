/-! methods that throw: r.1 is 0, or tells the class; r.2.1 the answer; r.2.2 the memory -/
def exN (k : Nat) : Option String := match k with
  | 1 => some "java/lang/IllegalArgumentException"
  | 2 => some "java/lang/UnsupportedOperationException"
  | 3 => some "java/lang/IndexOutOfBoundsException"
  | 4 => some "java/util/NoSuchElementException"
  | 5 => some "java/lang/IllegalStateException"
  | _ => none
/-- go on, or end with e -/
def thn {α : Type} (c : Prop) [Decidable c] (e t : Option α) : Option α := if c then t else e
abbrev RX_ : Type := Nat × Int32 × Mem
abbrev qXI (Λ : Lay) (sz : Nat) (r : RX_) : Array Value → State → Outcome → State → Prop := va_Qi (fun r' (_ : Unit) => r.1 = 0 ∧ r' = r.2.1) (fun _ t => va_P (aD Λ) vwCl (pool Λ r.2.2) t.heap) (AL Λ sz)
abbrev qXV (Λ : Lay) (sz : Nat) (r : RX_) : Array Value → State → Outcome → State → Prop := va_Qv (fun (_ : Unit) => r.1 = 0) (fun _ t => va_P (aD Λ) vwCl (pool Λ r.2.2) t.heap) (AL Λ sz)
abbrev xXC (Λ : Lay) (sz : Nat) (r : RX_) : String → State → State → Prop := vx_X (fun (_ : Unit) => True) (fun E _ t => exN r.1 = some E ∧ va_P (aD Λ) vwCl (pool Λ r.2.2) t.heap) (AL Λ sz)
def MXI (l : Launch) (y : MethodName) (cb : ByteArray) (nL : Nat) (ret : Option FieldType) (rm : Room) (Λ : Lay) (av : List Value) (μ : Mem) (r : RX_) : Prop :=
  ∀ sz, vx_Met l y (wsG y cb nL ret) rm (va_Pc av (Pr Λ μ sz)) (qXI Λ sz r) (xXC Λ sz r) rm.cells rm.slots (AL Λ sz)
def MXV (l : Launch) (y : MethodName) (cb : ByteArray) (nL : Nat) (rm : Room) (Λ : Lay) (av : List Value) (μ : Mem) (r : RX_) : Prop :=
  ∀ sz, vx_Met l y (wsG y cb nL none) rm (va_Pc av (Pr Λ μ sz)) (qXV Λ sz r) (xXC Λ sz r) rm.cells rm.slots (AL Λ sz)
def QXI (x : Ctx) (Λ : Lay) (rm : Room) (r : RX_) : State → Prop := vx_MQ (xb x) (qXI Λ (xs x).heap.size r) (xXC Λ (xs x).heap.size r) (xa x) (xs x) rm.cells rm.slots (AL Λ (xs x).heap.size)
def QXV (x : Ctx) (Λ : Lay) (rm : Room) (r : RX_) : State → Prop := vx_MQ (xb x) (qXV Λ (xs x).heap.size r) (xXC Λ (xs x).heap.size r) (xa x) (xs x) rm.cells rm.slots (AL Λ (xs x).heap.size)
def bump (x : Ctx) (a b : Nat) : Ctx := (x.1, x.2.1, x.2.2.1, xR x, xs x, xm x, xa x, xb x, xM x, xc x, xk x + a, xl x + b)
theorem Cx_bump {x : Ctx} {cc : ByteArray} {nL : Nat} {ret : Option FieldType} {own : String} {Λ : Lay} {rm : Room} (C : Cx x cc nL ret own Λ rm) {a b : Nat} (h : xk x + a ≤ rm.cells ∧ xl x + b ≤ rm.slots) : Cx (bump x a b) cc nL ret own Λ rm := by
  obtain ⟨h1, h2, h3, h4, h5, h6, h7, h8, h9, h10, -, -⟩ := C
  exact ⟨h1, h2, h3, h4, h5, h6, h7, h8, h9, h10, h.1, h.2⟩
theorem hk_bump {x : Ctx} {a b n m c d : Nat} (h : xk x + (a + n) ≤ c ∧ xl x + (b + m) ≤ d) : xk (bump x a b) + n ≤ c ∧ xl (bump x a b) + m ≤ d := by
  refine ⟨?_, ?_⟩
  · show xk x + a + n ≤ c
    omega
  · show xl x + b + m ≤ d
    omega
/-- no handlers, and no stack traces -/
def NT (x : Ctx) : Prop := (∀ z ∈ (xc x).exceptionTable.toList, False) ∧ x.2.1.stackTraces = false
theorem mxi_of {l : Launch} {y : MethodName} {cb : ByteArray} {nL : Nat} {ret : Option FieldType} {rm : Room} {Λ : Lay} {av : List Value} {μ : Mem} {r : RX_} (hst : l.stackTraces = false) (hpl : plainName y.cls = true) (hn : (lg_sl av).length ≤ nL)
    (h : ∀ x : Ctx, Cx x cb nL ret y.cls Λ rm → x.2.1 = l → NT x → xk x = 0 ∧ xl x = 0 → J x nL Λ (QXI x Λ rm r) 0 (lv_args 0 av) [] μ) : MXI l y cb nL ret rm Λ av μ r := by
  intro sz
  refine vx_ofW (cc := cb) (maxL := nL) (ret := ret) hpl rfl ?_
  intro p e s m args below meth c s₁ B hml hT hv
  obtain ⟨rfl, hsz, hP, hD, hK, hG⟩ := hv
  subst hsz
  have hts := atoms_spec (ws := wsG y cb nL ret) B.pre
  have hown : s.vm.findClass y.cls = some m.cls := findClass_of_methodNamed B.named
  rw [lg_entry_eq]
  exact h (p, l, e, (headSpec (wsG y cb nL ret) rm).room, s, m, av.toArray, below, meth, c, 0, 0) ⟨B.exec, B.bytes, B.returns, hml, hown, fun w hw => hts w (List.mem_cons_of_mem _ hw), B.notSynchronized, hK, hG, rfl, Nat.zero_le _, Nat.zero_le _⟩ rfl ⟨hT, hst⟩ ⟨rfl, rfl⟩ s.heap [] _ ⟨hP, hD, va_S.rf⟩ (lv_entry av hn)
theorem mxv_of {l : Launch} {y : MethodName} {cb : ByteArray} {nL : Nat} {rm : Room} {Λ : Lay} {av : List Value} {μ : Mem} {r : RX_} (hst : l.stackTraces = false) (hpl : plainName y.cls = true) (hn : (lg_sl av).length ≤ nL)
    (h : ∀ x : Ctx, Cx x cb nL none y.cls Λ rm → x.2.1 = l → NT x → xk x = 0 ∧ xl x = 0 → J x nL Λ (QXV x Λ rm r) 0 (lv_args 0 av) [] μ) : MXV l y cb nL rm Λ av μ r := by
  intro sz
  refine vx_ofW (cc := cb) (maxL := nL) (ret := none) hpl rfl ?_
  intro p e s m args below meth c s₁ B hml hT hv
  obtain ⟨rfl, hsz, hP, hD, hK, hG⟩ := hv
  subst hsz
  have hts := atoms_spec (ws := wsG y cb nL none) B.pre
  have hown : s.vm.findClass y.cls = some m.cls := findClass_of_methodNamed B.named
  rw [lg_entry_eq]
  exact h (p, l, e, (headSpec (wsG y cb nL none) rm).room, s, m, av.toArray, below, meth, c, 0, 0) ⟨B.exec, B.bytes, B.returns, hml, hown, fun w hw => hts w (List.mem_cons_of_mem _ hw), B.notSynchronized, hK, hG, rfl, Nat.zero_le _, Nat.zero_le _⟩ rfl ⟨hT, hst⟩ ⟨rfl, rfl⟩ s.heap [] _ ⟨hP, hD, va_S.rf⟩ (lv_entry av hn)
section JX
variable {x : Ctx} {cc : ByteArray} {nL : Nat} {ret : Option FieldType} {own : String} {Λ : Lay} {rm : Room} {Q : State → Prop} {pc : Nat} {lv lv' : List (Nat × Value)} {st stk : List Value} {μ μ1 : Mem}
theorem jx_ireti (C : Cx x cc nL (some .int) own Λ rm) {v : Int32} (hd : decode cc pc = .ok (.ireturn, 1)) : J x nL Λ (QXI x Λ rm (0, v, μ)) pc lv [.int v] μ := by
  intro H locs ls hw hl
  obtain ⟨-, -, -, -, -, -, -, -, -, -, hk1, hk2⟩ := id C
  refine W.widen (k := rm.cells) (n := rm.slots) hk1 hk2 ?_
  exact vx_ret (W.iret C.1 C.2.1 C.2.2.1 (fun t ht hW => ⟨⟨v, (), rfl, ⟨rfl, rfl⟩, by show va_P (aD Λ) vwCl (pool Λ μ) t.heap; rw [ht]; exact hw.1⟩, hw.2.2.F ht⟩) hw.2.2.2.2 hd C.2.2.2.2.2.2.1)
theorem jx_iretz (C : Cx x cc nL (some .boolean) own Λ rm) {v : Int32} (hz : zb v = true) (hd : decode cc pc = .ok (.ireturn, 1)) : J x nL Λ (QXI x Λ rm (0, v, μ)) pc lv [.int v] μ := by
  intro H locs ls hw hl
  obtain ⟨-, -, -, -, -, -, -, -, -, -, hk1, hk2⟩ := id C
  have h : v = 0 ∨ v = 1 := of_decide_eq_true hz
  refine W.widen (k := rm.cells) (n := rm.slots) hk1 hk2 ?_
  exact vx_ret (W.zret C.1 C.2.1 C.2.2.1 (by rcases h with rfl | rfl <;> rfl) (fun t ht hW => ⟨⟨v, (), rfl, ⟨rfl, rfl⟩, by show va_P (aD Λ) vwCl (pool Λ μ) t.heap; rw [ht]; exact hw.1⟩, hw.2.2.F ht⟩) hw.2.2.2.2 hd C.2.2.2.2.2.2.1)
theorem jx_vret (C : Cx x cc nL none own Λ rm) (hd : decode cc pc = .ok (.return_, 1)) : J x nL Λ (QXV x Λ rm (0, 0, μ)) pc lv [] μ := by
  intro H locs ls hw hl
  obtain ⟨-, -, -, -, -, -, -, -, -, -, hk1, hk2⟩ := id C
  refine W.widen (k := rm.cells) (n := rm.slots) hk1 hk2 ?_
  exact vx_ret (W.vret C.1 C.2.1 C.2.2.1 (fun t ht hW => ⟨⟨(), rfl, rfl, by show va_P (aD Λ) vwCl (pool Λ μ) t.heap; rw [ht]; exact hw.1⟩, hw.2.2.F ht⟩) hw.2.2.2.2 hd C.2.2.2.2.2.2.1)
def hatOk (own : String) (ic : Nat) (cls : String) (names : List String) : Bool := (vx_atS own ic cls names).all (fun w => if goodWord w = true then decide (w ∈ lw_tbl) else decide (w ∈ NWs))
theorem hat_of (C : Cx x cc nL ret own Λ rm) {ic : Nat} {cls : String} {names : List String} (h : hatOk own ic cls names = true) : ∀ w ∈ vx_atS own ic cls names, w.before (xa x) (xs x) = true := by
  intro w hw
  have h1 := List.all_eq_true.mp h w hw
  by_cases g : goodWord w = true
  · rw [if_pos g] at h1
    exact C.2.2.2.2.2.1 w (List.mem_filter.mpr ⟨of_decide_eq_true h1, g⟩)
  · rw [if_neg g] at h1
    have hN := of_decide_eq_true h1
    refine va_Nw.use ?_ (C.2.2.2.2.2.2.2.2.1.1 w hN)
    simp only [NWs, List.mem_cons, List.not_mem_nil, or_false] at hN
    rcases hN with rfl | rfl | rfl | rfl | rfl | rfl | rfl | rfl | rfl | rfl | rfl | rfl | rfl | rfl | rfl | rfl | rfl | rfl | rfl | rfl | rfl | rfl | rfl | rfl | rfl | rfl | rfl | rfl | rfl | rfl | rfl | rfl | rfl | rfl | rfl | rfl | rfl | rfl | rfl | rfl | rfl | rfl | rfl | rfl | rfl | rfl | rfl | rfl | rfl | rfl <;> rfl
def TR (own : String) (ik is ic : Nat) (cls text : String) : Prop := Bundle.fit cls = true ∧ Cond.classLink own ik cls ∈ GW ∧ Cond.initialized cls ∈ GW ∧ (own, is, text) ∈ SMs ∧ hatOk own ic cls ["java/lang/RuntimeException", "java/lang/Exception"] = true ∧ (Cond.classLink own ik cls :: Cond.initialized cls :: vx_atS own ic cls ["java/lang/RuntimeException", "java/lang/Exception"]).all vx_ot = true
theorem jx_throwS (C : Cx x cc nL ret own Λ rm) (hN : NT x) {ik is ic k : Nat} {cls text : String} (T : TR own ik is ic cls text) (he : exN k = some cls) (hk : xk x + 1 ≤ rm.cells ∧ xl x + 6 ≤ rm.slots) (hR : 5 < rm.frames ∧ (st.map fun v => v.category).sum + 82 ≤ rm.locals)
    {Qc : Array Value → State → Outcome → State → Prop} (hQ : Q = vx_MQ (xb x) Qc (xXC Λ (xs x).heap.size (k, 0, μ)) (xa x) (xs x) rm.cells rm.slots (AL Λ (xs x).heap.size))
    (d0 : decode cc pc = .ok (.new ik, 3)) (d3 : decode cc (pc + 3) = .ok (.dup, 1)) (d4 : decode cc (pc + 4) = .ok (.ldc is, 2)) (d6 : decode cc (pc + 6) = .ok (.invokespecial ic, 3)) (d9 : decode cc (pc + 9) = .ok (.athrow, 1)) : J x nL Λ Q pc lv st μ := by
  intro H locs ls hw hl
  subst hQ
  obtain ⟨t1, t2, t3, t4, t5, t6⟩ := T
  have hRR : xR x = rm := C.2.2.2.2.2.2.2.2.2.1
  obtain ⟨sa, hsa⟩ := (gS C).2.1 _ t4
  refine vx_throwS (A := AL Λ (xs x).heap.size) C.1 C.2.1 hN.2 C.2.2.2.2.1 t1 (by decide) (C.2.2.2.2.2.1 _ t2) (C.2.2.2.2.2.1 _ t3) hsa (hat_of C t5) (fun w hw => List.all_eq_true.mp t6 w hw) (gS C).2.2.2.2.2.1 (gS C).2.2.2.2.2.2.1 hw.2.2 (hl.1.trans C.2.2.2.1.symm) d0 d3 d4 d6 d9 (fun z hz => (hN.1 z hz).elim) (by rw [hRR]; exact hR.1) (by rw [hRR]; exact hR.2) (by rw [hRR]; exact hk.1) (by rw [hRR]; exact hk.2) C.2.2.2.2.2.2.1 ?_ hw.2.2.2.2 hk.1 hk.2
  intro t hA hz hq
  refine ⟨(), trivial, ⟨he, ?_⟩, Nat.le_trans hw.2.2.1 hz, fun q h1 h2 => ?_⟩
  · exact hw.1.kept (fun k z h3 => hq z.1 (hw.1 k z h3).lt)
  · rw [hq q (Nat.lt_of_lt_of_le h1 hw.2.2.1)]
    exact hw.2.2.2.1 q h1 h2
theorem jx_throwSW (C : Cx x cc nL ret own Λ rm) (hN : NT x) {ik is ic k : Nat} {cls text : String} (T : TR own ik is ic cls text) (he : exN k = some cls) (hk : xk x + 1 ≤ rm.cells ∧ xl x + 6 ≤ rm.slots) (hR : 5 < rm.frames ∧ (st.map fun v => v.category).sum + 82 ≤ rm.locals)
    {Qc : Array Value → State → Outcome → State → Prop} (hQ : Q = vx_MQ (xb x) Qc (xXC Λ (xs x).heap.size (k, 0, μ)) (xa x) (xs x) rm.cells rm.slots (AL Λ (xs x).heap.size))
    (d0 : decode cc pc = .ok (.new ik, 3)) (d3 : decode cc (pc + 3) = .ok (.dup, 1)) (d4 : decode cc (pc + 4) = .ok (.ldc_w is, 3)) (d7 : decode cc (pc + 7) = .ok (.invokespecial ic, 3)) (d10 : decode cc (pc + 10) = .ok (.athrow, 1)) : J x nL Λ Q pc lv st μ := by
  intro H locs ls hw hl
  subst hQ
  obtain ⟨t1, t2, t3, t4, t5, t6⟩ := T
  have hRR : xR x = rm := C.2.2.2.2.2.2.2.2.2.1
  obtain ⟨sa, hsa⟩ := (gS C).2.1 _ t4
  refine vx_throwSW (A := AL Λ (xs x).heap.size) C.1 C.2.1 hN.2 C.2.2.2.2.1 t1 (by decide) (C.2.2.2.2.2.1 _ t2) (C.2.2.2.2.2.1 _ t3) hsa (hat_of C t5) (fun w hw => List.all_eq_true.mp t6 w hw) (gS C).2.2.2.2.2.1 (gS C).2.2.2.2.2.2.1 hw.2.2 (hl.1.trans C.2.2.2.1.symm) d0 d3 d4 d7 d10 (fun z hz => (hN.1 z hz).elim) (by rw [hRR]; exact hR.1) (by rw [hRR]; exact hR.2) (by rw [hRR]; exact hk.1) (by rw [hRR]; exact hk.2) C.2.2.2.2.2.2.1 ?_ hw.2.2.2.2 hk.1 hk.2
  intro t hA hz hq
  refine ⟨(), trivial, ⟨he, ?_⟩, Nat.le_trans hw.2.2.1 hz, fun q h1 h2 => ?_⟩
  · exact hw.1.kept (fun k z h3 => hq z.1 (hw.1 k z h3).lt)
  · rw [hq q (Nat.lt_of_lt_of_le h1 hw.2.2.1)]
    exact hw.2.2.2.1 q h1 h2
theorem NT_bump {a b : Nat} (h : NT x) : NT (bump x a b) := h
abbrev vxRun (x : Ctx) (Λ : Lay) (μ : Mem) (nL pc : Nat) (lv : List (Nat × Value)) (stk st : List Value) (Qc : Nat → Array Value → State → Outcome → State → Prop) (XC : Nat → String → State → State → Prop) (mc ms : Nat) (av : List Value) : Prop :=
  ∀ (H : Heap) (locs : List Loc) (ls : Array Slot), Wd x Λ μ H locs → lv_has ls nL lv → vx_Run x.1 x.2.1 x.2.2.1 (xR x) (xs x) (xm x) (xa x) (xb x) (xM x) (xc x) H locs (xk x) (xl x) mc ms (F0 (xm x) pc ls stk) st (Qc H.size av.toArray) (XC H.size) (AL Λ H.size)
theorem runx_LV (C : Cx x cc nL ret own Λ rm) {idx ci : Nat} {y : MethodName} {cb : ByteArray} {nL' : Nat} {ret' : Option FieldType} {n : Nat} (L : LV own idx ci y cb nL' ret' n) {rm' : Room} (hR : rm'.frames + 1 ≤ rm.frames ∧ 8 + (nL' + 11) + rm'.locals ≤ rm.locals) (hk : xk x + rm'.cells ≤ rm.cells ∧ xl x + rm'.slots ≤ rm.slots) {a : Nat} {As : List Value} (ha : inL Λ a ci) (hn : As.length = n) (hst : stk = As.reverse ++ .ref a :: st) (hW : (st.map fun v => v.category).sum ≤ 8) (hd : decode cc pc = .ok (.invokevirtual idx, 3))
    {Qc : Nat → Array Value → State → Outcome → State → Prop} {XC : Nat → String → State → State → Prop} (hM : ∀ sz, vx_Met x.2.1 y (wsG y cb nL' ret') rm' (va_Pc (.ref a :: As) (Pr Λ μ sz)) (Qc sz) (XC sz) rm'.cells rm'.slots (AL Λ sz)) : vxRun x Λ μ nL pc lv stk st Qc XC rm'.cells rm'.slots (.ref a :: As) := by
  intro H locs ls hw hl
  obtain ⟨hcl, ⟨h1, h2, h3, h4, h5⟩, hok⟩ := L
  have hT : GoodIn GW (wsV own idx y.cls y (wsG y cb nL' ret')) := GW_app (by
    intro w hw
    simp only [List.mem_cons, List.not_mem_nil, or_false] at hw
    rcases hw with rfl | rfl | rfl | rfl
    · exact h1
    · exact h2
    · exact h3
    · exact h4) (GW_code h5)
  have hRR : xR x = rm := C.2.2.2.2.2.2.2.2.2.1
  exact vx_runV (As := As) (rest := st) (fix_of C) (hM H.size) (cwV n C.2.2.2.2.2.1 hT rfl rfl rfl ⟨rfl, hok.1, hok.2.1, hok.2.2⟩ (by rw [hRR]; exact hR)) ⟨Pr_blind _, dd_recv C hw hcl ha, Pr_of C hw _⟩ rfl hn hl.1 hst (lv_room hW) hd (by rw [hRR]; exact hk)
theorem out_x (C : Cx x cc nL ret own Λ rm) (hN : NT x) {a b : Nat} (hk : xk x + a ≤ rm.cells ∧ xl x + b ≤ rm.slots) {r : RX_} {H1 : Heap} {locs1 : List Loc} {ls : Array Slot} {E : String} {ce : Cell} {q9 : Addr} (he : exN r.1 = some E) (hP : va_P (aD Λ) vwCl (pool Λ r.2.2) H1) (hS : va_S (AL Λ (xs x).heap.size) (xs x).heap H1 locs1) (hc : H1[q9]? = some ce) (hv : ce.vm = .none) (hcl : (xs x).vm.findClass E = some ce.cls)
    (hQ : ∃ Qc : Array Value → State → Outcome → State → Prop, Q = vx_MQ (xb x) Qc (xXC Λ (xs x).heap.size (r.1, 0, r.2.2)) (xa x) (xs x) rm.cells rm.slots (AL Λ (xs x).heap.size)) : vx_W x.1 x.2.1 x.2.2.1 (xR x) (xs x) (xm x) (xa x) (xb x) (xM x) (xc x) H1 locs1 (xk x + a) (xl x + b) Q (F0 (xm x) pc ls st) q9 := by
  obtain ⟨Qc, rfl⟩ := hQ
  refine vx_out (fun z hz => (hN.1 z hz).elim) C.2.2.2.2.2.2.1 hc hv hcl ?_ hS.2.2 hk.1 hk.2
  intro t ht hA
  exact ⟨(), trivial, ⟨he, by show va_P (aD Λ) vwCl (pool Λ r.2.2) t.heap; rw [ht]; exact hP⟩, hS.F ht⟩
theorem call_XI (C : Cx x cc nL ret own Λ rm) (hN : NT x) {mc ms : Nat} {av : List Value} {r : RX_} (hr : vxRun x Λ μ nL pc lv stk st (fun sz => qXI Λ sz r) (fun sz => xXC Λ sz r) mc ms av) (hk : xk x + mc ≤ rm.cells ∧ xl x + ms ≤ rm.slots) (K : r.1 = 0 → J (bump x mc ms) nL Λ Q (pc + 3) lv (.int r.2.1 :: st) r.2.2)
    (hQ : ¬ r.1 = 0 → ∃ Qc : Array Value → State → Outcome → State → Prop, Q = vx_MQ (xb x) Qc (xXC Λ (xs x).heap.size (r.1, 0, r.2.2)) (xa x) (xs x) rm.cells rm.slots (AL Λ (xs x).heap.size)) : J x nL Λ Q pc lv stk μ := by
  intro H locs ls hw hl
  refine vx_calli (hr H locs ls hw hl) hw.2.2 (fun q _ h => AL_sub hw.2.2.1 q h) (fun q h => AL_sub hw.2.2.1 q h) (fun q _ h => AL_sub hw.2.2.1 q h) (fun E ce q9 u t H1 locs1 ht hvm hp hB hz hk1 hS hc hv hcl => ?_) (fun r' u t H1 locs1 ht hvm hp hB hz hk1 hS => ?_)
  · rw [ht] at hB
    exact out_x C hN hk hB.1 hB.2 hS hc hv hcl (hQ (fun e => by rw [e] at hB; cases hB.1))
  · obtain ⟨e, rfl⟩ := hp
    rw [ht] at hB
    exact K e H1 locs1 ls (Wd_back hw hB hS) hl
theorem call_XV (C : Cx x cc nL ret own Λ rm) (hN : NT x) {mc ms : Nat} {av : List Value} {r : RX_} (hr : vxRun x Λ μ nL pc lv stk st (fun sz => qXV Λ sz r) (fun sz => xXC Λ sz r) mc ms av) (hk : xk x + mc ≤ rm.cells ∧ xl x + ms ≤ rm.slots) (K : r.1 = 0 → J (bump x mc ms) nL Λ Q (pc + 3) lv st r.2.2)
    (hQ : ¬ r.1 = 0 → ∃ Qc : Array Value → State → Outcome → State → Prop, Q = vx_MQ (xb x) Qc (xXC Λ (xs x).heap.size (r.1, 0, r.2.2)) (xa x) (xs x) rm.cells rm.slots (AL Λ (xs x).heap.size)) : J x nL Λ Q pc lv stk μ := by
  intro H locs ls hw hl
  refine vx_callv (hr H locs ls hw hl) hw.2.2 (fun q _ h => AL_sub hw.2.2.1 q h) (fun q h => AL_sub hw.2.2.1 q h) (fun q _ h => AL_sub hw.2.2.1 q h) (fun E ce q9 u t H1 locs1 ht hvm hp hB hz hk1 hS hc hv hcl => ?_) (fun u t H1 locs1 ht hvm hp hB hz hk1 hS => ?_)
  · rw [ht] at hB
    exact out_x C hN hk hB.1 hB.2 hS hc hv hcl (hQ (fun e => by rw [e] at hB; cases hB.1))
  · rw [ht] at hB
    exact K hp H1 locs1 ls (Wd_back hw hB hS) hl
end JX
theorem hk_sub {x : Ctx} {n m a b c d : Nat} (h : xk x + n ≤ c ∧ xl x + m ≤ d) (h1 : a ≤ n) (h2 : b ≤ m) : xk x + a ≤ c ∧ xl x + b ≤ d := ⟨by omega, by omega⟩
theorem hk_0 {x : Ctx} {c d : Nat} (h : xk x = 0 ∧ xl x = 0) : xk x + c ≤ c ∧ xl x + d ≤ d := by rw [h.1, h.2]; exact ⟨by omega, by omega⟩

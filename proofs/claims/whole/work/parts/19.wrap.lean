/-! methods with handlers -/
abbrev wsH (y : MethodName) (cb : ByteArray) (nL : Nat) (ret : Option FieldType) (hh : List (Nat × Nat × Nat × Nat)) : List Cond := .codeWith y cb nL ret hh :: GW
def MW (l : Launch) (y : MethodName) (cb : ByteArray) (nL : Nat) (hh : List (Nat × Nat × Nat × Nat)) (rm : Room) (Λ : Lay) (av : List Value) (μ : Mem) (r : Int32) (μ' : Mem) : Prop :=
  ∀ sz, Met l y (wsH y cb nL (some .int) hh) rm (va_Pc av (Pr Λ μ sz)) (qI Λ sz r μ') rm.cells rm.slots (AL Λ sz)
def QW (x : Ctx) (Λ : Lay) (rm : Room) (r : Int32) (μ' : Mem) : State → Prop := MQ (xb x) (qI Λ (xs x).heap.size r μ') (xa x) (xs x) rm.cells rm.slots (AL Λ (xs x).heap.size)
def HT (x : Ctx) (hh : List (Nat × Nat × Nat × Nat)) : Prop := (xc x).exceptionTable.toList = tableOf hh ∧ x.2.1.stackTraces = false
theorem mw_of {l : Launch} {y : MethodName} {cb : ByteArray} {nL : Nat} {hh : List (Nat × Nat × Nat × Nat)} {rm : Room} {Λ : Lay} {av : List Value} {μ μ' : Mem} {r : Int32} (hst : l.stackTraces = false) (hpl : plainName y.cls = true) (hn : (lg_sl av).length ≤ nL)
    (h : ∀ x : Ctx, Cx x cb nL (some .int) y.cls Λ rm → x.2.1 = l → HT x hh → xk x = 0 ∧ xl x = 0 → J x nL Λ (QW x Λ rm r μ') 0 (lv_args 0 av) [] μ) : MW l y cb nL hh rm Λ av μ r μ' := by
  intro sz
  refine va_MetW (cc := cb) (maxL := nL) (ret := some .int) hpl rfl ?_
  intro p e s m args below meth c s₁ B hml hv
  obtain ⟨rfl, hsz, hP, hD, hK, hG⟩ := hv
  subst hsz
  have hts := atoms_spec (ws := wsH y cb nL (some .int) hh) B.pre
  have hown : s.vm.findClass y.cls = some m.cls := findClass_of_methodNamed B.named
  have hT := vx_table (x := y) B (hts _ List.mem_cons_self)
  rw [lg_entry_eq]
  exact h (p, l, e, (headSpec (wsH y cb nL (some .int) hh) rm).room, s, m, av.toArray, below, meth, c, 0, 0) ⟨B.exec, B.bytes, B.returns, hml, hown, fun w hw => hts w (List.mem_cons_of_mem _ hw), B.notSynchronized, hK, hG, rfl, Nat.zero_le _, Nat.zero_le _⟩ rfl ⟨hT, hst⟩ ⟨rfl, rfl⟩ s.heap [] _ ⟨hP, hD, va_S.rf⟩ (lv_entry av hn)
section JW
variable {x : Ctx} {cc : ByteArray} {nL : Nat} {ret : Option FieldType} {own : String} {Λ : Lay} {rm : Room} {Q : State → Prop} {pc : Nat} {lv lv' : List (Nat × Value)} {st stk : List Value} {μ μ1 : Mem}
theorem HT_bump {a b : Nat} {hh : List (Nat × Nat × Nat × Nat)} (h : HT x hh) : HT (bump x a b) hh := h
theorem jw_ireti (C : Cx x cc nL (some .int) own Λ rm) {v : Int32} (hd : decode cc pc = .ok (.ireturn, 1)) : J x nL Λ (QW x Λ rm v μ) pc lv [.int v] μ := by
  intro H locs ls hw hl
  obtain ⟨-, -, -, -, -, -, -, -, -, -, hk1, hk2⟩ := id C
  refine W.widen (k := rm.cells) (n := rm.slots) hk1 hk2 ?_
  exact W.iret C.1 C.2.1 C.2.2.1 (fun t ht hW => ⟨⟨v, (), rfl, rfl, by show va_P (aD Λ) vwCl (pool Λ μ) t.heap; rw [ht]; exact hw.1⟩, hw.2.2.F ht⟩) hw.2.2.2.2 hd C.2.2.2.2.2.2.1
abbrev vxWx (x : Ctx) (H : Heap) (locs : List Loc) (Q : State → Prop) (g : JFrame) (q : Addr) : Prop := vx_W x.1 x.2.1 x.2.2.1 (xR x) (xs x) (xm x) (xa x) (xb x) (xM x) (xc x) H locs (xk x) (xl x) Q g q
theorem call_XH {mc ms : Nat} {av : List Value} {r : RX_} (hr : vxRun x Λ μ nL pc lv stk st (fun sz => qXI Λ sz r) (fun sz => xXC Λ sz r) mc ms av) (K : r.1 = 0 → J (bump x mc ms) nL Λ Q (pc + 3) lv (.int r.2.1 :: st) r.2.2)
    (KX : ∀ (E : String) (H1 : Heap) (locs1 : List Loc) (ls : Array Slot) (ce : Cell) (q9 : Addr), exN r.1 = some E → Wd (bump x mc ms) Λ r.2.2 H1 locs1 → lv_has ls nL lv → H1[q9]? = some ce → ce.vm = .none → (xs x).vm.findClass E = some ce.cls → vxWx (bump x mc ms) H1 locs1 Q (F0 (xm x) pc ls st) q9) : J x nL Λ Q pc lv stk μ := by
  intro H locs ls hw hl
  refine vx_calli (hr H locs ls hw hl) hw.2.2 (fun q _ h => AL_sub hw.2.2.1 q h) (fun q h => AL_sub hw.2.2.1 q h) (fun q _ h => AL_sub hw.2.2.1 q h) (fun E ce q9 u t H1 locs1 ht hvm hp hB hz hk1 hS hc hv hcl => ?_) (fun r' u t H1 locs1 ht hvm hp hB hz hk1 hS => ?_)
  · rw [ht] at hB
    exact KX E H1 locs1 ls ce q9 hB.1 (Wd_back hw hB.2 hS) hl hc hv hcl
  · obtain ⟨e, rfl⟩ := hp
    rw [ht] at hB
    exact K e H1 locs1 ls (Wd_back hw hB hS) hl
theorem catch_J (C : Cx x cc nL ret own Λ rm) {hh : List (Nat × Nat × Nat × Nat)} (hT : HT x hh) (pre : List ExceptionTableEntry) (z : ExceptionTableEntry) (suf : List ExceptionTableEntry) (hs : tableOf hh = pre ++ z :: suf) {E : String}
    (hpass : ∀ y ∈ pre, covers y pc = false ∨ (y.catchType ≠ 0 ∧ ∃ nm : String, Cond.classLink own y.catchType nm ∈ GW ∧ (E, nm) ∈ NCs)) (hz : covers z pc = true) (h0 : z.catchType ≠ 0) (hl : Cond.classLink own z.catchType E ∈ GW) (hcast : Cond.castable E E ∈ NWs)
    (K : ∀ q : Nat, J x nL Λ Q z.handlerPc lv [.ref q] μ) : ∀ (H1 : Heap) (locs1 : List Loc) (ls : Array Slot) (ce : Cell) (q9 : Addr), Wd x Λ μ H1 locs1 → lv_has ls nL lv → H1[q9]? = some ce → ce.vm = .none → (xs x).vm.findClass E = some ce.cls → vxWx x H1 locs1 Q (F0 (xm x) pc ls st) q9 := by
  intro H1 locs1 ls ce q9 hw hl9 hc hv hcl
  refine vx_catch C.2.2.2.2.1 pre z suf (hT.1.trans hs) ?_ hz h0 (C.2.2.2.2.2.1 _ hl) (va_Nw.use rfl (C.2.2.2.2.2.2.2.2.1.1 _ hcast)) hc hv hcl (K q9 H1 locs1 ls hw hl9)
  intro y hy
  rcases hpass y hy with h | ⟨h1, nm, h2, h3⟩
  · exact Or.inl h
  · exact Or.inr ⟨h1, nm, C.2.2.2.2.2.1 _ h2, (gS C).2.2.2.2.2.2.2.1 _ h3⟩
def LW (own : String) (idx : Nat) (y : MethodName) (cb : ByteArray) (nL : Nat) (ret : Option FieldType) (hh : List (Nat × Nat × Nat × Nat)) (n : Nat) : Prop :=
  (Cond.methodLink own idx y ∈ GW ∧ Cond.static y ∈ GW ∧ Cond.initialized y.cls ∈ GW ∧ Cond.codeWith y cb nL ret hh ∈ GW) ∧ okN y n
/-- a call of a method with handlers, from the law -/
theorem call_W (C : Cx x cc nL ret own Λ rm) {idx : Nat} {y : MethodName} {cb : ByteArray} {nL' : Nat} {hh : List (Nat × Nat × Nat × Nat)} {n : Nat} (L : LW own idx y cb nL' (some .int) hh n) {rm' : Room} (hR : rm'.frames + 1 ≤ rm.frames ∧ 8 + (nL' + 11) + rm'.locals ≤ rm.locals) (hk : xk x + rm'.cells ≤ rm.cells ∧ xl x + rm'.slots ≤ rm.slots) {As : List Value} (hn : As.length = n) (hst : stk = As.reverse ++ st) (hW : (st.map fun v => v.category).sum ≤ 8) (hd : decode cc pc = .ok (.invokestatic idx, 3))
    {r : Int32} (hM : MW x.2.1 y cb nL' hh rm' Λ As μ r μ1) (K : J (bump x rm'.cells rm'.slots) nL Λ Q (pc + 3) lv (.int r :: st) μ1) : J x nL Λ Q pc lv stk μ := by
  intro H locs ls hw hl
  obtain ⟨⟨h1, h2, h3, h4⟩, hok⟩ := L
  have hcode : GoodIn GW (wsH y cb nL' (some .int) hh) := by
    intro w hw
    rcases List.mem_cons.mp hw with rfl | hw
    · exact ⟨h4, good_of_word (GW_good h4)⟩
    · exact ⟨hw, good_of_word (GW_good hw)⟩
  have hT : GoodIn GW (va_wsS own idx y (wsH y cb nL' (some .int) hh)) := GW_app (by
    intro w hw
    simp only [List.mem_cons, List.not_mem_nil, or_false] at hw
    rcases hw with rfl | rfl | rfl
    · exact h1
    · exact h2
    · exact h3) hcode
  have hRR : xR x = rm := C.2.2.2.2.2.2.2.2.2.1
  refine va_calli (vx_runSW (As := As) (rest := st) (fix_of C) (hM H.size) (vx_cwSW n C.2.2.2.2.2.1 hT rfl rfl rfl hok (by rw [hRR]; exact hR)) ⟨Pr_blind _, Pr_of C hw _⟩ rfl hn hl.1 hst (lv_room hW) hd (by rw [hRR]; exact hk)) hw.2.2 (fun q _ h => AL_sub hw.2.2.1 q h) (fun q h => AL_sub hw.2.2.1 q h) (fun r' u t H1 locs1 ht hvm hp hB hz hk hS => ?_)
  subst hp
  rw [ht] at hB
  exact K H1 locs1 ls (Wd_back hw hB hS) hl
end JW

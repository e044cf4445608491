abbrev okN (y : MethodName) (n : Nat) : Prop := y.cls ≠ "java/lang/invoke/MethodHandle" ∧ y.cls ≠ "java/lang/invoke/VarHandle" ∧ (parseMethodDescriptor y.desc).map (fun d => d.parameters.length) = some n
def LV (own : String) (idx ci : Nat) (y : MethodName) (cb : ByteArray) (nL : Nat) (ret : Option FieldType) (n : Nat) : Prop :=
  ((∃ (T : u_T) (N : Nat), vwCl[ci]? = some (y.cls, T, N)) ∧ ci < 12) ∧ (Cond.methodLink own idx y ∈ GW ∧ Cond.instanceMethod y ∈ GW ∧ Cond.selects y.cls y y ∈ GW ∧ Cond.initialized y.cls ∈ GW ∧ Cond.code y cb nL ret ∈ GW) ∧ okN y n
def LU (own : String) (idx ci : Nat) (Cn : String) (w y : MethodName) (cb : ByteArray) (nL : Nat) (ret : Option FieldType) (n : Nat) : Prop :=
  ((∃ (T : u_T) (N : Nat), vwCl[ci]? = some (Cn, T, N)) ∧ ci < 12) ∧ (Cond.methodLink own idx w ∈ GW ∧ Cond.sameMethod w.cls y.cls w.name w.desc ∈ GW ∧ Cond.selects Cn w y ∈ GW ∧ Cond.instanceMethod y ∈ GW ∧ Cond.initialized y.cls ∈ GW ∧ Cond.code y cb nL ret ∈ GW) ∧ (y = ⟨y.cls, w.name, w.desc⟩ ∧ y.cls ≠ "java/lang/invoke/MethodHandle" ∧ y.cls ≠ "java/lang/invoke/VarHandle" ∧ (parseMethodDescriptor w.desc).map (fun d => d.parameters.length) = some n)
def LSt (own : String) (idx : Nat) (y : MethodName) (cb : ByteArray) (nL : Nat) (ret : Option FieldType) (n : Nat) : Prop :=
  (Cond.methodLink own idx y ∈ GW ∧ Cond.static y ∈ GW ∧ Cond.initialized y.cls ∈ GW ∧ Cond.code y cb nL ret ∈ GW) ∧ okN y n
def LN (own : String) (idx : Nat) (host : String) (y : MethodName) (cb : ByteArray) (nL : Nat) (ret : Option FieldType) (n : Nat) : Prop :=
  (Cond.methodLinkNest own idx y host ∈ NWs ∧ Cond.static y ∈ GW ∧ Cond.initialized y.cls ∈ GW ∧ Cond.code y cb nL ret ∈ GW) ∧ okN y n
abbrev roomOk (rm' rm : Room) (nL' : Nat) : Prop := rm'.cells = 0 ∧ rm'.slots = 0 ∧ rm'.frames + 1 ≤ rm.frames ∧ 8 + (nL' + 11) + rm'.locals ≤ rm.locals
def LA (own : String) (idx ci : Nat) (Cn : String) (w y : MethodName) (cb : ByteArray) (nL : Nat) (ret : Option FieldType) (n : Nat) : Prop :=
  ((∃ (T : u_T) (N : Nat), vwCl[ci]? = some (Cn, T, N)) ∧ ci < 12) ∧ (Cond.methodLink own idx w ∈ GW ∧ Cond.sameMethod w.cls w.cls w.name w.desc ∈ GW ∧ Cond.selects Cn w y ∈ GW ∧ Cond.instanceMethod y ∈ GW ∧ Cond.initialized y.cls ∈ GW ∧ Cond.code y cb nL ret ∈ GW) ∧ Cond.declares ⟨w.cls, w.name, w.desc⟩ ∈ NWs ∧ (w.cls ≠ "java/lang/invoke/MethodHandle" ∧ w.cls ≠ "java/lang/invoke/VarHandle" ∧ (parseMethodDescriptor w.desc).map (fun d => d.parameters.length) = some n)
def LPr (own : String) (idx ci : Nat) (Cn : String) (y : MethodName) (cb : ByteArray) (nL : Nat) (ret : Option FieldType) (n : Nat) : Prop :=
  ((∃ (T : u_T) (N : Nat), vwCl[ci]? = some (Cn, T, N)) ∧ ci < 12) ∧ (Cond.methodLink own idx y ∈ GW ∧ Cond.sameMethod y.cls y.cls y.name y.desc ∈ GW ∧ Cond.selects Cn y y ∈ NWs ∧ Cond.instanceMethod y ∈ GW ∧ Cond.initialized y.cls ∈ GW ∧ Cond.code y cb nL ret ∈ GW) ∧ okN y n
section JC
variable {x : Ctx} {cc : ByteArray} {nL : Nat} {ret : Option FieldType} {own : String} {Λ : Lay} {rm : Room} {Q : State → Prop} {pc : Nat} {lv lv' : List (Nat × Value)} {st stk : List Value} {μ μ1 : Mem}
abbrev vRun (x : Ctx) (Λ : Lay) (μ : Mem) (nL pc : Nat) (lv : List (Nat × Value)) (stk st : List Value) (Qc : Nat → Array Value → State → Outcome → State → Prop) (av : List Value) : Prop :=
  ∀ (H : Heap) (locs : List Loc) (ls : Array Slot), Wd x Λ μ H locs → lv_has ls nL lv → va_Run x.1 x.2.1 x.2.2.1 (xR x) (xs x) (xm x) (xa x) (xb x) (xM x) (xc x) H locs (xk x) (xl x) 0 0 (F0 (xm x) pc ls stk) st (Qc H.size av.toArray) (AL Λ H.size)
theorem Wd_back {H H1 : Heap} {locs locs1 : List Loc} (hw : Wd x Λ μ H locs) (hP : va_P (aD Λ) vwCl (pool Λ μ1) H1) (hS : va_S (AL Λ (xs x).heap.size) (xs x).heap H1 locs1) : Wd x Λ μ1 H1 locs1 := by
  refine ⟨hP, ⟨fun i j p q hi hj e => ?_, fun k q hk => ?_⟩, hS⟩
  · have hg : ∀ (n : Nat) (z : Nat × va_E), (pool Λ μ1)[n]? = some z → ∃ z', (pool Λ μ)[n]? = some z' ∧ z'.1 = z.1 := by
      intro n z hz
      unfold pool va_pl at hz ⊢
      rw [List.getElem?_map] at hz ⊢
      cases hn : (aL Λ)[n]? with
      | none => rw [hn] at hz; cases hz
      | some b => rw [hn] at hz; cases hz; exact ⟨_, rfl, rfl⟩
    obtain ⟨p', hp', ep⟩ := hg i p hi
    obtain ⟨q', hq', eq⟩ := hg j q hj
    exact hw.2.1.1 i j p' q' hp' hq' (by rw [ep, eq]; exact e)
  · have hm : (q.1, q.2) ∈ pool Λ μ1 := List.mem_of_getElem? hk
    obtain ⟨a, ha, e⟩ := List.mem_map.mp hm
    have e1 : a = q.1 := congrArg Prod.fst e
    rw [← e1]
    exact Or.inl ha
theorem call_I {av : List Value} {r : Int32} (hr : vRun x Λ μ nL pc lv stk st (fun sz => qI Λ sz r μ1) av) (K : J x nL Λ Q (pc + 3) lv (.int r :: st) μ1) : J x nL Λ Q pc lv stk μ := by
  intro H locs ls hw hl
  refine va_calli (hr H locs ls hw hl) hw.2.2 (fun q _ h => AL_sub hw.2.2.1 q h) (fun q h => AL_sub hw.2.2.1 q h) (fun r' u t H1 locs1 ht hvm hp hB hz hk hS => ?_)
  subst hp
  rw [ht] at hB
  exact K H1 locs1 ls (Wd_back hw hB hS) hl
theorem call_V {av : List Value} (hr : vRun x Λ μ nL pc lv stk st (fun sz => qV Λ sz μ1) av) (K : J x nL Λ Q (pc + 3) lv st μ1) : J x nL Λ Q pc lv stk μ := by
  intro H locs ls hw hl
  refine va_callv (hr H locs ls hw hl) hw.2.2 (fun q _ h => AL_sub hw.2.2.1 q h) (fun q h => AL_sub hw.2.2.1 q h) (fun u t H1 locs1 ht hvm hp hB hz hk hS => ?_)
  rw [ht] at hB
  exact K H1 locs1 ls (Wd_back hw hB hS) hl
theorem dd_recv (C : Cx x cc nL ret own Λ rm) {H : Heap} {locs : List Loc} (hw : Wd x Λ μ H locs) {a ci : Nat} {Cn : String} (h : (∃ (T : u_T) (N : Nat), vwCl[ci]? = some (Cn, T, N)) ∧ ci < 12) (ha : inL Λ a ci) : ∃ cell : Cell, H[a]? = some cell ∧ cell.vm.isStatics = false ∧ (xs x).vm.findClass Cn = some cell.cls := by
  obtain ⟨⟨T, N, hc⟩, hlt⟩ := h
  obtain ⟨q0, hq⟩ := pool_at (μ := μ) ha.1
  rw [ent_ob ha.2 hlt] at hq
  exact va_recv (q := (Cn, T, N)) C.2.2.2.2.2.2.2.1 hw.1 hc hq
theorem fix_of (C : Cx x cc nL ret own Λ rm) : CallFix x.1 (xm x) (xc x) cc nL (xs x) (xa x) GW own := ⟨C.1, C.2.1, C.2.2.2.1, C.2.2.2.2.1, C.2.2.2.2.2.1⟩
theorem run_LV (C : Cx x cc nL ret own Λ rm) {idx ci : Nat} {y : MethodName} {cb : ByteArray} {nL' : Nat} {ret' : Option FieldType} {n : Nat} (L : LV own idx ci y cb nL' ret' n) {rm' : Room} (hR : roomOk rm' rm nL') {a : Nat} {As : List Value} (ha : inL Λ a ci) (hn : As.length = n) (hst : stk = As.reverse ++ .ref a :: st) (hW : (st.map fun v => v.category).sum ≤ 8) (hd : decode cc pc = .ok (.invokevirtual idx, 3))
    {Qc : Nat → Array Value → State → Outcome → State → Prop} (hM : ∀ sz, Met x.2.1 y (wsG y cb nL' ret') rm' (va_Pc (.ref a :: As) (Pr Λ μ sz)) (Qc sz) 0 0 (AL Λ sz)) : vRun x Λ μ nL pc lv stk st Qc (.ref a :: As) := by
  intro H locs ls hw hl
  obtain ⟨hcl, ⟨h1, h2, h3, h4, h5⟩, hok⟩ := L
  have hT : GoodIn GW (wsV own idx y.cls y (wsG y cb nL' ret')) := GW_app (by
    intro w hw
    simp only [List.mem_cons, List.not_mem_nil, or_false] at hw
    rcases hw with rfl | rfl | rfl | rfl
    · exact h1
    · exact h2
    · exact h3
    · exact h4) (GW_code h5)
  have hRR : xR x = rm := C.2.2.2.2.2.2.2.2.2.1
  exact va_runV (As := As) (rest := st) (fix_of C) (hM H.size) (cwV n C.2.2.2.2.2.1 hT rfl hR.1 hR.2.1 ⟨rfl, hok.1, hok.2.1, hok.2.2⟩ (by rw [hRR]; exact hR.2.2)) ⟨Pr_blind _, dd_recv C hw hcl ha, Pr_of C hw _⟩ rfl hn hl.1 hst (lv_room hW) hd (room_of C)
theorem run_LU (C : Cx x cc nL ret own Λ rm) {idx ci : Nat} {Cn : String} {w y : MethodName} {cb : ByteArray} {nL' : Nat} {ret' : Option FieldType} {n : Nat} (L : LU own idx ci Cn w y cb nL' ret' n) {rm' : Room} (hR : roomOk rm' rm nL') {a : Nat} {As : List Value} (ha : inL Λ a ci) (hn : As.length = n) (hst : stk = As.reverse ++ .ref a :: st) (hW : (st.map fun v => v.category).sum ≤ 8) (hd : decode cc pc = .ok (.invokevirtual idx, 3))
    {Qc : Nat → Array Value → State → Outcome → State → Prop} (hM : ∀ sz, Met x.2.1 y (wsG y cb nL' ret') rm' (va_Pc (.ref a :: As) (Pr Λ μ sz)) (Qc sz) 0 0 (AL Λ sz)) : vRun x Λ μ nL pc lv stk st Qc (.ref a :: As) := by
  intro H locs ls hw hl
  obtain ⟨hcl, ⟨h1, h2, h3, h4, h5, h6⟩, hok⟩ := L
  have hT : GoodIn GW (va_wsU own idx Cn y.cls w y (wsG y cb nL' ret')) := GW_app (by
    intro w hw
    simp only [List.mem_cons, List.not_mem_nil, or_false] at hw
    rcases hw with rfl | rfl | rfl | rfl | rfl
    · exact h1
    · exact h2
    · exact h3
    · exact h4
    · exact h5) (GW_code h6)
  have hRR : xR x = rm := C.2.2.2.2.2.2.2.2.2.1
  exact va_runU (As := As) (rest := st) (fix_of C) (hM H.size) (va_cwU n C.2.2.2.2.2.1 hT rfl hR.1 hR.2.1 hok.1 hok.2 (by rw [hRR]; exact hR.2.2)) ⟨Pr_blind _, dd_recv C hw hcl ha, Pr_of C hw _⟩ rfl hn hl.1 hst (lv_room hW) hd (room_of C)
theorem run_LA (C : Cx x cc nL ret own Λ rm) {idx ci : Nat} {Cn : String} {w y : MethodName} {cb : ByteArray} {nL' : Nat} {ret' : Option FieldType} {n : Nat} (L : LA own idx ci Cn w y cb nL' ret' n) {rm' : Room} (hR : roomOk rm' rm nL') {a : Nat} {As : List Value} (ha : inL Λ a ci) (hn : As.length = n) (hst : stk = As.reverse ++ .ref a :: st) (hW : (st.map fun v => v.category).sum ≤ 8) (hd : decode cc pc = .ok (.invokevirtual idx, 3))
    {Qc : Nat → Array Value → State → Outcome → State → Prop} (hM : ∀ sz, Met x.2.1 y (wsG y cb nL' ret') rm' (va_Pc (.ref a :: As) (Pr Λ μ sz)) (Qc sz) 0 0 (AL Λ sz)) : vRun x Λ μ nL pc lv stk st Qc (.ref a :: As) := by
  intro H locs ls hw hl
  obtain ⟨hcl, ⟨h1, h2, h3, h4, h5, h6⟩, h7, hok⟩ := L
  have hT : GoodIn GW (va_wsU own idx Cn w.cls w y (wsG y cb nL' ret')) := GW_app (by
    intro w hw
    simp only [List.mem_cons, List.not_mem_nil, or_false] at hw
    rcases hw with rfl | rfl | rfl | rfl | rfl
    · exact h1
    · exact h2
    · exact h3
    · exact h4
    · exact h5) (GW_code h6)
  have hRR : xR x = rm := C.2.2.2.2.2.2.2.2.2.1
  exact va_runU (As := As) (rest := st) (fix_of C) (hM H.size) (va_cwA n C.2.2.2.2.2.1 hT rfl hR.1 hR.2.1 (C.2.2.2.2.2.2.2.2.1.1 _ h7) hok (by rw [hRR]; exact hR.2.2)) ⟨Pr_blind _, dd_recv C hw hcl ha, Pr_of C hw _⟩ rfl hn hl.1 hst (lv_room hW) hd (room_of C)
theorem run_LP (C : Cx x cc nL ret own Λ rm) {idx ci : Nat} {Cn : String} {y : MethodName} {cb : ByteArray} {nL' : Nat} {ret' : Option FieldType} {n : Nat} (L : LPr own idx ci Cn y cb nL' ret' n) {rm' : Room} (hR : roomOk rm' rm nL') {a : Nat} {As : List Value} (ha : inL Λ a ci) (hn : As.length = n) (hst : stk = As.reverse ++ .ref a :: st) (hW : (st.map fun v => v.category).sum ≤ 8) (hd : decode cc pc = .ok (.invokevirtual idx, 3))
    {Qc : Nat → Array Value → State → Outcome → State → Prop} (hM : ∀ sz, Met x.2.1 y (wsG y cb nL' ret') rm' (va_Pc (.ref a :: As) (Pr Λ μ sz)) (Qc sz) 0 0 (AL Λ sz)) : vRun x Λ μ nL pc lv stk st Qc (.ref a :: As) := by
  intro H locs ls hw hl
  obtain ⟨hcl, ⟨h1, h2, h3, h4, h5, h6⟩, hok⟩ := L
  have hts : ∀ w ∈ Cond.selects Cn y y :: GW, w.before (xa x) (xs x) = true := by
    intro w hw
    rcases List.mem_cons.mp hw with rfl | hw
    · exact va_Nw.use rfl (C.2.2.2.2.2.2.2.2.1.1 _ h3)
    · exact C.2.2.2.2.2.1 w hw
  have hT : GoodIn (Cond.selects Cn y y :: GW) (va_wsU own idx Cn y.cls y y (wsG y cb nL' ret')) := by
    intro w hw
    rcases List.mem_append.mp hw with hw | hw
    · simp only [List.mem_cons, List.not_mem_nil, or_false] at hw
      rcases hw with rfl | rfl | rfl | rfl | rfl
      · exact ⟨List.mem_cons_of_mem _ h1, good_of_word (GW_good h1)⟩
      · exact ⟨List.mem_cons_of_mem _ h2, good_of_word (GW_good h2)⟩
      · exact ⟨List.mem_cons_self, good_of_word rfl⟩
      · exact ⟨List.mem_cons_of_mem _ h4, good_of_word (GW_good h4)⟩
      · exact ⟨List.mem_cons_of_mem _ h5, good_of_word (GW_good h5)⟩
    · have := GW_code h6 w hw
      exact ⟨List.mem_cons_of_mem _ this.1, this.2⟩
  have hRR : xR x = rm := C.2.2.2.2.2.2.2.2.2.1
  exact va_runU (As := As) (rest := st) (Ts := Cond.selects Cn y y :: GW) ⟨C.1, C.2.1, C.2.2.2.1, C.2.2.2.2.1, hts⟩ (hM H.size) (va_cwU n hts hT rfl hR.1 hR.2.1 rfl hok (by rw [hRR]; exact hR.2.2)) ⟨Pr_blind _, dd_recv C hw hcl ha, Pr_of C hw _⟩ rfl hn hl.1 hst (lv_room hW) hd (room_of C)
theorem run_LS (C : Cx x cc nL ret own Λ rm) {idx : Nat} {y : MethodName} {cb : ByteArray} {nL' : Nat} {ret' : Option FieldType} {n : Nat} (L : LSt own idx y cb nL' ret' n) {rm' : Room} (hR : roomOk rm' rm nL') {As : List Value} (hn : As.length = n) (hst : stk = As.reverse ++ st) (hW : (st.map fun v => v.category).sum ≤ 8) (hd : decode cc pc = .ok (.invokestatic idx, 3))
    {Qc : Nat → Array Value → State → Outcome → State → Prop} (hM : ∀ sz, Met x.2.1 y (wsG y cb nL' ret') rm' (va_Pc As (Pr Λ μ sz)) (Qc sz) 0 0 (AL Λ sz)) : vRun x Λ μ nL pc lv stk st Qc As := by
  intro H locs ls hw hl
  obtain ⟨⟨h1, h2, h3, h4⟩, hok⟩ := L
  have hT : GoodIn GW (va_wsS own idx y (wsG y cb nL' ret')) := GW_app (by
    intro w hw
    simp only [List.mem_cons, List.not_mem_nil, or_false] at hw
    rcases hw with rfl | rfl | rfl
    · exact h1
    · exact h2
    · exact h3) (GW_code h4)
  have hRR : xR x = rm := C.2.2.2.2.2.2.2.2.2.1
  exact va_runS (As := As) (rest := st) (fix_of C) (hM H.size) (va_cwS n C.2.2.2.2.2.1 hT rfl hR.1 hR.2.1 hok (by rw [hRR]; exact hR.2.2)) ⟨Pr_blind _, Pr_of C hw _⟩ rfl hn hl.1 hst (lv_room hW) hd (room_of C)
theorem run_LN (C : Cx x cc nL ret own Λ rm) {idx : Nat} {host : String} {y : MethodName} {cb : ByteArray} {nL' : Nat} {ret' : Option FieldType} {n : Nat} (L : LN own idx host y cb nL' ret' n) {rm' : Room} (hR : roomOk rm' rm nL') {As : List Value} (hn : As.length = n) (hst : stk = As.reverse ++ st) (hW : (st.map fun v => v.category).sum ≤ 8) (hd : decode cc pc = .ok (.invokestatic idx, 3))
    {Qc : Nat → Array Value → State → Outcome → State → Prop} (hM : ∀ sz, Met x.2.1 y (wsG y cb nL' ret') rm' (va_Pc As (Pr Λ μ sz)) (Qc sz) 0 0 (AL Λ sz)) : vRun x Λ μ nL pc lv stk st Qc As := by
  intro H locs ls hw hl
  obtain ⟨⟨h1, h2, h3, h4⟩, hok⟩ := L
  have hRR : xR x = rm := C.2.2.2.2.2.2.2.2.2.1
  exact va_runSN (As := As) (rest := st) (fix_of C) (hM H.size) ⟨va_cnB n C.2.2.2.2.2.1 (GW_code h4) rfl hR.1 hR.2.1 (C.2.2.2.2.2.2.2.2.1.1 _ h1) (C.2.2.2.2.2.1 _ h3) hok (by rw [hRR]; exact hR.2.2), C.2.2.2.2.2.1 _ h2, trivial⟩ ⟨Pr_blind _, Pr_of C hw _⟩ rfl hn hl.1 hst (lv_room hW) hd (room_of C)
end JC

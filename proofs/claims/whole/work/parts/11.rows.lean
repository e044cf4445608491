abbrev Ctx : Type := Program × Launch × Env × Room × State × MethodId × Array Value × List Frame × Method × Code × Nat × Nat
abbrev xs (x : Ctx) : State := x.2.2.2.2.1
abbrev xm (x : Ctx) : MethodId := x.2.2.2.2.2.1
abbrev xa (x : Ctx) : Array Value := x.2.2.2.2.2.2.1
abbrev xb (x : Ctx) : List Frame := x.2.2.2.2.2.2.2.1
abbrev xM (x : Ctx) : Method := x.2.2.2.2.2.2.2.2.1
abbrev xc (x : Ctx) : Code := x.2.2.2.2.2.2.2.2.2.1
abbrev xk (x : Ctx) : Nat := x.2.2.2.2.2.2.2.2.2.2.1
abbrev xl (x : Ctx) : Nat := x.2.2.2.2.2.2.2.2.2.2.2
abbrev xR (x : Ctx) : Room := x.2.2.2.1
def NWs : List Cond := [Cond.methodLinkNest "DryDock" 9 ⟨"DryDock$Tape", "<init>", "()V"⟩ "DryDock", Cond.methodLinkNest "DryDock" 18 ⟨"DryDock$State", "<init>", "()V"⟩ "DryDock", Cond.methodLinkNest "DryDock$State" 49 ⟨"DryDock$Log", "<init>", "()V"⟩ "DryDock", Cond.methodLinkNest "DryDock" 31 ⟨"DryDock$Law", "<init>", "()V"⟩ "DryDock", Cond.methodLinkNest "DryDock$Past" 17 ⟨"DryDock$State", "<init>", "()V"⟩ "DryDock", Cond.methodLinkNest "DryDock" 69 ⟨"DryDock$Curves", "<init>", "()V"⟩ "DryDock", Cond.methodLinkNest "DryDock" 76 ⟨"DryDock$Soundings", "<init>", "()V"⟩ "DryDock", Cond.methodLinkNest "DryDock" 83 ⟨"DryDock$Plans", "<init>", "()V"⟩ "DryDock", Cond.methodLinkNest "DryDock$State" 157 ⟨"DryDock", "placeBits", "(II)I"⟩ "DryDock", Cond.methodLinkNest "DryDock$DockReader" 115 ⟨"DryDock", "isRoom", "(III)Z"⟩ "DryDock", Cond.methodLinkNest "DryDock$State" 163 ⟨"DryDock", "isRoom", "(III)Z"⟩ "DryDock", Cond.methodLinkNest "DryDock$Plans" 118 ⟨"DryDock", "isRoom", "(III)Z"⟩ "DryDock", Cond.declares ⟨"DryDock$Reader", "readLines", "(I)I"⟩, Cond.declares ⟨"DryDock$Reader", "readLine", "()Z"⟩, Cond.declares ⟨"DryDock$Reader", "takeWord", "(Ljava/lang/String;)Z"⟩, Cond.declares ⟨"DryDock$Reader", "takeNumber", "(II)Z"⟩, Cond.declares ⟨"DryDock$Reader", "atNumber", "()Z"⟩, Cond.declares ⟨"DryDock$Reader", "takeSign", "(C)Z"⟩, Cond.castable "java/lang/IllegalArgumentException" "java/lang/IllegalArgumentException", Cond.declares ⟨"java/lang/RuntimeException", "<init>", "()V"⟩, Cond.declares ⟨"java/lang/RuntimeException", "<init>", "(Ljava/lang/String;)V"⟩, Cond.declares ⟨"java/lang/Exception", "<init>", "()V"⟩, Cond.declares ⟨"java/lang/Exception", "<init>", "(Ljava/lang/String;)V"⟩, Cond.declares ⟨"java/lang/Throwable", "<init>", "()V"⟩, Cond.declares ⟨"java/lang/Throwable", "<init>", "(Ljava/lang/String;)V"⟩, Cond.castable "java/lang/UnsupportedOperationException" "java/lang/UnsupportedOperationException", Cond.castable "java/lang/IndexOutOfBoundsException" "java/lang/IndexOutOfBoundsException", Cond.castable "java/util/NoSuchElementException" "java/util/NoSuchElementException", Cond.castable "java/lang/IllegalStateException" "java/lang/IllegalStateException", Cond.castable "DryDock" "java/lang/Object", Cond.castable "DryDock$Tape" "java/lang/Object", Cond.castable "DryDock$State" "java/lang/Object", Cond.castable "DryDock$Log" "java/lang/Object", Cond.castable "DryDock$Law" "java/lang/Object", Cond.castable "DryDock$DockReader" "java/lang/Object", Cond.castable "DryDock$LawReader" "java/lang/Object", Cond.castable "DryDock$Past" "java/lang/Object", Cond.castable "DryDock$Curves" "java/lang/Object", Cond.castable "DryDock$Soundings" "java/lang/Object", Cond.castable "DryDock$Plans" "java/lang/Object", Cond.castable "DryDockModel" "java/lang/Object", Cond.castable "java/lang/IllegalArgumentException" "java/lang/Object", Cond.castable "java/lang/UnsupportedOperationException" "java/lang/Object", Cond.castable "java/lang/IndexOutOfBoundsException" "java/lang/Object", Cond.castable "java/util/NoSuchElementException" "java/lang/Object", Cond.castable "java/lang/IllegalStateException" "java/lang/Object", Cond.castable "java/lang/Throwable" "java/lang/Object", Cond.castable "java/lang/String" "java/lang/Object", Cond.selects "DryDock$DockReader" ⟨"DryDock$Reader", "split", "()V"⟩ ⟨"DryDock$Reader", "split", "()V"⟩, Cond.selects "DryDock$LawReader" ⟨"DryDock$Reader", "split", "()V"⟩ ⟨"DryDock$Reader", "split", "()V"⟩]
def swT (j : Nat) : Int32 := ([6, 5, 4, 3, 2, 1, 0, 1, 2, 3, 4, 5] : List Int32).getD j 0
def rvT (j : Nat) : Int32 := ([0, 1, 2, 3, 1, 4, 3, 2, 1, 4, 2, 6, 4, 1, 2, 7, 1, 4, 3, 2, 1, 4, 6, 7, 4] : List Int32).getD j 0
def sK (Λ : Lay) (i : Nat) : Nat := aS Λ (i + 10)
def sV (Λ : Lay) (i : Nat) : Nat := aS Λ (i + 100)
def nWS : Nat := 23
def lenWS : List Nat := [3, 2, 6, 7, 3, 3, 5, 4, 4, 2, 4, 6, 5, 3, 4, 2, 4, 5, 4, 4, 5, 4, 4]
def bytWS : List (List Int32) := [[97, 110, 100], [97, 116], [98, 108, 111, 99, 107, 115], [100, 114, 97, 117, 103, 104, 116], [100, 114, 121], [102, 101, 101], [104, 97, 110, 100, 115], [104, 111, 117, 114], [104, 117, 114, 116], [105, 102], [108, 101, 97, 107], [108, 101, 110, 103, 116, 104], [108, 101, 118, 101, 108], [110, 111, 116], [111, 112, 101, 110], [111, 114], [112, 117, 108, 108], [112, 117, 109, 112, 115], [115, 104, 105, 112], [115, 104, 117, 116], [115, 117, 114, 103, 101], [116, 105, 100, 101], [119, 111, 114, 107]]
def SRs : List (String × Nat × String × Nat) := [("DryDock$DockReader", 19, "ship", 18), ("DryDock$DockReader", 96, "length", 11), ("DryDock$DockReader", 98, "draught", 3), ("DryDock$DockReader", 100, "work", 22), ("DryDock$DockReader", 102, "at", 1), ("DryDock$DockReader", 29, "tide", 21), ("DryDock$DockReader", 35, "blocks", 2), ("DryDock$DockReader", 40, "shut", 19), ("DryDock$DockReader", 51, "level", 12), ("DryDock$DockReader", 56, "pumps", 17), ("DryDock$DockReader", 61, "hands", 6), ("DryDock$DockReader", 66, "surge", 20), ("DryDock$DockReader", 71, "hour", 7), ("DryDock$LawReader", 47, "pull", 16), ("DryDock$LawReader", 49, "leak", 10), ("DryDock$LawReader", 51, "fee", 5), ("DryDock$LawReader", 33, "if", 9), ("DryDock$LawReader", 69, "not", 13), ("DryDock$LawReader", 75, "open", 14), ("DryDock$LawReader", 77, "dry", 4), ("DryDock$LawReader", 79, "hurt", 8), ("DryDock$LawReader", 91, "ship", 18), ("DryDock$LawReader", 93, "length", 11), ("DryDock$LawReader", 95, "draught", 3), ("DryDock$LawReader", 97, "work", 22), ("DryDock$LawReader", 99, "level", 12), ("DryDock$LawReader", 101, "tide", 21), ("DryDock$LawReader", 103, "hour", 7), ("DryDock$LawReader", 64, "and", 0), ("DryDock$LawReader", 56, "or", 15), ("DryDockModel", 178, "ship", 18), ("DryDockModel", 150, "length", 11), ("DryDockModel", 155, "draught", 3), ("DryDockModel", 157, "work", 22), ("DryDockModel", 166, "at", 1), ("DryDockModel", 183, "tide", 21), ("DryDockModel", 188, "blocks", 2), ("DryDockModel", 193, "level", 12), ("DryDockModel", 198, "shut", 19), ("DryDockModel", 203, "pumps", 17), ("DryDockModel", 205, "hands", 6), ("DryDockModel", 207, "surge", 20), ("DryDockModel", 209, "hour", 7), ("DryDockModel", 257, "pull", 16), ("DryDockModel", 259, "leak", 10), ("DryDockModel", 261, "fee", 5), ("DryDockModel", 263, "if", 9), ("DryDockModel", 239, "not", 13), ("DryDockModel", 227, "open", 14), ("DryDockModel", 229, "dry", 4), ("DryDockModel", 231, "hurt", 8), ("DryDockModel", 250, "and", 0), ("DryDockModel", 255, "or", 15)]
def SMs : List (String × Nat × String) := [("DryDock", 109, "the text of the dock is wrong"), ("DryDock", 119, "there are twelve texts"), ("DryDock", 129, "the text of the law is wrong"), ("DryDock", 419, "there is no such ship"), ("DryDock", 184, "a ship has no such thing"), ("DryDock", 422, "there is no such place"), ("DryDock", 196, "a place has no such thing"), ("DryDock", 424, "the tide has no such hour"), ("DryDock", 204, "hours are 1 to 60"), ("DryDock", 223, "tide and basin are not even"), ("DryDock", 237, "the ship cannot be let in there"), ("DryDock", 246, "the ship cannot be let out"), ("DryDock", 251, "no ship is like that"), ("DryDock", 256, "there are eight ships"), ("DryDock", 426, "the number is none"), ("DryDock", 432, "the tape tells no heights"), ("DryDock", 435, "the tape tells no soundings"), ("DryDock", 355, "ships are not told apart by that"), ("DryDock", 385, "a row of the log has no such thing")]
def NCs : List (String × String) := [("java/lang/UnsupportedOperationException", "java/lang/IllegalArgumentException"), ("java/util/NoSuchElementException", "java/lang/IndexOutOfBoundsException"), ("java/lang/IllegalStateException", "java/lang/IndexOutOfBoundsException"), ("java/lang/IllegalStateException", "java/lang/IllegalArgumentException"), ("java/lang/IllegalArgumentException", "java/lang/IndexOutOfBoundsException")]
abbrev bfD : String := "Ljava/util/function/BiFunction;"
abbrev tNm : String := "java/lang/Throwable"
abbrev seD : String := "[Ljava/lang/StackTraceElement;"
abbrev liD : String := "Ljava/util/List;"
def GlS (Λ : Lay) (A : Nat → Prop) (s : State) : Prop := (∀ r ∈ SRs, vk_R r.1 r.2.1 r.2.2.1 (sK Λ r.2.2.2) s) ∧ (∀ r ∈ SMs, ∃ sa, vk_R r.1 r.2.1 r.2.2 sa s) ∧ vk_S nWS lenWS bytWS (sK Λ) (sV Λ) A s s.heap ∧ va_Z "java/lang/String" "COMPACT_STRINGS" "Z" (.int 1) A s s.heap ∧ vx_Zq "jdk/internal/util/Preconditions" "SIOOBE_FORMATTER" bfD A s s.heap ∧ vx_Zq tNm "UNASSIGNED_STACK" seD A s s.heap ∧ vx_Zq tNm "SUPPRESSED_SENTINEL" liD A s s.heap ∧ (∀ r ∈ NCs, va_Nc r.1 r.2 s) ∧ va_AO "DryDock$State" s
/-- what stands as long as the method runs and outside of what it may write -/
def Gl (Λ : Lay) (A : Nat → Prop) (s : State) : Prop := (∀ w ∈ NWs, va_Nw w s) ∧ (va_Z "DryDock$Curves" "SWING" "[I" (.ref (aS Λ 0)) A s s.heap ∧ va_T .int (aS Λ 0) 12 (fun j => .int (swT j)) A s s.heap) ∧ (va_Z "DryDock$Plans" "ROW_VALUES" "[I" (.ref (aS Λ 1)) A s s.heap ∧ va_T .int (aS Λ 1) 25 (fun j => .int (rvT j)) A s s.heap) ∧ GlS Λ A s
theorem NWs_warm {s U : State} (hW : s.WarmedH U.vm) (h : ∀ w ∈ NWs, va_Nw w s) : ∀ w ∈ NWs, va_Nw w U := by
  intro w hw
  have h0 := h w hw
  simp only [NWs, List.mem_cons, List.not_mem_nil, or_false] at hw
  rcases hw with rfl | rfl | rfl | rfl | rfl | rfl | rfl | rfl | rfl | rfl | rfl | rfl | rfl | rfl | rfl | rfl | rfl | rfl | rfl | rfl | rfl | rfl | rfl | rfl | rfl | rfl | rfl | rfl | rfl | rfl | rfl | rfl | rfl | rfl | rfl | rfl | rfl | rfl | rfl | rfl | rfl | rfl | rfl | rfl | rfl | rfl | rfl | rfl | rfl | rfl <;> first | exact va_Nw.warmM hW h0 | exact va_Nw.warmD hW h0 | exact va_Nw.warmC hW h0 | exact word_at hW (good_of_word rfl) h0
theorem AL_sub {Λ : Lay} {a b : Nat} (h : a ≤ b) : ∀ q, AL Λ b q → AL Λ a q := fun _ hq => hq.elim Or.inl (fun z => Or.inr (Nat.le_trans h z))
theorem Gl_call {Λ : Lay} {s U : State} {H : Heap} {locs : List Loc} (h : Gl Λ (AL Λ s.heap.size) s) (hS : va_S (AL Λ s.heap.size) s.heap H locs) (hW : s.WarmedH U.vm) (hU : U.heap = H) : Gl Λ (AL Λ H.size) U := by
  obtain ⟨h1, ⟨h2, h3⟩, ⟨h4, h5⟩, h6, h7, h8, h9, h10, h11, h12, h13, h14⟩ := h
  have hq : ∀ a : Nat, a < s.heap.size → ¬ AL Λ s.heap.size a → H[a]? = s.heap[a]? := hS.2.1
  have hs := AL_sub (Λ := Λ) hS.1
  refine ⟨NWs_warm hW h1, ⟨?_, ?_⟩, ⟨?_, ?_⟩, fun r hr => (h6 r hr).warm hW, fun r hr => ?_, ?_, ?_, ?_, ?_, ?_, fun r hr => (h13 r hr).moved hW.alike, h14.moved hW.alike⟩
  · rw [hU]; exact ((h2.kept hq).moved hW.alike).narrow hs
  · rw [hU]; exact ((h3.kept hq).moved hW.alike).narrow hs
  · rw [hU]; exact ((h4.kept hq).moved hW.alike).narrow hs
  · rw [hU]; exact ((h5.kept hq).moved hW.alike).narrow hs
  · obtain ⟨sa, ha⟩ := h7 r hr; exact ⟨sa, ha.warm hW⟩
  · rw [hU]; exact ((h8.kept hq).moved hW.alike).narrow hs
  · rw [hU]; exact ((h9.kept hq).moved hW.alike).narrow hs
  · rw [hU]; exact ((h10.kept hq).moved hW.alike).narrow hs
  · rw [hU]; exact ((h11.kept hq).moved hW.alike).narrow hs
  · rw [hU]; exact ((h12.kept hq).moved hW.alike).narrow hs
theorem Gl_blind {Λ : Lay} {A : Nat → Prop} {U U' : State} (h : Gl Λ A U) (hv : U.vm = U'.vm) (hh : U.heap = U'.heap) : Gl Λ A U' := by
  obtain ⟨h1, ⟨h2, h3⟩, ⟨h4, h5⟩, h6, h7, h8, h9, h10, h11, h12, h13, h14⟩ := h
  have ha : U.vm.Alike U'.vm := by rw [hv]; exact Vm.Alike.refl _
  refine ⟨fun w hw => va_Nw.same ?_ hv (h1 w hw), ⟨?_, ?_⟩, ⟨?_, ?_⟩, fun r hr => (h6 r hr).same hv.symm, fun r hr => ?_, ?_, ?_, ?_, ?_, ?_, fun r hr => (h13 r hr).moved ha, h14.moved ha⟩
  · simp only [NWs, List.mem_cons, List.not_mem_nil, or_false] at hw
    rcases hw with rfl | rfl | rfl | rfl | rfl | rfl | rfl | rfl | rfl | rfl | rfl | rfl | rfl | rfl | rfl | rfl | rfl | rfl | rfl | rfl | rfl | rfl | rfl | rfl | rfl | rfl | rfl | rfl | rfl | rfl | rfl | rfl | rfl | rfl | rfl | rfl | rfl | rfl | rfl | rfl | rfl | rfl | rfl | rfl | rfl | rfl | rfl | rfl | rfl | rfl <;> rfl
  · rw [← hh]; exact h2.moved ha
  · rw [← hh]; exact h3.moved ha
  · rw [← hh]; exact h4.moved ha
  · rw [← hh]; exact h5.moved ha
  · obtain ⟨sa, hq⟩ := h7 r hr; exact ⟨sa, hq.same hv.symm⟩
  · rw [← hh]; exact h8.moved ha
  · rw [← hh]; exact h9.moved ha
  · rw [← hh]; exact h10.moved ha
  · rw [← hh]; exact h11.moved ha
  · rw [← hh]; exact h12.moved ha
def Cx (x : Ctx) (cc : ByteArray) (nL : Nat) (ret : Option FieldType) (own : String) (Λ : Lay) (rm : Room) : Prop :=
  x.1.tables.exec = Jvm.exec ∧ (xc x).code = cc ∧ (xM x).sig.returnType = ret ∧ (xc x).maxLocals = nL ∧ (xs x).vm.findClass own = some (xm x).cls ∧ (∀ w ∈ GW, w.before (xa x) (xs x) = true) ∧ (xM x).locks = false ∧ va_K (aD Λ) vwCl (tysL Λ) (xs x) ∧ Gl Λ (AL Λ (xs x).heap.size) (xs x) ∧ xR x = rm ∧ xk x ≤ rm.cells ∧ xl x ≤ rm.slots
def Wd (x : Ctx) (Λ : Lay) (μ : Mem) (H : Heap) (locs : List Loc) : Prop := va_P (aD Λ) vwCl (pool Λ μ) H ∧ va_D (AL Λ (xs x).heap.size) (pool Λ μ) ∧ va_S (AL Λ (xs x).heap.size) (xs x).heap H locs
/-- from any heap that holds the memory, from any locals that hold these: the machine comes to Q -/
def J (x : Ctx) (nL : Nat) (Λ : Lay) (Q : State → Prop) (pc : Nat) (lv : List (Nat × Value)) (st : List Value) (μ : Mem) : Prop :=
  ∀ (H : Heap) (locs : List Loc) (ls : Array Slot), Wd x Λ μ H locs → lv_has ls nL lv → W x.1 x.2.1 x.2.2.1 (xR x) (xs x) (xm x) (xa x) (xb x) (xM x) (xc x) H locs (xk x) (xl x) Q (F0 (xm x) pc ls st)
def Pr (Λ : Lay) (μ : Mem) (sz : Nat) (U : State) : Prop := U.heap.size = sz ∧ va_P (aD Λ) vwCl (pool Λ μ) U.heap ∧ va_D (AL Λ sz) (pool Λ μ) ∧ va_K (aD Λ) vwCl (tysL Λ) U ∧ Gl Λ (AL Λ sz) U
abbrev wsG (y : MethodName) (cb : ByteArray) (nL : Nat) (ret : Option FieldType) : List Cond := .code y cb nL ret :: GW
abbrev qI (Λ : Lay) (sz : Nat) (r : Int32) (μ' : Mem) : Array Value → State → Outcome → State → Prop := va_Qi (fun r' (_ : Unit) => r' = r) (fun _ t => va_P (aD Λ) vwCl (pool Λ μ') t.heap) (AL Λ sz)
abbrev qV (Λ : Lay) (sz : Nat) (μ' : Mem) : Array Value → State → Outcome → State → Prop := va_Qv (fun (_ : Unit) => True) (fun _ t => va_P (aD Λ) vwCl (pool Λ μ') t.heap) (AL Λ sz)
/-- a method that answers r and leaves μ' -/
def MI (l : Launch) (y : MethodName) (cb : ByteArray) (nL : Nat) (ret : Option FieldType) (rm : Room) (Λ : Lay) (av : List Value) (μ : Mem) (r : Int32) (μ' : Mem) : Prop :=
  ∀ sz, Met l y (wsG y cb nL ret) rm (va_Pc av (Pr Λ μ sz)) (qI Λ sz r μ') 0 0 (AL Λ sz)
def MV (l : Launch) (y : MethodName) (cb : ByteArray) (nL : Nat) (rm : Room) (Λ : Lay) (av : List Value) (μ : Mem) (μ' : Mem) : Prop :=
  ∀ sz, Met l y (wsG y cb nL none) rm (va_Pc av (Pr Λ μ sz)) (qV Λ sz μ') 0 0 (AL Λ sz)
def QI (x : Ctx) (Λ : Lay) (r : Int32) (μ' : Mem) : State → Prop := MQ (xb x) (qI Λ (xs x).heap.size r μ') (xa x) (xs x) (xk x) (xl x) (AL Λ (xs x).heap.size)
def QV (x : Ctx) (Λ : Lay) (μ' : Mem) : State → Prop := MQ (xb x) (qV Λ (xs x).heap.size μ') (xa x) (xs x) (xk x) (xl x) (AL Λ (xs x).heap.size)
theorem Pr_blind {Λ : Lay} {μ : Mem} {sz : Nat} (av : List Value) : FrameBlind (va_Pc av (Pr Λ μ sz)) := by
  intro a U g mk ⟨h0, h1, h2, h3, h4, h5⟩
  exact ⟨h0, h1, h2, h3, va_K.moved (u := U) (U := U.calling g mk a) (Vm.Alike.refl U.vm) h4, Gl_blind h5 rfl rfl⟩
theorem Pr_of {x : Ctx} {cc : ByteArray} {nL : Nat} {ret : Option FieldType} {own : String} {Λ : Lay} {rm : Room} (C : Cx x cc nL ret own Λ rm) {μ : Mem} {H : Heap} {locs : List Loc} (hw : Wd x Λ μ H locs) (av : List Value) : ∀ U : State, U.heap = H → (xs x).WarmedH U.vm → va_Pc av (Pr Λ μ H.size) av.toArray U := by
  intro U hU hW
  obtain ⟨-, -, -, -, -, -, -, hK, hG, -, -, -⟩ := C
  refine ⟨rfl, by rw [hU], by rw [hU]; exact hw.1, ⟨hw.2.1.1, fun k q hk => ?_⟩, va_K.moved hW.alike hK, Gl_call hG hw.2.2 hW hU⟩
  have hm : (q.1, q.2) ∈ pool Λ μ := List.mem_of_getElem? hk
  obtain ⟨a, ha, e⟩ := List.mem_map.mp hm
  have e1 : a = q.1 := congrArg Prod.fst e
  rw [← e1]
  exact Or.inl ha
theorem room_of {x : Ctx} {cc : ByteArray} {nL : Nat} {ret : Option FieldType} {own : String} {Λ : Lay} {rm : Room} (C : Cx x cc nL ret own Λ rm) : xk x + 0 ≤ (xR x).cells ∧ xl x + 0 ≤ (xR x).slots := by
  obtain ⟨-, -, -, -, -, -, -, -, -, hR, h1, h2⟩ := C
  rw [hR]
  exact ⟨h1, h2⟩
theorem GW_code {y : MethodName} {cb : ByteArray} {n : Nat} {ret : Option FieldType} (h : Cond.code y cb n ret ∈ GW) : GoodIn GW (wsG y cb n ret) := by
  intro w hw
  rcases List.mem_cons.mp hw with rfl | hw
  · exact ⟨h, good_of_word (GW_good h)⟩
  · exact ⟨hw, good_of_word (GW_good hw)⟩
theorem GW_app {a b : List Cond} (ha : ∀ w ∈ a, w ∈ GW) (hb : GoodIn GW b) : GoodIn GW (a ++ b) := by
  intro w hw
  rcases List.mem_append.mp hw with h | h
  · exact ⟨ha w h, good_of_word (GW_good (ha w h))⟩
  · exact hb w h
/-- entry: a contract out of the judgement at the first instruction -/
theorem mi_of {l : Launch} {y : MethodName} {cb : ByteArray} {nL : Nat} {ret : Option FieldType} {rm : Room} {Λ : Lay} {av : List Value} {μ μ' : Mem} {r : Int32} (hpl : plainName y.cls = true) (hn : (lg_sl av).length ≤ nL)
    (h : ∀ x : Ctx, Cx x cb nL ret y.cls Λ rm → x.2.1 = l → J x nL Λ (QI x Λ r μ') 0 (lv_args 0 av) [] μ) : MI l y cb nL ret rm Λ av μ r μ' := by
  intro sz
  refine Met.ofW (cc := cb) (maxL := nL) (ret := ret) hpl rfl ?_
  intro p e s m args below meth c s₁ B hml hv
  obtain ⟨rfl, hsz, hP, hD, hK, hG⟩ := hv
  subst hsz
  have hts := atoms_spec (ws := wsG y cb nL ret) B.pre
  have hown : s.vm.findClass y.cls = some m.cls := findClass_of_methodNamed B.named
  rw [lg_entry_eq]
  exact h (p, l, e, (headSpec (wsG y cb nL ret) rm).room, s, m, av.toArray, below, meth, c, 0, 0) ⟨B.exec, B.bytes, B.returns, hml, hown, fun w hw => hts w (List.mem_cons_of_mem _ hw), B.notSynchronized, hK, hG, rfl, Nat.zero_le _, Nat.zero_le _⟩ rfl s.heap [] _ ⟨hP, hD, va_S.rf⟩ (lv_entry av hn)
theorem mv_of {l : Launch} {y : MethodName} {cb : ByteArray} {nL : Nat} {rm : Room} {Λ : Lay} {av : List Value} {μ μ' : Mem} (hpl : plainName y.cls = true) (hn : (lg_sl av).length ≤ nL)
    (h : ∀ x : Ctx, Cx x cb nL none y.cls Λ rm → x.2.1 = l → J x nL Λ (QV x Λ μ') 0 (lv_args 0 av) [] μ) : MV l y cb nL rm Λ av μ μ' := by
  intro sz
  refine Met.ofW (cc := cb) (maxL := nL) (ret := none) hpl rfl ?_
  intro p e s m args below meth c s₁ B hml hv
  obtain ⟨rfl, hsz, hP, hD, hK, hG⟩ := hv
  subst hsz
  have hts := atoms_spec (ws := wsG y cb nL none) B.pre
  have hown : s.vm.findClass y.cls = some m.cls := findClass_of_methodNamed B.named
  rw [lg_entry_eq]
  exact h (p, l, e, (headSpec (wsG y cb nL none) rm).room, s, m, av.toArray, below, meth, c, 0, 0) ⟨B.exec, B.bytes, B.returns, hml, hown, fun w hw => hts w (List.mem_cons_of_mem _ hw), B.notSynchronized, hK, hG, rfl, Nat.zero_le _, Nat.zero_le _⟩ rfl s.heap [] _ ⟨hP, hD, va_S.rf⟩ (lv_entry av hn)
section JR
variable {x : Ctx} {cc : ByteArray} {nL : Nat} {ret : Option FieldType} {own : String} {Λ : Lay} {rm : Room} {Q : State → Prop} {pc : Nat} {lv lv' : List (Nat × Value)} {st : List Value} {μ : Mem}
theorem j_sub0 : True := trivial
theorem j_sub (ks : List Nat) (h : lv_pick lv ks = lv') (K : J x nL Λ Q pc lv' st μ) : J x nL Λ Q pc lv st μ := fun H locs ls hw hl => K H locs ls hw (lv_sub hl ks h)
theorem j_iconst (C : Cx x cc nL ret own Λ rm) {n : Int} {v : Int32} (hd : decode cc pc = .ok (.iconst n, 1)) (hv : Int32.ofInt n = v) (K : J x nL Λ Q (pc + 1) lv (.int v :: st) μ) : J x nL Λ Q (pc) lv (st) μ := fun H locs ls hw hl => lv_iconst C.1 C.2.1 hd hv (K H locs ls hw hl)
theorem j_bipush (C : Cx x cc nL ret own Λ rm) {n : Int} {v : Int32} (hd : decode cc pc = .ok (.bipush n, 2)) (hv : (Int8.ofInt n).toInt32 = v) (K : J x nL Λ Q (pc + 2) lv (.int v :: st) μ) : J x nL Λ Q (pc) lv (st) μ := fun H locs ls hw hl => lv_bipush C.1 C.2.1 hd hv (K H locs ls hw hl)
theorem j_sipush (C : Cx x cc nL ret own Λ rm) {n : Int} {v : Int32} (hd : decode cc pc = .ok (.sipush n, 3)) (hv : (Int16.ofInt n).toInt32 = v) (K : J x nL Λ Q (pc + 3) lv (.int v :: st) μ) : J x nL Λ Q (pc) lv (st) μ := fun H locs ls hw hl => lv_sipush C.1 C.2.1 hd hv (K H locs ls hw hl)
theorem j_iload_n (C : Cx x cc nL ret own Λ rm) {k : Fin 4} (p : Nat) {v : Int32} (hd : decode cc pc = .ok (.iload_n k, 1)) (hk : lv[p]? = some ((k : Nat), .int v)) (K : J x nL Λ Q (pc + 1) lv (.int v :: st) μ) : J x nL Λ Q (pc) lv (st) μ := fun H locs ls hw hl => lv_iload_n C.1 C.2.1 hd rfl (lv_at hl p hk) (K H locs ls hw hl)
theorem j_iload (C : Cx x cc nL ret own Λ rm) {k : Nat} (p : Nat) {v : Int32} (hd : decode cc pc = .ok (.iload k, 2)) (hk : lv[p]? = some (k, .int v)) (K : J x nL Λ Q (pc + 2) lv (.int v :: st) μ) : J x nL Λ Q (pc) lv (st) μ := fun H locs ls hw hl => lv_iload C.1 C.2.1 hd (lv_at hl p hk) (K H locs ls hw hl)
theorem j_lload_n (C : Cx x cc nL ret own Λ rm) {k : Fin 4} (p : Nat) {v : Int64} (hd : decode cc pc = .ok (.lload_n k, 1)) (hk : lv[p]? = some ((k : Nat), .long v)) (K : J x nL Λ Q (pc + 1) lv (.long v :: st) μ) : J x nL Λ Q (pc) lv (st) μ := fun H locs ls hw hl => lv_lload_n C.1 C.2.1 hd rfl (lv_at hl p hk) (K H locs ls hw hl)
theorem j_lload (C : Cx x cc nL ret own Λ rm) {k : Nat} (p : Nat) {v : Int64} (hd : decode cc pc = .ok (.lload k, 2)) (hk : lv[p]? = some (k, .long v)) (K : J x nL Λ Q (pc + 2) lv (.long v :: st) μ) : J x nL Λ Q (pc) lv (st) μ := fun H locs ls hw hl => lv_lload C.1 C.2.1 hd (lv_at hl p hk) (K H locs ls hw hl)
theorem j_aload_n (C : Cx x cc nL ret own Λ rm) {k : Fin 4} (p : Nat) {v : Nat} (hd : decode cc pc = .ok (.aload_n k, 1)) (hk : lv[p]? = some ((k : Nat), .ref v)) (K : J x nL Λ Q (pc + 1) lv (.ref v :: st) μ) : J x nL Λ Q (pc) lv (st) μ := fun H locs ls hw hl => lv_aload_n C.1 C.2.1 hd rfl (lv_at hl p hk) (K H locs ls hw hl)
theorem j_aload (C : Cx x cc nL ret own Λ rm) {k : Nat} (p : Nat) {v : Nat} (hd : decode cc pc = .ok (.aload k, 2)) (hk : lv[p]? = some (k, .ref v)) (K : J x nL Λ Q (pc + 2) lv (.ref v :: st) μ) : J x nL Λ Q (pc) lv (st) μ := fun H locs ls hw hl => lv_aload C.1 C.2.1 hd (lv_at hl p hk) (K H locs ls hw hl)
theorem j_iadd (C : Cx x cc nL ret own Λ rm) {a b : Int32} (hd : decode cc pc = .ok (.iadd, 1)) (K : J x nL Λ Q (pc + 1) lv (.int (a + b) :: st) μ) : J x nL Λ Q (pc) lv (.int b :: .int a :: st) μ := fun H locs ls hw hl => lv_iadd C.1 C.2.1 hd  (K H locs ls hw hl)
theorem j_isub (C : Cx x cc nL ret own Λ rm) {a b : Int32} (hd : decode cc pc = .ok (.isub, 1)) (K : J x nL Λ Q (pc + 1) lv (.int (a - b) :: st) μ) : J x nL Λ Q (pc) lv (.int b :: .int a :: st) μ := fun H locs ls hw hl => lv_isub C.1 C.2.1 hd  (K H locs ls hw hl)
theorem j_imul (C : Cx x cc nL ret own Λ rm) {a b : Int32} (hd : decode cc pc = .ok (.imul, 1)) (K : J x nL Λ Q (pc + 1) lv (.int (a * b) :: st) μ) : J x nL Λ Q (pc) lv (.int b :: .int a :: st) μ := fun H locs ls hw hl => lv_imul C.1 C.2.1 hd  (K H locs ls hw hl)
theorem j_iand (C : Cx x cc nL ret own Λ rm) {a b : Int32} (hd : decode cc pc = .ok (.iand, 1)) (K : J x nL Λ Q (pc + 1) lv (.int (a &&& b) :: st) μ) : J x nL Λ Q (pc) lv (.int b :: .int a :: st) μ := fun H locs ls hw hl => lv_iand C.1 C.2.1 hd  (K H locs ls hw hl)
theorem j_ior (C : Cx x cc nL ret own Λ rm) {a b : Int32} (hd : decode cc pc = .ok (.ior, 1)) (K : J x nL Λ Q (pc + 1) lv (.int (a ||| b) :: st) μ) : J x nL Λ Q (pc) lv (.int b :: .int a :: st) μ := fun H locs ls hw hl => lv_ior C.1 C.2.1 hd  (K H locs ls hw hl)
theorem j_ixor (C : Cx x cc nL ret own Λ rm) {a b : Int32} (hd : decode cc pc = .ok (.ixor, 1)) (K : J x nL Λ Q (pc + 1) lv (.int (a ^^^ b) :: st) μ) : J x nL Λ Q (pc) lv (.int b :: .int a :: st) μ := fun H locs ls hw hl => lv_ixor C.1 C.2.1 hd  (K H locs ls hw hl)
theorem j_ishl (C : Cx x cc nL ret own Λ rm) {a b : Int32} (hd : decode cc pc = .ok (.ishl, 1)) (K : J x nL Λ Q (pc + 1) lv (.int (ishl a b) :: st) μ) : J x nL Λ Q (pc) lv (.int b :: .int a :: st) μ := fun H locs ls hw hl => lv_ishl C.1 C.2.1 hd  (K H locs ls hw hl)
theorem j_ishr (C : Cx x cc nL ret own Λ rm) {a b : Int32} (hd : decode cc pc = .ok (.ishr, 1)) (K : J x nL Λ Q (pc + 1) lv (.int (ishr a b) :: st) μ) : J x nL Λ Q (pc) lv (.int b :: .int a :: st) μ := fun H locs ls hw hl => lv_ishr C.1 C.2.1 hd  (K H locs ls hw hl)
theorem j_ineg (C : Cx x cc nL ret own Λ rm) {a : Int32} (hd : decode cc pc = .ok (.ineg, 1)) (K : J x nL Λ Q (pc + 1) lv (.int (-a) :: st) μ) : J x nL Λ Q (pc) lv (.int a :: st) μ := fun H locs ls hw hl => lv_ineg C.1 C.2.1 hd  (K H locs ls hw hl)
theorem j_iushr (C : Cx x cc nL ret own Λ rm) {a b : Int32} (hd : decode cc pc = .ok (.iushr, 1)) (K : J x nL Λ Q (pc + 1) lv (.int (iushr a b) :: st) μ) : J x nL Λ Q (pc) lv (.int b :: .int a :: st) μ := fun H locs ls hw hl => lv_iushr C.1 C.2.1 hd rfl (K H locs ls hw hl)
theorem j_idiv (C : Cx x cc nL ret own Λ rm) {a b : Int32} (hd : decode cc pc = .ok (.idiv, 1)) (hne : ¬ b = 0) (K : J x nL Λ Q (pc + 1) lv (.int (a / b) :: st) μ) : J x nL Λ Q (pc) lv (.int b :: .int a :: st) μ := fun H locs ls hw hl => lv_idiv C.1 C.2.1 hd hne (K H locs ls hw hl)
theorem j_irem (C : Cx x cc nL ret own Λ rm) {a b : Int32} (hd : decode cc pc = .ok (.irem, 1)) (hne : ¬ b = 0) (K : J x nL Λ Q (pc + 1) lv (.int (irem a b) :: st) μ) : J x nL Λ Q (pc) lv (.int b :: .int a :: st) μ := fun H locs ls hw hl => lv_irem C.1 C.2.1 hd hne (K H locs ls hw hl)
theorem j_i2b (C : Cx x cc nL ret own Λ rm) {a : Int32} (hd : decode cc pc = .ok (.i2b, 1)) (K : J x nL Λ Q (pc + 1) lv (.int (a.toInt8.toInt32) :: st) μ) : J x nL Λ Q (pc) lv (.int a :: st) μ := fun H locs ls hw hl => lv_i2b C.1 C.2.1 hd rfl (K H locs ls hw hl)
theorem j_i2l (C : Cx x cc nL ret own Λ rm) {a : Int32} (hd : decode cc pc = .ok (.i2l, 1)) (K : J x nL Λ Q (pc + 1) lv (.long (a.toInt64) :: st) μ) : J x nL Λ Q (pc) lv (.int a :: st) μ := fun H locs ls hw hl => lv_i2l C.1 C.2.1 hd rfl (K H locs ls hw hl)
theorem j_l2i (C : Cx x cc nL ret own Λ rm) {a : Int64} (hd : decode cc pc = .ok (.l2i, 1)) (K : J x nL Λ Q (pc + 1) lv (.int (a.toInt32) :: st) μ) : J x nL Λ Q (pc) lv (.long a :: st) μ := fun H locs ls hw hl => lv_l2i C.1 C.2.1 hd rfl (K H locs ls hw hl)
theorem j_ladd (C : Cx x cc nL ret own Λ rm) {a b : Int64} (hd : decode cc pc = .ok (.ladd, 1)) (K : J x nL Λ Q (pc + 1) lv (.long (a + b) :: st) μ) : J x nL Λ Q (pc) lv (.long b :: .long a :: st) μ := fun H locs ls hw hl => lv_ladd C.1 C.2.1 hd  (K H locs ls hw hl)
theorem j_lmul (C : Cx x cc nL ret own Λ rm) {a b : Int64} (hd : decode cc pc = .ok (.lmul, 1)) (K : J x nL Λ Q (pc + 1) lv (.long (a * b) :: st) μ) : J x nL Λ Q (pc) lv (.long b :: .long a :: st) μ := fun H locs ls hw hl => lv_lmul C.1 C.2.1 hd  (K H locs ls hw hl)
theorem j_lor (C : Cx x cc nL ret own Λ rm) {a b : Int64} (hd : decode cc pc = .ok (.lor, 1)) (K : J x nL Λ Q (pc + 1) lv (.long (a ||| b) :: st) μ) : J x nL Λ Q (pc) lv (.long b :: .long a :: st) μ := fun H locs ls hw hl => lv_lor C.1 C.2.1 hd  (K H locs ls hw hl)
theorem j_lxor (C : Cx x cc nL ret own Λ rm) {a b : Int64} (hd : decode cc pc = .ok (.lxor, 1)) (K : J x nL Λ Q (pc + 1) lv (.long (a ^^^ b) :: st) μ) : J x nL Λ Q (pc) lv (.long b :: .long a :: st) μ := fun H locs ls hw hl => lv_lxor C.1 C.2.1 hd  (K H locs ls hw hl)
theorem j_ldiv (C : Cx x cc nL ret own Λ rm) {a b : Int64} (hd : decode cc pc = .ok (.ldiv, 1)) (hne : ¬ b = 0) (K : J x nL Λ Q (pc + 1) lv (.long (a / b) :: st) μ) : J x nL Λ Q (pc) lv (.long b :: .long a :: st) μ := fun H locs ls hw hl => lv_ldiv C.1 C.2.1 hd hne (K H locs ls hw hl)
theorem j_lshl (C : Cx x cc nL ret own Λ rm) {a : Int64} {b : Int32} (hd : decode cc pc = .ok (.lshl, 1)) (K : J x nL Λ Q (pc + 1) lv (.long (a <<< (b.toInt64 &&& 63)) :: st) μ) : J x nL Λ Q (pc) lv (.int b :: .long a :: st) μ := fun H locs ls hw hl => lv_lshl C.1 C.2.1 hd rfl (K H locs ls hw hl)
theorem j_dup (C : Cx x cc nL ret own Λ rm) {v : Value} (hd : decode cc pc = .ok (.dup, 1)) (hv : v.category = 1) (K : J x nL Λ Q (pc + 1) lv (v :: v :: st) μ) : J x nL Λ Q (pc) lv (v :: st) μ := fun H locs ls hw hl => lv_dup C.1 C.2.1 hd hv (K H locs ls hw hl)
theorem j_pop (C : Cx x cc nL ret own Λ rm) {v : Value} (hd : decode cc pc = .ok (.pop, 1)) (hv : v.category = 1) (K : J x nL Λ Q (pc + 1) lv (st) μ) : J x nL Λ Q (pc) lv (v :: st) μ := fun H locs ls hw hl => lv_pop C.1 C.2.1 hd hv (K H locs ls hw hl)
theorem j_dup2 (C : Cx x cc nL ret own Λ rm) {v w : Value} (hd : decode cc pc = .ok (.dup2, 1)) (hv : v.category = 1) (hw : w.category = 1) (K : J x nL Λ Q (pc + 1) lv (v :: w :: v :: w :: st) μ) : J x nL Λ Q (pc) lv (v :: w :: st) μ := fun H locs ls h0 hl => lv_dup2_11 C.1 C.2.1 hd hv hw (K H locs ls h0 hl)
theorem j_istore (C : Cx x cc nL ret own Λ rm) {k : Nat} {v : Int32} (hd : decode cc pc = .ok (.istore k, 2)) (hn : k < nL) (hl9 : (k, Value.int v) :: lv.filter (fun q => !(q.1 == k) && !(q.1 + 1 == k && q.2.category == 2)) = lv') (K : J x nL Λ Q (pc + 2) lv' (st) μ) : J x nL Λ Q (pc) lv (.int v :: st) μ := fun H locs ls hw hl => lv_istore C.1 C.2.1 hd hl hn hl9 (fun ls1 h1 => K H locs ls1 hw h1)
theorem j_istore_n (C : Cx x cc nL ret own Λ rm) {k : Fin 4} {v : Int32} (hd : decode cc pc = .ok (.istore_n k, 1)) (hn : (k : Nat) < nL) (hl9 : ((k : Nat), Value.int v) :: lv.filter (fun q => !(q.1 == (k : Nat)) && !(q.1 + 1 == (k : Nat) && q.2.category == 2)) = lv') (K : J x nL Λ Q (pc + 1) lv' (st) μ) : J x nL Λ Q (pc) lv (.int v :: st) μ := fun H locs ls hw hl => lv_istore_n C.1 C.2.1 hd rfl hl hn hl9 (fun ls1 h1 => K H locs ls1 hw h1)
theorem j_astore (C : Cx x cc nL ret own Λ rm) {k : Nat} {v : Nat} (hd : decode cc pc = .ok (.astore k, 2)) (hn : k < nL) (hl9 : (k, Value.ref v) :: lv.filter (fun q => !(q.1 == k) && !(q.1 + 1 == k && q.2.category == 2)) = lv') (K : J x nL Λ Q (pc + 2) lv' (st) μ) : J x nL Λ Q (pc) lv (.ref v :: st) μ := fun H locs ls hw hl => lv_astore C.1 C.2.1 hd hl hn hl9 (fun ls1 h1 => K H locs ls1 hw h1)
theorem j_astore_n (C : Cx x cc nL ret own Λ rm) {k : Fin 4} {v : Nat} (hd : decode cc pc = .ok (.astore_n k, 1)) (hn : (k : Nat) < nL) (hl9 : ((k : Nat), Value.ref v) :: lv.filter (fun q => !(q.1 == (k : Nat)) && !(q.1 + 1 == (k : Nat) && q.2.category == 2)) = lv') (K : J x nL Λ Q (pc + 1) lv' (st) μ) : J x nL Λ Q (pc) lv (.ref v :: st) μ := fun H locs ls hw hl => lv_astore_n C.1 C.2.1 hd rfl hl hn hl9 (fun ls1 h1 => K H locs ls1 hw h1)
theorem j_lstore (C : Cx x cc nL ret own Λ rm) {k : Nat} {v : Int64} (hd : decode cc pc = .ok (.lstore k, 2)) (hn : k + 1 < nL) (hl9 : (k, Value.long v) :: lv.filter (fun q => !(q.1 == k) && (!(q.1 == k + 1) && !(q.1 + 1 == k && q.2.category == 2))) = lv') (K : J x nL Λ Q (pc + 2) lv' (st) μ) : J x nL Λ Q (pc) lv (.long v :: st) μ := fun H locs ls hw hl => lv_lstore C.1 C.2.1 hd hl hn hl9 (fun ls1 h1 => K H locs ls1 hw h1)
theorem j_lstore_n (C : Cx x cc nL ret own Λ rm) {k : Fin 4} {v : Int64} (hd : decode cc pc = .ok (.lstore_n k, 1)) (hn : (k : Nat) + 1 < nL) (hl9 : ((k : Nat), Value.long v) :: lv.filter (fun q => !(q.1 == (k : Nat)) && (!(q.1 == (k : Nat) + 1) && !(q.1 + 1 == (k : Nat) && q.2.category == 2))) = lv') (K : J x nL Λ Q (pc + 1) lv' (st) μ) : J x nL Λ Q (pc) lv (.long v :: st) μ := fun H locs ls hw hl => lv_lstore_n C.1 C.2.1 hd rfl hl hn hl9 (fun ls1 h1 => K H locs ls1 hw h1)
theorem j_iinc (C : Cx x cc nL ret own Λ rm) {k : Nat} (p : Nat) {n : Int} {a v : Int32} (hd : decode cc pc = .ok (.iinc k n, 3)) (hk : lv[p]? = some (k, .int a)) (hv : a + Int32.ofInt n = v) (hn : k < nL) (hl9 : (k, Value.int v) :: lv.filter (fun q => !(q.1 == k) && !(q.1 + 1 == k && q.2.category == 2)) = lv') (K : J x nL Λ Q (pc + 3) lv' (st) μ) : J x nL Λ Q (pc) lv (st) μ := fun H locs ls hw hl => lv_iinc C.1 C.2.1 hd hl hk hv hn hl9 (fun ls1 h1 => K H locs ls1 hw h1)
theorem j_if_eq (C : Cx x cc nL ret own Λ rm) {a : Int32} {off : Int} {tgt : Nat} (hd : decode cc pc = .ok (.ifCond .eq off, 3)) (ht : (pc : Int) + off = (tgt : Int)) (kt : a = 0 → J x nL Λ Q (tgt) lv (st) μ) (kf : ¬ (a = 0) → J x nL Λ Q (pc + 3) lv (st) μ) : J x nL Λ Q (pc) lv (.int a :: st) μ := fun H locs ls hw hl => lv_if_eq C.1 C.2.1 hd ht (fun h => kt h H locs ls hw hl) (fun h => kf h H locs ls hw hl)
theorem j_if_ne (C : Cx x cc nL ret own Λ rm) {a : Int32} {off : Int} {tgt : Nat} (hd : decode cc pc = .ok (.ifCond .ne off, 3)) (ht : (pc : Int) + off = (tgt : Int)) (kt : ¬ a = 0 → J x nL Λ Q (tgt) lv (st) μ) (kf : a = 0 → J x nL Λ Q (pc + 3) lv (st) μ) : J x nL Λ Q (pc) lv (.int a :: st) μ := fun H locs ls hw hl => lv_if_ne C.1 C.2.1 hd ht (fun h => kt h H locs ls hw hl) (fun h => kf h H locs ls hw hl)
theorem j_if_lt (C : Cx x cc nL ret own Λ rm) {a : Int32} {off : Int} {tgt : Nat} (hd : decode cc pc = .ok (.ifCond .lt off, 3)) (ht : (pc : Int) + off = (tgt : Int)) (kt : a < 0 → J x nL Λ Q (tgt) lv (st) μ) (kf : ¬ (a < 0) → J x nL Λ Q (pc + 3) lv (st) μ) : J x nL Λ Q (pc) lv (.int a :: st) μ := fun H locs ls hw hl => lv_if_lt C.1 C.2.1 hd ht (fun h => kt h H locs ls hw hl) (fun h => kf h H locs ls hw hl)
theorem j_if_ge (C : Cx x cc nL ret own Λ rm) {a : Int32} {off : Int} {tgt : Nat} (hd : decode cc pc = .ok (.ifCond .ge off, 3)) (ht : (pc : Int) + off = (tgt : Int)) (kt : 0 ≤ a → J x nL Λ Q (tgt) lv (st) μ) (kf : ¬ (0 ≤ a) → J x nL Λ Q (pc + 3) lv (st) μ) : J x nL Λ Q (pc) lv (.int a :: st) μ := fun H locs ls hw hl => lv_if_ge C.1 C.2.1 hd ht (fun h => kt h H locs ls hw hl) (fun h => kf h H locs ls hw hl)
theorem j_if_gt (C : Cx x cc nL ret own Λ rm) {a : Int32} {off : Int} {tgt : Nat} (hd : decode cc pc = .ok (.ifCond .gt off, 3)) (ht : (pc : Int) + off = (tgt : Int)) (kt : 0 < a → J x nL Λ Q (tgt) lv (st) μ) (kf : ¬ (0 < a) → J x nL Λ Q (pc + 3) lv (st) μ) : J x nL Λ Q (pc) lv (.int a :: st) μ := fun H locs ls hw hl => lv_if_gt C.1 C.2.1 hd ht (fun h => kt h H locs ls hw hl) (fun h => kf h H locs ls hw hl)
theorem j_if_le (C : Cx x cc nL ret own Λ rm) {a : Int32} {off : Int} {tgt : Nat} (hd : decode cc pc = .ok (.ifCond .le off, 3)) (ht : (pc : Int) + off = (tgt : Int)) (kt : a ≤ 0 → J x nL Λ Q (tgt) lv (st) μ) (kf : ¬ (a ≤ 0) → J x nL Λ Q (pc + 3) lv (st) μ) : J x nL Λ Q (pc) lv (.int a :: st) μ := fun H locs ls hw hl => lv_if_le C.1 C.2.1 hd ht (fun h => kt h H locs ls hw hl) (fun h => kf h H locs ls hw hl)
theorem j_icmp_eq (C : Cx x cc nL ret own Λ rm) {a b : Int32} {off : Int} {tgt : Nat} (hd : decode cc pc = .ok (.if_icmp .eq off, 3)) (ht : (pc : Int) + off = (tgt : Int)) (kt : a = b → J x nL Λ Q (tgt) lv (st) μ) (kf : ¬ (a = b) → J x nL Λ Q (pc + 3) lv (st) μ) : J x nL Λ Q (pc) lv (.int b :: .int a :: st) μ := fun H locs ls hw hl => lv_icmp_eq C.1 C.2.1 hd ht (fun h => kt h H locs ls hw hl) (fun h => kf h H locs ls hw hl)
theorem j_icmp_ne (C : Cx x cc nL ret own Λ rm) {a b : Int32} {off : Int} {tgt : Nat} (hd : decode cc pc = .ok (.if_icmp .ne off, 3)) (ht : (pc : Int) + off = (tgt : Int)) (kt : ¬ a = b → J x nL Λ Q (tgt) lv (st) μ) (kf : a = b → J x nL Λ Q (pc + 3) lv (st) μ) : J x nL Λ Q (pc) lv (.int b :: .int a :: st) μ := fun H locs ls hw hl => lv_icmp_ne C.1 C.2.1 hd ht (fun h => kt h H locs ls hw hl) (fun h => kf h H locs ls hw hl)
theorem j_icmp_lt (C : Cx x cc nL ret own Λ rm) {a b : Int32} {off : Int} {tgt : Nat} (hd : decode cc pc = .ok (.if_icmp .lt off, 3)) (ht : (pc : Int) + off = (tgt : Int)) (kt : a < b → J x nL Λ Q (tgt) lv (st) μ) (kf : ¬ (a < b) → J x nL Λ Q (pc + 3) lv (st) μ) : J x nL Λ Q (pc) lv (.int b :: .int a :: st) μ := fun H locs ls hw hl => lv_icmp_lt C.1 C.2.1 hd ht (fun h => kt h H locs ls hw hl) (fun h => kf h H locs ls hw hl)
theorem j_icmp_ge (C : Cx x cc nL ret own Λ rm) {a b : Int32} {off : Int} {tgt : Nat} (hd : decode cc pc = .ok (.if_icmp .ge off, 3)) (ht : (pc : Int) + off = (tgt : Int)) (kt : b ≤ a → J x nL Λ Q (tgt) lv (st) μ) (kf : ¬ (b ≤ a) → J x nL Λ Q (pc + 3) lv (st) μ) : J x nL Λ Q (pc) lv (.int b :: .int a :: st) μ := fun H locs ls hw hl => lv_icmp_ge C.1 C.2.1 hd ht (fun h => kt h H locs ls hw hl) (fun h => kf h H locs ls hw hl)
theorem j_icmp_gt (C : Cx x cc nL ret own Λ rm) {a b : Int32} {off : Int} {tgt : Nat} (hd : decode cc pc = .ok (.if_icmp .gt off, 3)) (ht : (pc : Int) + off = (tgt : Int)) (kt : b < a → J x nL Λ Q (tgt) lv (st) μ) (kf : ¬ (b < a) → J x nL Λ Q (pc + 3) lv (st) μ) : J x nL Λ Q (pc) lv (.int b :: .int a :: st) μ := fun H locs ls hw hl => lv_icmp_gt C.1 C.2.1 hd ht (fun h => kt h H locs ls hw hl) (fun h => kf h H locs ls hw hl)
theorem j_icmp_le (C : Cx x cc nL ret own Λ rm) {a b : Int32} {off : Int} {tgt : Nat} (hd : decode cc pc = .ok (.if_icmp .le off, 3)) (ht : (pc : Int) + off = (tgt : Int)) (kt : a ≤ b → J x nL Λ Q (tgt) lv (st) μ) (kf : ¬ (a ≤ b) → J x nL Λ Q (pc + 3) lv (st) μ) : J x nL Λ Q (pc) lv (.int b :: .int a :: st) μ := fun H locs ls hw hl => lv_icmp_le C.1 C.2.1 hd ht (fun h => kt h H locs ls hw hl) (fun h => kf h H locs ls hw hl)
theorem j_goto (C : Cx x cc nL ret own Λ rm) {off : Int} {tgt : Nat} (hd : decode cc pc = .ok (.goto off, 3)) (ht : (pc : Int) + off = (tgt : Int)) (K : J x nL Λ Q (tgt) lv (st) μ) : J x nL Λ Q (pc) lv (st) μ := fun H locs ls hw hl => lv_goto C.1 C.2.1 hd ht (K H locs ls hw hl)
theorem j_ldc (C : Cx x cc nL ret own Λ rm) {idx : Nat} {v : Int32} (hc : Cond.constant own idx v ∈ GW) (hd : decode cc pc = .ok (.ldc idx, 2)) (K : J x nL Λ Q (pc + 2) lv (.int v :: st) μ) : J x nL Λ Q (pc) lv (st) μ := fun H locs ls hw hl => lv_ldc C.1 C.2.1 C.2.2.2.2.1 (C.2.2.2.2.2.1 _ hc) hd (K H locs ls hw hl)
theorem j_ldcw (C : Cx x cc nL ret own Λ rm) {idx : Nat} {v : Int32} (hc : Cond.constant own idx v ∈ GW) (hd : decode cc pc = .ok (.ldc_w idx, 3)) (K : J x nL Λ Q (pc + 3) lv (.int v :: st) μ) : J x nL Λ Q (pc) lv (st) μ := fun H locs ls hw hl => lv_ldcw C.1 C.2.1 C.2.2.2.2.1 (C.2.2.2.2.2.1 _ hc) hd (K H locs ls hw hl)
theorem j_ldc2 (C : Cx x cc nL ret own Λ rm) {idx : Nat} {v : Int64} (hc : Cond.constantLong own idx v ∈ GW) (hd : decode cc pc = .ok (.ldc2_w idx, 3)) (K : J x nL Λ Q (pc + 3) lv (.long v :: st) μ) : J x nL Λ Q (pc) lv (st) μ := fun H locs ls hw hl => lv_ldc2 C.1 C.2.1 C.2.2.2.2.1 (C.2.2.2.2.2.1 _ hc) hd (K H locs ls hw hl)
end JR

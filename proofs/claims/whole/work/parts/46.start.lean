/-! the start of the law: classes, array classes, statics, strings -/
theorem st_sel {C : String} {y : MethodName} {s : State} {args : Array Value} {n : Nat} (hy : y.cls ≠ "java/lang/invoke/MethodHandle" ∧ y.cls ≠ "java/lang/invoke/VarHandle") (hins : (Cond.instantiable C n).before args s = true) (hpriv : (Cond.privateMethod y).before args s = true) (hinst : (Cond.instanceMethod y).before args s = true) {C2 : String} {x2 y2 : MethodName} (hs2 : (Cond.selects C2 x2 y2).before args s = true) (hy2 : y2.cls = y.cls) : (Cond.selects C y y).before args s = true := by
  obtain ⟨c, k, hc, hk, -, hniab, -, -⟩ := Cond.instantiable_spec hins
  have hni : k.isInterface = false := (Bool.or_eq_false_iff.mp hniab).1
  obtain ⟨mk, methM, hnamed, hmethM, -, -⟩ := Cond.instanceMethod_spec hinst
  have hfound : s.methodFound? y.cls y.name y.desc = some mk := State.methodFound?_of_named hnamed hy
  have hsel : selectMethod {} s.vm c mk = .method mk := selectMethod_private hmethM (Cond.privateMethod_at hpriv mk methM hnamed hmethM)
  obtain ⟨-, -, m2, -, -, hm2, -, mk2, hmk2, hni2⟩ := Cond.selects_spec hs2
  have h2 := findClass_of_methodNamed hm2
  rw [hy2, findClass_of_methodNamed hnamed] at h2
  have hcls : mk.cls = m2.cls := Option.some.inj h2
  simp only [Cond.before, Cond.holds, Cond.value, hc, hfound, hnamed, hsel, hcls, hmk2]
  simp; exact hni2
theorem st_cls {s : State} {args : Array Value} (hts : ∀ w ∈ GW, w.before args s = true) : ∀ ci : Nat, ∃ p : ClassId × (Nat → Nat), ∀ q : vw_C, vwCl[ci]? = some q → u_Kn s q.1 q.2.1 q.2.2 p.1 p.2
  | 0 => by
    obtain ⟨cC, iS, h⟩ := u_known (C := RX0) (T := TX0) (N := 7) (n := 7) hts cl_X0.2.1 (hts _ wk_292)
    exact ⟨(cC, iS), fun q hq => by cases hq; exact h⟩
  | 1 => by
    obtain ⟨cC, iS, h⟩ := u_known (C := RX1) (T := TX1) (N := 8) (n := 8) hts cl_X1.2.1 (hts _ wk_213)
    exact ⟨(cC, iS), fun q hq => by cases hq; exact h⟩
  | 2 => by
    obtain ⟨cC, iS, h⟩ := u_known (C := RX2) (T := TX2) (N := 7) (n := 7) hts cl_X2.2.1 (hts _ wk_184)
    exact ⟨(cC, iS), fun q hq => by cases hq; exact h⟩
  | 3 => by
    obtain ⟨cC, iS, h⟩ := u_known (C := RX3) (T := TX3) (N := 8) (n := 8) hts cl_X3.2.1 (hts _ wk_255)
    exact ⟨(cC, iS), fun q hq => by cases hq; exact h⟩
  | 4 => by
    obtain ⟨cC, iS, h⟩ := u_known (C := RX4) (T := TX4) (N := 3) (n := 3) hts cl_X4.2.1 (hts _ wk_65)
    exact ⟨(cC, iS), fun q hq => by cases hq; exact h⟩
  | 5 => by
    obtain ⟨cC, iS, h⟩ := u_known (C := RX5) (T := TX5) (N := 3) (n := 3) hts cl_X5.2.1 (hts _ wk_272)
    exact ⟨(cC, iS), fun q hq => by cases hq; exact h⟩
  | 6 => by
    obtain ⟨cC, iS, h⟩ := u_known (C := RX6) (T := TX6) (N := 8) (n := 8) hts cl_X6.2.1 (hts _ wk_353)
    exact ⟨(cC, iS), fun q hq => by cases hq; exact h⟩
  | 7 => by
    obtain ⟨cC, iS, h⟩ := u_known (C := RX8) (T := TX8) (N := 7) (n := 7) hts cl_X8.2.1 (hts _ wk_322)
    exact ⟨(cC, iS), fun q hq => by cases hq; exact h⟩
  | 8 => by
    obtain ⟨cC, iS, h⟩ := u_known (C := RX9) (T := TX9) (N := 19) (n := 19) hts cl_X9.2.1 (hts _ wk_59)
    exact ⟨(cC, iS), fun q hq => by cases hq; exact h⟩
  | 9 => by
    obtain ⟨cC, iS, h⟩ := u_known (C := RX10) (T := TX10) (N := 2) (n := 2) hts cl_X10.2.1 (hts _ wk_40)
    exact ⟨(cC, iS), fun q hq => by cases hq; exact h⟩
  | 10 => by
    obtain ⟨cC, iS, h⟩ := u_known (C := RX11) (T := TX11) (N := 15) (n := 15) hts cl_X11.2.1 (hts _ wk_32)
    exact ⟨(cC, iS), fun q hq => by cases hq; exact h⟩
  | 11 => by
    obtain ⟨cC, iS, h⟩ := u_known (C := RX12) (T := TX12) (N := 28) (n := 28) hts cl_X12.2.1 (hts _ wk_1541)
    exact ⟨(cC, iS), fun q hq => by cases hq; exact h⟩
  | k + 12 => ⟨(0, fun _ => 0), fun q hq => by cases hq⟩
def tyA : List FieldType := [.byte, .int, .long, .boolean, .object "DryDock$State"]
theorem st_arr {s : State} {args : Array Value} (hts : ∀ w ∈ GW, w.before args s = true) (hao : va_AO "DryDock$State" s) : ∀ t : Nat, ∃ cA : ClassId, ∀ ty : FieldType, tyA[t]? = some ty → ArrOfT s cA ty ∧ va_RA s cA ty
  | 0 => by
    obtain ⟨c, k, comp, h1, h2, h3⟩ := Cond.arrayClass_spec (hts _ wk_57)
    exact ⟨c, fun ty hq => by cases hq; exact ⟨fun n z => ⟨(fun k h => by simp [arrV] at h), k, h2, comp, h3⟩, h1⟩⟩
  | 1 => by
    obtain ⟨c, k, comp, h1, h2, h3⟩ := Cond.arrayClass_spec (hts _ wk_81)
    exact ⟨c, fun ty hq => by cases hq; exact ⟨fun n z => ⟨(fun k h => by simp [arrV] at h), k, h2, comp, h3⟩, h1⟩⟩
  | 2 => by
    obtain ⟨c, k, comp, h1, h2, h3⟩ := Cond.arrayClass_spec (hts _ wk_1631)
    exact ⟨c, fun ty hq => by cases hq; exact ⟨fun n z => ⟨(fun k h => by simp [arrV] at h), k, h2, comp, h3⟩, h1⟩⟩
  | 3 => by
    obtain ⟨c, k, comp, h1, h2, h3⟩ := Cond.arrayClass_spec (hts _ wk_351)
    exact ⟨c, fun ty hq => by cases hq; exact ⟨fun n z => ⟨(fun k h => by simp [arrV] at h), k, h2, comp, h3⟩, h1⟩⟩
  | 4 => by
    obtain ⟨comp, c, k, h1, -, h2, h3, h4⟩ := Cond.arrayOver_spec (va_AO.use (A := args) hao)
    exact ⟨c, fun ty hq => by cases hq; exact ⟨fun n z => ⟨(fun k h => by simp [arrV] at h), k, h2, comp, h3⟩, k, comp, h2, h3, h1, h4⟩⟩
  | k + 5 => ⟨0, fun q hq => by cases hq⟩
theorem st_K {s : State} {args : Array Value} (hts : ∀ w ∈ GW, w.before args s = true) (hao : va_AO "DryDock$State" s) : ∃ (D : va_G) (cs : Nat → ClassId), ∀ c : Lay, aD c = D → aC c = cs → va_K (aD c) vwCl (tysL c) s := by
  have h1 := st_cls hts
  have h2 := st_arr hts hao
  refine ⟨(fun i => (Classical.choose (h1 i)).1, fun i => (Classical.choose (h1 i)).2), fun t => Classical.choose (h2 t), fun c e1 e2 => ?_⟩
  refine ⟨fun ci q hq => ?_, fun t q hq => ?_⟩
  · rw [e1]
    exact Classical.choose_spec (h1 ci) q hq
  · unfold tysL at hq
    rw [e2] at hq
    match t, hq with
    | 0, hq => cases hq; exact Classical.choose_spec (h2 0) _ rfl
    | 1, hq => cases hq; exact Classical.choose_spec (h2 1) _ rfl
    | 2, hq => cases hq; exact Classical.choose_spec (h2 2) _ rfl
    | 3, hq => cases hq; exact Classical.choose_spec (h2 3) _ rfl
    | 4, hq => cases hq; exact Classical.choose_spec (h2 4) _ rfl
theorem st_nar {s : State} {args : Array Value} (hg : (Jvm.Cond.and given_1 narrow_1).before args s = true) : (∀ w ∈ flatC given_1, w.before args s = true) ∧ (∀ w ∈ flatC narrow_1_1, w.before args s = true) ∧ (∀ w ∈ flatC narrow_1_2, w.before args s = true) ∧ (∀ w ∈ flatC narrow_1_3, w.before args s = true) := by
  have hs0 := flat_of_before given_1 (by rw [Cond.before_and, Bool.and_eq_true] at hg; exact hg.1)
  have hn := (by rw [Cond.before_and, Bool.and_eq_true] at hg; exact hg.2 : narrow_1.before args s = true)
  have hn1 := (by rw [show narrow_1 = Cond.and narrow_1_1 (Cond.and narrow_1_2 narrow_1_3) from rfl, Cond.before_and, Bool.and_eq_true] at hn; exact hn.1 : narrow_1_1.before args s = true)
  have hn23 := (by rw [show narrow_1 = Cond.and narrow_1_1 (Cond.and narrow_1_2 narrow_1_3) from rfl, Cond.before_and, Bool.and_eq_true] at hn; exact hn.2 : (Cond.and narrow_1_2 narrow_1_3).before args s = true)
  rw [Cond.before_and, Bool.and_eq_true] at hn23
  have hs1 := flat_of_before narrow_1_1 hn1
  have hs2 := flat_of_before narrow_1_2 hn23.1
  have hs3 := flat_of_before narrow_1_3 hn23.2
  exact ⟨hs0, hs1, hs2, hs3⟩
def wTm : List Term := [.string "DryDock$LawReader" 64, .string "DryDock$DockReader" 102, .string "DryDock$DockReader" 35, .string "DryDock$DockReader" 98, .string "DryDock$LawReader" 77, .string "DryDock$LawReader" 51, .string "DryDock$DockReader" 61, .string "DryDock$DockReader" 71, .string "DryDock$LawReader" 79, .string "DryDock$LawReader" 33, .string "DryDock$LawReader" 49, .string "DryDock$DockReader" 96, .string "DryDock$DockReader" 51, .string "DryDock$LawReader" 69, .string "DryDock$LawReader" 75, .string "DryDock$LawReader" 56, .string "DryDock$LawReader" 47, .string "DryDock$DockReader" 56, .string "DryDock$DockReader" 19, .string "DryDock$DockReader" 40, .string "DryDock$DockReader" 66, .string "DryDock$DockReader" 29, .string "DryDock$DockReader" 100]
def StW (s : State) (args : Array Value) (A : Nat → Prop) (tm : Term) (len : Nat) (byt : List Int32) : Prop := ∃ q : Nat × Nat, tm.eval args s none [] s = some (.ref q.1) ∧ va_O "java/lang/String" q.1 A s s.heap ∧ va_OF "java/lang/String" "coder" "B" (.int 0) q.1 A s s.heap ∧ va_OF "java/lang/String" "value" "[B" (.ref q.2) q.1 A s s.heap ∧ va_T .byte q.2 len (fun j => .int (byt.getD j 0)) A s s.heap
theorem stw_of {s : State} {args : Array Value} {A : Nat → Prop} (hA : ∀ a : Nat, a < s.heap.size → ¬ A a) {tm : Term} {len : Nat} {byt : List Int32} (hN : len < 2 ^ 31) (h1 : (Cond.exactly tm "java/lang/String").before args s = true) (h2 : (Cond.eq (.field tm "java/lang/String" "coder" "B") (.int 0)).before args s = true) (h3 : (Cond.arrayOf (.field tm "java/lang/String" "value" "[B") .byte).before args s = true) (h4 : (Cond.eq (.length (.field tm "java/lang/String" "value" "[B")) (.int (Int32.ofNat len))).before args s = true) (h5 : ∀ j : Nat, j < len → (Cond.eq (.elem (.field tm "java/lang/String" "value" "[B") (.int (Int32.ofNat j))) (.int (byt.getD j 0))).before args s = true) : StW s args A tm len byt := by
  obtain ⟨adK, adV, hS, hE⟩ := vk_Sof (args := args) (s := s) (N := 1) (tm := fun _ => tm) (len := [len]) (byt := [byt]) (A := A) (fun i hi => by rw [show i = 0 by omega]; exact hN) (fun i hi => h1) (fun i hi => h2) (fun i hi => h3) (fun i hi => by rw [show i = 0 by omega]; exact h4) (fun i hi j hj => by rw [show i = 0 by omega] at hj ⊢; exact h5 j hj) (fun i j hi hj hne => absurd (show i = j by omega) hne) hA
  have h := hS.1 0 (by decide)
  exact ⟨(adK 0, adV 0), hE 0 (by decide), h.1, h.2.1, h.2.2.1, h.2.2.2⟩
set_option maxRecDepth 30000 in
theorem st_w0 {s : State} {args : Array Value} (hs0 : ∀ w ∈ flatC given_1, w.before args s = true) (hs1 : ∀ w ∈ flatC narrow_1_1, w.before args s = true) (hs2 : ∀ w ∈ flatC narrow_1_2, w.before args s = true) (hs3 : ∀ w ∈ flatC narrow_1_3, w.before args s = true) {A : Nat → Prop} (hA : ∀ a : Nat, a < s.heap.size → ¬ A a) : StW s args A (wTm.getD 0 (.int 0)) (lenWS.getD 0 0) (bytWS.getD 0 []) := by
  refine stw_of (tm := .string "DryDock$LawReader" 64) (len := 3) (byt := [97, 110, 100]) hA (by decide) (hs1 _ (List.mem_of_getElem? (i := 373) rfl)) (hs1 _ (List.mem_of_getElem? (i := 374) rfl)) (hs1 _ (List.mem_of_getElem? (i := 375) rfl)) (hs1 _ (List.mem_of_getElem? (i := 376) rfl)) (fun j hj => ?_)
  match j, hj with
  | 0, _ => exact hs1 _ (List.mem_of_getElem? (i := 377) rfl)
  | 1, _ => exact hs1 _ (List.mem_of_getElem? (i := 378) rfl)
  | 2, _ => exact hs1 _ (List.mem_of_getElem? (i := 379) rfl)
  | k + 3, hj => exact absurd hj (by omega)
set_option maxRecDepth 30000 in
theorem st_w1 {s : State} {args : Array Value} (hs0 : ∀ w ∈ flatC given_1, w.before args s = true) (hs1 : ∀ w ∈ flatC narrow_1_1, w.before args s = true) (hs2 : ∀ w ∈ flatC narrow_1_2, w.before args s = true) (hs3 : ∀ w ∈ flatC narrow_1_3, w.before args s = true) {A : Nat → Prop} (hA : ∀ a : Nat, a < s.heap.size → ¬ A a) : StW s args A (wTm.getD 1 (.int 0)) (lenWS.getD 1 0) (bytWS.getD 1 []) := by
  refine stw_of (tm := .string "DryDock$DockReader" 102) (len := 2) (byt := [97, 116]) hA (by decide) (hs1 _ (List.mem_of_getElem? (i := 169) rfl)) (hs1 _ (List.mem_of_getElem? (i := 170) rfl)) (hs1 _ (List.mem_of_getElem? (i := 171) rfl)) (hs1 _ (List.mem_of_getElem? (i := 172) rfl)) (fun j hj => ?_)
  match j, hj with
  | 0, _ => exact hs1 _ (List.mem_of_getElem? (i := 173) rfl)
  | 1, _ => exact hs1 _ (List.mem_of_getElem? (i := 174) rfl)
  | k + 2, hj => exact absurd hj (by omega)
set_option maxRecDepth 30000 in
theorem st_w2 {s : State} {args : Array Value} (hs0 : ∀ w ∈ flatC given_1, w.before args s = true) (hs1 : ∀ w ∈ flatC narrow_1_1, w.before args s = true) (hs2 : ∀ w ∈ flatC narrow_1_2, w.before args s = true) (hs3 : ∀ w ∈ flatC narrow_1_3, w.before args s = true) {A : Nat → Prop} (hA : ∀ a : Nat, a < s.heap.size → ¬ A a) : StW s args A (wTm.getD 2 (.int 0)) (lenWS.getD 2 0) (bytWS.getD 2 []) := by
  refine stw_of (tm := .string "DryDock$DockReader" 35) (len := 6) (byt := [98, 108, 111, 99, 107, 115]) hA (by decide) (hs1 _ (List.mem_of_getElem? (i := 183) rfl)) (hs1 _ (List.mem_of_getElem? (i := 184) rfl)) (hs1 _ (List.mem_of_getElem? (i := 185) rfl)) (hs1 _ (List.mem_of_getElem? (i := 186) rfl)) (fun j hj => ?_)
  match j, hj with
  | 0, _ => exact hs1 _ (List.mem_of_getElem? (i := 187) rfl)
  | 1, _ => exact hs1 _ (List.mem_of_getElem? (i := 188) rfl)
  | 2, _ => exact hs1 _ (List.mem_of_getElem? (i := 189) rfl)
  | 3, _ => exact hs1 _ (List.mem_of_getElem? (i := 190) rfl)
  | 4, _ => exact hs1 _ (List.mem_of_getElem? (i := 191) rfl)
  | 5, _ => exact hs1 _ (List.mem_of_getElem? (i := 192) rfl)
  | k + 6, hj => exact absurd hj (by omega)
set_option maxRecDepth 30000 in
theorem st_w3 {s : State} {args : Array Value} (hs0 : ∀ w ∈ flatC given_1, w.before args s = true) (hs1 : ∀ w ∈ flatC narrow_1_1, w.before args s = true) (hs2 : ∀ w ∈ flatC narrow_1_2, w.before args s = true) (hs3 : ∀ w ∈ flatC narrow_1_3, w.before args s = true) {A : Nat → Prop} (hA : ∀ a : Nat, a < s.heap.size → ¬ A a) : StW s args A (wTm.getD 3 (.int 0)) (lenWS.getD 3 0) (bytWS.getD 3 []) := by
  refine stw_of (tm := .string "DryDock$DockReader" 98) (len := 7) (byt := [100, 114, 97, 117, 103, 104, 116]) hA (by decide) (hs1 _ (List.mem_of_getElem? (i := 150) rfl)) (hs1 _ (List.mem_of_getElem? (i := 151) rfl)) (hs1 _ (List.mem_of_getElem? (i := 152) rfl)) (hs1 _ (List.mem_of_getElem? (i := 153) rfl)) (fun j hj => ?_)
  match j, hj with
  | 0, _ => exact hs1 _ (List.mem_of_getElem? (i := 154) rfl)
  | 1, _ => exact hs1 _ (List.mem_of_getElem? (i := 155) rfl)
  | 2, _ => exact hs1 _ (List.mem_of_getElem? (i := 156) rfl)
  | 3, _ => exact hs1 _ (List.mem_of_getElem? (i := 157) rfl)
  | 4, _ => exact hs1 _ (List.mem_of_getElem? (i := 158) rfl)
  | 5, _ => exact hs1 _ (List.mem_of_getElem? (i := 159) rfl)
  | 6, _ => exact hs1 _ (List.mem_of_getElem? (i := 160) rfl)
  | k + 7, hj => exact absurd hj (by omega)
set_option maxRecDepth 30000 in
theorem st_w4 {s : State} {args : Array Value} (hs0 : ∀ w ∈ flatC given_1, w.before args s = true) (hs1 : ∀ w ∈ flatC narrow_1_1, w.before args s = true) (hs2 : ∀ w ∈ flatC narrow_1_2, w.before args s = true) (hs3 : ∀ w ∈ flatC narrow_1_3, w.before args s = true) {A : Nat → Prop} (hA : ∀ a : Nat, a < s.heap.size → ¬ A a) : StW s args A (wTm.getD 4 (.int 0)) (lenWS.getD 4 0) (bytWS.getD 4 []) := by
  refine stw_of (tm := .string "DryDock$LawReader" 77) (len := 3) (byt := [100, 114, 121]) hA (by decide) (hs1 _ (List.mem_of_getElem? (i := 289) rfl)) (hs1 _ (List.mem_of_getElem? (i := 290) rfl)) (hs1 _ (List.mem_of_getElem? (i := 291) rfl)) (hs1 _ (List.mem_of_getElem? (i := 292) rfl)) (fun j hj => ?_)
  match j, hj with
  | 0, _ => exact hs1 _ (List.mem_of_getElem? (i := 293) rfl)
  | 1, _ => exact hs1 _ (List.mem_of_getElem? (i := 294) rfl)
  | 2, _ => exact hs1 _ (List.mem_of_getElem? (i := 295) rfl)
  | k + 3, hj => exact absurd hj (by omega)
set_option maxRecDepth 30000 in
theorem st_w5 {s : State} {args : Array Value} (hs0 : ∀ w ∈ flatC given_1, w.before args s = true) (hs1 : ∀ w ∈ flatC narrow_1_1, w.before args s = true) (hs2 : ∀ w ∈ flatC narrow_1_2, w.before args s = true) (hs3 : ∀ w ∈ flatC narrow_1_3, w.before args s = true) {A : Nat → Prop} (hA : ∀ a : Nat, a < s.heap.size → ¬ A a) : StW s args A (wTm.getD 5 (.int 0)) (lenWS.getD 5 0) (bytWS.getD 5 []) := by
  refine stw_of (tm := .string "DryDock$LawReader" 51) (len := 3) (byt := [102, 101, 101]) hA (by decide) (hs1 _ (List.mem_of_getElem? (i := 261) rfl)) (hs1 _ (List.mem_of_getElem? (i := 262) rfl)) (hs1 _ (List.mem_of_getElem? (i := 263) rfl)) (hs1 _ (List.mem_of_getElem? (i := 264) rfl)) (fun j hj => ?_)
  match j, hj with
  | 0, _ => exact hs1 _ (List.mem_of_getElem? (i := 265) rfl)
  | 1, _ => exact hs1 _ (List.mem_of_getElem? (i := 266) rfl)
  | 2, _ => exact hs1 _ (List.mem_of_getElem? (i := 267) rfl)
  | k + 3, hj => exact absurd hj (by omega)
set_option maxRecDepth 30000 in
theorem st_w6 {s : State} {args : Array Value} (hs0 : ∀ w ∈ flatC given_1, w.before args s = true) (hs1 : ∀ w ∈ flatC narrow_1_1, w.before args s = true) (hs2 : ∀ w ∈ flatC narrow_1_2, w.before args s = true) (hs3 : ∀ w ∈ flatC narrow_1_3, w.before args s = true) {A : Nat → Prop} (hA : ∀ a : Nat, a < s.heap.size → ¬ A a) : StW s args A (wTm.getD 6 (.int 0)) (lenWS.getD 6 0) (bytWS.getD 6 []) := by
  refine stw_of (tm := .string "DryDock$DockReader" 61) (len := 5) (byt := [104, 97, 110, 100, 115]) hA (by decide) (hs1 _ (List.mem_of_getElem? (i := 219) rfl)) (hs1 _ (List.mem_of_getElem? (i := 220) rfl)) (hs1 _ (List.mem_of_getElem? (i := 221) rfl)) (hs1 _ (List.mem_of_getElem? (i := 222) rfl)) (fun j hj => ?_)
  match j, hj with
  | 0, _ => exact hs1 _ (List.mem_of_getElem? (i := 223) rfl)
  | 1, _ => exact hs1 _ (List.mem_of_getElem? (i := 224) rfl)
  | 2, _ => exact hs1 _ (List.mem_of_getElem? (i := 225) rfl)
  | 3, _ => exact hs1 _ (List.mem_of_getElem? (i := 226) rfl)
  | 4, _ => exact hs1 _ (List.mem_of_getElem? (i := 227) rfl)
  | k + 5, hj => exact absurd hj (by omega)
set_option maxRecDepth 30000 in
theorem st_w7 {s : State} {args : Array Value} (hs0 : ∀ w ∈ flatC given_1, w.before args s = true) (hs1 : ∀ w ∈ flatC narrow_1_1, w.before args s = true) (hs2 : ∀ w ∈ flatC narrow_1_2, w.before args s = true) (hs3 : ∀ w ∈ flatC narrow_1_3, w.before args s = true) {A : Nat → Prop} (hA : ∀ a : Nat, a < s.heap.size → ¬ A a) : StW s args A (wTm.getD 7 (.int 0)) (lenWS.getD 7 0) (bytWS.getD 7 []) := by
  refine stw_of (tm := .string "DryDock$DockReader" 71) (len := 4) (byt := [104, 111, 117, 114]) hA (by decide) (hs1 _ (List.mem_of_getElem? (i := 237) rfl)) (hs1 _ (List.mem_of_getElem? (i := 238) rfl)) (hs1 _ (List.mem_of_getElem? (i := 239) rfl)) (hs1 _ (List.mem_of_getElem? (i := 240) rfl)) (fun j hj => ?_)
  match j, hj with
  | 0, _ => exact hs1 _ (List.mem_of_getElem? (i := 241) rfl)
  | 1, _ => exact hs1 _ (List.mem_of_getElem? (i := 242) rfl)
  | 2, _ => exact hs1 _ (List.mem_of_getElem? (i := 243) rfl)
  | 3, _ => exact hs1 _ (List.mem_of_getElem? (i := 244) rfl)
  | k + 4, hj => exact absurd hj (by omega)
set_option maxRecDepth 30000 in
theorem st_w8 {s : State} {args : Array Value} (hs0 : ∀ w ∈ flatC given_1, w.before args s = true) (hs1 : ∀ w ∈ flatC narrow_1_1, w.before args s = true) (hs2 : ∀ w ∈ flatC narrow_1_2, w.before args s = true) (hs3 : ∀ w ∈ flatC narrow_1_3, w.before args s = true) {A : Nat → Prop} (hA : ∀ a : Nat, a < s.heap.size → ¬ A a) : StW s args A (wTm.getD 8 (.int 0)) (lenWS.getD 8 0) (bytWS.getD 8 []) := by
  refine stw_of (tm := .string "DryDock$LawReader" 79) (len := 4) (byt := [104, 117, 114, 116]) hA (by decide) (hs1 _ (List.mem_of_getElem? (i := 296) rfl)) (hs1 _ (List.mem_of_getElem? (i := 297) rfl)) (hs1 _ (List.mem_of_getElem? (i := 298) rfl)) (hs1 _ (List.mem_of_getElem? (i := 299) rfl)) (fun j hj => ?_)
  match j, hj with
  | 0, _ => exact hs1 _ (List.mem_of_getElem? (i := 300) rfl)
  | 1, _ => exact hs1 _ (List.mem_of_getElem? (i := 301) rfl)
  | 2, _ => exact hs1 _ (List.mem_of_getElem? (i := 302) rfl)
  | 3, _ => exact hs1 _ (List.mem_of_getElem? (i := 303) rfl)
  | k + 4, hj => exact absurd hj (by omega)
set_option maxRecDepth 30000 in
theorem st_w9 {s : State} {args : Array Value} (hs0 : ∀ w ∈ flatC given_1, w.before args s = true) (hs1 : ∀ w ∈ flatC narrow_1_1, w.before args s = true) (hs2 : ∀ w ∈ flatC narrow_1_2, w.before args s = true) (hs3 : ∀ w ∈ flatC narrow_1_3, w.before args s = true) {A : Nat → Prop} (hA : ∀ a : Nat, a < s.heap.size → ¬ A a) : StW s args A (wTm.getD 9 (.int 0)) (lenWS.getD 9 0) (bytWS.getD 9 []) := by
  refine stw_of (tm := .string "DryDock$LawReader" 33) (len := 2) (byt := [105, 102]) hA (by decide) (hs1 _ (List.mem_of_getElem? (i := 268) rfl)) (hs1 _ (List.mem_of_getElem? (i := 269) rfl)) (hs1 _ (List.mem_of_getElem? (i := 270) rfl)) (hs1 _ (List.mem_of_getElem? (i := 271) rfl)) (fun j hj => ?_)
  match j, hj with
  | 0, _ => exact hs1 _ (List.mem_of_getElem? (i := 272) rfl)
  | 1, _ => exact hs1 _ (List.mem_of_getElem? (i := 273) rfl)
  | k + 2, hj => exact absurd hj (by omega)
set_option maxRecDepth 30000 in
theorem st_w10 {s : State} {args : Array Value} (hs0 : ∀ w ∈ flatC given_1, w.before args s = true) (hs1 : ∀ w ∈ flatC narrow_1_1, w.before args s = true) (hs2 : ∀ w ∈ flatC narrow_1_2, w.before args s = true) (hs3 : ∀ w ∈ flatC narrow_1_3, w.before args s = true) {A : Nat → Prop} (hA : ∀ a : Nat, a < s.heap.size → ¬ A a) : StW s args A (wTm.getD 10 (.int 0)) (lenWS.getD 10 0) (bytWS.getD 10 []) := by
  refine stw_of (tm := .string "DryDock$LawReader" 49) (len := 4) (byt := [108, 101, 97, 107]) hA (by decide) (hs1 _ (List.mem_of_getElem? (i := 253) rfl)) (hs1 _ (List.mem_of_getElem? (i := 254) rfl)) (hs1 _ (List.mem_of_getElem? (i := 255) rfl)) (hs1 _ (List.mem_of_getElem? (i := 256) rfl)) (fun j hj => ?_)
  match j, hj with
  | 0, _ => exact hs1 _ (List.mem_of_getElem? (i := 257) rfl)
  | 1, _ => exact hs1 _ (List.mem_of_getElem? (i := 258) rfl)
  | 2, _ => exact hs1 _ (List.mem_of_getElem? (i := 259) rfl)
  | 3, _ => exact hs1 _ (List.mem_of_getElem? (i := 260) rfl)
  | k + 4, hj => exact absurd hj (by omega)
set_option maxRecDepth 30000 in
theorem st_w11 {s : State} {args : Array Value} (hs0 : ∀ w ∈ flatC given_1, w.before args s = true) (hs1 : ∀ w ∈ flatC narrow_1_1, w.before args s = true) (hs2 : ∀ w ∈ flatC narrow_1_2, w.before args s = true) (hs3 : ∀ w ∈ flatC narrow_1_3, w.before args s = true) {A : Nat → Prop} (hA : ∀ a : Nat, a < s.heap.size → ¬ A a) : StW s args A (wTm.getD 11 (.int 0)) (lenWS.getD 11 0) (bytWS.getD 11 []) := by
  refine stw_of (tm := .string "DryDock$DockReader" 96) (len := 6) (byt := [108, 101, 110, 103, 116, 104]) hA (by decide) (hs1 _ (List.mem_of_getElem? (i := 140) rfl)) (hs1 _ (List.mem_of_getElem? (i := 141) rfl)) (hs1 _ (List.mem_of_getElem? (i := 142) rfl)) (hs1 _ (List.mem_of_getElem? (i := 143) rfl)) (fun j hj => ?_)
  match j, hj with
  | 0, _ => exact hs1 _ (List.mem_of_getElem? (i := 144) rfl)
  | 1, _ => exact hs1 _ (List.mem_of_getElem? (i := 145) rfl)
  | 2, _ => exact hs1 _ (List.mem_of_getElem? (i := 146) rfl)
  | 3, _ => exact hs1 _ (List.mem_of_getElem? (i := 147) rfl)
  | 4, _ => exact hs1 _ (List.mem_of_getElem? (i := 148) rfl)
  | 5, _ => exact hs1 _ (List.mem_of_getElem? (i := 149) rfl)
  | k + 6, hj => exact absurd hj (by omega)
set_option maxRecDepth 30000 in
theorem st_w12 {s : State} {args : Array Value} (hs0 : ∀ w ∈ flatC given_1, w.before args s = true) (hs1 : ∀ w ∈ flatC narrow_1_1, w.before args s = true) (hs2 : ∀ w ∈ flatC narrow_1_2, w.before args s = true) (hs3 : ∀ w ∈ flatC narrow_1_3, w.before args s = true) {A : Nat → Prop} (hA : ∀ a : Nat, a < s.heap.size → ¬ A a) : StW s args A (wTm.getD 12 (.int 0)) (lenWS.getD 12 0) (bytWS.getD 12 []) := by
  refine stw_of (tm := .string "DryDock$DockReader" 51) (len := 5) (byt := [108, 101, 118, 101, 108]) hA (by decide) (hs1 _ (List.mem_of_getElem? (i := 201) rfl)) (hs1 _ (List.mem_of_getElem? (i := 202) rfl)) (hs1 _ (List.mem_of_getElem? (i := 203) rfl)) (hs1 _ (List.mem_of_getElem? (i := 204) rfl)) (fun j hj => ?_)
  match j, hj with
  | 0, _ => exact hs1 _ (List.mem_of_getElem? (i := 205) rfl)
  | 1, _ => exact hs1 _ (List.mem_of_getElem? (i := 206) rfl)
  | 2, _ => exact hs1 _ (List.mem_of_getElem? (i := 207) rfl)
  | 3, _ => exact hs1 _ (List.mem_of_getElem? (i := 208) rfl)
  | 4, _ => exact hs1 _ (List.mem_of_getElem? (i := 209) rfl)
  | k + 5, hj => exact absurd hj (by omega)
set_option maxRecDepth 30000 in
theorem st_w13 {s : State} {args : Array Value} (hs0 : ∀ w ∈ flatC given_1, w.before args s = true) (hs1 : ∀ w ∈ flatC narrow_1_1, w.before args s = true) (hs2 : ∀ w ∈ flatC narrow_1_2, w.before args s = true) (hs3 : ∀ w ∈ flatC narrow_1_3, w.before args s = true) {A : Nat → Prop} (hA : ∀ a : Nat, a < s.heap.size → ¬ A a) : StW s args A (wTm.getD 13 (.int 0)) (lenWS.getD 13 0) (bytWS.getD 13 []) := by
  refine stw_of (tm := .string "DryDock$LawReader" 69) (len := 3) (byt := [110, 111, 116]) hA (by decide) (hs1 _ (List.mem_of_getElem? (i := 274) rfl)) (hs1 _ (List.mem_of_getElem? (i := 275) rfl)) (hs1 _ (List.mem_of_getElem? (i := 276) rfl)) (hs1 _ (List.mem_of_getElem? (i := 277) rfl)) (fun j hj => ?_)
  match j, hj with
  | 0, _ => exact hs1 _ (List.mem_of_getElem? (i := 278) rfl)
  | 1, _ => exact hs1 _ (List.mem_of_getElem? (i := 279) rfl)
  | 2, _ => exact hs1 _ (List.mem_of_getElem? (i := 280) rfl)
  | k + 3, hj => exact absurd hj (by omega)
set_option maxRecDepth 30000 in
theorem st_w14 {s : State} {args : Array Value} (hs0 : ∀ w ∈ flatC given_1, w.before args s = true) (hs1 : ∀ w ∈ flatC narrow_1_1, w.before args s = true) (hs2 : ∀ w ∈ flatC narrow_1_2, w.before args s = true) (hs3 : ∀ w ∈ flatC narrow_1_3, w.before args s = true) {A : Nat → Prop} (hA : ∀ a : Nat, a < s.heap.size → ¬ A a) : StW s args A (wTm.getD 14 (.int 0)) (lenWS.getD 14 0) (bytWS.getD 14 []) := by
  refine stw_of (tm := .string "DryDock$LawReader" 75) (len := 4) (byt := [111, 112, 101, 110]) hA (by decide) (hs1 _ (List.mem_of_getElem? (i := 281) rfl)) (hs1 _ (List.mem_of_getElem? (i := 282) rfl)) (hs1 _ (List.mem_of_getElem? (i := 283) rfl)) (hs1 _ (List.mem_of_getElem? (i := 284) rfl)) (fun j hj => ?_)
  match j, hj with
  | 0, _ => exact hs1 _ (List.mem_of_getElem? (i := 285) rfl)
  | 1, _ => exact hs1 _ (List.mem_of_getElem? (i := 286) rfl)
  | 2, _ => exact hs1 _ (List.mem_of_getElem? (i := 287) rfl)
  | 3, _ => exact hs1 _ (List.mem_of_getElem? (i := 288) rfl)
  | k + 4, hj => exact absurd hj (by omega)
set_option maxRecDepth 30000 in
theorem st_w15 {s : State} {args : Array Value} (hs0 : ∀ w ∈ flatC given_1, w.before args s = true) (hs1 : ∀ w ∈ flatC narrow_1_1, w.before args s = true) (hs2 : ∀ w ∈ flatC narrow_1_2, w.before args s = true) (hs3 : ∀ w ∈ flatC narrow_1_3, w.before args s = true) {A : Nat → Prop} (hA : ∀ a : Nat, a < s.heap.size → ¬ A a) : StW s args A (wTm.getD 15 (.int 0)) (lenWS.getD 15 0) (bytWS.getD 15 []) := by
  refine stw_of (tm := .string "DryDock$LawReader" 56) (len := 2) (byt := [111, 114]) hA (by decide) (hs1 _ (List.mem_of_getElem? (i := 380) rfl)) (hs1 _ (List.mem_of_getElem? (i := 381) rfl)) (hs1 _ (List.mem_of_getElem? (i := 382) rfl)) (hs1 _ (List.mem_of_getElem? (i := 383) rfl)) (fun j hj => ?_)
  match j, hj with
  | 0, _ => exact hs1 _ (List.mem_of_getElem? (i := 384) rfl)
  | 1, _ => exact hs1 _ (List.mem_of_getElem? (i := 385) rfl)
  | k + 2, hj => exact absurd hj (by omega)
set_option maxRecDepth 30000 in
theorem st_w16 {s : State} {args : Array Value} (hs0 : ∀ w ∈ flatC given_1, w.before args s = true) (hs1 : ∀ w ∈ flatC narrow_1_1, w.before args s = true) (hs2 : ∀ w ∈ flatC narrow_1_2, w.before args s = true) (hs3 : ∀ w ∈ flatC narrow_1_3, w.before args s = true) {A : Nat → Prop} (hA : ∀ a : Nat, a < s.heap.size → ¬ A a) : StW s args A (wTm.getD 16 (.int 0)) (lenWS.getD 16 0) (bytWS.getD 16 []) := by
  refine stw_of (tm := .string "DryDock$LawReader" 47) (len := 4) (byt := [112, 117, 108, 108]) hA (by decide) (hs1 _ (List.mem_of_getElem? (i := 245) rfl)) (hs1 _ (List.mem_of_getElem? (i := 246) rfl)) (hs1 _ (List.mem_of_getElem? (i := 247) rfl)) (hs1 _ (List.mem_of_getElem? (i := 248) rfl)) (fun j hj => ?_)
  match j, hj with
  | 0, _ => exact hs1 _ (List.mem_of_getElem? (i := 249) rfl)
  | 1, _ => exact hs1 _ (List.mem_of_getElem? (i := 250) rfl)
  | 2, _ => exact hs1 _ (List.mem_of_getElem? (i := 251) rfl)
  | 3, _ => exact hs1 _ (List.mem_of_getElem? (i := 252) rfl)
  | k + 4, hj => exact absurd hj (by omega)
set_option maxRecDepth 30000 in
theorem st_w17 {s : State} {args : Array Value} (hs0 : ∀ w ∈ flatC given_1, w.before args s = true) (hs1 : ∀ w ∈ flatC narrow_1_1, w.before args s = true) (hs2 : ∀ w ∈ flatC narrow_1_2, w.before args s = true) (hs3 : ∀ w ∈ flatC narrow_1_3, w.before args s = true) {A : Nat → Prop} (hA : ∀ a : Nat, a < s.heap.size → ¬ A a) : StW s args A (wTm.getD 17 (.int 0)) (lenWS.getD 17 0) (bytWS.getD 17 []) := by
  refine stw_of (tm := .string "DryDock$DockReader" 56) (len := 5) (byt := [112, 117, 109, 112, 115]) hA (by decide) (hs1 _ (List.mem_of_getElem? (i := 210) rfl)) (hs1 _ (List.mem_of_getElem? (i := 211) rfl)) (hs1 _ (List.mem_of_getElem? (i := 212) rfl)) (hs1 _ (List.mem_of_getElem? (i := 213) rfl)) (fun j hj => ?_)
  match j, hj with
  | 0, _ => exact hs1 _ (List.mem_of_getElem? (i := 214) rfl)
  | 1, _ => exact hs1 _ (List.mem_of_getElem? (i := 215) rfl)
  | 2, _ => exact hs1 _ (List.mem_of_getElem? (i := 216) rfl)
  | 3, _ => exact hs1 _ (List.mem_of_getElem? (i := 217) rfl)
  | 4, _ => exact hs1 _ (List.mem_of_getElem? (i := 218) rfl)
  | k + 5, hj => exact absurd hj (by omega)
set_option maxRecDepth 30000 in
theorem st_w18 {s : State} {args : Array Value} (hs0 : ∀ w ∈ flatC given_1, w.before args s = true) (hs1 : ∀ w ∈ flatC narrow_1_1, w.before args s = true) (hs2 : ∀ w ∈ flatC narrow_1_2, w.before args s = true) (hs3 : ∀ w ∈ flatC narrow_1_3, w.before args s = true) {A : Nat → Prop} (hA : ∀ a : Nat, a < s.heap.size → ¬ A a) : StW s args A (wTm.getD 18 (.int 0)) (lenWS.getD 18 0) (bytWS.getD 18 []) := by
  refine stw_of (tm := .string "DryDock$DockReader" 19) (len := 4) (byt := [115, 104, 105, 112]) hA (by decide) (hs1 _ (List.mem_of_getElem? (i := 132) rfl)) (hs1 _ (List.mem_of_getElem? (i := 133) rfl)) (hs1 _ (List.mem_of_getElem? (i := 134) rfl)) (hs1 _ (List.mem_of_getElem? (i := 135) rfl)) (fun j hj => ?_)
  match j, hj with
  | 0, _ => exact hs1 _ (List.mem_of_getElem? (i := 136) rfl)
  | 1, _ => exact hs1 _ (List.mem_of_getElem? (i := 137) rfl)
  | 2, _ => exact hs1 _ (List.mem_of_getElem? (i := 138) rfl)
  | 3, _ => exact hs1 _ (List.mem_of_getElem? (i := 139) rfl)
  | k + 4, hj => exact absurd hj (by omega)
set_option maxRecDepth 30000 in
theorem st_w19 {s : State} {args : Array Value} (hs0 : ∀ w ∈ flatC given_1, w.before args s = true) (hs1 : ∀ w ∈ flatC narrow_1_1, w.before args s = true) (hs2 : ∀ w ∈ flatC narrow_1_2, w.before args s = true) (hs3 : ∀ w ∈ flatC narrow_1_3, w.before args s = true) {A : Nat → Prop} (hA : ∀ a : Nat, a < s.heap.size → ¬ A a) : StW s args A (wTm.getD 19 (.int 0)) (lenWS.getD 19 0) (bytWS.getD 19 []) := by
  refine stw_of (tm := .string "DryDock$DockReader" 40) (len := 4) (byt := [115, 104, 117, 116]) hA (by decide) (hs1 _ (List.mem_of_getElem? (i := 193) rfl)) (hs1 _ (List.mem_of_getElem? (i := 194) rfl)) (hs1 _ (List.mem_of_getElem? (i := 195) rfl)) (hs1 _ (List.mem_of_getElem? (i := 196) rfl)) (fun j hj => ?_)
  match j, hj with
  | 0, _ => exact hs1 _ (List.mem_of_getElem? (i := 197) rfl)
  | 1, _ => exact hs1 _ (List.mem_of_getElem? (i := 198) rfl)
  | 2, _ => exact hs1 _ (List.mem_of_getElem? (i := 199) rfl)
  | 3, _ => exact hs1 _ (List.mem_of_getElem? (i := 200) rfl)
  | k + 4, hj => exact absurd hj (by omega)
set_option maxRecDepth 30000 in
theorem st_w20 {s : State} {args : Array Value} (hs0 : ∀ w ∈ flatC given_1, w.before args s = true) (hs1 : ∀ w ∈ flatC narrow_1_1, w.before args s = true) (hs2 : ∀ w ∈ flatC narrow_1_2, w.before args s = true) (hs3 : ∀ w ∈ flatC narrow_1_3, w.before args s = true) {A : Nat → Prop} (hA : ∀ a : Nat, a < s.heap.size → ¬ A a) : StW s args A (wTm.getD 20 (.int 0)) (lenWS.getD 20 0) (bytWS.getD 20 []) := by
  refine stw_of (tm := .string "DryDock$DockReader" 66) (len := 5) (byt := [115, 117, 114, 103, 101]) hA (by decide) (hs1 _ (List.mem_of_getElem? (i := 228) rfl)) (hs1 _ (List.mem_of_getElem? (i := 229) rfl)) (hs1 _ (List.mem_of_getElem? (i := 230) rfl)) (hs1 _ (List.mem_of_getElem? (i := 231) rfl)) (fun j hj => ?_)
  match j, hj with
  | 0, _ => exact hs1 _ (List.mem_of_getElem? (i := 232) rfl)
  | 1, _ => exact hs1 _ (List.mem_of_getElem? (i := 233) rfl)
  | 2, _ => exact hs1 _ (List.mem_of_getElem? (i := 234) rfl)
  | 3, _ => exact hs1 _ (List.mem_of_getElem? (i := 235) rfl)
  | 4, _ => exact hs1 _ (List.mem_of_getElem? (i := 236) rfl)
  | k + 5, hj => exact absurd hj (by omega)
set_option maxRecDepth 30000 in
theorem st_w21 {s : State} {args : Array Value} (hs0 : ∀ w ∈ flatC given_1, w.before args s = true) (hs1 : ∀ w ∈ flatC narrow_1_1, w.before args s = true) (hs2 : ∀ w ∈ flatC narrow_1_2, w.before args s = true) (hs3 : ∀ w ∈ flatC narrow_1_3, w.before args s = true) {A : Nat → Prop} (hA : ∀ a : Nat, a < s.heap.size → ¬ A a) : StW s args A (wTm.getD 21 (.int 0)) (lenWS.getD 21 0) (bytWS.getD 21 []) := by
  refine stw_of (tm := .string "DryDock$DockReader" 29) (len := 4) (byt := [116, 105, 100, 101]) hA (by decide) (hs1 _ (List.mem_of_getElem? (i := 175) rfl)) (hs1 _ (List.mem_of_getElem? (i := 176) rfl)) (hs1 _ (List.mem_of_getElem? (i := 177) rfl)) (hs1 _ (List.mem_of_getElem? (i := 178) rfl)) (fun j hj => ?_)
  match j, hj with
  | 0, _ => exact hs1 _ (List.mem_of_getElem? (i := 179) rfl)
  | 1, _ => exact hs1 _ (List.mem_of_getElem? (i := 180) rfl)
  | 2, _ => exact hs1 _ (List.mem_of_getElem? (i := 181) rfl)
  | 3, _ => exact hs1 _ (List.mem_of_getElem? (i := 182) rfl)
  | k + 4, hj => exact absurd hj (by omega)
set_option maxRecDepth 30000 in
theorem st_w22 {s : State} {args : Array Value} (hs0 : ∀ w ∈ flatC given_1, w.before args s = true) (hs1 : ∀ w ∈ flatC narrow_1_1, w.before args s = true) (hs2 : ∀ w ∈ flatC narrow_1_2, w.before args s = true) (hs3 : ∀ w ∈ flatC narrow_1_3, w.before args s = true) {A : Nat → Prop} (hA : ∀ a : Nat, a < s.heap.size → ¬ A a) : StW s args A (wTm.getD 22 (.int 0)) (lenWS.getD 22 0) (bytWS.getD 22 []) := by
  refine stw_of (tm := .string "DryDock$DockReader" 100) (len := 4) (byt := [119, 111, 114, 107]) hA (by decide) (hs1 _ (List.mem_of_getElem? (i := 161) rfl)) (hs1 _ (List.mem_of_getElem? (i := 162) rfl)) (hs1 _ (List.mem_of_getElem? (i := 163) rfl)) (hs1 _ (List.mem_of_getElem? (i := 164) rfl)) (fun j hj => ?_)
  match j, hj with
  | 0, _ => exact hs1 _ (List.mem_of_getElem? (i := 165) rfl)
  | 1, _ => exact hs1 _ (List.mem_of_getElem? (i := 166) rfl)
  | 2, _ => exact hs1 _ (List.mem_of_getElem? (i := 167) rfl)
  | 3, _ => exact hs1 _ (List.mem_of_getElem? (i := 168) rfl)
  | k + 4, hj => exact absurd hj (by omega)
theorem st_ws {s : State} {args : Array Value} (hs0 : ∀ w ∈ flatC given_1, w.before args s = true) (hs1 : ∀ w ∈ flatC narrow_1_1, w.before args s = true) (hs2 : ∀ w ∈ flatC narrow_1_2, w.before args s = true) (hs3 : ∀ w ∈ flatC narrow_1_3, w.before args s = true) {A : Nat → Prop} (hA : ∀ a : Nat, a < s.heap.size → ¬ A a) : ∀ i : Nat, i < 23 → StW s args A (wTm.getD i (.int 0)) (lenWS.getD i 0) (bytWS.getD i [])
  | 0, _ => st_w0 hs0 hs1 hs2 hs3 hA
  | 1, _ => st_w1 hs0 hs1 hs2 hs3 hA
  | 2, _ => st_w2 hs0 hs1 hs2 hs3 hA
  | 3, _ => st_w3 hs0 hs1 hs2 hs3 hA
  | 4, _ => st_w4 hs0 hs1 hs2 hs3 hA
  | 5, _ => st_w5 hs0 hs1 hs2 hs3 hA
  | 6, _ => st_w6 hs0 hs1 hs2 hs3 hA
  | 7, _ => st_w7 hs0 hs1 hs2 hs3 hA
  | 8, _ => st_w8 hs0 hs1 hs2 hs3 hA
  | 9, _ => st_w9 hs0 hs1 hs2 hs3 hA
  | 10, _ => st_w10 hs0 hs1 hs2 hs3 hA
  | 11, _ => st_w11 hs0 hs1 hs2 hs3 hA
  | 12, _ => st_w12 hs0 hs1 hs2 hs3 hA
  | 13, _ => st_w13 hs0 hs1 hs2 hs3 hA
  | 14, _ => st_w14 hs0 hs1 hs2 hs3 hA
  | 15, _ => st_w15 hs0 hs1 hs2 hs3 hA
  | 16, _ => st_w16 hs0 hs1 hs2 hs3 hA
  | 17, _ => st_w17 hs0 hs1 hs2 hs3 hA
  | 18, _ => st_w18 hs0 hs1 hs2 hs3 hA
  | 19, _ => st_w19 hs0 hs1 hs2 hs3 hA
  | 20, _ => st_w20 hs0 hs1 hs2 hs3 hA
  | 21, _ => st_w21 hs0 hs1 hs2 hs3 hA
  | 22, _ => st_w22 hs0 hs1 hs2 hs3 hA
  | k + 23, h => absurd h (by omega)
theorem va_OF_fun {C n d : String} {v w : Value} {a : Nat} {A : Nat → Prop} {s : State} (h1 : va_OF C n d v a A s s.heap) (h2 : va_OF C n d w a A s s.heap) : v = w := by
  obtain ⟨cf, k, i, f, cell, a1, -, a3, -, a5, -⟩ := h1
  obtain ⟨cf2, k2, i2, f2, cell2, b1, -, b3, -, b5, -⟩ := h2
  cases a1.symm.trans b1
  cases a3.symm.trans b3
  exact Option.some.inj (a5.symm.trans b5)
theorem st_small : ∀ a : Nat, a < 8 → ∀ b : Nat, b < 8 → Int32.ofNat a = Int32.ofNat b → a = b := by decide
theorem st_len8 : ∀ i : Nat, i < nWS → lenWS.getD i 0 < 8 := by decide
theorem st_diff : ∀ i : Nat, i < nWS → ∀ j : Nat, j < nWS → lenWS.getD i 0 = lenWS.getD j 0 → (∀ k : Nat, k < lenWS.getD i 0 → (bytWS.getD i []).getD k 0 = (bytWS.getD j []).getD k 0) → i = j := by decide +kernel
theorem va_T_fun {t N N2 : Nat} {f f2 : Nat → Value} {A : Nat → Prop} {s : State} (h1 : va_T .byte t N f A s s.heap) (h2 : va_T .byte t N2 f2 A s s.heap) : Int32.ofNat N = Int32.ofNat N2 ∧ ∀ k : Nat, k < N → k < N2 → f k = f2 k := by
  obtain ⟨cell, a1, -, -, -, a5, a6, -⟩ := h1
  obtain ⟨cell2, b1, -, -, -, b5, b6, -⟩ := h2
  cases a1.symm.trans b1
  exact ⟨a5.symm.trans b5, fun k h h' => Option.some.inj ((a6 k h).symm.trans (b6 k h'))⟩
theorem eq_refs_l {args : Array Value} {s : State} {a b : Term} {t : Nat} (h : (Cond.eq a b).before args s = true) (ha : a.eval args s none [] s = some (.ref t)) : b.eval args s none [] s = some (.ref t) := by
  simp only [Cond.before, Cond.holds, Cond.value, ha] at h
  cases hb : b.eval args s none [] s with
  | none => simp [hb] at h
  | some x => cases x <;> simp [hb] at h ⊢ <;> exact h.symm
def wLs : List Cond := [Cond.laysStatic "DryDock$Curves" "SWING" "[I", Cond.laysStatic "DryDock$Plans" "ROW_VALUES" "[I", Cond.laysStatic "java/lang/String" "COMPACT_STRINGS" "Z", Cond.laysStatic "jdk/internal/util/Preconditions" "SIOOBE_FORMATTER" "Ljava/util/function/BiFunction;", Cond.laysStatic "java/lang/Throwable" "UNASSIGNED_STACK" "[Ljava/lang/StackTraceElement;", Cond.laysStatic "java/lang/Throwable" "SUPPRESSED_SENTINEL" "Ljava/util/List;", Cond.arrayOver (FieldType.object "DryDock$State"), Cond.privateMethod ⟨"DryDock$Reader", "split", "()V"⟩, Cond.instanceMethod ⟨"DryDock$Reader", "split", "()V"⟩, Cond.selects "DryDock$DockReader" ⟨"DryDock$Reader", "takeSign", "(C)Z"⟩ ⟨"DryDock$Reader", "takeSign", "(C)Z"⟩]
set_option maxRecDepth 30000 in
theorem wL_ok : wLs.all (fun w => decide (w ∈ lw_tbl)) = true := by decide +kernel
theorem wL_in {w : Cond} (i : Nat) (h : wLs[i]? = some w) : w ∈ lw_tbl := of_decide_eq_true (List.all_eq_true.mp wL_ok w (List.mem_of_getElem? h))
set_option maxRecDepth 30000 in
theorem SR_ok : SRs.all (fun r => decide (Cond.stringRef r.1 r.2.1 r.2.2.1 ∈ lw_tbl)) = true := by decide +kernel
set_option maxRecDepth 30000 in
theorem SM_ok : SMs.all (fun r => decide (Cond.stringRef r.1 r.2.1 r.2.2 ∈ lw_tbl) && decide (r.1 = "DryDock")) = true := by decide +kernel
def sel2 : List Cond := [Cond.selects "DryDock$DockReader" ⟨"DryDock$Reader", "split", "()V"⟩ ⟨"DryDock$Reader", "split", "()V"⟩, Cond.selects "DryDock$LawReader" ⟨"DryDock$Reader", "split", "()V"⟩ ⟨"DryDock$Reader", "split", "()V"⟩]
set_option maxRecDepth 30000 in
theorem NW_ok : NWs.all (fun w => w.onTables && (decide (w ∈ lw_tbl) || decide (w ∈ sel2))) = true := by decide +kernel
theorem st_nw {s : State} {args : Array Value} (hts : ∀ w ∈ lw_tbl, w.before args s = true) : ∀ w ∈ NWs, va_Nw w s := by
  intro w hw
  have h := List.all_eq_true.mp NW_ok w hw
  rw [Bool.and_eq_true, Bool.or_eq_true] at h
  refine va_tabs (A := args) h.1 rfl ?_
  rcases h.2 with h2 | h2
  · exact hts w (of_decide_eq_true h2)
  · have h3 := of_decide_eq_true h2
    simp only [sel2, List.mem_cons, List.not_mem_nil, or_false] at h3
    rcases h3 with rfl | rfl
    · exact st_sel ⟨by decide, by decide⟩ (hts _ (GW_in wk_213)) (hts _ (wL_in 7 rfl)) (hts _ (wL_in 8 rfl)) (hts _ (wL_in 9 rfl)) rfl
    · exact st_sel ⟨by decide, by decide⟩ (hts _ (GW_in wk_255)) (hts _ (wL_in 7 rfl)) (hts _ (wL_in 8 rfl)) (hts _ (wL_in 9 rfl)) rfl
set_option maxRecDepth 30000 in
theorem st_swing {s : State} {args : Array Value} (hts : ∀ w ∈ lw_tbl, w.before args s = true) (hs0 : ∀ w ∈ flatC given_1, w.before args s = true) (hs1 : ∀ w ∈ flatC narrow_1_1, w.before args s = true) (hs2 : ∀ w ∈ flatC narrow_1_2, w.before args s = true) (hs3 : ∀ w ∈ flatC narrow_1_3, w.before args s = true) {A : Nat → Prop} (hA : ∀ a : Nat, a < s.heap.size → ¬ A a) : ∃ t : Nat, va_Z "DryDock$Curves" "SWING" "[I" (.ref t) A s s.heap ∧ va_T .int t 12 (fun j => .int (swT j)) A s s.heap := by
  obtain ⟨t, ht, hT⟩ := va_Tof (args := args) (tm := .static "DryDock$Curves" "SWING" "[I") (ty := .int) (N := 12) (f := fun j => .int (swT j)) (A := A) (by decide) (hs1 _ (List.mem_of_getElem? (i := 38) rfl)) (va_eqt (z := Int32.ofNat 12) (hs1 _ (List.mem_of_getElem? (i := 39) rfl))) (fun j hj => by
    match j, hj with
    | 0, _ => exact va_eqt (hs1 _ (List.mem_of_getElem? (i := 40) rfl))
    | 1, _ => exact va_eqt (hs1 _ (List.mem_of_getElem? (i := 41) rfl))
    | 2, _ => exact va_eqt (hs1 _ (List.mem_of_getElem? (i := 42) rfl))
    | 3, _ => exact va_eqt (hs1 _ (List.mem_of_getElem? (i := 43) rfl))
    | 4, _ => exact va_eqt (hs1 _ (List.mem_of_getElem? (i := 44) rfl))
    | 5, _ => exact va_eqt (hs1 _ (List.mem_of_getElem? (i := 45) rfl))
    | 6, _ => exact va_eqt (hs1 _ (List.mem_of_getElem? (i := 46) rfl))
    | 7, _ => exact va_eqt (hs1 _ (List.mem_of_getElem? (i := 47) rfl))
    | 8, _ => exact va_eqt (hs1 _ (List.mem_of_getElem? (i := 48) rfl))
    | 9, _ => exact va_eqt (hs1 _ (List.mem_of_getElem? (i := 49) rfl))
    | 10, _ => exact va_eqt (hs1 _ (List.mem_of_getElem? (i := 50) rfl))
    | 11, _ => exact va_eqt (hs1 _ (List.mem_of_getElem? (i := 51) rfl))
    | k + 12, hj => exact absurd hj (by omega)) hA
  exact ⟨t, va_Zof (hts _ (wL_in 0 rfl)) (hts _ (GW_in wk_10)) ht hA, hT⟩
set_option maxRecDepth 30000 in
theorem st_rowv {s : State} {args : Array Value} (hts : ∀ w ∈ lw_tbl, w.before args s = true) (hs0 : ∀ w ∈ flatC given_1, w.before args s = true) (hs1 : ∀ w ∈ flatC narrow_1_1, w.before args s = true) (hs2 : ∀ w ∈ flatC narrow_1_2, w.before args s = true) (hs3 : ∀ w ∈ flatC narrow_1_3, w.before args s = true) {A : Nat → Prop} (hA : ∀ a : Nat, a < s.heap.size → ¬ A a) : ∃ t : Nat, va_Z "DryDock$Plans" "ROW_VALUES" "[I" (.ref t) A s s.heap ∧ va_T .int t 25 (fun j => .int (rvT j)) A s s.heap := by
  obtain ⟨t, ht, hT⟩ := va_Tof (args := args) (tm := .static "DryDock$Plans" "ROW_VALUES" "[I") (ty := .int) (N := 25) (f := fun j => .int (rvT j)) (A := A) (by decide) (hs1 _ (List.mem_of_getElem? (i := 3) rfl)) (va_eqt (z := Int32.ofNat 25) (hs1 _ (List.mem_of_getElem? (i := 4) rfl))) (fun j hj => by
    match j, hj with
    | 0, _ => exact va_eqt (hs1 _ (List.mem_of_getElem? (i := 5) rfl))
    | 1, _ => exact va_eqt (hs1 _ (List.mem_of_getElem? (i := 6) rfl))
    | 2, _ => exact va_eqt (hs1 _ (List.mem_of_getElem? (i := 7) rfl))
    | 3, _ => exact va_eqt (hs1 _ (List.mem_of_getElem? (i := 8) rfl))
    | 4, _ => exact va_eqt (hs1 _ (List.mem_of_getElem? (i := 9) rfl))
    | 5, _ => exact va_eqt (hs1 _ (List.mem_of_getElem? (i := 10) rfl))
    | 6, _ => exact va_eqt (hs1 _ (List.mem_of_getElem? (i := 11) rfl))
    | 7, _ => exact va_eqt (hs1 _ (List.mem_of_getElem? (i := 12) rfl))
    | 8, _ => exact va_eqt (hs1 _ (List.mem_of_getElem? (i := 13) rfl))
    | 9, _ => exact va_eqt (hs1 _ (List.mem_of_getElem? (i := 14) rfl))
    | 10, _ => exact va_eqt (hs1 _ (List.mem_of_getElem? (i := 15) rfl))
    | 11, _ => exact va_eqt (hs1 _ (List.mem_of_getElem? (i := 16) rfl))
    | 12, _ => exact va_eqt (hs1 _ (List.mem_of_getElem? (i := 17) rfl))
    | 13, _ => exact va_eqt (hs1 _ (List.mem_of_getElem? (i := 18) rfl))
    | 14, _ => exact va_eqt (hs1 _ (List.mem_of_getElem? (i := 19) rfl))
    | 15, _ => exact va_eqt (hs1 _ (List.mem_of_getElem? (i := 20) rfl))
    | 16, _ => exact va_eqt (hs1 _ (List.mem_of_getElem? (i := 21) rfl))
    | 17, _ => exact va_eqt (hs1 _ (List.mem_of_getElem? (i := 22) rfl))
    | 18, _ => exact va_eqt (hs1 _ (List.mem_of_getElem? (i := 23) rfl))
    | 19, _ => exact va_eqt (hs1 _ (List.mem_of_getElem? (i := 24) rfl))
    | 20, _ => exact va_eqt (hs1 _ (List.mem_of_getElem? (i := 25) rfl))
    | 21, _ => exact va_eqt (hs1 _ (List.mem_of_getElem? (i := 26) rfl))
    | 22, _ => exact va_eqt (hs1 _ (List.mem_of_getElem? (i := 27) rfl))
    | 23, _ => exact va_eqt (hs1 _ (List.mem_of_getElem? (i := 28) rfl))
    | 24, _ => exact va_eqt (hs1 _ (List.mem_of_getElem? (i := 29) rfl))
    | k + 25, hj => exact absurd hj (by omega)) hA
  exact ⟨t, va_Zof (hts _ (wL_in 1 rfl)) (hts _ (GW_in wk_12)) ht hA, hT⟩
set_option maxRecDepth 30000 in
theorem st_sr {s : State} {args : Array Value} (hts : ∀ w ∈ lw_tbl, w.before args s = true) (hs0 : ∀ w ∈ flatC given_1, w.before args s = true) (hs1 : ∀ w ∈ flatC narrow_1_1, w.before args s = true) (hs2 : ∀ w ∈ flatC narrow_1_2, w.before args s = true) (hs3 : ∀ w ∈ flatC narrow_1_3, w.before args s = true) {K : Nat → Nat} (hE : ∀ i : Nat, i < 23 → (wTm.getD i (.int 0)).eval args s none [] s = some (.ref (K i))) : ∀ r ∈ SRs, vk_R r.1 r.2.1 r.2.2.1 (K r.2.2.2) s := by
  intro r hr
  have h1 := hts _ (of_decide_eq_true (List.all_eq_true.mp SR_ok r hr))
  refine vk_R.of h1 ?_
  simp only [SRs, List.mem_cons, List.not_mem_nil, or_false] at hr
  rcases hr with rfl | rfl | rfl | rfl | rfl | rfl | rfl | rfl | rfl | rfl | rfl | rfl | rfl | rfl | rfl | rfl | rfl | rfl | rfl | rfl | rfl | rfl | rfl | rfl | rfl | rfl | rfl | rfl | rfl | rfl | rfl | rfl | rfl | rfl | rfl | rfl | rfl | rfl | rfl | rfl | rfl | rfl | rfl | rfl | rfl | rfl | rfl | rfl | rfl | rfl | rfl | rfl | rfl
  · exact hE 18 (by decide)
  · exact hE 11 (by decide)
  · exact hE 3 (by decide)
  · exact hE 22 (by decide)
  · exact hE 1 (by decide)
  · exact hE 21 (by decide)
  · exact hE 2 (by decide)
  · exact hE 19 (by decide)
  · exact hE 12 (by decide)
  · exact hE 17 (by decide)
  · exact hE 6 (by decide)
  · exact hE 20 (by decide)
  · exact hE 7 (by decide)
  · exact hE 16 (by decide)
  · exact hE 10 (by decide)
  · exact hE 5 (by decide)
  · exact hE 9 (by decide)
  · exact hE 13 (by decide)
  · exact hE 14 (by decide)
  · exact hE 4 (by decide)
  · exact hE 8 (by decide)
  · exact eq_refs_l (hs1 _ (List.mem_of_getElem? (i := 312) rfl)) (hE 18 (by decide))
  · exact eq_refs_l (hs1 _ (List.mem_of_getElem? (i := 323) rfl)) (hE 11 (by decide))
  · exact eq_refs_l (hs1 _ (List.mem_of_getElem? (i := 335) rfl)) (hE 3 (by decide))
  · exact eq_refs_l (hs1 _ (List.mem_of_getElem? (i := 344) rfl)) (hE 22 (by decide))
  · exact eq_refs_l (hs1 _ (List.mem_of_getElem? (i := 354) rfl)) (hE 12 (by decide))
  · exact eq_refs_l (hs1 _ (List.mem_of_getElem? (i := 363) rfl)) (hE 21 (by decide))
  · exact eq_refs_l (hs1 _ (List.mem_of_getElem? (i := 372) rfl)) (hE 7 (by decide))
  · exact hE 0 (by decide)
  · exact hE 15 (by decide)
  · exact eq_refs_l (hs3 _ (List.mem_of_getElem? (i := 144) rfl)) (hE 18 (by decide))
  · exact eq_refs_l (hs3 _ (List.mem_of_getElem? (i := 156) rfl)) (hE 11 (by decide))
  · exact eq_refs_l (hs3 _ (List.mem_of_getElem? (i := 169) rfl)) (hE 3 (by decide))
  · exact eq_refs_l (hs3 _ (List.mem_of_getElem? (i := 179) rfl)) (hE 22 (by decide))
  · exact eq_refs_l (hs3 _ (List.mem_of_getElem? (i := 187) rfl)) (hE 1 (by decide))
  · exact eq_refs_l (hs3 _ (List.mem_of_getElem? (i := 196) rfl)) (hE 21 (by decide))
  · exact eq_refs_l (hs3 _ (List.mem_of_getElem? (i := 208) rfl)) (hE 2 (by decide))
  · exact eq_refs_l (hs3 _ (List.mem_of_getElem? (i := 218) rfl)) (hE 12 (by decide))
  · exact eq_refs_l (hs3 _ (List.mem_of_getElem? (i := 228) rfl)) (hE 19 (by decide))
  · exact eq_refs_l (hs3 _ (List.mem_of_getElem? (i := 238) rfl)) (hE 17 (by decide))
  · exact eq_refs_l (hs3 _ (List.mem_of_getElem? (i := 248) rfl)) (hE 6 (by decide))
  · exact eq_refs_l (hs3 _ (List.mem_of_getElem? (i := 258) rfl)) (hE 20 (by decide))
  · exact eq_refs_l (hs3 _ (List.mem_of_getElem? (i := 267) rfl)) (hE 7 (by decide))
  · exact eq_refs_l (hs3 _ (List.mem_of_getElem? (i := 277) rfl)) (hE 16 (by decide))
  · exact eq_refs_l (hs3 _ (List.mem_of_getElem? (i := 286) rfl)) (hE 10 (by decide))
  · exact eq_refs_l (hs3 _ (List.mem_of_getElem? (i := 294) rfl)) (hE 5 (by decide))
  · exact eq_refs_l (hs3 _ (List.mem_of_getElem? (i := 301) rfl)) (hE 9 (by decide))
  · exact eq_refs_l (hs3 _ (List.mem_of_getElem? (i := 309) rfl)) (hE 13 (by decide))
  · exact eq_refs_l (hs3 _ (List.mem_of_getElem? (i := 318) rfl)) (hE 14 (by decide))
  · exact eq_refs_l (hs3 _ (List.mem_of_getElem? (i := 326) rfl)) (hE 4 (by decide))
  · exact eq_refs_l (hs3 _ (List.mem_of_getElem? (i := 335) rfl)) (hE 8 (by decide))
  · exact eq_refs_l (hs3 _ (List.mem_of_getElem? (i := 343) rfl)) (hE 0 (by decide))
  · exact eq_refs_l (hs3 _ (List.mem_of_getElem? (i := 350) rfl)) (hE 15 (by decide))
theorem st_sm {s : State} {args : Array Value} (hts : ∀ w ∈ lw_tbl, w.before args s = true) : ∀ r ∈ SMs, ∃ sa, vk_R r.1 r.2.1 r.2.2 sa s := by
  intro r hr
  have h := List.all_eq_true.mp SM_ok r hr
  rw [Bool.and_eq_true] at h
  have h1 := hts _ (of_decide_eq_true h.1)
  have h2 := of_decide_eq_true h.2
  obtain ⟨c, k, hc, -⟩ := Cond.instantiable_spec (hts _ (GW_in wk_32))
  obtain ⟨k, cf, i, a, -, -, -, -, -, hev⟩ := Cond.stringRef_spec (cur := c) (by rw [h2]; exact hc) h1
  exact ⟨a, vk_R.of h1 hev⟩
theorem st_nc {s : State} {args : Array Value} (hs0 : ∀ w ∈ flatC given_1, w.before args s = true) (hs1 : ∀ w ∈ flatC narrow_1_1, w.before args s = true) (hs2 : ∀ w ∈ flatC narrow_1_2, w.before args s = true) (hs3 : ∀ w ∈ flatC narrow_1_3, w.before args s = true) : ∀ r ∈ NCs, va_Nc r.1 r.2 s := by
  intro r hr
  simp only [NCs, List.mem_cons, List.not_mem_nil, or_false] at hr
  rcases hr with rfl | rfl | rfl | rfl | rfl
  · exact va_Nc.of (hs1 _ (List.mem_of_getElem? (i := 64) rfl))
  · exact va_Nc.of (hs1 _ (List.mem_of_getElem? (i := 98) rfl))
  · exact va_Nc.of (hs1 _ (List.mem_of_getElem? (i := 99) rfl))
  · exact va_Nc.of (hs1 _ (List.mem_of_getElem? (i := 67) rfl))
  · exact va_Nc.of (hs1 _ (List.mem_of_getElem? (i := 96) rfl))
theorem st_gl {s : State} {args : Array Value} (hts : ∀ w ∈ lw_tbl, w.before args s = true) (hs0 : ∀ w ∈ flatC given_1, w.before args s = true) (hs1 : ∀ w ∈ flatC narrow_1_1, w.before args s = true) (hs2 : ∀ w ∈ flatC narrow_1_2, w.before args s = true) (hs3 : ∀ w ∈ flatC narrow_1_3, w.before args s = true) : ∃ S : Nat → Nat, ∀ c : Lay, aL c = [] → aS c = S → Gl c (AL c s.heap.size) s := by
  have hA : ∀ a : Nat, a < s.heap.size → ¬ (s.heap.size ≤ a) := fun a h => by omega
  obtain ⟨t0, z0, T0⟩ := st_swing (A := fun q => s.heap.size ≤ q) hts hs0 hs1 hs2 hs3 hA
  obtain ⟨t1, z1, T1⟩ := st_rowv (A := fun q => s.heap.size ≤ q) hts hs0 hs1 hs2 hs3 hA
  have hw : ∀ i : Nat, ∃ q : Nat × Nat, i < 23 → (wTm.getD i (.int 0)).eval args s none [] s = some (.ref q.1) ∧ va_O "java/lang/String" q.1 (fun q => s.heap.size ≤ q) s s.heap ∧ va_OF "java/lang/String" "coder" "B" (.int 0) q.1 (fun q => s.heap.size ≤ q) s s.heap ∧ va_OF "java/lang/String" "value" "[B" (.ref q.2) q.1 (fun q => s.heap.size ≤ q) s s.heap ∧ va_T .byte q.2 (lenWS.getD i 0) (fun j => .int ((bytWS.getD i []).getD j 0)) (fun q => s.heap.size ≤ q) s s.heap := by
    intro i
    by_cases hi : i < 23
    · obtain ⟨q, hq⟩ := st_ws (A := fun q => s.heap.size ≤ q) hs0 hs1 hs2 hs3 hA i hi
      exact ⟨q, fun _ => hq⟩
    · exact ⟨(0, 0), fun h => absurd h hi⟩
  obtain ⟨q, hq⟩ := Classical.axiomOfChoice hw
  refine ⟨fun n => if n = 0 then t0 else if n = 1 then t1 else if n < 100 then (q (n - 10)).1 else (q (n - 100)).2, fun c e1 e2 => ?_⟩
  have eA : AL c s.heap.size = fun q => s.heap.size ≤ q := by
    funext z
    refine propext ⟨fun h => ?_, fun h => Or.inr h⟩
    rcases h with h | h
    · rw [e1] at h; cases h
    · exact h
  have eK : ∀ i : Nat, i < 23 → sK c i = (q i).1 := fun i hi => by
    unfold sK
    rw [e2]
    show (if i + 10 = 0 then t0 else if i + 10 = 1 then t1 else if i + 10 < 100 then (q (i + 10 - 10)).1 else (q (i + 10 - 100)).2) = _
    rw [if_neg (by omega), if_neg (by omega), if_pos (by omega), Nat.add_sub_cancel]
  have eV : ∀ i : Nat, i < 23 → sV c i = (q i).2 := fun i hi => by
    unfold sV
    rw [e2]
    show (if i + 100 = 0 then t0 else if i + 100 = 1 then t1 else if i + 100 < 100 then (q (i + 100 - 10)).1 else (q (i + 100 - 100)).2) = _
    rw [if_neg (by omega), if_neg (by omega), if_neg (by omega), Nat.add_sub_cancel]
  have e0 : aS c 0 = t0 := by rw [e2]; rfl
  have e1' : aS c 1 = t1 := by rw [e2]; rfl
  rw [eA]
  unfold Gl GlS
  rw [e0, e1']
  refine ⟨st_nw hts, ⟨z0, T0⟩, ⟨z1, T1⟩, st_sr hts hs0 hs1 hs2 hs3 (fun i hi => by rw [eK i hi]; exact (hq i hi).1), st_sm hts, ⟨fun i hi => ?_, fun i j hi hj h => ?_⟩, va_Zof (args := args) (hts _ (wL_in 2 rfl)) (hts _ (GW_in wk_15)) (va_eqt (hs1 _ (List.mem_of_getElem? (i := 30) rfl))) hA, vx_Zqof (args := args) (hts _ (wL_in 3 rfl)) (hts _ (GW_in wk_17)) (hs1 _ (List.mem_of_getElem? (i := 31) rfl)) hA, vx_Zqof (args := args) (hts _ (wL_in 4 rfl)) (hts _ (GW_in wk_19)) (hs1 _ (List.mem_of_getElem? (i := 35) rfl)) hA, vx_Zqof (args := args) (hts _ (wL_in 5 rfl)) (hts _ (GW_in wk_19)) (hs1 _ (List.mem_of_getElem? (i := 36) rfl)) hA, st_nc hs0 hs1 hs2 hs3, va_AO.of (hts _ (wL_in 6 rfl))⟩
  · rw [eK i hi, eV i hi]; exact (hq i hi).2
  · have hi' : i < 23 := hi
    have hj' : j < 23 := hj
    rw [eK i hi', eK j hj'] at h
    have a1 := (hq i hi').2.2.2.1
    have a2 := (hq j hj').2.2.2.1
    rw [← h] at a2
    have e3 : (q i).2 = (q j).2 := Value.ref.inj (va_OF_fun a1 a2)
    have b1 := (hq i hi').2.2.2.2
    have b2 := (hq j hj').2.2.2.2
    rw [← e3] at b2
    obtain ⟨c1, c2⟩ := va_T_fun b1 b2
    have c3 := st_small _ (st_len8 i hi) _ (st_len8 j hj) c1
    refine st_diff i hi j hj c3 (fun k hk => ?_)
    exact Value.int.inj (c2 k hk (by rw [← c3]; exact hk))

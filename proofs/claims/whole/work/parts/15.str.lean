/-! String constants: length and charAt -/
def slen (i : Nat) : Int32 := Int32.ofNat (lenWS.getD i 0)
def sch (i : Nat) (k : Nat) : Int32 := (bytWS.getD i []).getD k 0
theorem va_ldcwS {p : Program} {l : Launch} {e : Env} {R : Room} {s : State} {m : MethodId} {args : Array Value} {below : List Frame} {meth : Method} {c : Code} {H : Heap} {locs : List Loc} {cells slots : Nat} {Q : State → Prop} {cc : ByteArray} {pc : Nat} {ls : Array Slot} {rest : List Value} (hexec : p.tables.exec = Jvm.exec) (hb : c.code = cc) {own tx : String} {index q : Nat} (hown : s.vm.findClass own = some m.cls) (hZ : vk_R own index tx q s) (hdg : decode cc pc = .ok (.ldc_w index, 3))
    (k : W p l e R s m args below meth c H locs cells slots Q (F0 m (pc + 3) ls (.ref q :: rest))) : W p l e R s m args below meth c H locs cells slots Q (F0 m pc ls rest) := by
  intro T hT X
  obtain ⟨t, a1, b1⟩ := k T hT X
  refine ⟨t, ?_, b1⟩
  obtain ⟨k, cf, i, a', hk, hcf, hcp, -, hr, hev'⟩ := Cond.stringRef_spec hown hZ.1
  cases hZ.2.symm.trans hev'
  obtain ⟨k', hk', he⟩ := X.warmed.alike.2.2 _ _ hk
  have hr' : k'.resolved[index]? = some (some (.string q)) := by
    rcases X.warmed.entry hk hk' index with h | ⟨h, -⟩
    · rw [h]; exact hr
    · rw [hr] at h; cases h
  have hdg' : decode c.code pc = .ok (.ldc_w index, 3) := by rw [hb]; exact hdg
  jvm_step X.here [hexec, hdg', ldc_w.wp_string (e := e) (s := T) (f := F0 m pc ls rest) X.here.top hk' (by rw [he]; exact hcf) hcp hr']
  exact a1
section JS
variable {x : Ctx} {cc : ByteArray} {nL : Nat} {ret : Option FieldType} {own : String} {Λ : Lay} {rm : Room} {Q : State → Prop} {pc : Nat} {lv lv' : List (Nat × Value)} {st stk : List Value} {μ μ1 : Mem}
theorem gS (C : Cx x cc nL ret own Λ rm) : GlS Λ (AL Λ (xs x).heap.size) (xs x) := C.2.2.2.2.2.2.2.2.1.2.2.2
theorem j_ldcS (C : Cx x cc nL ret own Λ rm) {idx i : Nat} {tx : String} (h : (own, idx, tx, i) ∈ SRs) (hd : decode cc pc = .ok (.ldc idx, 2)) (K : J x nL Λ Q (pc + 2) lv (.ref (sK Λ i) :: st) μ) : J x nL Λ Q pc lv st μ := fun H locs ls hw hl => va_ldcS C.1 C.2.1 C.2.2.2.2.1 ((gS C).1 _ h) hd (K H locs ls hw hl)
theorem j_ldcwS (C : Cx x cc nL ret own Λ rm) {idx i : Nat} {tx : String} (h : (own, idx, tx, i) ∈ SRs) (hd : decode cc pc = .ok (.ldc_w idx, 3)) (K : J x nL Λ Q (pc + 3) lv (.ref (sK Λ i) :: st) μ) : J x nL Λ Q pc lv st μ := fun H locs ls hw hl => va_ldcwS C.1 C.2.1 C.2.2.2.2.1 ((gS C).1 _ h) hd (K H locs ls hw hl)
theorem j_getsC (C : Cx x cc nL ret own Λ rm) {idx : Nat} (hl : Cond.fieldLink own idx "java/lang/String" "COMPACT_STRINGS" "Z" ∈ GW) (hd : decode cc pc = .ok (.getstatic idx, 3)) (K : J x nL Λ Q (pc + 3) lv (.int 1 :: st) μ) : J x nL Λ Q pc lv st μ := fun H locs ls hw hl9 => va_gets C.1 C.2.1 (gS C).2.2.2.1 hw.2.2 C.2.2.2.2.1 (C.2.2.2.2.2.1 _ hl) (fun _ h => h) hd (K H locs ls hw hl9)
theorem j_getsQ (C : Cx x cc nL ret own Λ rm) {idx : Nat} (hl : Cond.fieldLink own idx "jdk/internal/util/Preconditions" "SIOOBE_FORMATTER" bfD ∈ GW) (hd : decode cc pc = .ok (.getstatic idx, 3)) (K : ∀ v : Value, v = .null ∨ (∃ t, v = .ref t) → J x nL Λ Q (pc + 3) lv (v :: st) μ) : J x nL Λ Q pc lv st μ := by
  intro H locs ls hw hl9
  rcases (gS C).2.2.2.2.1.1 with h | ⟨t, h⟩
  · exact va_gets C.1 C.2.1 h hw.2.2 C.2.2.2.2.1 (C.2.2.2.2.2.1 _ hl) (fun _ h => h) hd (K _ (Or.inl rfl) H locs ls hw hl9)
  · exact va_gets C.1 C.2.1 h hw.2.2 C.2.2.2.2.1 (C.2.2.2.2.2.1 _ hl) (fun _ h => h) hd (K _ (Or.inr ⟨t, rfl⟩) H locs ls hw hl9)
theorem j_strV (C : Cx x cc nL ret own Λ rm) {idx i : Nat} (hi : i < nWS) (hl : Cond.fieldLink own idx "java/lang/String" "value" "[B" ∈ GW) (hd : decode cc pc = .ok (.getfield idx, 3)) (K : J x nL Λ Q (pc + 3) lv (.ref (sV Λ i) :: st) μ) : J x nL Λ Q pc lv (.ref (sK Λ i) :: st) μ := fun H locs ls hw hl9 => vk_getf C.1 C.2.1 ((gS C).2.2.1.1 i hi).2.2.1 hw.2.2 C.2.2.2.2.1 (C.2.2.2.2.2.1 _ hl) (fun _ h => h) hd (K H locs ls hw hl9)
theorem j_strC (C : Cx x cc nL ret own Λ rm) {idx i : Nat} (hi : i < nWS) (hl : Cond.fieldLink own idx "java/lang/String" "coder" "B" ∈ GW) (hd : decode cc pc = .ok (.getfield idx, 3)) (K : J x nL Λ Q (pc + 3) lv (.int 0 :: st) μ) : J x nL Λ Q pc lv (.ref (sK Λ i) :: st) μ := fun H locs ls hw hl9 => vk_getf C.1 C.2.1 ((gS C).2.2.1.1 i hi).2.1 hw.2.2 C.2.2.2.2.1 (C.2.2.2.2.2.1 _ hl) (fun _ h => h) hd (K H locs ls hw hl9)
theorem j_tlenS (C : Cx x cc nL ret own Λ rm) {i : Nat} (hi : i < nWS) (hd : decode cc pc = .ok (.arraylength, 1)) (K : J x nL Λ Q (pc + 1) lv (.int (slen i) :: st) μ) : J x nL Λ Q pc lv (.ref (sV Λ i) :: st) μ := fun H locs ls hw hl9 => va_tlen C.1 C.2.1 ((gS C).2.2.1.1 i hi).2.2.2 hw.2.2 rfl hd (K H locs ls hw hl9)
theorem j_tbS (C : Cx x cc nL ret own Λ rm) {i : Nat} {k : Int32} (hi : i < nWS) (hk : inb k (lenWS.getD i 0) = true) (hd : decode cc pc = .ok (.baload, 1)) (K : J x nL Λ Q (pc + 1) lv (.int (sch i k.toNatClampNeg) :: st) μ) : J x nL Λ Q pc lv (.int k :: .ref (sV Λ i) :: st) μ := fun H locs ls hw hl9 => va_tb C.1 C.2.1 ((gS C).2.2.1.1 i hi).2.2.2 hw.2.2 (inb_in hk) rfl hd (K H locs ls hw hl9)
theorem j_i2c (C : Cx x cc nL ret own Λ rm) {a : Int32} (hd : decode cc pc = .ok (.i2c, 1)) (K : J x nL Λ Q (pc + 1) lv (.int ((a.toUInt32 % 65536).toInt32) :: st) μ) : J x nL Λ Q pc lv (.int a :: st) μ := fun H locs ls hw hl => lv_i2c C.1 C.2.1 hd rfl (K H locs ls hw hl)
theorem j_lushr (C : Cx x cc nL ret own Λ rm) {a : Int64} {b : Int32} (hd : decode cc pc = .ok (.lushr, 1)) (K : J x nL Λ Q (pc + 1) lv (.long ((a.toUInt64 >>> (b.toInt64.toUInt64 &&& Int64.toUInt64 63)).toInt64) :: st) μ) : J x nL Λ Q pc lv (.int b :: .long a :: st) μ := fun H locs ls hw hl => lv_lushr C.1 C.2.1 hd rfl (K H locs ls hw hl)
theorem j_iretn {ty : FieldType} (C : Cx x cc nL (some ty) own Λ rm) {v : Int32} (hn : narrow ty (.int v) = .int v) (hd : decode cc pc = .ok (.ireturn, 1)) : J x nL Λ (QI x Λ v μ) pc lv [.int v] μ := by
  intro H locs ls hw hl
  exact W.zret C.1 C.2.1 C.2.2.1 hn (fun t ht hW => ⟨⟨v, (), rfl, rfl, by show va_P (aD Λ) vwCl (pool Λ μ) t.heap; rw [ht]; exact hw.1⟩, hw.2.2.F ht⟩) hw.2.2.2.2 hd C.2.2.2.2.2.2.1
theorem j_aloadV (C : Cx x cc nL ret own Λ rm) {k : Fin 4} (p : Nat) {v : Value} (hv : v = .null ∨ (∃ t, v = .ref t)) (hd : decode cc pc = .ok (.aload_n k, 1)) (hk : lv[p]? = some ((k : Nat), v)) (K : J x nL Λ Q (pc + 1) lv (v :: st) μ) : J x nL Λ Q pc lv st μ := by
  intro H locs ls hw hl
  rcases hv with rfl | ⟨t, rfl⟩
  · exact lv_aload_nN C.1 C.2.1 hd rfl (lv_at hl p hk) (K H locs ls hw hl)
  · exact lv_aload_n C.1 C.2.1 hd rfl (lv_at hl p hk) (K H locs ls hw hl)
/-- a call on a string constant -/
def LStr (own : String) (idx : Nat) (y : MethodName) (cb : ByteArray) (nL : Nat) (ret : Option FieldType) (n : Nat) : Prop :=
  y.cls = "java/lang/String" ∧ (Cond.methodLink own idx y ∈ GW ∧ Cond.instanceMethod y ∈ GW ∧ Cond.selects y.cls y y ∈ GW ∧ Cond.initialized y.cls ∈ GW ∧ Cond.code y cb nL ret ∈ GW) ∧ okN y n
theorem run_Str (C : Cx x cc nL ret own Λ rm) {idx i : Nat} (hi : i < nWS) {y : MethodName} {cb : ByteArray} {nL' : Nat} {ret' : Option FieldType} {n : Nat} (L : LStr own idx y cb nL' ret' n) {rm' : Room} (hR : roomOk rm' rm nL') {As : List Value} (hn : As.length = n) (hst : stk = As.reverse ++ .ref (sK Λ i) :: st) (hW : (st.map fun v => v.category).sum ≤ 8) (hd : decode cc pc = .ok (.invokevirtual idx, 3))
    {Qc : Nat → Array Value → State → Outcome → State → Prop} (hM : ∀ sz, Met x.2.1 y (wsG y cb nL' ret') rm' (va_Pc (.ref (sK Λ i) :: As) (Pr Λ μ sz)) (Qc sz) 0 0 (AL Λ sz)) : vRun x Λ μ nL pc lv stk st Qc (.ref (sK Λ i) :: As) := by
  intro H locs ls hw hl
  obtain ⟨hcl, ⟨h1, h2, h3, h4, h5⟩, hok⟩ := L
  have hT : GoodIn GW (wsV own idx y.cls y (wsG y cb nL' ret')) := GW_app (by
    intro w hw
    simp only [List.mem_cons, List.not_mem_nil, or_false] at hw
    rcases hw with rfl | rfl | rfl | rfl
    · exact h1
    · exact h2
    · exact h3
    · exact h4) (GW_code h5)
  have hRR : xR x = rm := C.2.2.2.2.2.2.2.2.2.1
  have hrec : ∃ cell : Cell, H[sK Λ i]? = some cell ∧ cell.vm.isStatics = false ∧ (xs x).vm.findClass y.cls = some cell.cls := by
    rw [hcl]
    exact vk_recv (gS C).2.2.1 hi hw.2.2
  exact va_runV (As := As) (rest := st) (fix_of C) (hM H.size) (cwV n C.2.2.2.2.2.1 hT rfl hR.1 hR.2.1 ⟨rfl, hok.1, hok.2.1, hok.2.2⟩ (by rw [hRR]; exact hR.2.2)) ⟨Pr_blind _, hrec, Pr_of C hw _⟩ rfl hn hl.1 hst (lv_room hW) hd (room_of C)
end JS

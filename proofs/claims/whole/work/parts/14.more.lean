set_option maxRecDepth 30000 in
theorem wm_min : Cond.code Lib.Math.min.name Lib.Math.min.code 2 (some .int) ∈ GW := GW_t3 59 rfl rfl
set_option maxRecDepth 30000 in
theorem wms_min : Cond.static Lib.Math.min.name ∈ GW := GW_t3 58 rfl rfl
set_option maxRecDepth 30000 in
theorem wm_max : Cond.code Lib.Math.max.name Lib.Math.max.code 2 (some .int) ∈ GW := GW_t3 26 rfl rfl
set_option maxRecDepth 30000 in
theorem wms_max : Cond.static Lib.Math.max.name ∈ GW := GW_t3 25 rfl rfl
set_option maxRecDepth 30000 in
theorem wm_abs : Cond.code Lib.Math.abs.name Lib.Math.abs.code 1 (some .int) ∈ GW := GW_t3 12 rfl rfl
set_option maxRecDepth 30000 in
theorem wms_abs : Cond.static Lib.Math.abs.name ∈ GW := GW_t3 11 rfl rfl
theorem wm_ini : Cond.initialized "java/lang/Math" ∈ GW := GW_t1 26 rfl rfl
theorem wa_nat : Cond.native arraycopyName ∈ GW := GW_t3 82 rfl rfl
theorem wa_sta : Cond.static arraycopyName ∈ GW := GW_t3 81 rfl rfl
theorem wa_ini : Cond.initialized "java/lang/System" ∈ GW := GW_t1 14 rfl rfl
section JM
variable {x : Ctx} {cc : ByteArray} {nL : Nat} {ret : Option FieldType} {own : String} {Λ : Lay} {rm : Room} {Q : State → Prop} {pc : Nat} {lv lv' : List (Nat × Value)} {st : List Value} {μ μ1 : Mem}
theorem j_mmin (C : Cx x cc nL ret own Λ rm) {idx : Nat} (hl : Cond.methodLink own idx Lib.Math.min.name ∈ GW) (hR : 1 ≤ rm.frames ∧ (st.map fun v => v.category).sum + 13 ≤ rm.locals) {a b : Int32} (hd : decode cc pc = .ok (.invokestatic idx, 3)) (K : J x nL Λ Q (pc + 3) lv (.int (imin a b) :: st) μ) : J x nL Λ Q pc lv (.int b :: .int a :: st) μ := by
  intro H locs ls hw hl9
  have hRR : xR x = rm := C.2.2.2.2.2.2.2.2.2.1
  exact va_mmin C.1 C.2.1 (C.2.2.2.1.trans hl9.1.symm) C.2.2.2.2.1 (C.2.2.2.2.2.1 _ hl) (C.2.2.2.2.2.1 _ wms_min) (C.2.2.2.2.2.1 _ wm_ini) (C.2.2.2.2.2.1 _ wm_min) (by rw [hRR]; exact hR.1) (by rw [hRR]; exact hR.2) (room_of C).1 (room_of C).2 hd (K H locs ls hw hl9)
theorem j_mmax (C : Cx x cc nL ret own Λ rm) {idx : Nat} (hl : Cond.methodLink own idx Lib.Math.max.name ∈ GW) (hR : 1 ≤ rm.frames ∧ (st.map fun v => v.category).sum + 13 ≤ rm.locals) {a b : Int32} (hd : decode cc pc = .ok (.invokestatic idx, 3)) (K : J x nL Λ Q (pc + 3) lv (.int (imax a b) :: st) μ) : J x nL Λ Q pc lv (.int b :: .int a :: st) μ := by
  intro H locs ls hw hl9
  have hRR : xR x = rm := C.2.2.2.2.2.2.2.2.2.1
  exact va_mmax C.1 C.2.1 (C.2.2.2.1.trans hl9.1.symm) C.2.2.2.2.1 (C.2.2.2.2.2.1 _ hl) (C.2.2.2.2.2.1 _ wms_max) (C.2.2.2.2.2.1 _ wm_ini) (C.2.2.2.2.2.1 _ wm_max) (by rw [hRR]; exact hR.1) (by rw [hRR]; exact hR.2) (room_of C).1 (room_of C).2 hd (K H locs ls hw hl9)
theorem j_mabs (C : Cx x cc nL ret own Λ rm) {idx : Nat} (hl : Cond.methodLink own idx Lib.Math.abs.name ∈ GW) (hR : 1 ≤ rm.frames ∧ (st.map fun v => v.category).sum + 13 ≤ rm.locals) {a : Int32} (hd : decode cc pc = .ok (.invokestatic idx, 3)) (K : J x nL Λ Q (pc + 3) lv (.int (iabs a) :: st) μ) : J x nL Λ Q pc lv (.int a :: st) μ := by
  intro H locs ls hw hl9
  have hRR : xR x = rm := C.2.2.2.2.2.2.2.2.2.1
  exact va_mabs C.1 C.2.1 (C.2.2.2.1.trans hl9.1.symm) C.2.2.2.2.1 (C.2.2.2.2.2.1 _ hl) (C.2.2.2.2.2.1 _ wms_abs) (C.2.2.2.2.2.1 _ wm_ini) (C.2.2.2.2.2.1 _ wm_abs) (by rw [hRR]; exact hR.1) (by rw [hRR]; exact hR.2) (room_of C).1 (room_of C).2 hd (K H locs ls hw hl9)
theorem j_lcmp (C : Cx x cc nL ret own Λ rm) {a b : Int64} (hd : decode cc pc = .ok (.lcmp, 1)) (K : J x nL Λ Q (pc + 1) lv (.int (lg_cmp a b) :: st) μ) : J x nL Λ Q pc lv (.long b :: .long a :: st) μ := fun H locs ls hw hl => W.lcmp C.1 C.2.1 hd (K H locs ls hw hl)
theorem j_lconst (C : Cx x cc nL ret own Λ rm) {n : Fin 2} {v : Int64} (hd : decode cc pc = .ok (.lconst n, 1)) (hv : Int64.ofNat (n : Nat) = v) (K : J x nL Λ Q (pc + 1) lv (.long v :: st) μ) : J x nL Λ Q pc lv st μ := fun H locs ls hw hl => lv_lconst C.1 C.2.1 hd hv (K H locs ls hw hl)
theorem j_acopy (C : Cx x cc nL ret own Λ rm) {idx : Nat} (hl : Cond.methodLink own idx arraycopyName ∈ GW) (hR : 1 ≤ rm.frames ∧ (st.map fun v => v.category).sum + (nativeFrameWords "java/lang/System" "arraycopy" 5 + 11) ≤ rm.locals) {a b : Nat} {sp dp n : Int32} (ha : inL Λ a 13) (hb : inL Λ b 13) (hg : cpyOk Λ a b sp dp n = true) (he : μ1 = mrow μ b (va_cpy (μ.1 a) (μ.1 b) sp.toNatClampNeg dp.toNatClampNeg n.toNatClampNeg)) (hd : decode cc pc = .ok (.invokestatic idx, 3)) (K : J x nL Λ Q (pc + 3) lv st μ1) : J x nL Λ Q pc lv (.int n :: .int dp :: .ref b :: .int sp :: .ref a :: st) μ := by
  intro H locs ls hw hl9
  subst he
  have hRR : xR x = rm := C.2.2.2.2.2.2.2.2.2.1
  obtain ⟨h1, h2, h3, h4, h5⟩ := of_decide_eq_true hg
  obtain ⟨q0, hq0⟩ := pool_at (μ := μ) ha.1
  obtain ⟨q1, hq1⟩ := pool_at (μ := μ) hb.1
  have hqa := hq0
  have hqb := hq1
  rw [ent_13 ha.2] at hqa
  rw [ent_13 hb.2] at hqb
  refine va_copyi (ty := .int) C.1 C.2.1 (C.2.2.2.1.trans hl9.1.symm) C.2.2.2.2.1 (C.2.2.2.2.2.1 _ hl) (C.2.2.2.2.2.1 _ wa_nat) (C.2.2.2.2.2.1 _ wa_sta) (C.2.2.2.2.2.1 _ wa_ini) C.2.2.2.2.2.2.2.1 hw.1 hw.2.1 hw.2.2 q0 q1 1 1 hqa hqb rfl rfl rfl h1 h2 h3 h4 h5 (fun _ _ => rfl) (by rw [hRR]; exact hR.1) (by rw [hRR]; exact hR.2) hd (fun H1 locs1 hP hD hS => ?_)
  refine K H1 locs1 ls (Wd_set hw hb.1 hq1 (ent_up ?_ mrow_off) hP hD hS) hl9
  rw [ent_13 hb.2, show (mrow μ b (va_cpy (μ.1 a) (μ.1 b) sp.toNatClampNeg dp.toNatClampNeg n.toNatClampNeg)).1 b = _ from va_up_self _ _ _]
theorem j_gets0 (C : Cx x cc nL ret own Λ rm) {idx : Nat} (hl : Cond.fieldLink own idx "DryDock$Curves" "SWING" "[I" ∈ GW) (hd : decode cc pc = .ok (.getstatic idx, 3)) (K : J x nL Λ Q (pc + 3) lv (.ref (aS Λ 0) :: st) μ) : J x nL Λ Q pc lv st μ := fun H locs ls hw hl9 => va_gets C.1 C.2.1 C.2.2.2.2.2.2.2.2.1.2.1.1 hw.2.2 C.2.2.2.2.1 (C.2.2.2.2.2.1 _ hl) (fun _ h => h) hd (K H locs ls hw hl9)
theorem j_gets1 (C : Cx x cc nL ret own Λ rm) {idx : Nat} (hl : Cond.fieldLink own idx "DryDock$Plans" "ROW_VALUES" "[I" ∈ GW) (hd : decode cc pc = .ok (.getstatic idx, 3)) (K : J x nL Λ Q (pc + 3) lv (.ref (aS Λ 1) :: st) μ) : J x nL Λ Q pc lv st μ := fun H locs ls hw hl9 => va_gets C.1 C.2.1 C.2.2.2.2.2.2.2.2.1.2.2.1.1 hw.2.2 C.2.2.2.2.1 (C.2.2.2.2.2.1 _ hl) (fun _ h => h) hd (K H locs ls hw hl9)
theorem j_sald0 (C : Cx x cc nL ret own Λ rm) {i : Int32} (hi : inb i 12 = true) (hd : decode cc pc = .ok (.iaload, 1)) (K : J x nL Λ Q (pc + 1) lv (.int (swT i.toNatClampNeg) :: st) μ) : J x nL Λ Q pc lv (.int i :: .ref (aS Λ 0) :: st) μ := fun H locs ls hw hl9 => va_ti C.1 C.2.1 C.2.2.2.2.2.2.2.2.1.2.1.2 hw.2.2 (inb_in hi) rfl hd (K H locs ls hw hl9)
theorem j_sald1 (C : Cx x cc nL ret own Λ rm) {i : Int32} (hi : inb i 25 = true) (hd : decode cc pc = .ok (.iaload, 1)) (K : J x nL Λ Q (pc + 1) lv (.int (rvT i.toNatClampNeg) :: st) μ) : J x nL Λ Q pc lv (.int i :: .ref (aS Λ 1) :: st) μ := fun H locs ls hw hl9 => va_ti C.1 C.2.1 C.2.2.2.2.2.2.2.2.1.2.2.1.2 hw.2.2 (inb_in hi) rfl hd (K H locs ls hw hl9)
theorem j_tabI (C : Cx x cc nL ret own Λ rm) {dflt lo hi : Int} {offs : Array Int} {len : Nat} {a : Int32} (z : Int) {off : Int} {tgt : Nat} (hd : decode cc pc = .ok (.tableswitch dflt lo hi offs, len)) (hz : a.toInt = z) (h1 : ¬ z < lo) (h2 : ¬ hi < z) (ho : offs[(z - lo).toNat]? = some off) (ht : (pc : Int) + off = (tgt : Int)) (K : J x nL Λ Q tgt lv st μ) : J x nL Λ Q pc lv (.int a :: st) μ := by
  subst hz
  exact fun H locs ls hw hl => lv_tableIn C.1 C.2.1 hd h1 h2 ho ht (K H locs ls hw hl)
theorem j_tabO (C : Cx x cc nL ret own Λ rm) {dflt lo hi : Int} {offs : Array Int} {len : Nat} {a : Int32} {tgt : Nat} (hd : decode cc pc = .ok (.tableswitch dflt lo hi offs, len)) (h : a.toInt < lo ∨ hi < a.toInt) (ht : (pc : Int) + dflt = (tgt : Int)) (K : J x nL Λ Q tgt lv st μ) : J x nL Λ Q pc lv (.int a :: st) μ := fun H locs ls hw hl => lv_tableOut C.1 C.2.1 hd h ht (K H locs ls hw hl)
theorem j_look (C : Cx x cc nL ret own Λ rm) {dflt : Int} {ps : Array (Int × Int)} {len : Nat} {a : Int32} {off : Int} {tgt : Nat} (hd : decode cc pc = .ok (.lookupswitch dflt ps, len)) (hp : (ps.toList.zip (ps.toList.drop 1)).all (fun (a, next) => a.1 < next.1) = true) (ho : Op.lookupswitch.offset ps.toList dflt a.toInt = off) (ht : (pc : Int) + off = (tgt : Int)) (K : J x nL Λ Q tgt lv st μ) : J x nL Λ Q pc lv (.int a :: st) μ := fun H locs ls hw hl => lv_lookup C.1 C.2.1 hd hp ho ht (K H locs ls hw hl)
end JM
theorem sw_out {lo hi : Int} (a : Int32) (l : List Int32) (h : (List.range (hi - lo + 1).toNat).all (fun i => l.any (fun v => decide (v.toInt = lo + (i : Int)))) = true) (hn : ¬ a ∈ l) : a.toInt < lo ∨ hi < a.toInt := by
  by_cases h1 : a.toInt < lo
  · exact Or.inl h1
  by_cases h2 : hi < a.toInt
  · exact Or.inr h2
  exfalso
  have hr : (a.toInt - lo).toNat ∈ List.range (hi - lo + 1).toNat := List.mem_range.mpr (by omega)
  have h3 := List.all_eq_true.mp h _ hr
  obtain ⟨v, hv, e⟩ := List.any_eq_true.mp h3
  have e := of_decide_eq_true e
  have e2 : v.toInt = a.toInt := by rw [e]; omega
  exact hn (by rw [← Int32.toInt_inj.mp e2]; exact hv)
theorem sw_look {dflt : Int} (a : Int32) : ∀ {ps : List (Int × Int)} (l : List Int32), ps.map Prod.fst = l.map Int32.toInt → ¬ a ∈ l → Op.lookupswitch.offset ps dflt a.toInt = dflt
  | [], _, _, _ => rfl
  | (z, o) :: t, [], h, _ => by cases h
  | (z, o) :: t, v :: l, h, hn => by
    simp only [List.map_cons, List.cons.injEq] at h
    rw [Op.lookupswitch.offset_cons, if_neg, sw_look a l h.2 (fun q => hn (List.mem_cons_of_mem _ q))]
    intro e
    rw [h.1] at e
    exact hn (by rw [← Int32.toInt_inj.mp e]; exact List.mem_cons_self)

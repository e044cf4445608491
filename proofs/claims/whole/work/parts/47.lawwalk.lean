/-! the law's entry -/
theorem df_X11 : ∀ j, j < 15 → defaultValue (tyX11 j) = vp_V (dfl (fty 10)) j := fun j hj => match j, hj with
  | 0, _ => rfl
  | 1, _ => rfl
  | 2, _ => rfl
  | 3, _ => rfl
  | 4, _ => rfl
  | 5, _ => rfl
  | 6, _ => rfl
  | 7, _ => rfl
  | 8, _ => rfl
  | 9, _ => rfl
  | 10, _ => rfl
  | 11, _ => rfl
  | 12, _ => rfl
  | 13, _ => rfl
  | 14, _ => rfl
  | k + 15, hk => absurd hk (by omega)
theorem cn_L_8 : CN RL 8 10 15 := ⟨_, _, tyX11, cl_X11, tyX11_ok, df_X11, wk_31, wk_32, wk_1⟩
theorem df_X12 : ∀ j, j < 28 → defaultValue (tyX12 j) = vp_V (dfl (fty 11)) j := fun j hj => match j, hj with
  | 0, _ => rfl
  | 1, _ => rfl
  | 2, _ => rfl
  | 3, _ => rfl
  | 4, _ => rfl
  | 5, _ => rfl
  | 6, _ => rfl
  | 7, _ => rfl
  | 8, _ => rfl
  | 9, _ => rfl
  | 10, _ => rfl
  | 11, _ => rfl
  | 12, _ => rfl
  | 13, _ => rfl
  | 14, _ => rfl
  | 15, _ => rfl
  | 16, _ => rfl
  | 17, _ => rfl
  | 18, _ => rfl
  | 19, _ => rfl
  | 20, _ => rfl
  | 21, _ => rfl
  | 22, _ => rfl
  | 23, _ => rfl
  | 24, _ => rfl
  | 25, _ => rfl
  | 26, _ => rfl
  | 27, _ => rfl
  | k + 28, hk => absurd hk (by omega)
theorem cn_L_115 : CN RL 115 11 28 := ⟨_, _, tyX12, cl_X12, tyX12_ok, df_X12, wk_1540, wk_1541, wk_13⟩
theorem li_L_114 : LI RL 114 yX11_init cX11_init 1 0 := ⟨⟨wk_33, wk_34, wk_1, wk_35⟩, rfl, ⟨by decide, by decide, by decide +kernel⟩⟩
theorem li_L_117 : LI RL 117 yX12_init cX12_init 2 0 := ⟨⟨wk_1542, wk_1543, wk_13, wk_1544⟩, rfl, ⟨by decide, by decide, by decide +kernel⟩⟩
theorem Wd_nil {x : Ctx} {c : Lay} {μ : Mem} : Wd x (BL c []) μ (xs x).heap [] := ⟨(fun k q h => by cases h), ⟨(fun i j p q h => by cases h), (fun k q h => by cases h)⟩, va_S.rf⟩
abbrev oQ : Type := (Nat → Nat) × Nat × (Nat → Nat → Nat) × (Nat × (Nat → Nat) × (Nat → Nat → Nat))
def PureOk (L : Nat) (sc : Nat → Int32) (v0 : Nat) : Prop := ∀ (c : Lay) (a : Nat) (q : oQ) (b : Nat) (q' : Nat → Nat) (o : Nat) (E : List En), E = o_X11_init a q ++ o_X12_init b q' ++ [nw o 14 1] → (adr E).Nodup → ∃ N : Nat, inL (BL c E) a 10 ∧ inL (BL c E) b 11 ∧ inL (BL c E) o 14 ∧ cw (fun (k : Int32 × Mem → Option Int32) (s : Int32 × Mem) => bd_L_law__23 N (BL c E) L sc s.2 k v0 a b o s.1) 513 ((0 : Int32), BM E) = some 1
theorem law_go {y : Ctx} {c0 : Lay} {E : List En} {N b a b' o L : Nat} {sc : Nat → Int32} (C : Cx y cL_law_ 7 (some .boolean) RL (BL c0 E) room_1) (hS : SCx y (BL c0 E) b L sc) (hst : y.2.1.stackTraces = false) (hAL : ∀ z ∈ aL (BL c0 E), (xs y).heap.size ≤ z) (v1 : inL (BL c0 E) a 10) (v2 : inL (BL c0 E) b' 11) (v3 : inL (BL c0 E) o 14) (hcw : cw (fun (k : Int32 × Mem → Option Int32) (s : Int32 × Mem) => bd_L_law__23 N (BL c0 E) L sc s.2 k b a b' o s.1) 513 ((0 : Int32), BM E) = some 1) (hk : xk y + 3 * 513 ≤ room_1.cells) (hl : xl y + 18 * 513 ≤ room_1.slots) : J y 7 (BL c0 E) (lw_Z (xb y) (xa y) (xs y)) 23 [(0, .ref b), (1, .ref a), (2, .ref b'), (3, .ref o), (4, .int 0)] [] (BM E) :=
  law_loop (N := N) C hS hst hAL v1 v2 v3 (fun y hC hS hst hAL K M hKM hk k hk23 s hm => tb_L_law__23 hC N L sc s.2 k b a b' o s.1 hS hst hAL hKM hk hk23 v1 v2 v3 hm) 513 ((0 : Int32), BM E) (xk y) (xl y) hk hl hcw
set_option maxHeartbeats 4000000 in
theorem law_from {l : Launch} (hst : l.stackTraces = false) {p : Program} {e : Env} {s : State} {m : MethodId} {below : List Frame} {meth : Method} {c : Code} {b L : Nat} {sc : Nat → Int32} (h : lw_At p s m meth c b L sc) (hp : PureOk L sc b) : W p l e room_1 s m #[Value.ref b] below meth c s.heap [] 0 0 (lw_Z below #[Value.ref b] s) (entryFrame m ([Value.ref b] : List Value).toArray 7) := by
  obtain ⟨hexec, hcode, hret, hml, hown, hts, hX, hbl, hlk, hg⟩ := h
  obtain ⟨hs0, hs1, hs2, hs3⟩ := st_nar hg
  have hGW : ∀ w ∈ GW, w.before #[Value.ref b] s = true := fun w hw => hts w (GW_in hw)
  obtain ⟨D, cs, hK⟩ := st_K hGW (va_AO.of (hts _ (wL_in 6 rfl)))
  obtain ⟨S, hG⟩ := st_gl hts hs0 hs1 hs2 hs3
  have key : ∀ (c0 : Lay), aC c0 = cs → aD c0 = D → aS c0 = S → ∀ x : Ctx, x = (p, l, e, room_1, s, m, #[Value.ref b], below, meth, c, 0, 0) → J x 7 (BL c0 ([] ++ [])) (lw_Z (xb x) (xa x) (xs x)) 0 (lv_args 0 [Value.ref b]) [] (BM ([] ++ [])) := by
    intro c0 e1 e2 e3 x hx
    have h0 : xk x = 0 ∧ xl x = 0 := by subst hx; exact ⟨rfl, rfl⟩
    have hx2 : x.2.1 = l := by subst hx; rfl
    have hxs : xs x = s := by subst hx; rfl
    have hxa : xa x = #[Value.ref b] := by subst hx; rfl
    have C : CE x cL_law_ 7 (some .boolean) RL c0 (BL c0 []) room_1 ([] ++ []) := by
      subst hx
      exact ⟨⟨hexec, hcode, hret, hml, hown, hGW, hlk, hK _ e2 e1, hG _ rfl e3, rfl, Nat.zero_le _, Nat.zero_le _⟩, List.nodup_nil, Grow.rf⟩
    refine je_new C cn_L_8 (hk_at h0 (a := 1) (b := 15) (Nat.le_of_ble_eq_true rfl) (Nat.le_of_ble_eq_true rfl)) dL_law__0 (fun a _ C => ?_)
    replace h0 := h0_at h0 (a := 1) (b := 15)
    refine j_dup C.1 dL_law__3 rfl ?_
    refine je_callI (out := o_X11_init a) (L := []) C rfl li_L_114 ⟨Nat.le_of_ble_eq_true rfl, Nat.le_of_ble_eq_true rfl⟩ (hk_at h0 (a := 180) (b := 10900) (Nat.le_of_ble_eq_true rfl) (Nat.le_of_ble_eq_true rfl)) (As := []) rfl rfl (Nat.le_of_ble_eq_true rfl) dL_law__4 (fun h => cc_X11_init _ c0 _ a h) (fun q C => ?_)
    replace h0 := h0_at h0 (a := 180) (b := 10900)
    refine j_astore_n C.1 (lv' := [(1, .ref a), (0, .ref b)]) dL_law__7 (by decide) rfl ?_
    refine je_new C cn_L_115 (hk_at h0 (a := 1) (b := 28) (Nat.le_of_ble_eq_true rfl) (Nat.le_of_ble_eq_true rfl)) dL_law__8 (fun b' _ C => ?_)
    replace h0 := h0_at h0 (a := 1) (b := 28)
    refine j_dup C.1 dL_law__11 rfl ?_
    refine je_callI (out := o_X12_init b') (L := [] ++ o_X11_init a q) C rfl li_L_117 ⟨Nat.le_of_ble_eq_true rfl, Nat.le_of_ble_eq_true rfl⟩ (hk_at h0 (a := 18) (b := 22540) (Nat.le_of_ble_eq_true rfl) (Nat.le_of_ble_eq_true rfl)) (As := []) rfl rfl (Nat.le_of_ble_eq_true rfl) dL_law__12 (fun h => cc_X12_init _ c0 _ b' h) (fun q' C => ?_)
    replace h0 := h0_at h0 (a := 18) (b := 22540)
    refine j_astore_n C.1 (lv' := [(2, .ref b'), (1, .ref a), (0, .ref b)]) dL_law__15 (by decide) rfl ?_
    refine j_iconst C.1 (v := 1) dL_law__16 rfl ?_
    refine je_newJ (n := 1) C ⟨by decide, rfl, Nat.le_of_ble_eq_true rfl⟩ (hk_at h0 (a := 1) (b := 1) (Nat.le_of_ble_eq_true rfl) (Nat.le_of_ble_eq_true rfl)) wk_1631 dL_law__17 (fun o _ C => ?_)
    replace h0 := h0_at h0 (a := 1) (b := 1)
    refine j_astore_n C.1 (lv' := [(3, .ref o), (2, .ref b'), (1, .ref a), (0, .ref b)]) dL_law__19 (by decide) rfl ?_
    refine j_iconst C.1 (v := 0) dL_law__20 rfl ?_
    refine j_istore C.1 (lv' := [(4, .int 0), (3, .ref o), (2, .ref b'), (1, .ref a), (0, .ref b)]) dL_law__21 (by decide) rfl ?_
    refine j_sub [4, 3, 2, 1, 0] (lv' := [(0, .ref b), (1, .ref a), (2, .ref b'), (3, .ref o), (4, .int 0)]) rfl ?_
    obtain ⟨N, v1, v2, v3, hcw⟩ := hp c0 a q b' q' o ([] ++ ([] ++ o_X11_init a q ++ o_X12_init b' q' ++ [nw o 14 1])) (by simp only [List.nil_append]) C.2.1
    have hAL : ∀ z ∈ aL (BL c0 ([] ++ ([] ++ o_X11_init a q ++ o_X12_init b' q' ++ [nw o 14 1]))), (xs x).heap.size ≤ z := fun z hz => (C.2.2.2.2.2.2 z hz).elim (fun h => by cases h) id
    have hS : SCx x (BL c0 ([] ++ ([] ++ o_X11_init a q ++ o_X12_init b' q' ++ [nw o 14 1]))) b L sc := by
      refine ⟨by rw [hxs]; exact hX, by rw [hxs]; exact hbl, fun h => ?_, hxa⟩
      have h2 : (xs x).heap.size ≤ b := h.elim (hAL b) id
      rw [hxs] at h2
      omega
    exact law_go C.1 hS (by show x.2.1.stackTraces = false; rw [hx2]; exact hst) hAL v1 v2 v3 hcw (by rw [h0.1]; exact Nat.le_of_ble_eq_true rfl) (by rw [h0.2]; exact Nat.le_of_ble_eq_true rfl)
  rw [lg_entry_eq]
  exact key ([], fun _ => 0, fun _ _ => none, fun _ => 0, cs, D, S) rfl rfl rfl _ rfl s.heap [] _ Wd_nil (lv_entry [Value.ref b] (Nat.le_of_ble_eq_true rfl))

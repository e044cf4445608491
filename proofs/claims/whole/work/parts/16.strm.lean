theorem lx_coder : LStr RXS 335 yXS_coder cXS_coder 1 (some .byte) 0 := ⟨rfl, ⟨wk_781, wk_782, wk_783, wk_15, wk_784⟩, ⟨by decide, by decide, by decide +kernel⟩⟩
theorem lx_isLatin1 : LStr RXS 492 yXS_isLatin1 cXS_isLatin1 1 (some .boolean) 0 := ⟨rfl, ⟨wk_791, wk_792, wk_793, wk_15, wk_794⟩, ⟨by decide, by decide, by decide +kernel⟩⟩
theorem lx_check : LSt RXT 9 yXS_checkIndex cXS_checkIndex 2 none 2 := ⟨⟨wk_798, wk_799, wk_15, wk_800⟩, ⟨by decide, by decide, by decide +kernel⟩⟩
theorem lx_pre : LSt RXS 1059 yXP_checkIndex cXP_checkIndex 3 (some .int) 3 := ⟨⟨wk_803, wk_804, wk_17, wk_805⟩, ⟨by decide, by decide, by decide +kernel⟩⟩
theorem lx_lchar : LSt RXS 495 yXT_charAt cXT_charAt 2 (some .char) 2 := ⟨⟨wk_795, wk_796, wk_16, wk_797⟩, ⟨by decide, by decide, by decide +kernel⟩⟩
theorem lx_X7_len : LStr RX7 56 yXS_length cXS_length 1 (some .int) 0 := ⟨rfl, ⟨wk_777, wk_778, wk_779, wk_15, wk_780⟩, ⟨by decide, by decide, by decide +kernel⟩⟩
theorem lx_X12_len : LStr RX12 127 yXS_length cXS_length 1 (some .int) 0 := ⟨rfl, ⟨wk_1693, wk_778, wk_779, wk_15, wk_780⟩, ⟨by decide, by decide, by decide +kernel⟩⟩
theorem lx_X7_chr : LStr RX7 62 yXS_charAt cXS_charAt 2 (some .char) 1 := ⟨rfl, ⟨wk_787, wk_788, wk_789, wk_15, wk_790⟩, ⟨by decide, by decide, by decide +kernel⟩⟩
theorem lx_X12_chr : LStr RX12 132 yXS_charAt cXS_charAt 2 (some .char) 1 := ⟨rfl, ⟨wk_1694, wk_788, wk_789, wk_15, wk_790⟩, ⟨by decide, by decide, by decide +kernel⟩⟩
abbrev rm_XS_coder : Room := { frames := 0, cells := 0, slots := 0, locals := 0 }
abbrev rm_XS_length : Room := { frames := 1, cells := 0, slots := 0, locals := 20 }
abbrev rm_XS_isLatin1 : Room := { frames := 0, cells := 0, slots := 0, locals := 0 }
abbrev rm_XP_checkIndex : Room := { frames := 0, cells := 0, slots := 0, locals := 0 }
abbrev rm_XS_checkIndex : Room := { frames := 1, cells := 0, slots := 0, locals := 22 }
abbrev rm_XT_charAt : Room := { frames := 2, cells := 0, slots := 0, locals := 43 }
abbrev rm_XS_charAt : Room := { frames := 3, cells := 0, slots := 0, locals := 64 }
theorem mc_XS_coder (l : Launch) (Λ : Lay) (μ : Mem) (i : Nat) (hi : i < nWS) : MI l yXS_coder cXS_coder 1 (some .byte) rm_XS_coder Λ [.ref (sK Λ i)] μ 0 μ := mi_of rfl (Nat.le_of_ble_eq_true rfl) (fun x C _ => by
  refine j_getsC C wk_785 dXS_coder_0 ?_
  refine j_if_eq C (tgt := 13) dXS_coder_3 (by decide) (fun h => absurd h (by decide)) (fun _ => ?_)
  refine j_aload_n C 0 dXS_coder_6 rfl ?_
  refine j_strC C hi wk_2327 dXS_coder_7 ?_
  refine j_goto C (tgt := 14) dXS_coder_10 (by decide) ?_
  exact j_iretn C rfl dXS_coder_14)
theorem mc_XS_isLatin1 (l : Launch) (Λ : Lay) (μ : Mem) (i : Nat) (hi : i < nWS) : MI l yXS_isLatin1 cXS_isLatin1 1 (some .boolean) rm_XS_isLatin1 Λ [.ref (sK Λ i)] μ 1 μ := mi_of rfl (Nat.le_of_ble_eq_true rfl) (fun x C _ => by
  refine j_getsC C wk_785 dXS_isLatin1_0 ?_
  refine j_if_eq C (tgt := 17) dXS_isLatin1_3 (by decide) (fun h => absurd h (by decide)) (fun _ => ?_)
  refine j_aload_n C 0 dXS_isLatin1_6 rfl ?_
  refine j_strC C hi wk_2327 dXS_isLatin1_7 ?_
  refine j_if_ne C (tgt := 17) dXS_isLatin1_10 (by decide) (fun h => absurd rfl h) (fun _ => ?_)
  refine j_iconst C (v := 1) dXS_isLatin1_13 rfl ?_
  refine j_goto C (tgt := 18) dXS_isLatin1_14 (by decide) ?_
  exact j_iretz C rfl dXS_isLatin1_18)
theorem mc_XS_length (l : Launch) (Λ : Lay) (μ : Mem) (i : Nat) (hi : i < nWS) : MI l yXS_length cXS_length 1 (some .int) rm_XS_length Λ [.ref (sK Λ i)] μ (slen i) μ := mi_of rfl (Nat.le_of_ble_eq_true rfl) (fun x C _ => by
  refine j_aload_n C 0 dXS_length_0 rfl ?_
  refine j_strV C hi wk_2326 dXS_length_1 ?_
  refine j_tlenS C hi dXS_length_4 ?_
  refine j_aload_n C 0 dXS_length_5 rfl ?_
  refine call_I (run_Str C hi lx_coder (by decide) (As := []) rfl rfl (Nat.le_of_ble_eq_true rfl) dXS_length_6 (mc_XS_coder _ _ _ _ hi)) ?_
  refine j_ishr C dXS_length_9 ?_
  refine j_topi (b := slen i) (sb_shr0 _).symm ?_
  exact j_ireti C dXS_length_10)
theorem mc_XP_checkIndex (l : Launch) (Λ : Lay) (μ : Mem) (k n : Int32) (v : Value) (hv : v = .null ∨ ∃ t, v = .ref t) (h0 : ¬ k < 0) (h1 : k < n) : MI l yXP_checkIndex cXP_checkIndex 3 (some .int) rm_XP_checkIndex Λ [.int k, .int n, v] μ k μ := by
  rcases hv with rfl | ⟨t, rfl⟩ <;> exact mi_of rfl (Nat.le_of_ble_eq_true rfl) (fun x C _ => by
    refine j_iload_n C 0 dXP_checkIndex_0 rfl ?_
    refine j_if_lt C (tgt := 9) dXP_checkIndex_1 (by decide) (fun h => absurd h h0) (fun _ => ?_)
    refine j_iload_n C 0 dXP_checkIndex_4 rfl ?_
    refine j_iload_n C 1 dXP_checkIndex_5 rfl ?_
    refine j_icmp_lt C (tgt := 16) dXP_checkIndex_6 (by decide) (fun _ => ?_) (fun h => absurd h1 h)
    refine j_iload_n C 0 dXP_checkIndex_16 rfl ?_
    exact j_ireti C dXP_checkIndex_17)
theorem mc_XS_checkIndex (l : Launch) (Λ : Lay) (μ : Mem) (k n : Int32) (h0 : ¬ k < 0) (h1 : k < n) : MV l yXS_checkIndex cXS_checkIndex 2 rm_XS_checkIndex Λ [.int k, .int n] μ μ := mv_of rfl (Nat.le_of_ble_eq_true rfl) (fun x C _ => by
  refine j_iload_n C 0 dXS_checkIndex_0 rfl ?_
  refine j_iload_n C 1 dXS_checkIndex_1 rfl ?_
  refine j_getsQ C wk_801 dXS_checkIndex_2 (fun v hv => ?_)
  refine call_I (run_LS C lx_pre (by decide) (As := [.int k, .int n, v]) rfl rfl (Nat.le_of_ble_eq_true rfl) dXS_checkIndex_5 (mc_XP_checkIndex _ _ _ _ _ _ hv h0 h1)) ?_
  refine j_pop C dXS_checkIndex_8 rfl ?_
  exact j_vret C dXS_checkIndex_9)
theorem inb_lt {i : Nat} {k : Int32} (hi : i < nWS) (hk : inb k (lenWS.getD i 0) = true) : ¬ k < 0 ∧ k < slen i := by
  have hl : lenWS.getD i 0 < 2 ^ 31 := by
    have h : ∀ i, i < nWS → lenWS.getD i 0 < 2 ^ 31 := by decide
    exact h i hi
  obtain ⟨j, hj, rfl⟩ := vp_in_of (inb_in hk) hl
  exact ⟨nI_pos (by omega), nI_lt hj hl⟩
theorem sch_c {i k : Nat} (hi : i < nWS) (hk : k < lenWS.getD i 0) : ((sch i k &&& 255).toUInt32 % 65536).toInt32 = sch i k := by
  have h : ∀ i, i < nWS → ∀ k, k < 8 → ((sch i k &&& 255).toUInt32 % 65536).toInt32 = sch i k := by decide +kernel
  have hl : ∀ i, i < nWS → lenWS.getD i 0 < 8 := by decide
  exact h i hi k (Nat.lt_trans hk (hl i hi))
theorem sch_n {i k : Nat} (hi : i < nWS) (hk : k < lenWS.getD i 0) : narrow .char (.int (sch i k)) = .int (sch i k) := by
  rw [← sch_c hi hk]
  exact pk_nc _
theorem mc_XT_charAt (l : Launch) (Λ : Lay) (μ : Mem) (i : Nat) (k : Int32) (hi : i < nWS) (hk : inb k (lenWS.getD i 0) = true) : MI l yXT_charAt cXT_charAt 2 (some .char) rm_XT_charAt Λ [.ref (sV Λ i), .int k] μ (sch i k.toNatClampNeg) μ := mi_of rfl (Nat.le_of_ble_eq_true rfl) (fun x C _ => by
  have hlt : k.toNatClampNeg < lenWS.getD i 0 := by
    have := inb_in hk
    unfold vp_in at this
    omega
  refine j_iload_n C 1 dXT_charAt_0 rfl ?_
  refine j_aload_n C 0 dXT_charAt_1 rfl ?_
  refine j_tlenS C hi dXT_charAt_2 ?_
  refine call_V (run_LS C lx_check (by decide) (As := [.int k, .int (slen i)]) rfl rfl (Nat.le_of_ble_eq_true rfl) dXT_charAt_3 (mc_XS_checkIndex _ _ _ _ _ (inb_lt hi hk).1 (inb_lt hi hk).2)) ?_
  refine j_aload_n C 0 dXT_charAt_6 rfl ?_
  refine j_iload_n C 1 dXT_charAt_7 rfl ?_
  refine j_tbS C hi hk dXT_charAt_8 ?_
  refine j_sipush C (v := 255) dXT_charAt_9 rfl ?_
  refine j_iand C dXT_charAt_12 ?_
  refine j_i2c C dXT_charAt_13 ?_
  refine j_topi (b := sch i k.toNatClampNeg) (sch_c hi hlt).symm ?_
  exact j_iretn C (sch_n hi hlt) dXT_charAt_14)
theorem mc_XS_charAt (l : Launch) (Λ : Lay) (μ : Mem) (i : Nat) (k : Int32) (hi : i < nWS) (hk : inb k (lenWS.getD i 0) = true) : MI l yXS_charAt cXS_charAt 2 (some .char) rm_XS_charAt Λ [.ref (sK Λ i), .int k] μ (sch i k.toNatClampNeg) μ := mi_of rfl (Nat.le_of_ble_eq_true rfl) (fun x C _ => by
  have hlt : k.toNatClampNeg < lenWS.getD i 0 := by
    have := inb_in hk
    unfold vp_in at this
    omega
  refine j_aload_n C 0 dXS_charAt_0 rfl ?_
  refine call_I (run_Str C hi lx_isLatin1 (by decide) (As := []) rfl rfl (Nat.le_of_ble_eq_true rfl) dXS_charAt_1 (mc_XS_isLatin1 _ _ _ _ hi)) ?_
  refine j_if_eq C (tgt := 16) dXS_charAt_4 (by decide) (fun h => absurd h (by decide)) (fun _ => ?_)
  refine j_aload_n C 0 dXS_charAt_7 rfl ?_
  refine j_strV C hi wk_2326 dXS_charAt_8 ?_
  refine j_iload_n C 1 dXS_charAt_11 rfl ?_
  refine call_I (run_LS C lx_lchar (by decide) (As := [.ref (sV Λ i), .int k]) rfl rfl (Nat.le_of_ble_eq_true rfl) dXS_charAt_12 (mc_XT_charAt _ _ _ _ _ hi hk)) ?_
  exact j_iretn C (sch_n hi hlt) dXS_charAt_15)

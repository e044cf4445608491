abbrev rmc_X5_init : Room := { frames := 3, cells := 109, slots := 4500, locals := 60 }
def o_X5_init (a : Nat) (q : Nat × (Nat → Nat) × (Nat → Nat → Nat)) : List En := [(a, 5, 0, rfE [(2, q.1)], inE [], z64), (q.1, 16, 12, rfE [(11, (q.2.1 11)), (10, (q.2.1 10)), (9, (q.2.1 9)), (8, (q.2.1 8)), (7, (q.2.1 7)), (6, (q.2.1 6)), (5, (q.2.1 5)), (4, (q.2.1 4)), (3, (q.2.1 3)), (2, (q.2.1 2)), (1, (q.2.1 1)), (0, (q.2.1 0))], inE [], z64)] ++ o_X9_init (q.2.1 0) (q.2.2 0) ++ o_X9_init (q.2.1 1) (q.2.2 1) ++ o_X9_init (q.2.1 2) (q.2.2 2) ++ o_X9_init (q.2.1 3) (q.2.2 3) ++ o_X9_init (q.2.1 4) (q.2.2 4) ++ o_X9_init (q.2.1 5) (q.2.2 5) ++ o_X9_init (q.2.1 6) (q.2.2 6) ++ o_X9_init (q.2.1 7) (q.2.2 7) ++ o_X9_init (q.2.1 8) (q.2.2 8) ++ o_X9_init (q.2.1 9) (q.2.2 9) ++ o_X9_init (q.2.1 10) (q.2.2 10) ++ o_X9_init (q.2.1 11) (q.2.2 11)
set_option maxRecDepth 20000 in
set_option maxHeartbeats 8000000 in
theorem cc_X5_init (l : Launch) (c : Lay) (E0 : List En) (a : Nat) (hn : (adr (E0 ++ [nw a 5 0])).Nodup) : MCE l yX5_init cX5_init 2 rmc_X5_init c E0 a 5 [] (o_X5_init a) := by
  refine mce_of hn rfl rfl (Nat.le_of_ble_eq_true rfl) (fun x C hlx hin h0 Q hQ => ?_)
  refine j_aload_n C.1 0 dX5_init_0 rfl ?_
  refine jc_obj C.1 wk_276 wk_37 wk_o ⟨Nat.le_of_ble_eq_true rfl, Nat.le_of_ble_eq_true rfl⟩ (Nat.le_of_ble_eq_true rfl) dX5_init_1 ?_
  refine j_aload_n C.1 0 dX5_init_4 rfl ?_
  refine j_bipush C.1 dX5_init_5 (v := 12) rfl ?_
  refine je_newq (n := 12) C ⟨by decide, rfl, Nat.le_of_ble_eq_true rfl⟩ (hk_at h0 (a := 1) (b := 12) (Nat.le_of_ble_eq_true rfl) (Nat.le_of_ble_eq_true rfl)) wk_277 dX5_init_7 (fun q1 _ C => ?_)
  replace h0 := h0_at h0 (a := 1) (b := 12)
  replace hQ := hQ.trans (QC_bump (a := 1) (b := 12)).symm
  refine je_putR C hin fr_X5_11_5 (j := 0) (L' := [(a, 5, 0, rfE [(2, q1)], inE [], z64), (q1, 16, 12, rfE [], inE [], z64)]) rfl rfl dX5_init_10 (fun C => ?_)
  refine j_iconst C.1 dX5_init_13 (v := 0) rfl ?_
  refine j_istore_n C.1 (lv' := [(1, .int 0), (0, .ref a)]) dX5_init_14 (by decide) rfl ?_
  refine j_iload_n C.1 0 dX5_init_15 rfl ?_
  refine j_bipush C.1 dX5_init_16 (v := 12) rfl ?_
  refine j_icmp_ge C.1 (tgt := 40) dX5_init_18 (by decide) (fun h => absurd h (by decide)) (fun _ => ?_)
  refine j_aload_n C.1 1 dX5_init_21 rfl ?_
  refine je_getR C fg_X5_11_5 (j := 0) rfl rfl dX5_init_22 ?_
  refine j_iload_n C.1 0 dX5_init_25 rfl ?_
  refine je_new C cn_X5_9 (hk_at h0 (a := 1) (b := 19) (Nat.le_of_ble_eq_true rfl) (Nat.le_of_ble_eq_true rfl)) dX5_init_26 (fun q2 _ C => ?_)
  replace h0 := h0_at h0 (a := 1) (b := 19)
  replace hQ := hQ.trans (QC_bump (a := 1) (b := 19)).symm
  refine j_dup C.1 dX5_init_29 rfl ?_
  refine je_callN (out := o_X9_init q2) (L := [(a, 5, 0, rfE [(2, q1)], inE [], z64), (q1, 16, 12, rfE [], inE [], z64)]) C rfl lin_X5_17 ⟨Nat.le_of_ble_eq_true rfl, Nat.le_of_ble_eq_true rfl⟩ (hk_at h0 (a := 8) (b := 355) (Nat.le_of_ble_eq_true rfl) (Nat.le_of_ble_eq_true rfl)) (As := []) rfl rfl (Nat.le_of_ble_eq_true rfl) dX5_init_30 (fun h => cc_X9_init _ c _ q2 h) (fun f3 C => ?_)
  replace h0 := h0_at h0 (a := 8) (b := 355)
  replace hQ := hQ.trans (QC_bump (a := 8) (b := 355)).symm
  refine je_ast C (j := 1) (jv := 2) (i' := 0) (L' := [(a, 5, 0, rfE [(2, q1)], inE [], z64), (q1, 16, 12, rfE [(0, q2)], inE [], z64)] ++ o_X9_init q2 f3) rfl rfl (by decide) rfl rfl dX5_init_33 (fun C => ?_)
  refine j_iinc C.1 0 (v := 1) (lv' := [(1, .int 1), (0, .ref a)]) dX5_init_34 rfl rfl (by decide) rfl ?_
  refine j_goto C.1 (tgt := 15) dX5_init_37 (by decide) ?_
  refine j_iload_n C.1 0 dX5_init_15 rfl ?_
  refine j_bipush C.1 dX5_init_16 (v := 12) rfl ?_
  refine j_icmp_ge C.1 (tgt := 40) dX5_init_18 (by decide) (fun h => absurd h (by decide)) (fun _ => ?_)
  refine j_aload_n C.1 1 dX5_init_21 rfl ?_
  refine je_getR C fg_X5_11_5 (j := 0) rfl rfl dX5_init_22 ?_
  refine j_iload_n C.1 0 dX5_init_25 rfl ?_
  refine je_new C cn_X5_9 (hk_at h0 (a := 1) (b := 19) (Nat.le_of_ble_eq_true rfl) (Nat.le_of_ble_eq_true rfl)) dX5_init_26 (fun q4 _ C => ?_)
  replace h0 := h0_at h0 (a := 1) (b := 19)
  replace hQ := hQ.trans (QC_bump (a := 1) (b := 19)).symm
  refine j_dup C.1 dX5_init_29 rfl ?_
  refine je_callN (out := o_X9_init q4) (L := [(a, 5, 0, rfE [(2, q1)], inE [], z64), (q1, 16, 12, rfE [(0, q2)], inE [], z64)] ++ o_X9_init q2 f3) C rfl lin_X5_17 ⟨Nat.le_of_ble_eq_true rfl, Nat.le_of_ble_eq_true rfl⟩ (hk_at h0 (a := 8) (b := 355) (Nat.le_of_ble_eq_true rfl) (Nat.le_of_ble_eq_true rfl)) (As := []) rfl rfl (Nat.le_of_ble_eq_true rfl) dX5_init_30 (fun h => cc_X9_init _ c _ q4 h) (fun f5 C => ?_)
  replace h0 := h0_at h0 (a := 8) (b := 355)
  replace hQ := hQ.trans (QC_bump (a := 8) (b := 355)).symm
  refine je_ast C (j := 1) (jv := 11) (i' := 1) (L' := [(a, 5, 0, rfE [(2, q1)], inE [], z64), (q1, 16, 12, rfE [(1, q4), (0, q2)], inE [], z64)] ++ o_X9_init q2 f3 ++ o_X9_init q4 f5) rfl rfl (by decide) rfl rfl dX5_init_33 (fun C => ?_)
  refine j_iinc C.1 0 (v := 2) (lv' := [(1, .int 2), (0, .ref a)]) dX5_init_34 rfl rfl (by decide) rfl ?_
  refine j_goto C.1 (tgt := 15) dX5_init_37 (by decide) ?_
  refine j_iload_n C.1 0 dX5_init_15 rfl ?_
  refine j_bipush C.1 dX5_init_16 (v := 12) rfl ?_
  refine j_icmp_ge C.1 (tgt := 40) dX5_init_18 (by decide) (fun h => absurd h (by decide)) (fun _ => ?_)
  refine j_aload_n C.1 1 dX5_init_21 rfl ?_
  refine je_getR C fg_X5_11_5 (j := 0) rfl rfl dX5_init_22 ?_
  refine j_iload_n C.1 0 dX5_init_25 rfl ?_
  refine je_new C cn_X5_9 (hk_at h0 (a := 1) (b := 19) (Nat.le_of_ble_eq_true rfl) (Nat.le_of_ble_eq_true rfl)) dX5_init_26 (fun q6 _ C => ?_)
  replace h0 := h0_at h0 (a := 1) (b := 19)
  replace hQ := hQ.trans (QC_bump (a := 1) (b := 19)).symm
  refine j_dup C.1 dX5_init_29 rfl ?_
  refine je_callN (out := o_X9_init q6) (L := [(a, 5, 0, rfE [(2, q1)], inE [], z64), (q1, 16, 12, rfE [(1, q4), (0, q2)], inE [], z64)] ++ o_X9_init q2 f3 ++ o_X9_init q4 f5) C rfl lin_X5_17 ⟨Nat.le_of_ble_eq_true rfl, Nat.le_of_ble_eq_true rfl⟩ (hk_at h0 (a := 8) (b := 355) (Nat.le_of_ble_eq_true rfl) (Nat.le_of_ble_eq_true rfl)) (As := []) rfl rfl (Nat.le_of_ble_eq_true rfl) dX5_init_30 (fun h => cc_X9_init _ c _ q6 h) (fun f7 C => ?_)
  replace h0 := h0_at h0 (a := 8) (b := 355)
  replace hQ := hQ.trans (QC_bump (a := 8) (b := 355)).symm
  refine je_ast C (j := 1) (jv := 20) (i' := 2) (L' := [(a, 5, 0, rfE [(2, q1)], inE [], z64), (q1, 16, 12, rfE [(2, q6), (1, q4), (0, q2)], inE [], z64)] ++ o_X9_init q2 f3 ++ o_X9_init q4 f5 ++ o_X9_init q6 f7) rfl rfl (by decide) rfl rfl dX5_init_33 (fun C => ?_)
  refine j_iinc C.1 0 (v := 3) (lv' := [(1, .int 3), (0, .ref a)]) dX5_init_34 rfl rfl (by decide) rfl ?_
  refine j_goto C.1 (tgt := 15) dX5_init_37 (by decide) ?_
  refine j_iload_n C.1 0 dX5_init_15 rfl ?_
  refine j_bipush C.1 dX5_init_16 (v := 12) rfl ?_
  refine j_icmp_ge C.1 (tgt := 40) dX5_init_18 (by decide) (fun h => absurd h (by decide)) (fun _ => ?_)
  refine j_aload_n C.1 1 dX5_init_21 rfl ?_
  refine je_getR C fg_X5_11_5 (j := 0) rfl rfl dX5_init_22 ?_
  refine j_iload_n C.1 0 dX5_init_25 rfl ?_
  refine je_new C cn_X5_9 (hk_at h0 (a := 1) (b := 19) (Nat.le_of_ble_eq_true rfl) (Nat.le_of_ble_eq_true rfl)) dX5_init_26 (fun q8 _ C => ?_)
  replace h0 := h0_at h0 (a := 1) (b := 19)
  replace hQ := hQ.trans (QC_bump (a := 1) (b := 19)).symm
  refine j_dup C.1 dX5_init_29 rfl ?_
  refine je_callN (out := o_X9_init q8) (L := [(a, 5, 0, rfE [(2, q1)], inE [], z64), (q1, 16, 12, rfE [(2, q6), (1, q4), (0, q2)], inE [], z64)] ++ o_X9_init q2 f3 ++ o_X9_init q4 f5 ++ o_X9_init q6 f7) C rfl lin_X5_17 ⟨Nat.le_of_ble_eq_true rfl, Nat.le_of_ble_eq_true rfl⟩ (hk_at h0 (a := 8) (b := 355) (Nat.le_of_ble_eq_true rfl) (Nat.le_of_ble_eq_true rfl)) (As := []) rfl rfl (Nat.le_of_ble_eq_true rfl) dX5_init_30 (fun h => cc_X9_init _ c _ q8 h) (fun f9 C => ?_)
  replace h0 := h0_at h0 (a := 8) (b := 355)
  replace hQ := hQ.trans (QC_bump (a := 8) (b := 355)).symm
  refine je_ast C (j := 1) (jv := 29) (i' := 3) (L' := [(a, 5, 0, rfE [(2, q1)], inE [], z64), (q1, 16, 12, rfE [(3, q8), (2, q6), (1, q4), (0, q2)], inE [], z64)] ++ o_X9_init q2 f3 ++ o_X9_init q4 f5 ++ o_X9_init q6 f7 ++ o_X9_init q8 f9) rfl rfl (by decide) rfl rfl dX5_init_33 (fun C => ?_)
  refine j_iinc C.1 0 (v := 4) (lv' := [(1, .int 4), (0, .ref a)]) dX5_init_34 rfl rfl (by decide) rfl ?_
  refine j_goto C.1 (tgt := 15) dX5_init_37 (by decide) ?_
  refine j_iload_n C.1 0 dX5_init_15 rfl ?_
  refine j_bipush C.1 dX5_init_16 (v := 12) rfl ?_
  refine j_icmp_ge C.1 (tgt := 40) dX5_init_18 (by decide) (fun h => absurd h (by decide)) (fun _ => ?_)
  refine j_aload_n C.1 1 dX5_init_21 rfl ?_
  refine je_getR C fg_X5_11_5 (j := 0) rfl rfl dX5_init_22 ?_
  refine j_iload_n C.1 0 dX5_init_25 rfl ?_
  refine je_new C cn_X5_9 (hk_at h0 (a := 1) (b := 19) (Nat.le_of_ble_eq_true rfl) (Nat.le_of_ble_eq_true rfl)) dX5_init_26 (fun q10 _ C => ?_)
  replace h0 := h0_at h0 (a := 1) (b := 19)
  replace hQ := hQ.trans (QC_bump (a := 1) (b := 19)).symm
  refine j_dup C.1 dX5_init_29 rfl ?_
  refine je_callN (out := o_X9_init q10) (L := [(a, 5, 0, rfE [(2, q1)], inE [], z64), (q1, 16, 12, rfE [(3, q8), (2, q6), (1, q4), (0, q2)], inE [], z64)] ++ o_X9_init q2 f3 ++ o_X9_init q4 f5 ++ o_X9_init q6 f7 ++ o_X9_init q8 f9) C rfl lin_X5_17 ⟨Nat.le_of_ble_eq_true rfl, Nat.le_of_ble_eq_true rfl⟩ (hk_at h0 (a := 8) (b := 355) (Nat.le_of_ble_eq_true rfl) (Nat.le_of_ble_eq_true rfl)) (As := []) rfl rfl (Nat.le_of_ble_eq_true rfl) dX5_init_30 (fun h => cc_X9_init _ c _ q10 h) (fun f11 C => ?_)
  replace h0 := h0_at h0 (a := 8) (b := 355)
  replace hQ := hQ.trans (QC_bump (a := 8) (b := 355)).symm
  refine je_ast C (j := 1) (jv := 38) (i' := 4) (L' := [(a, 5, 0, rfE [(2, q1)], inE [], z64), (q1, 16, 12, rfE [(4, q10), (3, q8), (2, q6), (1, q4), (0, q2)], inE [], z64)] ++ o_X9_init q2 f3 ++ o_X9_init q4 f5 ++ o_X9_init q6 f7 ++ o_X9_init q8 f9 ++ o_X9_init q10 f11) rfl rfl (by decide) rfl rfl dX5_init_33 (fun C => ?_)
  refine j_iinc C.1 0 (v := 5) (lv' := [(1, .int 5), (0, .ref a)]) dX5_init_34 rfl rfl (by decide) rfl ?_
  refine j_goto C.1 (tgt := 15) dX5_init_37 (by decide) ?_
  refine j_iload_n C.1 0 dX5_init_15 rfl ?_
  refine j_bipush C.1 dX5_init_16 (v := 12) rfl ?_
  refine j_icmp_ge C.1 (tgt := 40) dX5_init_18 (by decide) (fun h => absurd h (by decide)) (fun _ => ?_)
  refine j_aload_n C.1 1 dX5_init_21 rfl ?_
  refine je_getR C fg_X5_11_5 (j := 0) rfl rfl dX5_init_22 ?_
  refine j_iload_n C.1 0 dX5_init_25 rfl ?_
  refine je_new C cn_X5_9 (hk_at h0 (a := 1) (b := 19) (Nat.le_of_ble_eq_true rfl) (Nat.le_of_ble_eq_true rfl)) dX5_init_26 (fun q12 _ C => ?_)
  replace h0 := h0_at h0 (a := 1) (b := 19)
  replace hQ := hQ.trans (QC_bump (a := 1) (b := 19)).symm
  refine j_dup C.1 dX5_init_29 rfl ?_
  refine je_callN (out := o_X9_init q12) (L := [(a, 5, 0, rfE [(2, q1)], inE [], z64), (q1, 16, 12, rfE [(4, q10), (3, q8), (2, q6), (1, q4), (0, q2)], inE [], z64)] ++ o_X9_init q2 f3 ++ o_X9_init q4 f5 ++ o_X9_init q6 f7 ++ o_X9_init q8 f9 ++ o_X9_init q10 f11) C rfl lin_X5_17 ⟨Nat.le_of_ble_eq_true rfl, Nat.le_of_ble_eq_true rfl⟩ (hk_at h0 (a := 8) (b := 355) (Nat.le_of_ble_eq_true rfl) (Nat.le_of_ble_eq_true rfl)) (As := []) rfl rfl (Nat.le_of_ble_eq_true rfl) dX5_init_30 (fun h => cc_X9_init _ c _ q12 h) (fun f13 C => ?_)
  replace h0 := h0_at h0 (a := 8) (b := 355)
  replace hQ := hQ.trans (QC_bump (a := 8) (b := 355)).symm
  refine je_ast C (j := 1) (jv := 47) (i' := 5) (L' := [(a, 5, 0, rfE [(2, q1)], inE [], z64), (q1, 16, 12, rfE [(5, q12), (4, q10), (3, q8), (2, q6), (1, q4), (0, q2)], inE [], z64)] ++ o_X9_init q2 f3 ++ o_X9_init q4 f5 ++ o_X9_init q6 f7 ++ o_X9_init q8 f9 ++ o_X9_init q10 f11 ++ o_X9_init q12 f13) rfl rfl (by decide) rfl rfl dX5_init_33 (fun C => ?_)
  refine j_iinc C.1 0 (v := 6) (lv' := [(1, .int 6), (0, .ref a)]) dX5_init_34 rfl rfl (by decide) rfl ?_
  refine j_goto C.1 (tgt := 15) dX5_init_37 (by decide) ?_
  refine j_iload_n C.1 0 dX5_init_15 rfl ?_
  refine j_bipush C.1 dX5_init_16 (v := 12) rfl ?_
  refine j_icmp_ge C.1 (tgt := 40) dX5_init_18 (by decide) (fun h => absurd h (by decide)) (fun _ => ?_)
  refine j_aload_n C.1 1 dX5_init_21 rfl ?_
  refine je_getR C fg_X5_11_5 (j := 0) rfl rfl dX5_init_22 ?_
  refine j_iload_n C.1 0 dX5_init_25 rfl ?_
  refine je_new C cn_X5_9 (hk_at h0 (a := 1) (b := 19) (Nat.le_of_ble_eq_true rfl) (Nat.le_of_ble_eq_true rfl)) dX5_init_26 (fun q14 _ C => ?_)
  replace h0 := h0_at h0 (a := 1) (b := 19)
  replace hQ := hQ.trans (QC_bump (a := 1) (b := 19)).symm
  refine j_dup C.1 dX5_init_29 rfl ?_
  refine je_callN (out := o_X9_init q14) (L := [(a, 5, 0, rfE [(2, q1)], inE [], z64), (q1, 16, 12, rfE [(5, q12), (4, q10), (3, q8), (2, q6), (1, q4), (0, q2)], inE [], z64)] ++ o_X9_init q2 f3 ++ o_X9_init q4 f5 ++ o_X9_init q6 f7 ++ o_X9_init q8 f9 ++ o_X9_init q10 f11 ++ o_X9_init q12 f13) C rfl lin_X5_17 ⟨Nat.le_of_ble_eq_true rfl, Nat.le_of_ble_eq_true rfl⟩ (hk_at h0 (a := 8) (b := 355) (Nat.le_of_ble_eq_true rfl) (Nat.le_of_ble_eq_true rfl)) (As := []) rfl rfl (Nat.le_of_ble_eq_true rfl) dX5_init_30 (fun h => cc_X9_init _ c _ q14 h) (fun f15 C => ?_)
  replace h0 := h0_at h0 (a := 8) (b := 355)
  replace hQ := hQ.trans (QC_bump (a := 8) (b := 355)).symm
  refine je_ast C (j := 1) (jv := 56) (i' := 6) (L' := [(a, 5, 0, rfE [(2, q1)], inE [], z64), (q1, 16, 12, rfE [(6, q14), (5, q12), (4, q10), (3, q8), (2, q6), (1, q4), (0, q2)], inE [], z64)] ++ o_X9_init q2 f3 ++ o_X9_init q4 f5 ++ o_X9_init q6 f7 ++ o_X9_init q8 f9 ++ o_X9_init q10 f11 ++ o_X9_init q12 f13 ++ o_X9_init q14 f15) rfl rfl (by decide) rfl rfl dX5_init_33 (fun C => ?_)
  refine j_iinc C.1 0 (v := 7) (lv' := [(1, .int 7), (0, .ref a)]) dX5_init_34 rfl rfl (by decide) rfl ?_
  refine j_goto C.1 (tgt := 15) dX5_init_37 (by decide) ?_
  refine j_iload_n C.1 0 dX5_init_15 rfl ?_
  refine j_bipush C.1 dX5_init_16 (v := 12) rfl ?_
  refine j_icmp_ge C.1 (tgt := 40) dX5_init_18 (by decide) (fun h => absurd h (by decide)) (fun _ => ?_)
  refine j_aload_n C.1 1 dX5_init_21 rfl ?_
  refine je_getR C fg_X5_11_5 (j := 0) rfl rfl dX5_init_22 ?_
  refine j_iload_n C.1 0 dX5_init_25 rfl ?_
  refine je_new C cn_X5_9 (hk_at h0 (a := 1) (b := 19) (Nat.le_of_ble_eq_true rfl) (Nat.le_of_ble_eq_true rfl)) dX5_init_26 (fun q16 _ C => ?_)
  replace h0 := h0_at h0 (a := 1) (b := 19)
  replace hQ := hQ.trans (QC_bump (a := 1) (b := 19)).symm
  refine j_dup C.1 dX5_init_29 rfl ?_
  refine je_callN (out := o_X9_init q16) (L := [(a, 5, 0, rfE [(2, q1)], inE [], z64), (q1, 16, 12, rfE [(6, q14), (5, q12), (4, q10), (3, q8), (2, q6), (1, q4), (0, q2)], inE [], z64)] ++ o_X9_init q2 f3 ++ o_X9_init q4 f5 ++ o_X9_init q6 f7 ++ o_X9_init q8 f9 ++ o_X9_init q10 f11 ++ o_X9_init q12 f13 ++ o_X9_init q14 f15) C rfl lin_X5_17 ⟨Nat.le_of_ble_eq_true rfl, Nat.le_of_ble_eq_true rfl⟩ (hk_at h0 (a := 8) (b := 355) (Nat.le_of_ble_eq_true rfl) (Nat.le_of_ble_eq_true rfl)) (As := []) rfl rfl (Nat.le_of_ble_eq_true rfl) dX5_init_30 (fun h => cc_X9_init _ c _ q16 h) (fun f17 C => ?_)
  replace h0 := h0_at h0 (a := 8) (b := 355)
  replace hQ := hQ.trans (QC_bump (a := 8) (b := 355)).symm
  refine je_ast C (j := 1) (jv := 65) (i' := 7) (L' := [(a, 5, 0, rfE [(2, q1)], inE [], z64), (q1, 16, 12, rfE [(7, q16), (6, q14), (5, q12), (4, q10), (3, q8), (2, q6), (1, q4), (0, q2)], inE [], z64)] ++ o_X9_init q2 f3 ++ o_X9_init q4 f5 ++ o_X9_init q6 f7 ++ o_X9_init q8 f9 ++ o_X9_init q10 f11 ++ o_X9_init q12 f13 ++ o_X9_init q14 f15 ++ o_X9_init q16 f17) rfl rfl (by decide) rfl rfl dX5_init_33 (fun C => ?_)
  refine j_iinc C.1 0 (v := 8) (lv' := [(1, .int 8), (0, .ref a)]) dX5_init_34 rfl rfl (by decide) rfl ?_
  refine j_goto C.1 (tgt := 15) dX5_init_37 (by decide) ?_
  refine j_iload_n C.1 0 dX5_init_15 rfl ?_
  refine j_bipush C.1 dX5_init_16 (v := 12) rfl ?_
  refine j_icmp_ge C.1 (tgt := 40) dX5_init_18 (by decide) (fun h => absurd h (by decide)) (fun _ => ?_)
  refine j_aload_n C.1 1 dX5_init_21 rfl ?_
  refine je_getR C fg_X5_11_5 (j := 0) rfl rfl dX5_init_22 ?_
  refine j_iload_n C.1 0 dX5_init_25 rfl ?_
  refine je_new C cn_X5_9 (hk_at h0 (a := 1) (b := 19) (Nat.le_of_ble_eq_true rfl) (Nat.le_of_ble_eq_true rfl)) dX5_init_26 (fun q18 _ C => ?_)
  replace h0 := h0_at h0 (a := 1) (b := 19)
  replace hQ := hQ.trans (QC_bump (a := 1) (b := 19)).symm
  refine j_dup C.1 dX5_init_29 rfl ?_
  refine je_callN (out := o_X9_init q18) (L := [(a, 5, 0, rfE [(2, q1)], inE [], z64), (q1, 16, 12, rfE [(7, q16), (6, q14), (5, q12), (4, q10), (3, q8), (2, q6), (1, q4), (0, q2)], inE [], z64)] ++ o_X9_init q2 f3 ++ o_X9_init q4 f5 ++ o_X9_init q6 f7 ++ o_X9_init q8 f9 ++ o_X9_init q10 f11 ++ o_X9_init q12 f13 ++ o_X9_init q14 f15 ++ o_X9_init q16 f17) C rfl lin_X5_17 ⟨Nat.le_of_ble_eq_true rfl, Nat.le_of_ble_eq_true rfl⟩ (hk_at h0 (a := 8) (b := 355) (Nat.le_of_ble_eq_true rfl) (Nat.le_of_ble_eq_true rfl)) (As := []) rfl rfl (Nat.le_of_ble_eq_true rfl) dX5_init_30 (fun h => cc_X9_init _ c _ q18 h) (fun f19 C => ?_)
  replace h0 := h0_at h0 (a := 8) (b := 355)
  replace hQ := hQ.trans (QC_bump (a := 8) (b := 355)).symm
  refine je_ast C (j := 1) (jv := 74) (i' := 8) (L' := [(a, 5, 0, rfE [(2, q1)], inE [], z64), (q1, 16, 12, rfE [(8, q18), (7, q16), (6, q14), (5, q12), (4, q10), (3, q8), (2, q6), (1, q4), (0, q2)], inE [], z64)] ++ o_X9_init q2 f3 ++ o_X9_init q4 f5 ++ o_X9_init q6 f7 ++ o_X9_init q8 f9 ++ o_X9_init q10 f11 ++ o_X9_init q12 f13 ++ o_X9_init q14 f15 ++ o_X9_init q16 f17 ++ o_X9_init q18 f19) rfl rfl (by decide) rfl rfl dX5_init_33 (fun C => ?_)
  refine j_iinc C.1 0 (v := 9) (lv' := [(1, .int 9), (0, .ref a)]) dX5_init_34 rfl rfl (by decide) rfl ?_
  refine j_goto C.1 (tgt := 15) dX5_init_37 (by decide) ?_
  refine j_iload_n C.1 0 dX5_init_15 rfl ?_
  refine j_bipush C.1 dX5_init_16 (v := 12) rfl ?_
  refine j_icmp_ge C.1 (tgt := 40) dX5_init_18 (by decide) (fun h => absurd h (by decide)) (fun _ => ?_)
  refine j_aload_n C.1 1 dX5_init_21 rfl ?_
  refine je_getR C fg_X5_11_5 (j := 0) rfl rfl dX5_init_22 ?_
  refine j_iload_n C.1 0 dX5_init_25 rfl ?_
  refine je_new C cn_X5_9 (hk_at h0 (a := 1) (b := 19) (Nat.le_of_ble_eq_true rfl) (Nat.le_of_ble_eq_true rfl)) dX5_init_26 (fun q20 _ C => ?_)
  replace h0 := h0_at h0 (a := 1) (b := 19)
  replace hQ := hQ.trans (QC_bump (a := 1) (b := 19)).symm
  refine j_dup C.1 dX5_init_29 rfl ?_
  refine je_callN (out := o_X9_init q20) (L := [(a, 5, 0, rfE [(2, q1)], inE [], z64), (q1, 16, 12, rfE [(8, q18), (7, q16), (6, q14), (5, q12), (4, q10), (3, q8), (2, q6), (1, q4), (0, q2)], inE [], z64)] ++ o_X9_init q2 f3 ++ o_X9_init q4 f5 ++ o_X9_init q6 f7 ++ o_X9_init q8 f9 ++ o_X9_init q10 f11 ++ o_X9_init q12 f13 ++ o_X9_init q14 f15 ++ o_X9_init q16 f17 ++ o_X9_init q18 f19) C rfl lin_X5_17 ⟨Nat.le_of_ble_eq_true rfl, Nat.le_of_ble_eq_true rfl⟩ (hk_at h0 (a := 8) (b := 355) (Nat.le_of_ble_eq_true rfl) (Nat.le_of_ble_eq_true rfl)) (As := []) rfl rfl (Nat.le_of_ble_eq_true rfl) dX5_init_30 (fun h => cc_X9_init _ c _ q20 h) (fun f21 C => ?_)
  replace h0 := h0_at h0 (a := 8) (b := 355)
  replace hQ := hQ.trans (QC_bump (a := 8) (b := 355)).symm
  refine je_ast C (j := 1) (jv := 83) (i' := 9) (L' := [(a, 5, 0, rfE [(2, q1)], inE [], z64), (q1, 16, 12, rfE [(9, q20), (8, q18), (7, q16), (6, q14), (5, q12), (4, q10), (3, q8), (2, q6), (1, q4), (0, q2)], inE [], z64)] ++ o_X9_init q2 f3 ++ o_X9_init q4 f5 ++ o_X9_init q6 f7 ++ o_X9_init q8 f9 ++ o_X9_init q10 f11 ++ o_X9_init q12 f13 ++ o_X9_init q14 f15 ++ o_X9_init q16 f17 ++ o_X9_init q18 f19 ++ o_X9_init q20 f21) rfl rfl (by decide) rfl rfl dX5_init_33 (fun C => ?_)
  refine j_iinc C.1 0 (v := 10) (lv' := [(1, .int 10), (0, .ref a)]) dX5_init_34 rfl rfl (by decide) rfl ?_
  refine j_goto C.1 (tgt := 15) dX5_init_37 (by decide) ?_
  refine j_iload_n C.1 0 dX5_init_15 rfl ?_
  refine j_bipush C.1 dX5_init_16 (v := 12) rfl ?_
  refine j_icmp_ge C.1 (tgt := 40) dX5_init_18 (by decide) (fun h => absurd h (by decide)) (fun _ => ?_)
  refine j_aload_n C.1 1 dX5_init_21 rfl ?_
  refine je_getR C fg_X5_11_5 (j := 0) rfl rfl dX5_init_22 ?_
  refine j_iload_n C.1 0 dX5_init_25 rfl ?_
  refine je_new C cn_X5_9 (hk_at h0 (a := 1) (b := 19) (Nat.le_of_ble_eq_true rfl) (Nat.le_of_ble_eq_true rfl)) dX5_init_26 (fun q22 _ C => ?_)
  replace h0 := h0_at h0 (a := 1) (b := 19)
  replace hQ := hQ.trans (QC_bump (a := 1) (b := 19)).symm
  refine j_dup C.1 dX5_init_29 rfl ?_
  refine je_callN (out := o_X9_init q22) (L := [(a, 5, 0, rfE [(2, q1)], inE [], z64), (q1, 16, 12, rfE [(9, q20), (8, q18), (7, q16), (6, q14), (5, q12), (4, q10), (3, q8), (2, q6), (1, q4), (0, q2)], inE [], z64)] ++ o_X9_init q2 f3 ++ o_X9_init q4 f5 ++ o_X9_init q6 f7 ++ o_X9_init q8 f9 ++ o_X9_init q10 f11 ++ o_X9_init q12 f13 ++ o_X9_init q14 f15 ++ o_X9_init q16 f17 ++ o_X9_init q18 f19 ++ o_X9_init q20 f21) C rfl lin_X5_17 ⟨Nat.le_of_ble_eq_true rfl, Nat.le_of_ble_eq_true rfl⟩ (hk_at h0 (a := 8) (b := 355) (Nat.le_of_ble_eq_true rfl) (Nat.le_of_ble_eq_true rfl)) (As := []) rfl rfl (Nat.le_of_ble_eq_true rfl) dX5_init_30 (fun h => cc_X9_init _ c _ q22 h) (fun f23 C => ?_)
  replace h0 := h0_at h0 (a := 8) (b := 355)
  replace hQ := hQ.trans (QC_bump (a := 8) (b := 355)).symm
  refine je_ast C (j := 1) (jv := 92) (i' := 10) (L' := [(a, 5, 0, rfE [(2, q1)], inE [], z64), (q1, 16, 12, rfE [(10, q22), (9, q20), (8, q18), (7, q16), (6, q14), (5, q12), (4, q10), (3, q8), (2, q6), (1, q4), (0, q2)], inE [], z64)] ++ o_X9_init q2 f3 ++ o_X9_init q4 f5 ++ o_X9_init q6 f7 ++ o_X9_init q8 f9 ++ o_X9_init q10 f11 ++ o_X9_init q12 f13 ++ o_X9_init q14 f15 ++ o_X9_init q16 f17 ++ o_X9_init q18 f19 ++ o_X9_init q20 f21 ++ o_X9_init q22 f23) rfl rfl (by decide) rfl rfl dX5_init_33 (fun C => ?_)
  refine j_iinc C.1 0 (v := 11) (lv' := [(1, .int 11), (0, .ref a)]) dX5_init_34 rfl rfl (by decide) rfl ?_
  refine j_goto C.1 (tgt := 15) dX5_init_37 (by decide) ?_
  refine j_iload_n C.1 0 dX5_init_15 rfl ?_
  refine j_bipush C.1 dX5_init_16 (v := 12) rfl ?_
  refine j_icmp_ge C.1 (tgt := 40) dX5_init_18 (by decide) (fun h => absurd h (by decide)) (fun _ => ?_)
  refine j_aload_n C.1 1 dX5_init_21 rfl ?_
  refine je_getR C fg_X5_11_5 (j := 0) rfl rfl dX5_init_22 ?_
  refine j_iload_n C.1 0 dX5_init_25 rfl ?_
  refine je_new C cn_X5_9 (hk_at h0 (a := 1) (b := 19) (Nat.le_of_ble_eq_true rfl) (Nat.le_of_ble_eq_true rfl)) dX5_init_26 (fun q24 _ C => ?_)
  replace h0 := h0_at h0 (a := 1) (b := 19)
  replace hQ := hQ.trans (QC_bump (a := 1) (b := 19)).symm
  refine j_dup C.1 dX5_init_29 rfl ?_
  refine je_callN (out := o_X9_init q24) (L := [(a, 5, 0, rfE [(2, q1)], inE [], z64), (q1, 16, 12, rfE [(10, q22), (9, q20), (8, q18), (7, q16), (6, q14), (5, q12), (4, q10), (3, q8), (2, q6), (1, q4), (0, q2)], inE [], z64)] ++ o_X9_init q2 f3 ++ o_X9_init q4 f5 ++ o_X9_init q6 f7 ++ o_X9_init q8 f9 ++ o_X9_init q10 f11 ++ o_X9_init q12 f13 ++ o_X9_init q14 f15 ++ o_X9_init q16 f17 ++ o_X9_init q18 f19 ++ o_X9_init q20 f21 ++ o_X9_init q22 f23) C rfl lin_X5_17 ⟨Nat.le_of_ble_eq_true rfl, Nat.le_of_ble_eq_true rfl⟩ (hk_at h0 (a := 8) (b := 355) (Nat.le_of_ble_eq_true rfl) (Nat.le_of_ble_eq_true rfl)) (As := []) rfl rfl (Nat.le_of_ble_eq_true rfl) dX5_init_30 (fun h => cc_X9_init _ c _ q24 h) (fun f25 C => ?_)
  replace h0 := h0_at h0 (a := 8) (b := 355)
  replace hQ := hQ.trans (QC_bump (a := 8) (b := 355)).symm
  refine je_ast C (j := 1) (jv := 101) (i' := 11) (L' := [(a, 5, 0, rfE [(2, q1)], inE [], z64), (q1, 16, 12, rfE [(11, q24), (10, q22), (9, q20), (8, q18), (7, q16), (6, q14), (5, q12), (4, q10), (3, q8), (2, q6), (1, q4), (0, q2)], inE [], z64)] ++ o_X9_init q2 f3 ++ o_X9_init q4 f5 ++ o_X9_init q6 f7 ++ o_X9_init q8 f9 ++ o_X9_init q10 f11 ++ o_X9_init q12 f13 ++ o_X9_init q14 f15 ++ o_X9_init q16 f17 ++ o_X9_init q18 f19 ++ o_X9_init q20 f21 ++ o_X9_init q22 f23 ++ o_X9_init q24 f25) rfl rfl (by decide) rfl rfl dX5_init_33 (fun C => ?_)
  refine j_iinc C.1 0 (v := 12) (lv' := [(1, .int 12), (0, .ref a)]) dX5_init_34 rfl rfl (by decide) rfl ?_
  refine j_goto C.1 (tgt := 15) dX5_init_37 (by decide) ?_
  refine j_iload_n C.1 0 dX5_init_15 rfl ?_
  refine j_bipush C.1 dX5_init_16 (v := 12) rfl ?_
  refine j_icmp_ge C.1 (tgt := 40) dX5_init_18 (by decide) (fun _ => ?_) (fun h => absurd (by decide) h)
  exact je_ret C hQ ((q1, fun i => ([q2, q4, q6, q8, q10, q12, q14, q16, q18, q20, q22, q24] : List Nat).getD i 0, fun i => ([f3, f5, f7, f9, f11, f13, f15, f17, f19, f21, f23, f25] : List (Nat → Nat)).getD i (fun _ => 0))) rfl dX5_init_40

abbrev rmc_X12_init : Room := { frames := 1, cells := 18, slots := 22540, locals := 20 }
def o_X12_init (a : Nat) (q : Nat → Nat) : List En := [(a, 11, 0, rfE [(27, (q 17)), (26, (q 16)), (25, (q 15)), (24, (q 14)), (23, (q 13)), (22, (q 12)), (21, (q 11)), (20, (q 10)), (19, (q 9)), (18, (q 8)), (17, (q 7)), (15, (q 6)), (8, (q 5)), (5, (q 4)), (4, (q 3)), (3, (q 2)), (2, (q 1)), (1, (q 0))], inE [(14, (-1))], z64), ((q 0), 13, 2071, rfE [], inE [(24, 10), (23, 10), (22, 10), (21, 10), (20, 10), (19, 10), (18, 10), (17, 10), (16, 10), (15, 10), (14, 10), (13, 10), (6, 3), (5, 2), (4, 1), (3, 10), (12, 1)], z64), ((q 1), 13, 1222, rfE [], inE [], z64), ((q 2), 13, 1222, rfE [], inE [], z64), ((q 3), 13, 373, rfE [], inE [], z64), ((q 4), 13, 4476, rfE [], inE [], z64), ((q 5), 12, 400, rfE [], inE [], z64), ((q 6), 13, 5, rfE [], inE [], z64), ((q 7), 13, 400, rfE [], inE [], z64), ((q 8), 13, 8, rfE [], inE [], z64), ((q 9), 13, 24, rfE [], inE [], z64), ((q 10), 13, 8, rfE [], inE [], z64), ((q 11), 13, 256, rfE [], inE [], z64), ((q 12), 15, 11532, rfE [], inE [], z64), ((q 13), 13, 31, rfE [], inE [], z64), ((q 14), 13, 25, rfE [], inE [], z64), ((q 15), 13, 225, rfE [], inE [], z64), ((q 16), 13, 256, rfE [], inE [], z64), ((q 17), 14, 6, rfE [], inE [], z64)]
set_option maxRecDepth 20000 in
set_option maxHeartbeats 8000000 in
theorem cc_X12_init (l : Launch) (c : Lay) (E0 : List En) (a : Nat) (hn : (adr (E0 ++ [nw a 11 0])).Nodup) : MCE l yX12_init cX12_init 2 rmc_X12_init c E0 a 11 [] (o_X12_init a) := by
  refine mce_of hn rfl rfl (Nat.le_of_ble_eq_true rfl) (fun x C hlx hin h0 Q hQ => ?_)
  refine j_aload_n C.1 0 dX12_init_0 rfl ?_
  refine jc_obj C.1 wk_1545 wk_37 wk_o ⟨Nat.le_of_ble_eq_true rfl, Nat.le_of_ble_eq_true rfl⟩ (Nat.le_of_ble_eq_true rfl) dX12_init_1 ?_
  refine j_aload_n C.1 0 dX12_init_4 rfl ?_
  refine j_sipush C.1 dX12_init_5 (v := 2071) rfl ?_
  refine je_newI (n := 2071) C ⟨by decide, rfl, Nat.le_of_ble_eq_true rfl⟩ (hk_at h0 (a := 1) (b := 2071) (Nat.le_of_ble_eq_true rfl) (Nat.le_of_ble_eq_true rfl)) wk_81 dX12_init_8 (fun q1 _ C => ?_)
  replace h0 := h0_at h0 (a := 1) (b := 2071)
  replace hQ := hQ.trans (QC_bump (a := 1) (b := 2071)).symm
  refine je_putR C hin fr_X12_13_11 (j := 0) (L' := [(a, 11, 0, rfE [(1, q1)], inE [], z64), (q1, 13, 2071, rfE [], inE [], z64)]) rfl rfl dX12_init_10 (fun C => ?_)
  refine j_aload_n C.1 0 dX12_init_13 rfl ?_
  refine j_sipush C.1 dX12_init_14 (v := 1222) rfl ?_
  refine je_newI (n := 1222) C ⟨by decide, rfl, Nat.le_of_ble_eq_true rfl⟩ (hk_at h0 (a := 1) (b := 1222) (Nat.le_of_ble_eq_true rfl) (Nat.le_of_ble_eq_true rfl)) wk_81 dX12_init_17 (fun q2 _ C => ?_)
  replace h0 := h0_at h0 (a := 1) (b := 1222)
  replace hQ := hQ.trans (QC_bump (a := 1) (b := 1222)).symm
  refine je_putR C hin fr_X12_17_11 (j := 0) (L' := [(a, 11, 0, rfE [(2, q2), (1, q1)], inE [], z64), (q1, 13, 2071, rfE [], inE [], z64), (q2, 13, 1222, rfE [], inE [], z64)]) rfl rfl dX12_init_19 (fun C => ?_)
  refine j_aload_n C.1 0 dX12_init_22 rfl ?_
  refine j_sipush C.1 dX12_init_23 (v := 1222) rfl ?_
  refine je_newI (n := 1222) C ⟨by decide, rfl, Nat.le_of_ble_eq_true rfl⟩ (hk_at h0 (a := 1) (b := 1222) (Nat.le_of_ble_eq_true rfl) (Nat.le_of_ble_eq_true rfl)) wk_81 dX12_init_26 (fun q3 _ C => ?_)
  replace h0 := h0_at h0 (a := 1) (b := 1222)
  replace hQ := hQ.trans (QC_bump (a := 1) (b := 1222)).symm
  refine je_putR C hin fr_X12_20_11 (j := 0) (L' := [(a, 11, 0, rfE [(3, q3), (2, q2), (1, q1)], inE [], z64), (q1, 13, 2071, rfE [], inE [], z64), (q2, 13, 1222, rfE [], inE [], z64), (q3, 13, 1222, rfE [], inE [], z64)]) rfl rfl dX12_init_28 (fun C => ?_)
  refine j_aload_n C.1 0 dX12_init_31 rfl ?_
  refine j_sipush C.1 dX12_init_32 (v := 373) rfl ?_
  refine je_newI (n := 373) C ⟨by decide, rfl, Nat.le_of_ble_eq_true rfl⟩ (hk_at h0 (a := 1) (b := 373) (Nat.le_of_ble_eq_true rfl) (Nat.le_of_ble_eq_true rfl)) wk_81 dX12_init_35 (fun q4 _ C => ?_)
  replace h0 := h0_at h0 (a := 1) (b := 373)
  replace hQ := hQ.trans (QC_bump (a := 1) (b := 373)).symm
  refine je_putR C hin fr_X12_23_11 (j := 0) (L' := [(a, 11, 0, rfE [(4, q4), (3, q3), (2, q2), (1, q1)], inE [], z64), (q1, 13, 2071, rfE [], inE [], z64), (q2, 13, 1222, rfE [], inE [], z64), (q3, 13, 1222, rfE [], inE [], z64), (q4, 13, 373, rfE [], inE [], z64)]) rfl rfl dX12_init_37 (fun C => ?_)
  refine j_aload_n C.1 0 dX12_init_40 rfl ?_
  refine j_sipush C.1 dX12_init_41 (v := 4476) rfl ?_
  refine je_newI (n := 4476) C ⟨by decide, rfl, Nat.le_of_ble_eq_true rfl⟩ (hk_at h0 (a := 1) (b := 4476) (Nat.le_of_ble_eq_true rfl) (Nat.le_of_ble_eq_true rfl)) wk_81 dX12_init_44 (fun q5 _ C => ?_)
  replace h0 := h0_at h0 (a := 1) (b := 4476)
  replace hQ := hQ.trans (QC_bump (a := 1) (b := 4476)).symm
  refine je_putR C hin fr_X12_26_11 (j := 0) (L' := [(a, 11, 0, rfE [(5, q5), (4, q4), (3, q3), (2, q2), (1, q1)], inE [], z64), (q1, 13, 2071, rfE [], inE [], z64), (q2, 13, 1222, rfE [], inE [], z64), (q3, 13, 1222, rfE [], inE [], z64), (q4, 13, 373, rfE [], inE [], z64), (q5, 13, 4476, rfE [], inE [], z64)]) rfl rfl dX12_init_46 (fun C => ?_)
  refine j_aload_n C.1 0 dX12_init_49 rfl ?_
  refine j_sipush C.1 dX12_init_50 (v := 400) rfl ?_
  refine je_newB (n := 400) C ⟨by decide, rfl, Nat.le_of_ble_eq_true rfl⟩ (hk_at h0 (a := 1) (b := 400) (Nat.le_of_ble_eq_true rfl) (Nat.le_of_ble_eq_true rfl)) wk_57 dX12_init_53 (fun q6 _ C => ?_)
  replace h0 := h0_at h0 (a := 1) (b := 400)
  replace hQ := hQ.trans (QC_bump (a := 1) (b := 400)).symm
  refine je_putR C hin fr_X12_29_11 (j := 0) (L' := [(a, 11, 0, rfE [(8, q6), (5, q5), (4, q4), (3, q3), (2, q2), (1, q1)], inE [], z64), (q1, 13, 2071, rfE [], inE [], z64), (q2, 13, 1222, rfE [], inE [], z64), (q3, 13, 1222, rfE [], inE [], z64), (q4, 13, 373, rfE [], inE [], z64), (q5, 13, 4476, rfE [], inE [], z64), (q6, 12, 400, rfE [], inE [], z64)]) rfl rfl dX12_init_55 (fun C => ?_)
  refine j_aload_n C.1 0 dX12_init_58 rfl ?_
  refine j_iconst C.1 dX12_init_59 (v := (-1)) rfl ?_
  refine je_putI C fpc_X12_33_11 (j := 0) (L' := [(a, 11, 0, rfE [(8, q6), (5, q5), (4, q4), (3, q3), (2, q2), (1, q1)], inE [(14, (-1))], z64), (q1, 13, 2071, rfE [], inE [], z64), (q2, 13, 1222, rfE [], inE [], z64), (q3, 13, 1222, rfE [], inE [], z64), (q4, 13, 373, rfE [], inE [], z64), (q5, 13, 4476, rfE [], inE [], z64), (q6, 12, 400, rfE [], inE [], z64)]) rfl rfl dX12_init_60 (fun C => ?_)
  refine j_aload_n C.1 0 dX12_init_63 rfl ?_
  refine j_iconst C.1 dX12_init_64 (v := 5) rfl ?_
  refine je_newI (n := 5) C ⟨by decide, rfl, Nat.le_of_ble_eq_true rfl⟩ (hk_at h0 (a := 1) (b := 5) (Nat.le_of_ble_eq_true rfl) (Nat.le_of_ble_eq_true rfl)) wk_81 dX12_init_65 (fun q7 _ C => ?_)
  replace h0 := h0_at h0 (a := 1) (b := 5)
  replace hQ := hQ.trans (QC_bump (a := 1) (b := 5)).symm
  refine je_putR C hin fr_X12_36_11 (j := 0) (L' := [(a, 11, 0, rfE [(15, q7), (8, q6), (5, q5), (4, q4), (3, q3), (2, q2), (1, q1)], inE [(14, (-1))], z64), (q1, 13, 2071, rfE [], inE [], z64), (q2, 13, 1222, rfE [], inE [], z64), (q3, 13, 1222, rfE [], inE [], z64), (q4, 13, 373, rfE [], inE [], z64), (q5, 13, 4476, rfE [], inE [], z64), (q6, 12, 400, rfE [], inE [], z64), (q7, 13, 5, rfE [], inE [], z64)]) rfl rfl dX12_init_67 (fun C => ?_)
  refine j_aload_n C.1 0 dX12_init_70 rfl ?_
  refine j_sipush C.1 dX12_init_71 (v := 400) rfl ?_
  refine je_newI (n := 400) C ⟨by decide, rfl, Nat.le_of_ble_eq_true rfl⟩ (hk_at h0 (a := 1) (b := 400) (Nat.le_of_ble_eq_true rfl) (Nat.le_of_ble_eq_true rfl)) wk_81 dX12_init_74 (fun q8 _ C => ?_)
  replace h0 := h0_at h0 (a := 1) (b := 400)
  replace hQ := hQ.trans (QC_bump (a := 1) (b := 400)).symm
  refine je_putR C hin fr_X12_39_11 (j := 0) (L' := [(a, 11, 0, rfE [(17, q8), (15, q7), (8, q6), (5, q5), (4, q4), (3, q3), (2, q2), (1, q1)], inE [(14, (-1))], z64), (q1, 13, 2071, rfE [], inE [], z64), (q2, 13, 1222, rfE [], inE [], z64), (q3, 13, 1222, rfE [], inE [], z64), (q4, 13, 373, rfE [], inE [], z64), (q5, 13, 4476, rfE [], inE [], z64), (q6, 12, 400, rfE [], inE [], z64), (q7, 13, 5, rfE [], inE [], z64), (q8, 13, 400, rfE [], inE [], z64)]) rfl rfl dX12_init_76 (fun C => ?_)
  refine j_aload_n C.1 0 dX12_init_79 rfl ?_
  refine j_bipush C.1 dX12_init_80 (v := 8) rfl ?_
  refine je_newI (n := 8) C ⟨by decide, rfl, Nat.le_of_ble_eq_true rfl⟩ (hk_at h0 (a := 1) (b := 8) (Nat.le_of_ble_eq_true rfl) (Nat.le_of_ble_eq_true rfl)) wk_81 dX12_init_82 (fun q9 _ C => ?_)
  replace h0 := h0_at h0 (a := 1) (b := 8)
  replace hQ := hQ.trans (QC_bump (a := 1) (b := 8)).symm
  refine je_putR C hin fr_X12_42_11 (j := 0) (L' := [(a, 11, 0, rfE [(18, q9), (17, q8), (15, q7), (8, q6), (5, q5), (4, q4), (3, q3), (2, q2), (1, q1)], inE [(14, (-1))], z64), (q1, 13, 2071, rfE [], inE [], z64), (q2, 13, 1222, rfE [], inE [], z64), (q3, 13, 1222, rfE [], inE [], z64), (q4, 13, 373, rfE [], inE [], z64), (q5, 13, 4476, rfE [], inE [], z64), (q6, 12, 400, rfE [], inE [], z64), (q7, 13, 5, rfE [], inE [], z64), (q8, 13, 400, rfE [], inE [], z64), (q9, 13, 8, rfE [], inE [], z64)]) rfl rfl dX12_init_84 (fun C => ?_)
  refine j_aload_n C.1 0 dX12_init_87 rfl ?_
  refine j_bipush C.1 dX12_init_88 (v := 24) rfl ?_
  refine je_newI (n := 24) C ⟨by decide, rfl, Nat.le_of_ble_eq_true rfl⟩ (hk_at h0 (a := 1) (b := 24) (Nat.le_of_ble_eq_true rfl) (Nat.le_of_ble_eq_true rfl)) wk_81 dX12_init_90 (fun q10 _ C => ?_)
  replace h0 := h0_at h0 (a := 1) (b := 24)
  replace hQ := hQ.trans (QC_bump (a := 1) (b := 24)).symm
  refine je_putR C hin fr_X12_45_11 (j := 0) (L' := [(a, 11, 0, rfE [(19, q10), (18, q9), (17, q8), (15, q7), (8, q6), (5, q5), (4, q4), (3, q3), (2, q2), (1, q1)], inE [(14, (-1))], z64), (q1, 13, 2071, rfE [], inE [], z64), (q2, 13, 1222, rfE [], inE [], z64), (q3, 13, 1222, rfE [], inE [], z64), (q4, 13, 373, rfE [], inE [], z64), (q5, 13, 4476, rfE [], inE [], z64), (q6, 12, 400, rfE [], inE [], z64), (q7, 13, 5, rfE [], inE [], z64), (q8, 13, 400, rfE [], inE [], z64), (q9, 13, 8, rfE [], inE [], z64), (q10, 13, 24, rfE [], inE [], z64)]) rfl rfl dX12_init_92 (fun C => ?_)
  refine j_aload_n C.1 0 dX12_init_95 rfl ?_
  refine j_bipush C.1 dX12_init_96 (v := 8) rfl ?_
  refine je_newI (n := 8) C ⟨by decide, rfl, Nat.le_of_ble_eq_true rfl⟩ (hk_at h0 (a := 1) (b := 8) (Nat.le_of_ble_eq_true rfl) (Nat.le_of_ble_eq_true rfl)) wk_81 dX12_init_98 (fun q11 _ C => ?_)
  replace h0 := h0_at h0 (a := 1) (b := 8)
  replace hQ := hQ.trans (QC_bump (a := 1) (b := 8)).symm
  refine je_putR C hin fr_X12_48_11 (j := 0) (L' := [(a, 11, 0, rfE [(20, q11), (19, q10), (18, q9), (17, q8), (15, q7), (8, q6), (5, q5), (4, q4), (3, q3), (2, q2), (1, q1)], inE [(14, (-1))], z64), (q1, 13, 2071, rfE [], inE [], z64), (q2, 13, 1222, rfE [], inE [], z64), (q3, 13, 1222, rfE [], inE [], z64), (q4, 13, 373, rfE [], inE [], z64), (q5, 13, 4476, rfE [], inE [], z64), (q6, 12, 400, rfE [], inE [], z64), (q7, 13, 5, rfE [], inE [], z64), (q8, 13, 400, rfE [], inE [], z64), (q9, 13, 8, rfE [], inE [], z64), (q10, 13, 24, rfE [], inE [], z64), (q11, 13, 8, rfE [], inE [], z64)]) rfl rfl dX12_init_100 (fun C => ?_)
  refine j_aload_n C.1 0 dX12_init_103 rfl ?_
  refine j_sipush C.1 dX12_init_104 (v := 256) rfl ?_
  refine je_newI (n := 256) C ⟨by decide, rfl, Nat.le_of_ble_eq_true rfl⟩ (hk_at h0 (a := 1) (b := 256) (Nat.le_of_ble_eq_true rfl) (Nat.le_of_ble_eq_true rfl)) wk_81 dX12_init_107 (fun q12 _ C => ?_)
  replace h0 := h0_at h0 (a := 1) (b := 256)
  replace hQ := hQ.trans (QC_bump (a := 1) (b := 256)).symm
  refine je_putR C hin fr_X12_51_11 (j := 0) (L' := [(a, 11, 0, rfE [(21, q12), (20, q11), (19, q10), (18, q9), (17, q8), (15, q7), (8, q6), (5, q5), (4, q4), (3, q3), (2, q2), (1, q1)], inE [(14, (-1))], z64), (q1, 13, 2071, rfE [], inE [], z64), (q2, 13, 1222, rfE [], inE [], z64), (q3, 13, 1222, rfE [], inE [], z64), (q4, 13, 373, rfE [], inE [], z64), (q5, 13, 4476, rfE [], inE [], z64), (q6, 12, 400, rfE [], inE [], z64), (q7, 13, 5, rfE [], inE [], z64), (q8, 13, 400, rfE [], inE [], z64), (q9, 13, 8, rfE [], inE [], z64), (q10, 13, 24, rfE [], inE [], z64), (q11, 13, 8, rfE [], inE [], z64), (q12, 13, 256, rfE [], inE [], z64)]) rfl rfl dX12_init_109 (fun C => ?_)
  refine j_aload_n C.1 0 dX12_init_112 rfl ?_
  refine j_sipush C.1 dX12_init_113 (v := 11532) rfl ?_
  refine je_newZ (n := 11532) C ⟨by decide, rfl, Nat.le_of_ble_eq_true rfl⟩ (hk_at h0 (a := 1) (b := 11532) (Nat.le_of_ble_eq_true rfl) (Nat.le_of_ble_eq_true rfl)) wk_351 dX12_init_116 (fun q13 _ C => ?_)
  replace h0 := h0_at h0 (a := 1) (b := 11532)
  replace hQ := hQ.trans (QC_bump (a := 1) (b := 11532)).symm
  refine je_putR C hin fr_X12_54_11 (j := 0) (L' := [(a, 11, 0, rfE [(22, q13), (21, q12), (20, q11), (19, q10), (18, q9), (17, q8), (15, q7), (8, q6), (5, q5), (4, q4), (3, q3), (2, q2), (1, q1)], inE [(14, (-1))], z64), (q1, 13, 2071, rfE [], inE [], z64), (q2, 13, 1222, rfE [], inE [], z64), (q3, 13, 1222, rfE [], inE [], z64), (q4, 13, 373, rfE [], inE [], z64), (q5, 13, 4476, rfE [], inE [], z64), (q6, 12, 400, rfE [], inE [], z64), (q7, 13, 5, rfE [], inE [], z64), (q8, 13, 400, rfE [], inE [], z64), (q9, 13, 8, rfE [], inE [], z64), (q10, 13, 24, rfE [], inE [], z64), (q11, 13, 8, rfE [], inE [], z64), (q12, 13, 256, rfE [], inE [], z64), (q13, 15, 11532, rfE [], inE [], z64)]) rfl rfl dX12_init_118 (fun C => ?_)
  refine j_aload_n C.1 0 dX12_init_121 rfl ?_
  refine j_bipush C.1 dX12_init_122 (v := 31) rfl ?_
  refine je_newI (n := 31) C ⟨by decide, rfl, Nat.le_of_ble_eq_true rfl⟩ (hk_at h0 (a := 1) (b := 31) (Nat.le_of_ble_eq_true rfl) (Nat.le_of_ble_eq_true rfl)) wk_81 dX12_init_124 (fun q14 _ C => ?_)
  replace h0 := h0_at h0 (a := 1) (b := 31)
  replace hQ := hQ.trans (QC_bump (a := 1) (b := 31)).symm
  refine je_putR C hin fr_X12_58_11 (j := 0) (L' := [(a, 11, 0, rfE [(23, q14), (22, q13), (21, q12), (20, q11), (19, q10), (18, q9), (17, q8), (15, q7), (8, q6), (5, q5), (4, q4), (3, q3), (2, q2), (1, q1)], inE [(14, (-1))], z64), (q1, 13, 2071, rfE [], inE [], z64), (q2, 13, 1222, rfE [], inE [], z64), (q3, 13, 1222, rfE [], inE [], z64), (q4, 13, 373, rfE [], inE [], z64), (q5, 13, 4476, rfE [], inE [], z64), (q6, 12, 400, rfE [], inE [], z64), (q7, 13, 5, rfE [], inE [], z64), (q8, 13, 400, rfE [], inE [], z64), (q9, 13, 8, rfE [], inE [], z64), (q10, 13, 24, rfE [], inE [], z64), (q11, 13, 8, rfE [], inE [], z64), (q12, 13, 256, rfE [], inE [], z64), (q13, 15, 11532, rfE [], inE [], z64), (q14, 13, 31, rfE [], inE [], z64)]) rfl rfl dX12_init_126 (fun C => ?_)
  refine j_aload_n C.1 0 dX12_init_129 rfl ?_
  refine j_bipush C.1 dX12_init_130 (v := 25) rfl ?_
  refine je_newI (n := 25) C ⟨by decide, rfl, Nat.le_of_ble_eq_true rfl⟩ (hk_at h0 (a := 1) (b := 25) (Nat.le_of_ble_eq_true rfl) (Nat.le_of_ble_eq_true rfl)) wk_81 dX12_init_132 (fun q15 _ C => ?_)
  replace h0 := h0_at h0 (a := 1) (b := 25)
  replace hQ := hQ.trans (QC_bump (a := 1) (b := 25)).symm
  refine je_putR C hin fr_X12_61_11 (j := 0) (L' := [(a, 11, 0, rfE [(24, q15), (23, q14), (22, q13), (21, q12), (20, q11), (19, q10), (18, q9), (17, q8), (15, q7), (8, q6), (5, q5), (4, q4), (3, q3), (2, q2), (1, q1)], inE [(14, (-1))], z64), (q1, 13, 2071, rfE [], inE [], z64), (q2, 13, 1222, rfE [], inE [], z64), (q3, 13, 1222, rfE [], inE [], z64), (q4, 13, 373, rfE [], inE [], z64), (q5, 13, 4476, rfE [], inE [], z64), (q6, 12, 400, rfE [], inE [], z64), (q7, 13, 5, rfE [], inE [], z64), (q8, 13, 400, rfE [], inE [], z64), (q9, 13, 8, rfE [], inE [], z64), (q10, 13, 24, rfE [], inE [], z64), (q11, 13, 8, rfE [], inE [], z64), (q12, 13, 256, rfE [], inE [], z64), (q13, 15, 11532, rfE [], inE [], z64), (q14, 13, 31, rfE [], inE [], z64), (q15, 13, 25, rfE [], inE [], z64)]) rfl rfl dX12_init_134 (fun C => ?_)
  refine j_aload_n C.1 0 dX12_init_137 rfl ?_
  refine j_sipush C.1 dX12_init_138 (v := 225) rfl ?_
  refine je_newI (n := 225) C ⟨by decide, rfl, Nat.le_of_ble_eq_true rfl⟩ (hk_at h0 (a := 1) (b := 225) (Nat.le_of_ble_eq_true rfl) (Nat.le_of_ble_eq_true rfl)) wk_81 dX12_init_141 (fun q16 _ C => ?_)
  replace h0 := h0_at h0 (a := 1) (b := 225)
  replace hQ := hQ.trans (QC_bump (a := 1) (b := 225)).symm
  refine je_putR C hin fr_X12_64_11 (j := 0) (L' := [(a, 11, 0, rfE [(25, q16), (24, q15), (23, q14), (22, q13), (21, q12), (20, q11), (19, q10), (18, q9), (17, q8), (15, q7), (8, q6), (5, q5), (4, q4), (3, q3), (2, q2), (1, q1)], inE [(14, (-1))], z64), (q1, 13, 2071, rfE [], inE [], z64), (q2, 13, 1222, rfE [], inE [], z64), (q3, 13, 1222, rfE [], inE [], z64), (q4, 13, 373, rfE [], inE [], z64), (q5, 13, 4476, rfE [], inE [], z64), (q6, 12, 400, rfE [], inE [], z64), (q7, 13, 5, rfE [], inE [], z64), (q8, 13, 400, rfE [], inE [], z64), (q9, 13, 8, rfE [], inE [], z64), (q10, 13, 24, rfE [], inE [], z64), (q11, 13, 8, rfE [], inE [], z64), (q12, 13, 256, rfE [], inE [], z64), (q13, 15, 11532, rfE [], inE [], z64), (q14, 13, 31, rfE [], inE [], z64), (q15, 13, 25, rfE [], inE [], z64), (q16, 13, 225, rfE [], inE [], z64)]) rfl rfl dX12_init_143 (fun C => ?_)
  refine j_aload_n C.1 0 dX12_init_146 rfl ?_
  refine j_sipush C.1 dX12_init_147 (v := 256) rfl ?_
  refine je_newI (n := 256) C ⟨by decide, rfl, Nat.le_of_ble_eq_true rfl⟩ (hk_at h0 (a := 1) (b := 256) (Nat.le_of_ble_eq_true rfl) (Nat.le_of_ble_eq_true rfl)) wk_81 dX12_init_150 (fun q17 _ C => ?_)
  replace h0 := h0_at h0 (a := 1) (b := 256)
  replace hQ := hQ.trans (QC_bump (a := 1) (b := 256)).symm
  refine je_putR C hin fr_X12_67_11 (j := 0) (L' := [(a, 11, 0, rfE [(26, q17), (25, q16), (24, q15), (23, q14), (22, q13), (21, q12), (20, q11), (19, q10), (18, q9), (17, q8), (15, q7), (8, q6), (5, q5), (4, q4), (3, q3), (2, q2), (1, q1)], inE [(14, (-1))], z64), (q1, 13, 2071, rfE [], inE [], z64), (q2, 13, 1222, rfE [], inE [], z64), (q3, 13, 1222, rfE [], inE [], z64), (q4, 13, 373, rfE [], inE [], z64), (q5, 13, 4476, rfE [], inE [], z64), (q6, 12, 400, rfE [], inE [], z64), (q7, 13, 5, rfE [], inE [], z64), (q8, 13, 400, rfE [], inE [], z64), (q9, 13, 8, rfE [], inE [], z64), (q10, 13, 24, rfE [], inE [], z64), (q11, 13, 8, rfE [], inE [], z64), (q12, 13, 256, rfE [], inE [], z64), (q13, 15, 11532, rfE [], inE [], z64), (q14, 13, 31, rfE [], inE [], z64), (q15, 13, 25, rfE [], inE [], z64), (q16, 13, 225, rfE [], inE [], z64), (q17, 13, 256, rfE [], inE [], z64)]) rfl rfl dX12_init_152 (fun C => ?_)
  refine j_aload_n C.1 0 dX12_init_155 rfl ?_
  refine j_bipush C.1 dX12_init_156 (v := 6) rfl ?_
  refine je_newJ (n := 6) C ⟨by decide, rfl, Nat.le_of_ble_eq_true rfl⟩ (hk_at h0 (a := 1) (b := 6) (Nat.le_of_ble_eq_true rfl) (Nat.le_of_ble_eq_true rfl)) wk_1631 dX12_init_158 (fun q18 _ C => ?_)
  replace h0 := h0_at h0 (a := 1) (b := 6)
  replace hQ := hQ.trans (QC_bump (a := 1) (b := 6)).symm
  refine je_putR C hin fr_X12_70_11 (j := 0) (L' := [(a, 11, 0, rfE [(27, q18), (26, q17), (25, q16), (24, q15), (23, q14), (22, q13), (21, q12), (20, q11), (19, q10), (18, q9), (17, q8), (15, q7), (8, q6), (5, q5), (4, q4), (3, q3), (2, q2), (1, q1)], inE [(14, (-1))], z64), (q1, 13, 2071, rfE [], inE [], z64), (q2, 13, 1222, rfE [], inE [], z64), (q3, 13, 1222, rfE [], inE [], z64), (q4, 13, 373, rfE [], inE [], z64), (q5, 13, 4476, rfE [], inE [], z64), (q6, 12, 400, rfE [], inE [], z64), (q7, 13, 5, rfE [], inE [], z64), (q8, 13, 400, rfE [], inE [], z64), (q9, 13, 8, rfE [], inE [], z64), (q10, 13, 24, rfE [], inE [], z64), (q11, 13, 8, rfE [], inE [], z64), (q12, 13, 256, rfE [], inE [], z64), (q13, 15, 11532, rfE [], inE [], z64), (q14, 13, 31, rfE [], inE [], z64), (q15, 13, 25, rfE [], inE [], z64), (q16, 13, 225, rfE [], inE [], z64), (q17, 13, 256, rfE [], inE [], z64), (q18, 14, 6, rfE [], inE [], z64)]) rfl rfl dX12_init_160 (fun C => ?_)
  refine j_aload_n C.1 0 dX12_init_163 rfl ?_
  refine je_getR C fg_X12_13_11 (j := 0) rfl rfl dX12_init_164 ?_
  refine j_bipush C.1 dX12_init_167 (v := 12) rfl ?_
  refine j_iconst C.1 dX12_init_169 (v := 1) rfl ?_
  refine je_iast C (j := 1) (i' := 12) (L' := [(a, 11, 0, rfE [(27, q18), (26, q17), (25, q16), (24, q15), (23, q14), (22, q13), (21, q12), (20, q11), (19, q10), (18, q9), (17, q8), (15, q7), (8, q6), (5, q5), (4, q4), (3, q3), (2, q2), (1, q1)], inE [(14, (-1))], z64), (q1, 13, 2071, rfE [], inE [(12, 1)], z64), (q2, 13, 1222, rfE [], inE [], z64), (q3, 13, 1222, rfE [], inE [], z64), (q4, 13, 373, rfE [], inE [], z64), (q5, 13, 4476, rfE [], inE [], z64), (q6, 12, 400, rfE [], inE [], z64), (q7, 13, 5, rfE [], inE [], z64), (q8, 13, 400, rfE [], inE [], z64), (q9, 13, 8, rfE [], inE [], z64), (q10, 13, 24, rfE [], inE [], z64), (q11, 13, 8, rfE [], inE [], z64), (q12, 13, 256, rfE [], inE [], z64), (q13, 15, 11532, rfE [], inE [], z64), (q14, 13, 31, rfE [], inE [], z64), (q15, 13, 25, rfE [], inE [], z64), (q16, 13, 225, rfE [], inE [], z64), (q17, 13, 256, rfE [], inE [], z64), (q18, 14, 6, rfE [], inE [], z64)]) rfl (by decide) rfl rfl dX12_init_170 (fun C => ?_)
  refine j_aload_n C.1 0 dX12_init_171 rfl ?_
  refine je_getR C fg_X12_13_11 (j := 0) rfl rfl dX12_init_172 ?_
  refine j_iconst C.1 dX12_init_175 (v := 3) rfl ?_
  refine j_bipush C.1 dX12_init_176 (v := 10) rfl ?_
  refine je_iast C (j := 1) (i' := 3) (L' := [(a, 11, 0, rfE [(27, q18), (26, q17), (25, q16), (24, q15), (23, q14), (22, q13), (21, q12), (20, q11), (19, q10), (18, q9), (17, q8), (15, q7), (8, q6), (5, q5), (4, q4), (3, q3), (2, q2), (1, q1)], inE [(14, (-1))], z64), (q1, 13, 2071, rfE [], inE [(3, 10), (12, 1)], z64), (q2, 13, 1222, rfE [], inE [], z64), (q3, 13, 1222, rfE [], inE [], z64), (q4, 13, 373, rfE [], inE [], z64), (q5, 13, 4476, rfE [], inE [], z64), (q6, 12, 400, rfE [], inE [], z64), (q7, 13, 5, rfE [], inE [], z64), (q8, 13, 400, rfE [], inE [], z64), (q9, 13, 8, rfE [], inE [], z64), (q10, 13, 24, rfE [], inE [], z64), (q11, 13, 8, rfE [], inE [], z64), (q12, 13, 256, rfE [], inE [], z64), (q13, 15, 11532, rfE [], inE [], z64), (q14, 13, 31, rfE [], inE [], z64), (q15, 13, 25, rfE [], inE [], z64), (q16, 13, 225, rfE [], inE [], z64), (q17, 13, 256, rfE [], inE [], z64), (q18, 14, 6, rfE [], inE [], z64)]) rfl (by decide) rfl rfl dX12_init_178 (fun C => ?_)
  refine j_aload_n C.1 0 dX12_init_179 rfl ?_
  refine je_getR C fg_X12_13_11 (j := 0) rfl rfl dX12_init_180 ?_
  refine j_iconst C.1 dX12_init_183 (v := 4) rfl ?_
  refine j_iconst C.1 dX12_init_184 (v := 1) rfl ?_
  refine je_iast C (j := 1) (i' := 4) (L' := [(a, 11, 0, rfE [(27, q18), (26, q17), (25, q16), (24, q15), (23, q14), (22, q13), (21, q12), (20, q11), (19, q10), (18, q9), (17, q8), (15, q7), (8, q6), (5, q5), (4, q4), (3, q3), (2, q2), (1, q1)], inE [(14, (-1))], z64), (q1, 13, 2071, rfE [], inE [(4, 1), (3, 10), (12, 1)], z64), (q2, 13, 1222, rfE [], inE [], z64), (q3, 13, 1222, rfE [], inE [], z64), (q4, 13, 373, rfE [], inE [], z64), (q5, 13, 4476, rfE [], inE [], z64), (q6, 12, 400, rfE [], inE [], z64), (q7, 13, 5, rfE [], inE [], z64), (q8, 13, 400, rfE [], inE [], z64), (q9, 13, 8, rfE [], inE [], z64), (q10, 13, 24, rfE [], inE [], z64), (q11, 13, 8, rfE [], inE [], z64), (q12, 13, 256, rfE [], inE [], z64), (q13, 15, 11532, rfE [], inE [], z64), (q14, 13, 31, rfE [], inE [], z64), (q15, 13, 25, rfE [], inE [], z64), (q16, 13, 225, rfE [], inE [], z64), (q17, 13, 256, rfE [], inE [], z64), (q18, 14, 6, rfE [], inE [], z64)]) rfl (by decide) rfl rfl dX12_init_185 (fun C => ?_)
  refine j_aload_n C.1 0 dX12_init_186 rfl ?_
  refine je_getR C fg_X12_13_11 (j := 0) rfl rfl dX12_init_187 ?_
  refine j_iconst C.1 dX12_init_190 (v := 5) rfl ?_
  refine j_iconst C.1 dX12_init_191 (v := 2) rfl ?_
  refine je_iast C (j := 1) (i' := 5) (L' := [(a, 11, 0, rfE [(27, q18), (26, q17), (25, q16), (24, q15), (23, q14), (22, q13), (21, q12), (20, q11), (19, q10), (18, q9), (17, q8), (15, q7), (8, q6), (5, q5), (4, q4), (3, q3), (2, q2), (1, q1)], inE [(14, (-1))], z64), (q1, 13, 2071, rfE [], inE [(5, 2), (4, 1), (3, 10), (12, 1)], z64), (q2, 13, 1222, rfE [], inE [], z64), (q3, 13, 1222, rfE [], inE [], z64), (q4, 13, 373, rfE [], inE [], z64), (q5, 13, 4476, rfE [], inE [], z64), (q6, 12, 400, rfE [], inE [], z64), (q7, 13, 5, rfE [], inE [], z64), (q8, 13, 400, rfE [], inE [], z64), (q9, 13, 8, rfE [], inE [], z64), (q10, 13, 24, rfE [], inE [], z64), (q11, 13, 8, rfE [], inE [], z64), (q12, 13, 256, rfE [], inE [], z64), (q13, 15, 11532, rfE [], inE [], z64), (q14, 13, 31, rfE [], inE [], z64), (q15, 13, 25, rfE [], inE [], z64), (q16, 13, 225, rfE [], inE [], z64), (q17, 13, 256, rfE [], inE [], z64), (q18, 14, 6, rfE [], inE [], z64)]) rfl (by decide) rfl rfl dX12_init_192 (fun C => ?_)
  refine j_aload_n C.1 0 dX12_init_193 rfl ?_
  refine je_getR C fg_X12_13_11 (j := 0) rfl rfl dX12_init_194 ?_
  refine j_bipush C.1 dX12_init_197 (v := 6) rfl ?_
  refine j_iconst C.1 dX12_init_199 (v := 3) rfl ?_
  refine je_iast C (j := 1) (i' := 6) (L' := [(a, 11, 0, rfE [(27, q18), (26, q17), (25, q16), (24, q15), (23, q14), (22, q13), (21, q12), (20, q11), (19, q10), (18, q9), (17, q8), (15, q7), (8, q6), (5, q5), (4, q4), (3, q3), (2, q2), (1, q1)], inE [(14, (-1))], z64), (q1, 13, 2071, rfE [], inE [(6, 3), (5, 2), (4, 1), (3, 10), (12, 1)], z64), (q2, 13, 1222, rfE [], inE [], z64), (q3, 13, 1222, rfE [], inE [], z64), (q4, 13, 373, rfE [], inE [], z64), (q5, 13, 4476, rfE [], inE [], z64), (q6, 12, 400, rfE [], inE [], z64), (q7, 13, 5, rfE [], inE [], z64), (q8, 13, 400, rfE [], inE [], z64), (q9, 13, 8, rfE [], inE [], z64), (q10, 13, 24, rfE [], inE [], z64), (q11, 13, 8, rfE [], inE [], z64), (q12, 13, 256, rfE [], inE [], z64), (q13, 15, 11532, rfE [], inE [], z64), (q14, 13, 31, rfE [], inE [], z64), (q15, 13, 25, rfE [], inE [], z64), (q16, 13, 225, rfE [], inE [], z64), (q17, 13, 256, rfE [], inE [], z64), (q18, 14, 6, rfE [], inE [], z64)]) rfl (by decide) rfl rfl dX12_init_200 (fun C => ?_)
  refine j_iconst C.1 dX12_init_201 (v := 0) rfl ?_
  refine j_istore_n C.1 (lv' := [(1, .int 0), (0, .ref a)]) dX12_init_202 (by decide) rfl ?_
  refine j_iload_n C.1 0 dX12_init_203 rfl ?_
  refine j_bipush C.1 dX12_init_204 (v := 12) rfl ?_
  refine j_icmp_ge C.1 (tgt := 226) dX12_init_206 (by decide) (fun h => absurd h (by decide)) (fun _ => ?_)
  refine j_aload_n C.1 1 dX12_init_209 rfl ?_
  refine je_getR C fg_X12_13_11 (j := 0) rfl rfl dX12_init_210 ?_
  refine j_bipush C.1 dX12_init_213 (v := 13) rfl ?_
  refine j_iload_n C.1 0 dX12_init_215 rfl ?_
  refine j_iadd C.1 dX12_init_216 ?_
  rw [show ((13 : Int32) + 0) = 13 from rfl]
  refine j_bipush C.1 dX12_init_217 (v := 10) rfl ?_
  refine je_iast C (j := 1) (i' := 13) (L' := [(a, 11, 0, rfE [(27, q18), (26, q17), (25, q16), (24, q15), (23, q14), (22, q13), (21, q12), (20, q11), (19, q10), (18, q9), (17, q8), (15, q7), (8, q6), (5, q5), (4, q4), (3, q3), (2, q2), (1, q1)], inE [(14, (-1))], z64), (q1, 13, 2071, rfE [], inE [(13, 10), (6, 3), (5, 2), (4, 1), (3, 10), (12, 1)], z64), (q2, 13, 1222, rfE [], inE [], z64), (q3, 13, 1222, rfE [], inE [], z64), (q4, 13, 373, rfE [], inE [], z64), (q5, 13, 4476, rfE [], inE [], z64), (q6, 12, 400, rfE [], inE [], z64), (q7, 13, 5, rfE [], inE [], z64), (q8, 13, 400, rfE [], inE [], z64), (q9, 13, 8, rfE [], inE [], z64), (q10, 13, 24, rfE [], inE [], z64), (q11, 13, 8, rfE [], inE [], z64), (q12, 13, 256, rfE [], inE [], z64), (q13, 15, 11532, rfE [], inE [], z64), (q14, 13, 31, rfE [], inE [], z64), (q15, 13, 25, rfE [], inE [], z64), (q16, 13, 225, rfE [], inE [], z64), (q17, 13, 256, rfE [], inE [], z64), (q18, 14, 6, rfE [], inE [], z64)]) rfl (by decide) rfl rfl dX12_init_219 (fun C => ?_)
  refine j_iinc C.1 0 (v := 1) (lv' := [(1, .int 1), (0, .ref a)]) dX12_init_220 rfl rfl (by decide) rfl ?_
  refine j_goto C.1 (tgt := 203) dX12_init_223 (by decide) ?_
  refine j_iload_n C.1 0 dX12_init_203 rfl ?_
  refine j_bipush C.1 dX12_init_204 (v := 12) rfl ?_
  refine j_icmp_ge C.1 (tgt := 226) dX12_init_206 (by decide) (fun h => absurd h (by decide)) (fun _ => ?_)
  refine j_aload_n C.1 1 dX12_init_209 rfl ?_
  refine je_getR C fg_X12_13_11 (j := 0) rfl rfl dX12_init_210 ?_
  refine j_bipush C.1 dX12_init_213 (v := 13) rfl ?_
  refine j_iload_n C.1 0 dX12_init_215 rfl ?_
  refine j_iadd C.1 dX12_init_216 ?_
  rw [show ((13 : Int32) + 1) = 14 from rfl]
  refine j_bipush C.1 dX12_init_217 (v := 10) rfl ?_
  refine je_iast C (j := 1) (i' := 14) (L' := [(a, 11, 0, rfE [(27, q18), (26, q17), (25, q16), (24, q15), (23, q14), (22, q13), (21, q12), (20, q11), (19, q10), (18, q9), (17, q8), (15, q7), (8, q6), (5, q5), (4, q4), (3, q3), (2, q2), (1, q1)], inE [(14, (-1))], z64), (q1, 13, 2071, rfE [], inE [(14, 10), (13, 10), (6, 3), (5, 2), (4, 1), (3, 10), (12, 1)], z64), (q2, 13, 1222, rfE [], inE [], z64), (q3, 13, 1222, rfE [], inE [], z64), (q4, 13, 373, rfE [], inE [], z64), (q5, 13, 4476, rfE [], inE [], z64), (q6, 12, 400, rfE [], inE [], z64), (q7, 13, 5, rfE [], inE [], z64), (q8, 13, 400, rfE [], inE [], z64), (q9, 13, 8, rfE [], inE [], z64), (q10, 13, 24, rfE [], inE [], z64), (q11, 13, 8, rfE [], inE [], z64), (q12, 13, 256, rfE [], inE [], z64), (q13, 15, 11532, rfE [], inE [], z64), (q14, 13, 31, rfE [], inE [], z64), (q15, 13, 25, rfE [], inE [], z64), (q16, 13, 225, rfE [], inE [], z64), (q17, 13, 256, rfE [], inE [], z64), (q18, 14, 6, rfE [], inE [], z64)]) rfl (by decide) rfl rfl dX12_init_219 (fun C => ?_)
  refine j_iinc C.1 0 (v := 2) (lv' := [(1, .int 2), (0, .ref a)]) dX12_init_220 rfl rfl (by decide) rfl ?_
  refine j_goto C.1 (tgt := 203) dX12_init_223 (by decide) ?_
  refine j_iload_n C.1 0 dX12_init_203 rfl ?_
  refine j_bipush C.1 dX12_init_204 (v := 12) rfl ?_
  refine j_icmp_ge C.1 (tgt := 226) dX12_init_206 (by decide) (fun h => absurd h (by decide)) (fun _ => ?_)
  refine j_aload_n C.1 1 dX12_init_209 rfl ?_
  refine je_getR C fg_X12_13_11 (j := 0) rfl rfl dX12_init_210 ?_
  refine j_bipush C.1 dX12_init_213 (v := 13) rfl ?_
  refine j_iload_n C.1 0 dX12_init_215 rfl ?_
  refine j_iadd C.1 dX12_init_216 ?_
  rw [show ((13 : Int32) + 2) = 15 from rfl]
  refine j_bipush C.1 dX12_init_217 (v := 10) rfl ?_
  refine je_iast C (j := 1) (i' := 15) (L' := [(a, 11, 0, rfE [(27, q18), (26, q17), (25, q16), (24, q15), (23, q14), (22, q13), (21, q12), (20, q11), (19, q10), (18, q9), (17, q8), (15, q7), (8, q6), (5, q5), (4, q4), (3, q3), (2, q2), (1, q1)], inE [(14, (-1))], z64), (q1, 13, 2071, rfE [], inE [(15, 10), (14, 10), (13, 10), (6, 3), (5, 2), (4, 1), (3, 10), (12, 1)], z64), (q2, 13, 1222, rfE [], inE [], z64), (q3, 13, 1222, rfE [], inE [], z64), (q4, 13, 373, rfE [], inE [], z64), (q5, 13, 4476, rfE [], inE [], z64), (q6, 12, 400, rfE [], inE [], z64), (q7, 13, 5, rfE [], inE [], z64), (q8, 13, 400, rfE [], inE [], z64), (q9, 13, 8, rfE [], inE [], z64), (q10, 13, 24, rfE [], inE [], z64), (q11, 13, 8, rfE [], inE [], z64), (q12, 13, 256, rfE [], inE [], z64), (q13, 15, 11532, rfE [], inE [], z64), (q14, 13, 31, rfE [], inE [], z64), (q15, 13, 25, rfE [], inE [], z64), (q16, 13, 225, rfE [], inE [], z64), (q17, 13, 256, rfE [], inE [], z64), (q18, 14, 6, rfE [], inE [], z64)]) rfl (by decide) rfl rfl dX12_init_219 (fun C => ?_)
  refine j_iinc C.1 0 (v := 3) (lv' := [(1, .int 3), (0, .ref a)]) dX12_init_220 rfl rfl (by decide) rfl ?_
  refine j_goto C.1 (tgt := 203) dX12_init_223 (by decide) ?_
  refine j_iload_n C.1 0 dX12_init_203 rfl ?_
  refine j_bipush C.1 dX12_init_204 (v := 12) rfl ?_
  refine j_icmp_ge C.1 (tgt := 226) dX12_init_206 (by decide) (fun h => absurd h (by decide)) (fun _ => ?_)
  refine j_aload_n C.1 1 dX12_init_209 rfl ?_
  refine je_getR C fg_X12_13_11 (j := 0) rfl rfl dX12_init_210 ?_
  refine j_bipush C.1 dX12_init_213 (v := 13) rfl ?_
  refine j_iload_n C.1 0 dX12_init_215 rfl ?_
  refine j_iadd C.1 dX12_init_216 ?_
  rw [show ((13 : Int32) + 3) = 16 from rfl]
  refine j_bipush C.1 dX12_init_217 (v := 10) rfl ?_
  refine je_iast C (j := 1) (i' := 16) (L' := [(a, 11, 0, rfE [(27, q18), (26, q17), (25, q16), (24, q15), (23, q14), (22, q13), (21, q12), (20, q11), (19, q10), (18, q9), (17, q8), (15, q7), (8, q6), (5, q5), (4, q4), (3, q3), (2, q2), (1, q1)], inE [(14, (-1))], z64), (q1, 13, 2071, rfE [], inE [(16, 10), (15, 10), (14, 10), (13, 10), (6, 3), (5, 2), (4, 1), (3, 10), (12, 1)], z64), (q2, 13, 1222, rfE [], inE [], z64), (q3, 13, 1222, rfE [], inE [], z64), (q4, 13, 373, rfE [], inE [], z64), (q5, 13, 4476, rfE [], inE [], z64), (q6, 12, 400, rfE [], inE [], z64), (q7, 13, 5, rfE [], inE [], z64), (q8, 13, 400, rfE [], inE [], z64), (q9, 13, 8, rfE [], inE [], z64), (q10, 13, 24, rfE [], inE [], z64), (q11, 13, 8, rfE [], inE [], z64), (q12, 13, 256, rfE [], inE [], z64), (q13, 15, 11532, rfE [], inE [], z64), (q14, 13, 31, rfE [], inE [], z64), (q15, 13, 25, rfE [], inE [], z64), (q16, 13, 225, rfE [], inE [], z64), (q17, 13, 256, rfE [], inE [], z64), (q18, 14, 6, rfE [], inE [], z64)]) rfl (by decide) rfl rfl dX12_init_219 (fun C => ?_)
  refine j_iinc C.1 0 (v := 4) (lv' := [(1, .int 4), (0, .ref a)]) dX12_init_220 rfl rfl (by decide) rfl ?_
  refine j_goto C.1 (tgt := 203) dX12_init_223 (by decide) ?_
  refine j_iload_n C.1 0 dX12_init_203 rfl ?_
  refine j_bipush C.1 dX12_init_204 (v := 12) rfl ?_
  refine j_icmp_ge C.1 (tgt := 226) dX12_init_206 (by decide) (fun h => absurd h (by decide)) (fun _ => ?_)
  refine j_aload_n C.1 1 dX12_init_209 rfl ?_
  refine je_getR C fg_X12_13_11 (j := 0) rfl rfl dX12_init_210 ?_
  refine j_bipush C.1 dX12_init_213 (v := 13) rfl ?_
  refine j_iload_n C.1 0 dX12_init_215 rfl ?_
  refine j_iadd C.1 dX12_init_216 ?_
  rw [show ((13 : Int32) + 4) = 17 from rfl]
  refine j_bipush C.1 dX12_init_217 (v := 10) rfl ?_
  refine je_iast C (j := 1) (i' := 17) (L' := [(a, 11, 0, rfE [(27, q18), (26, q17), (25, q16), (24, q15), (23, q14), (22, q13), (21, q12), (20, q11), (19, q10), (18, q9), (17, q8), (15, q7), (8, q6), (5, q5), (4, q4), (3, q3), (2, q2), (1, q1)], inE [(14, (-1))], z64), (q1, 13, 2071, rfE [], inE [(17, 10), (16, 10), (15, 10), (14, 10), (13, 10), (6, 3), (5, 2), (4, 1), (3, 10), (12, 1)], z64), (q2, 13, 1222, rfE [], inE [], z64), (q3, 13, 1222, rfE [], inE [], z64), (q4, 13, 373, rfE [], inE [], z64), (q5, 13, 4476, rfE [], inE [], z64), (q6, 12, 400, rfE [], inE [], z64), (q7, 13, 5, rfE [], inE [], z64), (q8, 13, 400, rfE [], inE [], z64), (q9, 13, 8, rfE [], inE [], z64), (q10, 13, 24, rfE [], inE [], z64), (q11, 13, 8, rfE [], inE [], z64), (q12, 13, 256, rfE [], inE [], z64), (q13, 15, 11532, rfE [], inE [], z64), (q14, 13, 31, rfE [], inE [], z64), (q15, 13, 25, rfE [], inE [], z64), (q16, 13, 225, rfE [], inE [], z64), (q17, 13, 256, rfE [], inE [], z64), (q18, 14, 6, rfE [], inE [], z64)]) rfl (by decide) rfl rfl dX12_init_219 (fun C => ?_)
  refine j_iinc C.1 0 (v := 5) (lv' := [(1, .int 5), (0, .ref a)]) dX12_init_220 rfl rfl (by decide) rfl ?_
  refine j_goto C.1 (tgt := 203) dX12_init_223 (by decide) ?_
  refine j_iload_n C.1 0 dX12_init_203 rfl ?_
  refine j_bipush C.1 dX12_init_204 (v := 12) rfl ?_
  refine j_icmp_ge C.1 (tgt := 226) dX12_init_206 (by decide) (fun h => absurd h (by decide)) (fun _ => ?_)
  refine j_aload_n C.1 1 dX12_init_209 rfl ?_
  refine je_getR C fg_X12_13_11 (j := 0) rfl rfl dX12_init_210 ?_
  refine j_bipush C.1 dX12_init_213 (v := 13) rfl ?_
  refine j_iload_n C.1 0 dX12_init_215 rfl ?_
  refine j_iadd C.1 dX12_init_216 ?_
  rw [show ((13 : Int32) + 5) = 18 from rfl]
  refine j_bipush C.1 dX12_init_217 (v := 10) rfl ?_
  refine je_iast C (j := 1) (i' := 18) (L' := [(a, 11, 0, rfE [(27, q18), (26, q17), (25, q16), (24, q15), (23, q14), (22, q13), (21, q12), (20, q11), (19, q10), (18, q9), (17, q8), (15, q7), (8, q6), (5, q5), (4, q4), (3, q3), (2, q2), (1, q1)], inE [(14, (-1))], z64), (q1, 13, 2071, rfE [], inE [(18, 10), (17, 10), (16, 10), (15, 10), (14, 10), (13, 10), (6, 3), (5, 2), (4, 1), (3, 10), (12, 1)], z64), (q2, 13, 1222, rfE [], inE [], z64), (q3, 13, 1222, rfE [], inE [], z64), (q4, 13, 373, rfE [], inE [], z64), (q5, 13, 4476, rfE [], inE [], z64), (q6, 12, 400, rfE [], inE [], z64), (q7, 13, 5, rfE [], inE [], z64), (q8, 13, 400, rfE [], inE [], z64), (q9, 13, 8, rfE [], inE [], z64), (q10, 13, 24, rfE [], inE [], z64), (q11, 13, 8, rfE [], inE [], z64), (q12, 13, 256, rfE [], inE [], z64), (q13, 15, 11532, rfE [], inE [], z64), (q14, 13, 31, rfE [], inE [], z64), (q15, 13, 25, rfE [], inE [], z64), (q16, 13, 225, rfE [], inE [], z64), (q17, 13, 256, rfE [], inE [], z64), (q18, 14, 6, rfE [], inE [], z64)]) rfl (by decide) rfl rfl dX12_init_219 (fun C => ?_)
  refine j_iinc C.1 0 (v := 6) (lv' := [(1, .int 6), (0, .ref a)]) dX12_init_220 rfl rfl (by decide) rfl ?_
  refine j_goto C.1 (tgt := 203) dX12_init_223 (by decide) ?_
  refine j_iload_n C.1 0 dX12_init_203 rfl ?_
  refine j_bipush C.1 dX12_init_204 (v := 12) rfl ?_
  refine j_icmp_ge C.1 (tgt := 226) dX12_init_206 (by decide) (fun h => absurd h (by decide)) (fun _ => ?_)
  refine j_aload_n C.1 1 dX12_init_209 rfl ?_
  refine je_getR C fg_X12_13_11 (j := 0) rfl rfl dX12_init_210 ?_
  refine j_bipush C.1 dX12_init_213 (v := 13) rfl ?_
  refine j_iload_n C.1 0 dX12_init_215 rfl ?_
  refine j_iadd C.1 dX12_init_216 ?_
  rw [show ((13 : Int32) + 6) = 19 from rfl]
  refine j_bipush C.1 dX12_init_217 (v := 10) rfl ?_
  refine je_iast C (j := 1) (i' := 19) (L' := [(a, 11, 0, rfE [(27, q18), (26, q17), (25, q16), (24, q15), (23, q14), (22, q13), (21, q12), (20, q11), (19, q10), (18, q9), (17, q8), (15, q7), (8, q6), (5, q5), (4, q4), (3, q3), (2, q2), (1, q1)], inE [(14, (-1))], z64), (q1, 13, 2071, rfE [], inE [(19, 10), (18, 10), (17, 10), (16, 10), (15, 10), (14, 10), (13, 10), (6, 3), (5, 2), (4, 1), (3, 10), (12, 1)], z64), (q2, 13, 1222, rfE [], inE [], z64), (q3, 13, 1222, rfE [], inE [], z64), (q4, 13, 373, rfE [], inE [], z64), (q5, 13, 4476, rfE [], inE [], z64), (q6, 12, 400, rfE [], inE [], z64), (q7, 13, 5, rfE [], inE [], z64), (q8, 13, 400, rfE [], inE [], z64), (q9, 13, 8, rfE [], inE [], z64), (q10, 13, 24, rfE [], inE [], z64), (q11, 13, 8, rfE [], inE [], z64), (q12, 13, 256, rfE [], inE [], z64), (q13, 15, 11532, rfE [], inE [], z64), (q14, 13, 31, rfE [], inE [], z64), (q15, 13, 25, rfE [], inE [], z64), (q16, 13, 225, rfE [], inE [], z64), (q17, 13, 256, rfE [], inE [], z64), (q18, 14, 6, rfE [], inE [], z64)]) rfl (by decide) rfl rfl dX12_init_219 (fun C => ?_)
  refine j_iinc C.1 0 (v := 7) (lv' := [(1, .int 7), (0, .ref a)]) dX12_init_220 rfl rfl (by decide) rfl ?_
  refine j_goto C.1 (tgt := 203) dX12_init_223 (by decide) ?_
  refine j_iload_n C.1 0 dX12_init_203 rfl ?_
  refine j_bipush C.1 dX12_init_204 (v := 12) rfl ?_
  refine j_icmp_ge C.1 (tgt := 226) dX12_init_206 (by decide) (fun h => absurd h (by decide)) (fun _ => ?_)
  refine j_aload_n C.1 1 dX12_init_209 rfl ?_
  refine je_getR C fg_X12_13_11 (j := 0) rfl rfl dX12_init_210 ?_
  refine j_bipush C.1 dX12_init_213 (v := 13) rfl ?_
  refine j_iload_n C.1 0 dX12_init_215 rfl ?_
  refine j_iadd C.1 dX12_init_216 ?_
  rw [show ((13 : Int32) + 7) = 20 from rfl]
  refine j_bipush C.1 dX12_init_217 (v := 10) rfl ?_
  refine je_iast C (j := 1) (i' := 20) (L' := [(a, 11, 0, rfE [(27, q18), (26, q17), (25, q16), (24, q15), (23, q14), (22, q13), (21, q12), (20, q11), (19, q10), (18, q9), (17, q8), (15, q7), (8, q6), (5, q5), (4, q4), (3, q3), (2, q2), (1, q1)], inE [(14, (-1))], z64), (q1, 13, 2071, rfE [], inE [(20, 10), (19, 10), (18, 10), (17, 10), (16, 10), (15, 10), (14, 10), (13, 10), (6, 3), (5, 2), (4, 1), (3, 10), (12, 1)], z64), (q2, 13, 1222, rfE [], inE [], z64), (q3, 13, 1222, rfE [], inE [], z64), (q4, 13, 373, rfE [], inE [], z64), (q5, 13, 4476, rfE [], inE [], z64), (q6, 12, 400, rfE [], inE [], z64), (q7, 13, 5, rfE [], inE [], z64), (q8, 13, 400, rfE [], inE [], z64), (q9, 13, 8, rfE [], inE [], z64), (q10, 13, 24, rfE [], inE [], z64), (q11, 13, 8, rfE [], inE [], z64), (q12, 13, 256, rfE [], inE [], z64), (q13, 15, 11532, rfE [], inE [], z64), (q14, 13, 31, rfE [], inE [], z64), (q15, 13, 25, rfE [], inE [], z64), (q16, 13, 225, rfE [], inE [], z64), (q17, 13, 256, rfE [], inE [], z64), (q18, 14, 6, rfE [], inE [], z64)]) rfl (by decide) rfl rfl dX12_init_219 (fun C => ?_)
  refine j_iinc C.1 0 (v := 8) (lv' := [(1, .int 8), (0, .ref a)]) dX12_init_220 rfl rfl (by decide) rfl ?_
  refine j_goto C.1 (tgt := 203) dX12_init_223 (by decide) ?_
  refine j_iload_n C.1 0 dX12_init_203 rfl ?_
  refine j_bipush C.1 dX12_init_204 (v := 12) rfl ?_
  refine j_icmp_ge C.1 (tgt := 226) dX12_init_206 (by decide) (fun h => absurd h (by decide)) (fun _ => ?_)
  refine j_aload_n C.1 1 dX12_init_209 rfl ?_
  refine je_getR C fg_X12_13_11 (j := 0) rfl rfl dX12_init_210 ?_
  refine j_bipush C.1 dX12_init_213 (v := 13) rfl ?_
  refine j_iload_n C.1 0 dX12_init_215 rfl ?_
  refine j_iadd C.1 dX12_init_216 ?_
  rw [show ((13 : Int32) + 8) = 21 from rfl]
  refine j_bipush C.1 dX12_init_217 (v := 10) rfl ?_
  refine je_iast C (j := 1) (i' := 21) (L' := [(a, 11, 0, rfE [(27, q18), (26, q17), (25, q16), (24, q15), (23, q14), (22, q13), (21, q12), (20, q11), (19, q10), (18, q9), (17, q8), (15, q7), (8, q6), (5, q5), (4, q4), (3, q3), (2, q2), (1, q1)], inE [(14, (-1))], z64), (q1, 13, 2071, rfE [], inE [(21, 10), (20, 10), (19, 10), (18, 10), (17, 10), (16, 10), (15, 10), (14, 10), (13, 10), (6, 3), (5, 2), (4, 1), (3, 10), (12, 1)], z64), (q2, 13, 1222, rfE [], inE [], z64), (q3, 13, 1222, rfE [], inE [], z64), (q4, 13, 373, rfE [], inE [], z64), (q5, 13, 4476, rfE [], inE [], z64), (q6, 12, 400, rfE [], inE [], z64), (q7, 13, 5, rfE [], inE [], z64), (q8, 13, 400, rfE [], inE [], z64), (q9, 13, 8, rfE [], inE [], z64), (q10, 13, 24, rfE [], inE [], z64), (q11, 13, 8, rfE [], inE [], z64), (q12, 13, 256, rfE [], inE [], z64), (q13, 15, 11532, rfE [], inE [], z64), (q14, 13, 31, rfE [], inE [], z64), (q15, 13, 25, rfE [], inE [], z64), (q16, 13, 225, rfE [], inE [], z64), (q17, 13, 256, rfE [], inE [], z64), (q18, 14, 6, rfE [], inE [], z64)]) rfl (by decide) rfl rfl dX12_init_219 (fun C => ?_)
  refine j_iinc C.1 0 (v := 9) (lv' := [(1, .int 9), (0, .ref a)]) dX12_init_220 rfl rfl (by decide) rfl ?_
  refine j_goto C.1 (tgt := 203) dX12_init_223 (by decide) ?_
  refine j_iload_n C.1 0 dX12_init_203 rfl ?_
  refine j_bipush C.1 dX12_init_204 (v := 12) rfl ?_
  refine j_icmp_ge C.1 (tgt := 226) dX12_init_206 (by decide) (fun h => absurd h (by decide)) (fun _ => ?_)
  refine j_aload_n C.1 1 dX12_init_209 rfl ?_
  refine je_getR C fg_X12_13_11 (j := 0) rfl rfl dX12_init_210 ?_
  refine j_bipush C.1 dX12_init_213 (v := 13) rfl ?_
  refine j_iload_n C.1 0 dX12_init_215 rfl ?_
  refine j_iadd C.1 dX12_init_216 ?_
  rw [show ((13 : Int32) + 9) = 22 from rfl]
  refine j_bipush C.1 dX12_init_217 (v := 10) rfl ?_
  refine je_iast C (j := 1) (i' := 22) (L' := [(a, 11, 0, rfE [(27, q18), (26, q17), (25, q16), (24, q15), (23, q14), (22, q13), (21, q12), (20, q11), (19, q10), (18, q9), (17, q8), (15, q7), (8, q6), (5, q5), (4, q4), (3, q3), (2, q2), (1, q1)], inE [(14, (-1))], z64), (q1, 13, 2071, rfE [], inE [(22, 10), (21, 10), (20, 10), (19, 10), (18, 10), (17, 10), (16, 10), (15, 10), (14, 10), (13, 10), (6, 3), (5, 2), (4, 1), (3, 10), (12, 1)], z64), (q2, 13, 1222, rfE [], inE [], z64), (q3, 13, 1222, rfE [], inE [], z64), (q4, 13, 373, rfE [], inE [], z64), (q5, 13, 4476, rfE [], inE [], z64), (q6, 12, 400, rfE [], inE [], z64), (q7, 13, 5, rfE [], inE [], z64), (q8, 13, 400, rfE [], inE [], z64), (q9, 13, 8, rfE [], inE [], z64), (q10, 13, 24, rfE [], inE [], z64), (q11, 13, 8, rfE [], inE [], z64), (q12, 13, 256, rfE [], inE [], z64), (q13, 15, 11532, rfE [], inE [], z64), (q14, 13, 31, rfE [], inE [], z64), (q15, 13, 25, rfE [], inE [], z64), (q16, 13, 225, rfE [], inE [], z64), (q17, 13, 256, rfE [], inE [], z64), (q18, 14, 6, rfE [], inE [], z64)]) rfl (by decide) rfl rfl dX12_init_219 (fun C => ?_)
  refine j_iinc C.1 0 (v := 10) (lv' := [(1, .int 10), (0, .ref a)]) dX12_init_220 rfl rfl (by decide) rfl ?_
  refine j_goto C.1 (tgt := 203) dX12_init_223 (by decide) ?_
  refine j_iload_n C.1 0 dX12_init_203 rfl ?_
  refine j_bipush C.1 dX12_init_204 (v := 12) rfl ?_
  refine j_icmp_ge C.1 (tgt := 226) dX12_init_206 (by decide) (fun h => absurd h (by decide)) (fun _ => ?_)
  refine j_aload_n C.1 1 dX12_init_209 rfl ?_
  refine je_getR C fg_X12_13_11 (j := 0) rfl rfl dX12_init_210 ?_
  refine j_bipush C.1 dX12_init_213 (v := 13) rfl ?_
  refine j_iload_n C.1 0 dX12_init_215 rfl ?_
  refine j_iadd C.1 dX12_init_216 ?_
  rw [show ((13 : Int32) + 10) = 23 from rfl]
  refine j_bipush C.1 dX12_init_217 (v := 10) rfl ?_
  refine je_iast C (j := 1) (i' := 23) (L' := [(a, 11, 0, rfE [(27, q18), (26, q17), (25, q16), (24, q15), (23, q14), (22, q13), (21, q12), (20, q11), (19, q10), (18, q9), (17, q8), (15, q7), (8, q6), (5, q5), (4, q4), (3, q3), (2, q2), (1, q1)], inE [(14, (-1))], z64), (q1, 13, 2071, rfE [], inE [(23, 10), (22, 10), (21, 10), (20, 10), (19, 10), (18, 10), (17, 10), (16, 10), (15, 10), (14, 10), (13, 10), (6, 3), (5, 2), (4, 1), (3, 10), (12, 1)], z64), (q2, 13, 1222, rfE [], inE [], z64), (q3, 13, 1222, rfE [], inE [], z64), (q4, 13, 373, rfE [], inE [], z64), (q5, 13, 4476, rfE [], inE [], z64), (q6, 12, 400, rfE [], inE [], z64), (q7, 13, 5, rfE [], inE [], z64), (q8, 13, 400, rfE [], inE [], z64), (q9, 13, 8, rfE [], inE [], z64), (q10, 13, 24, rfE [], inE [], z64), (q11, 13, 8, rfE [], inE [], z64), (q12, 13, 256, rfE [], inE [], z64), (q13, 15, 11532, rfE [], inE [], z64), (q14, 13, 31, rfE [], inE [], z64), (q15, 13, 25, rfE [], inE [], z64), (q16, 13, 225, rfE [], inE [], z64), (q17, 13, 256, rfE [], inE [], z64), (q18, 14, 6, rfE [], inE [], z64)]) rfl (by decide) rfl rfl dX12_init_219 (fun C => ?_)
  refine j_iinc C.1 0 (v := 11) (lv' := [(1, .int 11), (0, .ref a)]) dX12_init_220 rfl rfl (by decide) rfl ?_
  refine j_goto C.1 (tgt := 203) dX12_init_223 (by decide) ?_
  refine j_iload_n C.1 0 dX12_init_203 rfl ?_
  refine j_bipush C.1 dX12_init_204 (v := 12) rfl ?_
  refine j_icmp_ge C.1 (tgt := 226) dX12_init_206 (by decide) (fun h => absurd h (by decide)) (fun _ => ?_)
  refine j_aload_n C.1 1 dX12_init_209 rfl ?_
  refine je_getR C fg_X12_13_11 (j := 0) rfl rfl dX12_init_210 ?_
  refine j_bipush C.1 dX12_init_213 (v := 13) rfl ?_
  refine j_iload_n C.1 0 dX12_init_215 rfl ?_
  refine j_iadd C.1 dX12_init_216 ?_
  rw [show ((13 : Int32) + 11) = 24 from rfl]
  refine j_bipush C.1 dX12_init_217 (v := 10) rfl ?_
  refine je_iast C (j := 1) (i' := 24) (L' := [(a, 11, 0, rfE [(27, q18), (26, q17), (25, q16), (24, q15), (23, q14), (22, q13), (21, q12), (20, q11), (19, q10), (18, q9), (17, q8), (15, q7), (8, q6), (5, q5), (4, q4), (3, q3), (2, q2), (1, q1)], inE [(14, (-1))], z64), (q1, 13, 2071, rfE [], inE [(24, 10), (23, 10), (22, 10), (21, 10), (20, 10), (19, 10), (18, 10), (17, 10), (16, 10), (15, 10), (14, 10), (13, 10), (6, 3), (5, 2), (4, 1), (3, 10), (12, 1)], z64), (q2, 13, 1222, rfE [], inE [], z64), (q3, 13, 1222, rfE [], inE [], z64), (q4, 13, 373, rfE [], inE [], z64), (q5, 13, 4476, rfE [], inE [], z64), (q6, 12, 400, rfE [], inE [], z64), (q7, 13, 5, rfE [], inE [], z64), (q8, 13, 400, rfE [], inE [], z64), (q9, 13, 8, rfE [], inE [], z64), (q10, 13, 24, rfE [], inE [], z64), (q11, 13, 8, rfE [], inE [], z64), (q12, 13, 256, rfE [], inE [], z64), (q13, 15, 11532, rfE [], inE [], z64), (q14, 13, 31, rfE [], inE [], z64), (q15, 13, 25, rfE [], inE [], z64), (q16, 13, 225, rfE [], inE [], z64), (q17, 13, 256, rfE [], inE [], z64), (q18, 14, 6, rfE [], inE [], z64)]) rfl (by decide) rfl rfl dX12_init_219 (fun C => ?_)
  refine j_iinc C.1 0 (v := 12) (lv' := [(1, .int 12), (0, .ref a)]) dX12_init_220 rfl rfl (by decide) rfl ?_
  refine j_goto C.1 (tgt := 203) dX12_init_223 (by decide) ?_
  refine j_iload_n C.1 0 dX12_init_203 rfl ?_
  refine j_bipush C.1 dX12_init_204 (v := 12) rfl ?_
  refine j_icmp_ge C.1 (tgt := 226) dX12_init_206 (by decide) (fun _ => ?_) (fun h => absurd (by decide) h)
  exact je_ret C hQ (fun i => ([q1, q2, q3, q4, q5, q6, q7, q8, q9, q10, q11, q12, q13, q14, q15, q16, q17, q18] : List Nat).getD i 0) rfl dX12_init_226

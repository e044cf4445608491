abbrev rmc_X11_init : Room := { frames := 4, cells := 180, slots := 10900, locals := 81 }
def o_X11_init (a : Nat) (q : (Nat → Nat) × Nat × (Nat → Nat → Nat) × (Nat × (Nat → Nat) × (Nat → Nat → Nat))) : List En := [(a, 10, 0, rfE [(12, (q.1 12)), (11, (q.1 11)), (10, (q.1 10)), (9, (q.1 9)), (8, (q.1 8)), (7, (q.1 7)), (6, (q.1 6)), (5, (q.1 5)), (4, (q.1 4)), (3, (q.1 3)), (2, (q.1 2)), (1, (q.1 1)), (0, (q.1 0))], inE [(14, (-1))], z64)] ++ o_X10_init (q.1 0) q.2.1 ++ o_X9_init (q.1 1) (q.2.2.1 0) ++ o_X9_init (q.1 2) (q.2.2.1 1) ++ o_X9_init (q.1 3) (q.2.2.1 2) ++ o_X2_init (q.1 4) (q.2.2.1 3) ++ o_X2_init (q.1 5) (q.2.2.1 4) ++ o_X2_init (q.1 6) (q.2.2.1 5) ++ o_X1_init (q.1 7) (q.1 0) (q.1 2) (q.2.2.1 6) ++ o_X3_init (q.1 8) (q.1 0) (q.1 5) (q.2.2.1 7) ++ o_X5_init (q.1 9) q.2.2.2 ++ o_X0_init (q.1 10) (q.2.2.1 8) ++ o_X8_init (q.1 11) (q.2.2.1 9) ++ o_X6_init (q.1 12) (q.2.2.1 10)
set_option maxRecDepth 20000 in
set_option maxHeartbeats 8000000 in
theorem cc_X11_init (l : Launch) (c : Lay) (E0 : List En) (a : Nat) (hn : (adr (E0 ++ [nw a 10 0])).Nodup) : MCE l yX11_init cX11_init 1 rmc_X11_init c E0 a 10 [] (o_X11_init a) := by
  refine mce_of hn rfl rfl (Nat.le_of_ble_eq_true rfl) (fun x C hlx hin h0 Q hQ => ?_)
  refine j_aload_n C.1 0 dX11_init_0 rfl ?_
  refine jc_obj C.1 wk_36 wk_37 wk_o ⟨Nat.le_of_ble_eq_true rfl, Nat.le_of_ble_eq_true rfl⟩ (Nat.le_of_ble_eq_true rfl) dX11_init_1 ?_
  refine j_aload_n C.1 0 dX11_init_4 rfl ?_
  refine je_new C cn_X11_7 (hk_at h0 (a := 1) (b := 2) (Nat.le_of_ble_eq_true rfl) (Nat.le_of_ble_eq_true rfl)) dX11_init_5 (fun q1 _ C => ?_)
  replace h0 := h0_at h0 (a := 1) (b := 2)
  replace hQ := hQ.trans (QC_bump (a := 1) (b := 2)).symm
  refine j_dup C.1 dX11_init_8 rfl ?_
  refine je_callN (out := o_X10_init q1) (L := [(a, 10, 0, rfE [], inE [], z64)]) C rfl lin_X11_9 ⟨Nat.le_of_ble_eq_true rfl, Nat.le_of_ble_eq_true rfl⟩ (hk_at h0 (a := 1) (b := 400) (Nat.le_of_ble_eq_true rfl) (Nat.le_of_ble_eq_true rfl)) (As := []) rfl rfl (Nat.le_of_ble_eq_true rfl) dX11_init_9 (fun h => cc_X10_init _ c _ q1 h) (fun f2 C => ?_)
  replace h0 := h0_at h0 (a := 1) (b := 400)
  replace hQ := hQ.trans (QC_bump (a := 1) (b := 400)).symm
  refine je_putR C hin fr_X11_10_10 (j := 0) (L' := [(a, 10, 0, rfE [(0, q1)], inE [], z64)] ++ o_X10_init q1 f2) rfl rfl dX11_init_12 (fun C => ?_)
  refine j_aload_n C.1 0 dX11_init_15 rfl ?_
  refine je_new C cn_X11_16 (hk_at h0 (a := 1) (b := 19) (Nat.le_of_ble_eq_true rfl) (Nat.le_of_ble_eq_true rfl)) dX11_init_16 (fun q3 _ C => ?_)
  replace h0 := h0_at h0 (a := 1) (b := 19)
  replace hQ := hQ.trans (QC_bump (a := 1) (b := 19)).symm
  refine j_dup C.1 dX11_init_19 rfl ?_
  refine je_callN (out := o_X9_init q3) (L := [(a, 10, 0, rfE [(0, q1)], inE [], z64)] ++ o_X10_init q1 f2) C rfl lin_X11_18 ⟨Nat.le_of_ble_eq_true rfl, Nat.le_of_ble_eq_true rfl⟩ (hk_at h0 (a := 8) (b := 355) (Nat.le_of_ble_eq_true rfl) (Nat.le_of_ble_eq_true rfl)) (As := []) rfl rfl (Nat.le_of_ble_eq_true rfl) dX11_init_20 (fun h => cc_X9_init _ c _ q3 h) (fun f4 C => ?_)
  replace h0 := h0_at h0 (a := 8) (b := 355)
  replace hQ := hQ.trans (QC_bump (a := 8) (b := 355)).symm
  refine je_putR C hin fr_X11_19_10 (j := 0) (L' := [(a, 10, 0, rfE [(1, q3), (0, q1)], inE [], z64)] ++ o_X10_init q1 f2 ++ o_X9_init q3 f4) rfl rfl dX11_init_23 (fun C => ?_)
  refine j_aload_n C.1 0 dX11_init_26 rfl ?_
  refine je_new C cn_X11_16 (hk_at h0 (a := 1) (b := 19) (Nat.le_of_ble_eq_true rfl) (Nat.le_of_ble_eq_true rfl)) dX11_init_27 (fun q5 _ C => ?_)
  replace h0 := h0_at h0 (a := 1) (b := 19)
  replace hQ := hQ.trans (QC_bump (a := 1) (b := 19)).symm
  refine j_dup C.1 dX11_init_30 rfl ?_
  refine je_callN (out := o_X9_init q5) (L := [(a, 10, 0, rfE [(1, q3), (0, q1)], inE [], z64)] ++ o_X10_init q1 f2 ++ o_X9_init q3 f4) C rfl lin_X11_18 ⟨Nat.le_of_ble_eq_true rfl, Nat.le_of_ble_eq_true rfl⟩ (hk_at h0 (a := 8) (b := 355) (Nat.le_of_ble_eq_true rfl) (Nat.le_of_ble_eq_true rfl)) (As := []) rfl rfl (Nat.le_of_ble_eq_true rfl) dX11_init_31 (fun h => cc_X9_init _ c _ q5 h) (fun f6 C => ?_)
  replace h0 := h0_at h0 (a := 8) (b := 355)
  replace hQ := hQ.trans (QC_bump (a := 8) (b := 355)).symm
  refine je_putR C hin fr_X11_23_10 (j := 0) (L' := [(a, 10, 0, rfE [(2, q5), (1, q3), (0, q1)], inE [], z64)] ++ o_X10_init q1 f2 ++ o_X9_init q3 f4 ++ o_X9_init q5 f6) rfl rfl dX11_init_34 (fun C => ?_)
  refine j_aload_n C.1 0 dX11_init_37 rfl ?_
  refine je_new C cn_X11_16 (hk_at h0 (a := 1) (b := 19) (Nat.le_of_ble_eq_true rfl) (Nat.le_of_ble_eq_true rfl)) dX11_init_38 (fun q7 _ C => ?_)
  replace h0 := h0_at h0 (a := 1) (b := 19)
  replace hQ := hQ.trans (QC_bump (a := 1) (b := 19)).symm
  refine j_dup C.1 dX11_init_41 rfl ?_
  refine je_callN (out := o_X9_init q7) (L := [(a, 10, 0, rfE [(2, q5), (1, q3), (0, q1)], inE [], z64)] ++ o_X10_init q1 f2 ++ o_X9_init q3 f4 ++ o_X9_init q5 f6) C rfl lin_X11_18 ⟨Nat.le_of_ble_eq_true rfl, Nat.le_of_ble_eq_true rfl⟩ (hk_at h0 (a := 8) (b := 355) (Nat.le_of_ble_eq_true rfl) (Nat.le_of_ble_eq_true rfl)) (As := []) rfl rfl (Nat.le_of_ble_eq_true rfl) dX11_init_42 (fun h => cc_X9_init _ c _ q7 h) (fun f8 C => ?_)
  replace h0 := h0_at h0 (a := 8) (b := 355)
  replace hQ := hQ.trans (QC_bump (a := 8) (b := 355)).symm
  refine je_putR C hin fr_X11_26_10 (j := 0) (L' := [(a, 10, 0, rfE [(3, q7), (2, q5), (1, q3), (0, q1)], inE [], z64)] ++ o_X10_init q1 f2 ++ o_X9_init q3 f4 ++ o_X9_init q5 f6 ++ o_X9_init q7 f8) rfl rfl dX11_init_45 (fun C => ?_)
  refine j_aload_n C.1 0 dX11_init_48 rfl ?_
  refine je_new C cn_X11_29 (hk_at h0 (a := 1) (b := 7) (Nat.le_of_ble_eq_true rfl) (Nat.le_of_ble_eq_true rfl)) dX11_init_49 (fun q9 _ C => ?_)
  replace h0 := h0_at h0 (a := 1) (b := 7)
  replace hQ := hQ.trans (QC_bump (a := 1) (b := 7)).symm
  refine j_dup C.1 dX11_init_52 rfl ?_
  refine je_callN (out := o_X2_init q9) (L := [(a, 10, 0, rfE [(3, q7), (2, q5), (1, q3), (0, q1)], inE [], z64)] ++ o_X10_init q1 f2 ++ o_X9_init q3 f4 ++ o_X9_init q5 f6 ++ o_X9_init q7 f8) C rfl lin_X11_31 ⟨Nat.le_of_ble_eq_true rfl, Nat.le_of_ble_eq_true rfl⟩ (hk_at h0 (a := 5) (b := 468) (Nat.le_of_ble_eq_true rfl) (Nat.le_of_ble_eq_true rfl)) (As := []) rfl rfl (Nat.le_of_ble_eq_true rfl) dX11_init_53 (fun h => cc_X2_init _ c _ q9 h) (fun f10 C => ?_)
  replace h0 := h0_at h0 (a := 5) (b := 468)
  replace hQ := hQ.trans (QC_bump (a := 5) (b := 468)).symm
  refine je_putR C hin fr_X11_32_10 (j := 0) (L' := [(a, 10, 0, rfE [(4, q9), (3, q7), (2, q5), (1, q3), (0, q1)], inE [], z64)] ++ o_X10_init q1 f2 ++ o_X9_init q3 f4 ++ o_X9_init q5 f6 ++ o_X9_init q7 f8 ++ o_X2_init q9 f10) rfl rfl dX11_init_56 (fun C => ?_)
  refine j_aload_n C.1 0 dX11_init_59 rfl ?_
  refine je_new C cn_X11_29 (hk_at h0 (a := 1) (b := 7) (Nat.le_of_ble_eq_true rfl) (Nat.le_of_ble_eq_true rfl)) dX11_init_60 (fun q11 _ C => ?_)
  replace h0 := h0_at h0 (a := 1) (b := 7)
  replace hQ := hQ.trans (QC_bump (a := 1) (b := 7)).symm
  refine j_dup C.1 dX11_init_63 rfl ?_
  refine je_callN (out := o_X2_init q11) (L := [(a, 10, 0, rfE [(4, q9), (3, q7), (2, q5), (1, q3), (0, q1)], inE [], z64)] ++ o_X10_init q1 f2 ++ o_X9_init q3 f4 ++ o_X9_init q5 f6 ++ o_X9_init q7 f8 ++ o_X2_init q9 f10) C rfl lin_X11_31 ⟨Nat.le_of_ble_eq_true rfl, Nat.le_of_ble_eq_true rfl⟩ (hk_at h0 (a := 5) (b := 468) (Nat.le_of_ble_eq_true rfl) (Nat.le_of_ble_eq_true rfl)) (As := []) rfl rfl (Nat.le_of_ble_eq_true rfl) dX11_init_64 (fun h => cc_X2_init _ c _ q11 h) (fun f12 C => ?_)
  replace h0 := h0_at h0 (a := 5) (b := 468)
  replace hQ := hQ.trans (QC_bump (a := 5) (b := 468)).symm
  refine je_putR C hin fr_X11_36_10 (j := 0) (L' := [(a, 10, 0, rfE [(5, q11), (4, q9), (3, q7), (2, q5), (1, q3), (0, q1)], inE [], z64)] ++ o_X10_init q1 f2 ++ o_X9_init q3 f4 ++ o_X9_init q5 f6 ++ o_X9_init q7 f8 ++ o_X2_init q9 f10 ++ o_X2_init q11 f12) rfl rfl dX11_init_67 (fun C => ?_)
  refine j_aload_n C.1 0 dX11_init_70 rfl ?_
  refine je_new C cn_X11_29 (hk_at h0 (a := 1) (b := 7) (Nat.le_of_ble_eq_true rfl) (Nat.le_of_ble_eq_true rfl)) dX11_init_71 (fun q13 _ C => ?_)
  replace h0 := h0_at h0 (a := 1) (b := 7)
  replace hQ := hQ.trans (QC_bump (a := 1) (b := 7)).symm
  refine j_dup C.1 dX11_init_74 rfl ?_
  refine je_callN (out := o_X2_init q13) (L := [(a, 10, 0, rfE [(5, q11), (4, q9), (3, q7), (2, q5), (1, q3), (0, q1)], inE [], z64)] ++ o_X10_init q1 f2 ++ o_X9_init q3 f4 ++ o_X9_init q5 f6 ++ o_X9_init q7 f8 ++ o_X2_init q9 f10 ++ o_X2_init q11 f12) C rfl lin_X11_31 ⟨Nat.le_of_ble_eq_true rfl, Nat.le_of_ble_eq_true rfl⟩ (hk_at h0 (a := 5) (b := 468) (Nat.le_of_ble_eq_true rfl) (Nat.le_of_ble_eq_true rfl)) (As := []) rfl rfl (Nat.le_of_ble_eq_true rfl) dX11_init_75 (fun h => cc_X2_init _ c _ q13 h) (fun f14 C => ?_)
  replace h0 := h0_at h0 (a := 5) (b := 468)
  replace hQ := hQ.trans (QC_bump (a := 5) (b := 468)).symm
  refine je_putR C hin fr_X11_39_10 (j := 0) (L' := [(a, 10, 0, rfE [(6, q13), (5, q11), (4, q9), (3, q7), (2, q5), (1, q3), (0, q1)], inE [], z64)] ++ o_X10_init q1 f2 ++ o_X9_init q3 f4 ++ o_X9_init q5 f6 ++ o_X9_init q7 f8 ++ o_X2_init q9 f10 ++ o_X2_init q11 f12 ++ o_X2_init q13 f14) rfl rfl dX11_init_78 (fun C => ?_)
  refine j_aload_n C.1 0 dX11_init_81 rfl ?_
  refine je_new C cn_X11_42 (hk_at h0 (a := 1) (b := 8) (Nat.le_of_ble_eq_true rfl) (Nat.le_of_ble_eq_true rfl)) dX11_init_82 (fun q15 _ C => ?_)
  replace h0 := h0_at h0 (a := 1) (b := 8)
  replace hQ := hQ.trans (QC_bump (a := 1) (b := 8)).symm
  refine j_dup C.1 dX11_init_85 rfl ?_
  refine j_aload_n C.1 0 dX11_init_86 rfl ?_
  refine je_getR C fg_X11_10_10 (j := 0) rfl rfl dX11_init_87 ?_
  refine j_aload_n C.1 0 dX11_init_90 rfl ?_
  refine je_getR C fg_X11_23_10 (j := 0) rfl rfl dX11_init_91 ?_
  refine je_callI (out := o_X1_init q15 q1 q5) (L := [(a, 10, 0, rfE [(6, q13), (5, q11), (4, q9), (3, q7), (2, q5), (1, q3), (0, q1)], inE [], z64)] ++ o_X10_init q1 f2 ++ o_X9_init q3 f4 ++ o_X9_init q5 f6 ++ o_X9_init q7 f8 ++ o_X2_init q9 f10 ++ o_X2_init q11 f12 ++ o_X2_init q13 f14) C rfl li_X11_44 ⟨Nat.le_of_ble_eq_true rfl, Nat.le_of_ble_eq_true rfl⟩ (hk_at h0 (a := 3) (b := 1203) (Nat.le_of_ble_eq_true rfl) (Nat.le_of_ble_eq_true rfl)) (As := [.ref q1, .ref q5]) rfl rfl (Nat.le_of_ble_eq_true rfl) dX11_init_94 (fun h => cc_X1_init _ c _ q15 q1 q5 h) (fun f16 C => ?_)
  replace h0 := h0_at h0 (a := 3) (b := 1203)
  replace hQ := hQ.trans (QC_bump (a := 3) (b := 1203)).symm
  refine je_putR C hin fr_X11_47_10 (j := 0) (L' := [(a, 10, 0, rfE [(7, q15), (6, q13), (5, q11), (4, q9), (3, q7), (2, q5), (1, q3), (0, q1)], inE [], z64)] ++ o_X10_init q1 f2 ++ o_X9_init q3 f4 ++ o_X9_init q5 f6 ++ o_X9_init q7 f8 ++ o_X2_init q9 f10 ++ o_X2_init q11 f12 ++ o_X2_init q13 f14 ++ o_X1_init q15 q1 q5 f16) rfl rfl dX11_init_97 (fun C => ?_)
  refine j_aload_n C.1 0 dX11_init_100 rfl ?_
  refine je_new C cn_X11_51 (hk_at h0 (a := 1) (b := 8) (Nat.le_of_ble_eq_true rfl) (Nat.le_of_ble_eq_true rfl)) dX11_init_101 (fun q17 _ C => ?_)
  replace h0 := h0_at h0 (a := 1) (b := 8)
  replace hQ := hQ.trans (QC_bump (a := 1) (b := 8)).symm
  refine j_dup C.1 dX11_init_104 rfl ?_
  refine j_aload_n C.1 0 dX11_init_105 rfl ?_
  refine je_getR C fg_X11_10_10 (j := 0) rfl rfl dX11_init_106 ?_
  refine j_aload_n C.1 0 dX11_init_109 rfl ?_
  refine je_getR C fg_X11_36_10 (j := 0) rfl rfl dX11_init_110 ?_
  refine je_callI (out := o_X3_init q17 q1 q11) (L := [(a, 10, 0, rfE [(7, q15), (6, q13), (5, q11), (4, q9), (3, q7), (2, q5), (1, q3), (0, q1)], inE [], z64)] ++ o_X10_init q1 f2 ++ o_X9_init q3 f4 ++ o_X9_init q5 f6 ++ o_X9_init q7 f8 ++ o_X2_init q9 f10 ++ o_X2_init q11 f12 ++ o_X2_init q13 f14 ++ o_X1_init q15 q1 q5 f16) C rfl li_X11_53 ⟨Nat.le_of_ble_eq_true rfl, Nat.le_of_ble_eq_true rfl⟩ (hk_at h0 (a := 3) (b := 1203) (Nat.le_of_ble_eq_true rfl) (Nat.le_of_ble_eq_true rfl)) (As := [.ref q1, .ref q11]) rfl rfl (Nat.le_of_ble_eq_true rfl) dX11_init_113 (fun h => cc_X3_init _ c _ q17 q1 q11 h) (fun f18 C => ?_)
  replace h0 := h0_at h0 (a := 3) (b := 1203)
  replace hQ := hQ.trans (QC_bump (a := 3) (b := 1203)).symm
  refine je_putR C hin fr_X11_56_10 (j := 0) (L' := [(a, 10, 0, rfE [(8, q17), (7, q15), (6, q13), (5, q11), (4, q9), (3, q7), (2, q5), (1, q3), (0, q1)], inE [], z64)] ++ o_X10_init q1 f2 ++ o_X9_init q3 f4 ++ o_X9_init q5 f6 ++ o_X9_init q7 f8 ++ o_X2_init q9 f10 ++ o_X2_init q11 f12 ++ o_X2_init q13 f14 ++ o_X1_init q15 q1 q5 f16 ++ o_X3_init q17 q1 q11 f18) rfl rfl dX11_init_116 (fun C => ?_)
  refine j_aload_n C.1 0 dX11_init_119 rfl ?_
  refine je_new C cn_X11_60 (hk_at h0 (a := 1) (b := 3) (Nat.le_of_ble_eq_true rfl) (Nat.le_of_ble_eq_true rfl)) dX11_init_120 (fun q19 _ C => ?_)
  replace h0 := h0_at h0 (a := 1) (b := 3)
  replace hQ := hQ.trans (QC_bump (a := 1) (b := 3)).symm
  refine j_dup C.1 dX11_init_123 rfl ?_
  refine je_callI (out := o_X5_init q19) (L := [(a, 10, 0, rfE [(8, q17), (7, q15), (6, q13), (5, q11), (4, q9), (3, q7), (2, q5), (1, q3), (0, q1)], inE [], z64)] ++ o_X10_init q1 f2 ++ o_X9_init q3 f4 ++ o_X9_init q5 f6 ++ o_X9_init q7 f8 ++ o_X2_init q9 f10 ++ o_X2_init q11 f12 ++ o_X2_init q13 f14 ++ o_X1_init q15 q1 q5 f16 ++ o_X3_init q17 q1 q11 f18) C rfl li_X11_62 ⟨Nat.le_of_ble_eq_true rfl, Nat.le_of_ble_eq_true rfl⟩ (hk_at h0 (a := 109) (b := 4500) (Nat.le_of_ble_eq_true rfl) (Nat.le_of_ble_eq_true rfl)) (As := []) rfl rfl (Nat.le_of_ble_eq_true rfl) dX11_init_124 (fun h => cc_X5_init _ c _ q19 h) (fun f20 C => ?_)
  replace h0 := h0_at h0 (a := 109) (b := 4500)
  replace hQ := hQ.trans (QC_bump (a := 109) (b := 4500)).symm
  refine je_putR C hin fr_X11_63_10 (j := 0) (L' := [(a, 10, 0, rfE [(9, q19), (8, q17), (7, q15), (6, q13), (5, q11), (4, q9), (3, q7), (2, q5), (1, q3), (0, q1)], inE [], z64)] ++ o_X10_init q1 f2 ++ o_X9_init q3 f4 ++ o_X9_init q5 f6 ++ o_X9_init q7 f8 ++ o_X2_init q9 f10 ++ o_X2_init q11 f12 ++ o_X2_init q13 f14 ++ o_X1_init q15 q1 q5 f16 ++ o_X3_init q17 q1 q11 f18 ++ o_X5_init q19 f20) rfl rfl dX11_init_127 (fun C => ?_)
  refine j_aload_n C.1 0 dX11_init_130 rfl ?_
  refine je_new C cn_X11_67 (hk_at h0 (a := 1) (b := 7) (Nat.le_of_ble_eq_true rfl) (Nat.le_of_ble_eq_true rfl)) dX11_init_131 (fun q21 _ C => ?_)
  replace h0 := h0_at h0 (a := 1) (b := 7)
  replace hQ := hQ.trans (QC_bump (a := 1) (b := 7)).symm
  refine j_dup C.1 dX11_init_134 rfl ?_
  refine je_callN (out := o_X0_init q21) (L := [(a, 10, 0, rfE [(9, q19), (8, q17), (7, q15), (6, q13), (5, q11), (4, q9), (3, q7), (2, q5), (1, q3), (0, q1)], inE [], z64)] ++ o_X10_init q1 f2 ++ o_X9_init q3 f4 ++ o_X9_init q5 f6 ++ o_X9_init q7 f8 ++ o_X2_init q9 f10 ++ o_X2_init q11 f12 ++ o_X2_init q13 f14 ++ o_X1_init q15 q1 q5 f16 ++ o_X3_init q17 q1 q11 f18 ++ o_X5_init q19 f20) C rfl lin_X11_69 ⟨Nat.le_of_ble_eq_true rfl, Nat.le_of_ble_eq_true rfl⟩ (hk_at h0 (a := 4) (b := 419) (Nat.le_of_ble_eq_true rfl) (Nat.le_of_ble_eq_true rfl)) (As := []) rfl rfl (Nat.le_of_ble_eq_true rfl) dX11_init_135 (fun h => cc_X0_init _ c _ q21 h) (fun f22 C => ?_)
  replace h0 := h0_at h0 (a := 4) (b := 419)
  replace hQ := hQ.trans (QC_bump (a := 4) (b := 419)).symm
  refine je_putR C hin fr_X11_70_10 (j := 0) (L' := [(a, 10, 0, rfE [(10, q21), (9, q19), (8, q17), (7, q15), (6, q13), (5, q11), (4, q9), (3, q7), (2, q5), (1, q3), (0, q1)], inE [], z64)] ++ o_X10_init q1 f2 ++ o_X9_init q3 f4 ++ o_X9_init q5 f6 ++ o_X9_init q7 f8 ++ o_X2_init q9 f10 ++ o_X2_init q11 f12 ++ o_X2_init q13 f14 ++ o_X1_init q15 q1 q5 f16 ++ o_X3_init q17 q1 q11 f18 ++ o_X5_init q19 f20 ++ o_X0_init q21 f22) rfl rfl dX11_init_138 (fun C => ?_)
  refine j_aload_n C.1 0 dX11_init_141 rfl ?_
  refine je_new C cn_X11_74 (hk_at h0 (a := 1) (b := 7) (Nat.le_of_ble_eq_true rfl) (Nat.le_of_ble_eq_true rfl)) dX11_init_142 (fun q23 _ C => ?_)
  replace h0 := h0_at h0 (a := 1) (b := 7)
  replace hQ := hQ.trans (QC_bump (a := 1) (b := 7)).symm
  refine j_dup C.1 dX11_init_145 rfl ?_
  refine je_callN (out := o_X8_init q23) (L := [(a, 10, 0, rfE [(10, q21), (9, q19), (8, q17), (7, q15), (6, q13), (5, q11), (4, q9), (3, q7), (2, q5), (1, q3), (0, q1)], inE [], z64)] ++ o_X10_init q1 f2 ++ o_X9_init q3 f4 ++ o_X9_init q5 f6 ++ o_X9_init q7 f8 ++ o_X2_init q9 f10 ++ o_X2_init q11 f12 ++ o_X2_init q13 f14 ++ o_X1_init q15 q1 q5 f16 ++ o_X3_init q17 q1 q11 f18 ++ o_X5_init q19 f20 ++ o_X0_init q21 f22) C rfl lin_X11_76 ⟨Nat.le_of_ble_eq_true rfl, Nat.le_of_ble_eq_true rfl⟩ (hk_at h0 (a := 3) (b := 64) (Nat.le_of_ble_eq_true rfl) (Nat.le_of_ble_eq_true rfl)) (As := []) rfl rfl (Nat.le_of_ble_eq_true rfl) dX11_init_146 (fun h => cc_X8_init _ c _ q23 h) (fun f24 C => ?_)
  replace h0 := h0_at h0 (a := 3) (b := 64)
  replace hQ := hQ.trans (QC_bump (a := 3) (b := 64)).symm
  refine je_putR C hin fr_X11_77_10 (j := 0) (L' := [(a, 10, 0, rfE [(11, q23), (10, q21), (9, q19), (8, q17), (7, q15), (6, q13), (5, q11), (4, q9), (3, q7), (2, q5), (1, q3), (0, q1)], inE [], z64)] ++ o_X10_init q1 f2 ++ o_X9_init q3 f4 ++ o_X9_init q5 f6 ++ o_X9_init q7 f8 ++ o_X2_init q9 f10 ++ o_X2_init q11 f12 ++ o_X2_init q13 f14 ++ o_X1_init q15 q1 q5 f16 ++ o_X3_init q17 q1 q11 f18 ++ o_X5_init q19 f20 ++ o_X0_init q21 f22 ++ o_X8_init q23 f24) rfl rfl dX11_init_149 (fun C => ?_)
  refine j_aload_n C.1 0 dX11_init_152 rfl ?_
  refine je_new C cn_X11_81 (hk_at h0 (a := 1) (b := 8) (Nat.le_of_ble_eq_true rfl) (Nat.le_of_ble_eq_true rfl)) dX11_init_153 (fun q25 _ C => ?_)
  replace h0 := h0_at h0 (a := 1) (b := 8)
  replace hQ := hQ.trans (QC_bump (a := 1) (b := 8)).symm
  refine j_dup C.1 dX11_init_156 rfl ?_
  refine je_callN (out := o_X6_init q25) (L := [(a, 10, 0, rfE [(11, q23), (10, q21), (9, q19), (8, q17), (7, q15), (6, q13), (5, q11), (4, q9), (3, q7), (2, q5), (1, q3), (0, q1)], inE [], z64)] ++ o_X10_init q1 f2 ++ o_X9_init q3 f4 ++ o_X9_init q5 f6 ++ o_X9_init q7 f8 ++ o_X2_init q9 f10 ++ o_X2_init q11 f12 ++ o_X2_init q13 f14 ++ o_X1_init q15 q1 q5 f16 ++ o_X3_init q17 q1 q11 f18 ++ o_X5_init q19 f20 ++ o_X0_init q21 f22 ++ o_X8_init q23 f24) C rfl lin_X11_83 ⟨Nat.le_of_ble_eq_true rfl, Nat.le_of_ble_eq_true rfl⟩ (hk_at h0 (a := 5) (b := 521) (Nat.le_of_ble_eq_true rfl) (Nat.le_of_ble_eq_true rfl)) (As := []) rfl rfl (Nat.le_of_ble_eq_true rfl) dX11_init_157 (fun h => cc_X6_init _ c _ q25 h) (fun f26 C => ?_)
  replace h0 := h0_at h0 (a := 5) (b := 521)
  replace hQ := hQ.trans (QC_bump (a := 5) (b := 521)).symm
  refine je_putR C hin fr_X11_84_10 (j := 0) (L' := [(a, 10, 0, rfE [(12, q25), (11, q23), (10, q21), (9, q19), (8, q17), (7, q15), (6, q13), (5, q11), (4, q9), (3, q7), (2, q5), (1, q3), (0, q1)], inE [], z64)] ++ o_X10_init q1 f2 ++ o_X9_init q3 f4 ++ o_X9_init q5 f6 ++ o_X9_init q7 f8 ++ o_X2_init q9 f10 ++ o_X2_init q11 f12 ++ o_X2_init q13 f14 ++ o_X1_init q15 q1 q5 f16 ++ o_X3_init q17 q1 q11 f18 ++ o_X5_init q19 f20 ++ o_X0_init q21 f22 ++ o_X8_init q23 f24 ++ o_X6_init q25 f26) rfl rfl dX11_init_160 (fun C => ?_)
  refine j_aload_n C.1 0 dX11_init_163 rfl ?_
  refine j_iconst C.1 dX11_init_164 (v := (-1)) rfl ?_
  refine je_putI C fpc_X11_88_10 (j := 0) (L' := [(a, 10, 0, rfE [(12, q25), (11, q23), (10, q21), (9, q19), (8, q17), (7, q15), (6, q13), (5, q11), (4, q9), (3, q7), (2, q5), (1, q3), (0, q1)], inE [(14, (-1))], z64)] ++ o_X10_init q1 f2 ++ o_X9_init q3 f4 ++ o_X9_init q5 f6 ++ o_X9_init q7 f8 ++ o_X2_init q9 f10 ++ o_X2_init q11 f12 ++ o_X2_init q13 f14 ++ o_X1_init q15 q1 q5 f16 ++ o_X3_init q17 q1 q11 f18 ++ o_X5_init q19 f20 ++ o_X0_init q21 f22 ++ o_X8_init q23 f24 ++ o_X6_init q25 f26) rfl rfl dX11_init_165 (fun C => ?_)
  exact je_ret C hQ ((fun i => ([q1, q3, q5, q7, q9, q11, q13, q15, q17, q19, q21, q23, q25] : List Nat).getD i 0, f2, (fun i => ([f4, f6, f8, f10, f12, f14, f16, f18, f22, f24, f26] : List (Nat → Nat)).getD i (fun _ => 0)), f20)) rfl dX11_init_168

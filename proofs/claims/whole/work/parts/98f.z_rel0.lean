/-! the start: class and reference stand for the same -/
def E0_ (a : Nat) (q : (Nat → Nat) × Nat × (Nat → Nat → Nat) × (Nat × (Nat → Nat) × (Nat → Nat → Nat))) (b : Nat) (q' : Nat → Nat) (o : Nat) : List En := o_X11_init a q ++ o_X12_init b q' ++ [nw o 14 1]
set_option maxHeartbeats 8000000 in
set_option maxRecDepth 4000 in
theorem lay_0 {a : Nat} {q : (Nat → Nat) × Nat × (Nat → Nat → Nat) × (Nat × (Nat → Nat) × (Nat → Nat → Nat))} {b : Nat} {q' : Nat → Nat} {o : Nat} {E : List En} (hE : E = E0_ a q b q' o) (hn : (adr E).Nodup) (c : Lay) : Ly (BL c E) (adE E) := by
  have t0 : E.drop 0 = E0_ a q b q' o := hE
  simp only [E0_, o_X11_init, o_X5_init, List.append_assoc] at t0
  have t1 : E.drop 1 = _ := nxE (n := 1) t0 rfl
  have t3 : E.drop 3 = _ := nxE (n := 2) t1 rfl
  have t12 : E.drop 12 = _ := nxE (n := 9) t3 rfl
  have t21 : E.drop 21 = _ := nxE (n := 9) t12 rfl
  have t30 : E.drop 30 = _ := nxE (n := 9) t21 rfl
  have t36 : E.drop 36 = _ := nxE (n := 6) t30 rfl
  have t42 : E.drop 42 = _ := nxE (n := 6) t36 rfl
  have t48 : E.drop 48 = _ := nxE (n := 6) t42 rfl
  have t52 : E.drop 52 = _ := nxE (n := 4) t48 rfl
  have t56 : E.drop 56 = _ := nxE (n := 4) t52 rfl
  have t58 : E.drop 58 = _ := nxE (n := 2) t56 rfl
  have t67 : E.drop 67 = _ := nxE (n := 9) t58 rfl
  have t76 : E.drop 76 = _ := nxE (n := 9) t67 rfl
  have t85 : E.drop 85 = _ := nxE (n := 9) t76 rfl
  have t94 : E.drop 94 = _ := nxE (n := 9) t85 rfl
  have t103 : E.drop 103 = _ := nxE (n := 9) t94 rfl
  have t112 : E.drop 112 = _ := nxE (n := 9) t103 rfl
  have t121 : E.drop 121 = _ := nxE (n := 9) t112 rfl
  have t130 : E.drop 130 = _ := nxE (n := 9) t121 rfl
  have t139 : E.drop 139 = _ := nxE (n := 9) t130 rfl
  have t148 : E.drop 148 = _ := nxE (n := 9) t139 rfl
  have t157 : E.drop 157 = _ := nxE (n := 9) t148 rfl
  have t166 : E.drop 166 = _ := nxE (n := 9) t157 rfl
  have t171 : E.drop 171 = _ := nxE (n := 5) t166 rfl
  have t175 : E.drop 175 = _ := nxE (n := 4) t171 rfl
  have t181 : E.drop 181 = _ := nxE (n := 6) t175 rfl
  have t200 : E.drop 200 = _ := nxE (n := 19) t181 rfl
  have u200 := t200.trans (List.append_nil _).symm
  have g0 : E[0]? = some _ := lkE (i := 0) t0 rfl
  have g1 : E[1]? = some _ := lkE (i := 0) t1 rfl
  have g3 : E[3]? = some _ := lkE (i := 0) t3 rfl
  have g12 : E[12]? = some _ := lkE (i := 0) t12 rfl
  have g21 : E[21]? = some _ := lkE (i := 0) t21 rfl
  have g30 : E[30]? = some _ := lkE (i := 0) t30 rfl
  have g36 : E[36]? = some _ := lkE (i := 0) t36 rfl
  have g42 : E[42]? = some _ := lkE (i := 0) t42 rfl
  have g48 : E[48]? = some _ := lkE (i := 0) t48 rfl
  have g52 : E[52]? = some _ := lkE (i := 0) t52 rfl
  have g56 : E[56]? = some _ := lkE (i := 0) t56 rfl
  have g58 : E[58]? = some _ := lkE (i := 0) t58 rfl
  have g67 : E[67]? = some _ := lkE (i := 0) t67 rfl
  have g76 : E[76]? = some _ := lkE (i := 0) t76 rfl
  have g85 : E[85]? = some _ := lkE (i := 0) t85 rfl
  have g94 : E[94]? = some _ := lkE (i := 0) t94 rfl
  have g103 : E[103]? = some _ := lkE (i := 0) t103 rfl
  have g112 : E[112]? = some _ := lkE (i := 0) t112 rfl
  have g121 : E[121]? = some _ := lkE (i := 0) t121 rfl
  have g130 : E[130]? = some _ := lkE (i := 0) t130 rfl
  have g139 : E[139]? = some _ := lkE (i := 0) t139 rfl
  have g148 : E[148]? = some _ := lkE (i := 0) t148 rfl
  have g157 : E[157]? = some _ := lkE (i := 0) t157 rfl
  have g166 : E[166]? = some _ := lkE (i := 0) t166 rfl
  have g171 : E[171]? = some _ := lkE (i := 0) t171 rfl
  have g175 : E[175]? = some _ := lkE (i := 0) t175 rfl
  have g181 : E[181]? = some _ := lkE (i := 0) t181 rfl
  have g200 : E[200]? = some _ := lkE (i := 0) u200 rfl
  have g2 : E[2]? = some _ := lkE (i := 1) t1 rfl
  have g57 : E[57]? = some _ := lkE (i := 1) t56 rfl
  refine ⟨adE_inj hn, blkR hn t181, ⟨dr_E hn g0 g1 rfl rfl, dr_E hn g0 g3 rfl rfl, dr_E hn g0 g12 rfl rfl, dr_E hn g0 g21 rfl rfl, dr_E hn g0 g30 rfl rfl, dr_E hn g0 g36 rfl rfl, dr_E hn g0 g42 rfl rfl, dr_E hn g0 g48 rfl rfl, dr_E hn g0 g52 rfl rfl, dr_E hn g0 g56 rfl rfl, dr_E hn g0 g166 rfl rfl, dr_E hn g0 g171 rfl rfl, dr_E hn g0 g175 rfl rfl, dr_E hn g1 g2 rfl rfl, aZ_E hn g2 rfl⟩, ?_, ?_, blkD1 hn t48 g1 rfl g12 rfl, blkD3 hn t52 g1 rfl g36 rfl, blkQ hn t166 t171 t175, dr_E hn g56 g57 rfl rfl, aZ_E hn g57 rfl, ?_, aZ_E hn g200 rfl, in_E hn g0 rfl, in_E hn g181 rfl, in_E hn g200 rfl⟩
  · intro σ h
    rcases h with rfl | rfl | rfl | ⟨i, hi, rfl⟩
    · exact blkS hn t3
    · exact blkS hn t12
    · exact blkS hn t21
    · have h12 : i = 0 ∨ i = 1 ∨ i = 2 ∨ i = 3 ∨ i = 4 ∨ i = 5 ∨ i = 6 ∨ i = 7 ∨ i = 8 ∨ i = 9 ∨ i = 10 ∨ i = 11 := by omega
      rcases h12 with rfl | rfl | rfl | rfl | rfl | rfl | rfl | rfl | rfl | rfl | rfl | rfl
      · exact blkS hn t58
      · exact blkS hn t67
      · exact blkS hn t76
      · exact blkS hn t85
      · exact blkS hn t94
      · exact blkS hn t103
      · exact blkS hn t112
      · exact blkS hn t121
      · exact blkS hn t130
      · exact blkS hn t139
      · exact blkS hn t148
      · exact blkS hn t157
  · intro r h
    rcases h with rfl | rfl | rfl
    · exact blkL hn t30
    · exact blkL hn t36
    · exact blkL hn t42
  · intro i hi
    have h12 : i = 0 ∨ i = 1 ∨ i = 2 ∨ i = 3 ∨ i = 4 ∨ i = 5 ∨ i = 6 ∨ i = 7 ∨ i = 8 ∨ i = 9 ∨ i = 10 ∨ i = 11 := by omega
    rcases h12 with rfl | rfl | rfl | rfl | rfl | rfl | rfl | rfl | rfl | rfl | rfl | rfl
    · exact dr_E hn g57 g58 rfl rfl
    · exact dr_E hn g57 g67 rfl rfl
    · exact dr_E hn g57 g76 rfl rfl
    · exact dr_E hn g57 g85 rfl rfl
    · exact dr_E hn g57 g94 rfl rfl
    · exact dr_E hn g57 g103 rfl rfl
    · exact dr_E hn g57 g112 rfl rfl
    · exact dr_E hn g57 g121 rfl rfl
    · exact dr_E hn g57 g130 rfl rfl
    · exact dr_E hn g57 g139 rfl rfl
    · exact dr_E hn g57 g148 rfl rfl
    · exact dr_E hn g57 g157 rfl rfl
def Wz : List (Nat × Int32) := [(24, 10), (23, 10), (22, 10), (21, 10), (20, 10), (19, 10), (18, 10), (17, 10), (16, 10), (15, 10), (14, 10), (13, 10), (6, 3), (5, 2), (4, 1), (3, 10), (12, 1)]
def Fz (k : Nat) : Nat := (inE Wz k).toBitVec.toNat
theorem Fz_n3 (k : Nat) : n3 (Fz k) = inE Wz k := by
  unfold Fz n3
  generalize inE Wz k = x
  apply Int32.toBitVec_inj.1
  show BitVec.ofNat 32 x.toBitVec.toNat = x.toBitVec
  simp
theorem ok_0 : Ok Fz 0 (fun _ _ => 0) 0 (fun _ => 0) (fun _ => 0) 0 := by
  have z0 : Fz 0 = 0 := by decide
  have z2 : Fz 2 = 0 := by decide
  refine ⟨⟨?_, by decide, fun s hs => by omega, fun s t h1 h2 => by omega⟩, fun h => by omega, by omega, fun j hj => by omega, by omega, fun h => by omega, by omega, fun k hk => by omega⟩
  unfold WB
  decide
set_option maxHeartbeats 8000000 in
set_option maxRecDepth 4000 in
theorem rel_0 {a : Nat} {q : (Nat → Nat) × Nat × (Nat → Nat → Nat) × (Nat × (Nat → Nat) × (Nat → Nat → Nat))} {b : Nat} {q' : Nat → Nat} {o : Nat} {E : List En} (hE : E = E0_ a q b q' o) (hn : (adr E).Nodup) : Rel (adE E) (BM E) := by
  have t0 : E.drop 0 = E0_ a q b q' o := hE
  simp only [E0_, o_X11_init, o_X5_init, List.append_assoc] at t0
  have t1 : E.drop 1 = _ := nxE (n := 1) t0 rfl
  have t3 : E.drop 3 = _ := nxE (n := 2) t1 rfl
  have t12 : E.drop 12 = _ := nxE (n := 9) t3 rfl
  have t21 : E.drop 21 = _ := nxE (n := 9) t12 rfl
  have t30 : E.drop 30 = _ := nxE (n := 9) t21 rfl
  have t36 : E.drop 36 = _ := nxE (n := 6) t30 rfl
  have t42 : E.drop 42 = _ := nxE (n := 6) t36 rfl
  have t48 : E.drop 48 = _ := nxE (n := 6) t42 rfl
  have t52 : E.drop 52 = _ := nxE (n := 4) t48 rfl
  have t56 : E.drop 56 = _ := nxE (n := 4) t52 rfl
  have t58 : E.drop 58 = _ := nxE (n := 2) t56 rfl
  have t67 : E.drop 67 = _ := nxE (n := 9) t58 rfl
  have t76 : E.drop 76 = _ := nxE (n := 9) t67 rfl
  have t85 : E.drop 85 = _ := nxE (n := 9) t76 rfl
  have t94 : E.drop 94 = _ := nxE (n := 9) t85 rfl
  have t103 : E.drop 103 = _ := nxE (n := 9) t94 rfl
  have t112 : E.drop 112 = _ := nxE (n := 9) t103 rfl
  have t121 : E.drop 121 = _ := nxE (n := 9) t112 rfl
  have t130 : E.drop 130 = _ := nxE (n := 9) t121 rfl
  have t139 : E.drop 139 = _ := nxE (n := 9) t130 rfl
  have t148 : E.drop 148 = _ := nxE (n := 9) t139 rfl
  have t157 : E.drop 157 = _ := nxE (n := 9) t148 rfl
  have t166 : E.drop 166 = _ := nxE (n := 9) t157 rfl
  have t171 : E.drop 171 = _ := nxE (n := 5) t166 rfl
  have t175 : E.drop 175 = _ := nxE (n := 4) t171 rfl
  have t181 : E.drop 181 = _ := nxE (n := 6) t175 rfl
  have m0 : (BM E).1 (adE E 0) = inE _ := mu_E hn (e := (_, _, _, _, inE _, _)) (lkE (p := 0) (i := 0) t0 rfl)
  have m1 : (BM E).1 (adE E 1) = inE _ := mu_E hn (e := (_, _, _, _, inE _, _)) (lkE (p := 1) (i := 0) t1 rfl)
  have m3 : (BM E).1 (adE E 3) = inE _ := mu_E hn (e := (_, _, _, _, inE _, _)) (lkE (p := 3) (i := 0) t3 rfl)
  have m4 : (BM E).1 (adE E 4) = inE _ := mu_E hn (e := (_, _, _, _, inE _, _)) (lkE (p := 3) (i := 1) t3 rfl)
  have m10 : (BM E).1 (adE E 10) = inE _ := mu_E hn (e := (_, _, _, _, inE _, _)) (lkE (p := 3) (i := 7) t3 rfl)
  have m30 : (BM E).1 (adE E 30) = inE _ := mu_E hn (e := (_, _, _, _, inE _, _)) (lkE (p := 30) (i := 0) t30 rfl)
  have m56 : (BM E).1 (adE E 56) = inE _ := mu_E hn (e := (_, _, _, _, inE _, _)) (lkE (p := 56) (i := 0) t56 rfl)
  have m181 : (BM E).1 (adE E 181) = inE _ := mu_E hn (e := (_, _, _, _, inE _, _)) (lkE (p := 181) (i := 0) t181 rfl)
  have m182 : (BM E).1 (adE E 182) = inE _ := mu_E hn (e := (_, _, _, _, inE _, _)) (lkE (p := 181) (i := 1) t181 rfl)
  have z0 : Fz 0 = 0 := by decide
  have z11 : Fz 11 = 0 := by decide
  have z2 : Fz 2 = 0 := by decide
  have r4 : Row (BM E) (adE E 4) 12 (fun k => Fz (13 + k)) := fun k hk => (congrFun m4 k).trans (by revert k; decide)
  refine ⟨Fz, 0, fun _ _ => 0, 0, fun _ => 0, fun _ => 0, 0, -1, ⟨⟨(congrFun m3 0).trans (by decide), (congrFun m3 1).trans (by decide), (congrFun m3 2).trans (by decide), (congrFun m3 3).trans (by decide), (congrFun m3 4).trans (by decide), (congrFun m3 5).trans (by decide), (congrFun m3 6).trans (by decide), (congrFun m3 7).trans (by decide), (congrFun m3 8).trans (by decide), (congrFun m3 9).trans (by decide), (congrFun m3 11).trans (by decide), r4, fun k hk => by omega, fun k hk => by omega, fun k hk => by omega, fun k hk => by omega, fun k hk => by omega, (congrFun m3 10).trans (by decide), (congrFun m10 0).trans (by decide), ⟨0, by omega, (congrFun m10 1).trans (by decide), fun k w hk => by omega⟩⟩, ⟨(congrFun m30 0).trans (by decide), fun h => by omega⟩, ⟨0, by omega, (congrFun m56 0).trans (by decide), (congrFun m56 1).trans (by decide), fun j hj => by omega⟩, ⟨(congrFun m0 13).trans (by decide), fun h => by omega⟩, ⟨(congrFun m1 1).trans (by decide), fun k hk => by omega⟩, (congrFun m0 14).trans (by decide)⟩, ⟨fun k _ => (congrFun m182 k).trans (Fz_n3 k).symm, ⟨(congrFun m181 7).trans (by decide), fun j hj => by omega⟩, ⟨(congrFun m181 6).trans (by decide), fun h => by omega⟩, ⟨(congrFun m181 9).trans (by decide), fun k hk => by omega⟩, (congrFun m181 14).trans (by decide)⟩, ok_0⟩
set_option maxHeartbeats 8000000 in
set_option maxRecDepth 4000 in
theorem adr_0 {a : Nat} {q : (Nat → Nat) × Nat × (Nat → Nat → Nat) × (Nat × (Nat → Nat) × (Nat → Nat → Nat))} {b : Nat} {q' : Nat → Nat} {o : Nat} {E : List En} (hE : E = E0_ a q b q' o) : adE E 0 = a ∧ adE E 181 = b ∧ adE E 200 = o := by
  have t0 : E.drop 0 = E0_ a q b q' o := hE
  simp only [E0_, o_X11_init, o_X5_init, List.append_assoc] at t0
  have t1 : E.drop 1 = _ := nxE (n := 1) t0 rfl
  have t3 : E.drop 3 = _ := nxE (n := 2) t1 rfl
  have t12 : E.drop 12 = _ := nxE (n := 9) t3 rfl
  have t21 : E.drop 21 = _ := nxE (n := 9) t12 rfl
  have t30 : E.drop 30 = _ := nxE (n := 9) t21 rfl
  have t36 : E.drop 36 = _ := nxE (n := 6) t30 rfl
  have t42 : E.drop 42 = _ := nxE (n := 6) t36 rfl
  have t48 : E.drop 48 = _ := nxE (n := 6) t42 rfl
  have t52 : E.drop 52 = _ := nxE (n := 4) t48 rfl
  have t56 : E.drop 56 = _ := nxE (n := 4) t52 rfl
  have t58 : E.drop 58 = _ := nxE (n := 2) t56 rfl
  have t67 : E.drop 67 = _ := nxE (n := 9) t58 rfl
  have t76 : E.drop 76 = _ := nxE (n := 9) t67 rfl
  have t85 : E.drop 85 = _ := nxE (n := 9) t76 rfl
  have t94 : E.drop 94 = _ := nxE (n := 9) t85 rfl
  have t103 : E.drop 103 = _ := nxE (n := 9) t94 rfl
  have t112 : E.drop 112 = _ := nxE (n := 9) t103 rfl
  have t121 : E.drop 121 = _ := nxE (n := 9) t112 rfl
  have t130 : E.drop 130 = _ := nxE (n := 9) t121 rfl
  have t139 : E.drop 139 = _ := nxE (n := 9) t130 rfl
  have t148 : E.drop 148 = _ := nxE (n := 9) t139 rfl
  have t157 : E.drop 157 = _ := nxE (n := 9) t148 rfl
  have t166 : E.drop 166 = _ := nxE (n := 9) t157 rfl
  have t171 : E.drop 171 = _ := nxE (n := 5) t166 rfl
  have t175 : E.drop 175 = _ := nxE (n := 4) t171 rfl
  have t181 : E.drop 181 = _ := nxE (n := 6) t175 rfl
  have t200 : E.drop 200 = _ := nxE (n := 19) t181 rfl
  have u200 := t200.trans (List.append_nil _).symm
  exact ⟨adE_at (lkE (i := 0) t0 rfl), adE_at (lkE (p := 181) (i := 0) t181 rfl), adE_at (lkE (p := 200) (i := 0) u200 rfl)⟩

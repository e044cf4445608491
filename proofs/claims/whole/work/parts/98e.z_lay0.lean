/-! the start: what lies where -/
def topL : List Nat → Nat
  | [] => 0
  | x :: l => x + topL l
theorem topL_mem {x : Nat} : ∀ {l : List Nat}, x ∈ l → x ≤ topL l
  | y :: l, h => by
    show x ≤ y + topL l
    rcases List.mem_cons.mp h with h | h
    · omega
    · have := topL_mem h; omega
def adE (E : List En) (i : Nat) : Nat := match E[i]? with
  | some e => e.1
  | none => topL (adr E) + 1 + i
theorem adE_at {E : List En} {i : Nat} {e : En} (h : E[i]? = some e) : adE E i = e.1 := by unfold adE; rw [h]
theorem adE_inj {E : List En} (hn : (adr E).Nodup) : Inj (adE E) := by
  intro i j h
  unfold adE at h
  split at h
  · next e he =>
    split at h
    · next e' he' =>
      have h1 : (adr E)[i]? = some e.1 := by unfold adr; rw [List.getElem?_map, he]; rfl
      have h2 : (adr E)[j]? = some e'.1 := by unfold adr; rw [List.getElem?_map, he']; rfl
      exact (List.getElem?_inj (List.getElem?_eq_some_iff.mp h1).1 hn).1 (by rw [h1, h2, h])
    · have := topL_mem (mem_adr he); omega
  · split at h
    · next e' he' => have := topL_mem (mem_adr he'); omega
    · omega
theorem dr_E {c : Lay} {E : List En} (hn : (adr E).Nodup) {j i f k : Nat} {e e' : En} (h : E[j]? = some e) (h' : E[i]? = some e') (hf : e.2.2.2.1 f = some e'.1) (hk : e'.2.1 = k) : dr (BL c E) (adE E j) f k = some (adE E i) := by
  have h1 : aR (BL c E) (adE E j) f = some (adE E i) := by
    rw [adE_at h, adE_at h', ← hf]
    show lk (fun _ => none) (fun e => e.2.2.2.1) E e.1 f = _
    rw [lk_at h hn]
  unfold dr
  rw [h1]
  show (if adE E i ∈ adr E ∧ lk 0 (fun e => e.2.1) E (adE E i) = k then some (adE E i) else none) = _
  rw [if_pos]
  rw [adE_at h', lk_at h' hn]
  exact ⟨mem_adr h', hk⟩
theorem aZ_E {c : Lay} {E : List En} (hn : (adr E).Nodup) {j k : Nat} {e : En} (h : E[j]? = some e) (hk : e.2.2.1 = k) : aZ (BL c E) (adE E j) = k := by
  rw [adE_at h, ← hk]; exact lk_at (f := fun e => e.2.2.1) h hn
theorem in_E {c : Lay} {E : List En} (hn : (adr E).Nodup) {j k : Nat} {e : En} (h : E[j]? = some e) (hk : e.2.1 = k) : inL (BL c E) (adE E j) k := by
  rw [adE_at h, ← hk]; exact ⟨mem_adr h, lk_at (f := fun e => e.2.1) h hn⟩
theorem mu_E {E : List En} (hn : (adr E).Nodup) {j : Nat} {e : En} (h : E[j]? = some e) : (BM E).1 (adE E j) = e.2.2.2.2.1 := by
  rw [adE_at h]; exact lk_at (f := fun e => e.2.2.2.2.1) h hn
theorem lkE {E L R : List En} {p i : Nat} {e : En} (t : E.drop p = L ++ R) (h : L[i]? = some e) : E[p + i]? = some e := by
  rw [← List.getElem?_drop, t, List.getElem?_append_left (List.getElem?_eq_some_iff.mp h).1]; exact h
theorem nxE {E L R : List En} {p n : Nat} (t : E.drop p = L ++ R) (h : L.length = n) : E.drop (p + n) = R := by
  rw [← List.drop_drop, t, ← h, List.drop_left]
theorem blkS {c : Lay} {E R : List En} {p a : Nat} {q : Nat → Nat} (hn : (adr E).Nodup) (t : E.drop p = o_X9_init a q ++ R) : LyS (BL c E) (adE E) p := by
  have g0 : E[p]? = some _ := lkE (i := 0) t rfl
  have g1 : E[p + 1]? = some _ := lkE (i := 1) t rfl
  have g2 : E[p + 2]? = some _ := lkE (i := 2) t rfl
  have g3 : E[p + 3]? = some _ := lkE (i := 3) t rfl
  have g4 : E[p + 4]? = some _ := lkE (i := 4) t rfl
  have g5 : E[p + 5]? = some _ := lkE (i := 5) t rfl
  have g6 : E[p + 6]? = some _ := lkE (i := 6) t rfl
  have g7 : E[p + 7]? = some _ := lkE (i := 7) t rfl
  have g8 : E[p + 8]? = some _ := lkE (i := 8) t rfl
  exact ⟨dr_E hn g0 g1 rfl rfl, dr_E hn g0 g2 rfl rfl, dr_E hn g0 g3 rfl rfl, dr_E hn g0 g4 rfl rfl, dr_E hn g0 g5 rfl rfl, dr_E hn g0 g6 rfl rfl, dr_E hn g0 g7 rfl rfl, dr_E hn g7 g8 rfl rfl, aZ_E hn g1 rfl, aZ_E hn g2 rfl, aZ_E hn g3 rfl, aZ_E hn g4 rfl, aZ_E hn g5 rfl, aZ_E hn g6 rfl, aZ_E hn g8 rfl⟩
theorem blkL {c : Lay} {E R : List En} {p a : Nat} {q : Nat → Nat} (hn : (adr E).Nodup) (t : E.drop p = o_X2_init a q ++ R) : LyL (BL c E) (adE E) p := by
  have g0 : E[p]? = some _ := lkE (i := 0) t rfl
  have g1 : E[p + 1]? = some _ := lkE (i := 1) t rfl
  have g2 : E[p + 2]? = some _ := lkE (i := 2) t rfl
  have g3 : E[p + 3]? = some _ := lkE (i := 3) t rfl
  have g4 : E[p + 4]? = some _ := lkE (i := 4) t rfl
  have g5 : E[p + 5]? = some _ := lkE (i := 5) t rfl
  exact ⟨dr_E hn g0 g1 rfl rfl, dr_E hn g0 g2 rfl rfl, dr_E hn g0 g3 rfl rfl, dr_E hn g0 g4 rfl rfl, dr_E hn g0 g5 rfl rfl, aZ_E hn g1 rfl, aZ_E hn g2 rfl, aZ_E hn g3 rfl, aZ_E hn g4 rfl, aZ_E hn g5 rfl⟩
theorem blkD1 {c : Lay} {E R : List En} {p a i k : Nat} {e1 e2 : En} {q : Nat → Nat} (hn : (adr E).Nodup) (t : E.drop p = o_X1_init a e1.1 e2.1 q ++ R) (h1 : E[1]? = some e1) (k1 : e1.2.1 = 9) (h2 : E[i]? = some e2) (k2 : e2.2.1 = k) : LyD (BL c E) (adE E) p i k := by
  have g0 : E[p]? = some _ := lkE (i := 0) t rfl
  have g1 : E[p + 1]? = some _ := lkE (i := 1) t rfl
  have g2 : E[p + 2]? = some _ := lkE (i := 2) t rfl
  have g3 : E[p + 3]? = some _ := lkE (i := 3) t rfl
  exact ⟨dr_E hn g0 h1 rfl k1, dr_E hn g0 g1 rfl rfl, dr_E hn g0 g2 rfl rfl, dr_E hn g0 g3 rfl rfl, dr_E hn g0 h2 rfl k2, aZ_E hn g1 rfl, aZ_E hn g2 rfl, aZ_E hn g3 rfl⟩
theorem blkD3 {c : Lay} {E R : List En} {p a i k : Nat} {e1 e2 : En} {q : Nat → Nat} (hn : (adr E).Nodup) (t : E.drop p = o_X3_init a e1.1 e2.1 q ++ R) (h1 : E[1]? = some e1) (k1 : e1.2.1 = 9) (h2 : E[i]? = some e2) (k2 : e2.2.1 = k) : LyD (BL c E) (adE E) p i k := by
  have g0 : E[p]? = some _ := lkE (i := 0) t rfl
  have g1 : E[p + 1]? = some _ := lkE (i := 1) t rfl
  have g2 : E[p + 2]? = some _ := lkE (i := 2) t rfl
  have g3 : E[p + 3]? = some _ := lkE (i := 3) t rfl
  exact ⟨dr_E hn g0 h1 rfl k1, dr_E hn g0 g1 rfl rfl, dr_E hn g0 g2 rfl rfl, dr_E hn g0 g3 rfl rfl, dr_E hn g0 h2 rfl k2, aZ_E hn g1 rfl, aZ_E hn g2 rfl, aZ_E hn g3 rfl⟩
theorem blkQ {c : Lay} {E R0 R8 R6 : List En} {a0 a8 a6 : Nat} {q0 q8 q6 : Nat → Nat} (hn : (adr E).Nodup) (t0 : E.drop 166 = o_X0_init a0 q0 ++ R0) (t8 : E.drop 171 = o_X8_init a8 q8 ++ R8) (t6 : E.drop 175 = o_X6_init a6 q6 ++ R6) : LyQ (BL c E) (adE E) := by
  have g166 : E[166]? = some _ := lkE (i := 0) t0 rfl
  have g167 : E[167]? = some _ := lkE (i := 1) t0 rfl
  have g168 : E[168]? = some _ := lkE (i := 2) t0 rfl
  have g169 : E[169]? = some _ := lkE (i := 3) t0 rfl
  have g170 : E[170]? = some _ := lkE (i := 4) t0 rfl
  have g171 : E[171]? = some _ := lkE (i := 0) t8 rfl
  have g172 : E[172]? = some _ := lkE (i := 1) t8 rfl
  have g173 : E[173]? = some _ := lkE (i := 2) t8 rfl
  have g174 : E[174]? = some _ := lkE (i := 3) t8 rfl
  have g175 : E[175]? = some _ := lkE (i := 0) t6 rfl
  have g176 : E[176]? = some _ := lkE (i := 1) t6 rfl
  have g177 : E[177]? = some _ := lkE (i := 2) t6 rfl
  have g178 : E[178]? = some _ := lkE (i := 3) t6 rfl
  have g179 : E[179]? = some _ := lkE (i := 4) t6 rfl
  have g180 : E[180]? = some _ := lkE (i := 5) t6 rfl
  exact ⟨dr_E hn g166 g167 rfl rfl, dr_E hn g166 g168 rfl rfl, dr_E hn g166 g169 rfl rfl, dr_E hn g166 g170 rfl rfl, aZ_E hn g167 rfl, aZ_E hn g168 rfl, aZ_E hn g169 rfl, aZ_E hn g170 rfl, dr_E hn g171 g172 rfl rfl, dr_E hn g171 g173 rfl rfl, dr_E hn g171 g174 rfl rfl, aZ_E hn g172 rfl, aZ_E hn g173 rfl, aZ_E hn g174 rfl, dr_E hn g175 g176 rfl rfl, dr_E hn g175 g177 rfl rfl, dr_E hn g175 g178 rfl rfl, dr_E hn g175 g179 rfl rfl, dr_E hn g175 g180 rfl rfl, aZ_E hn g176 rfl, aZ_E hn g177 rfl, aZ_E hn g178 rfl, aZ_E hn g179 rfl, aZ_E hn g180 rfl⟩
set_option maxHeartbeats 4000000 in
theorem blkR {c : Lay} {E R : List En} {a : Nat} {q : Nat → Nat} (hn : (adr E).Nodup) (t : E.drop 181 = o_X12_init a q ++ R) : LyR (BL c E) (adE E) := by
  have g181 : E[181]? = some _ := lkE (i := 0) t rfl
  have g182 : E[182]? = some _ := lkE (i := 1) t rfl
  have g183 : E[183]? = some _ := lkE (i := 2) t rfl
  have g184 : E[184]? = some _ := lkE (i := 3) t rfl
  have g185 : E[185]? = some _ := lkE (i := 4) t rfl
  have g186 : E[186]? = some _ := lkE (i := 5) t rfl
  have g187 : E[187]? = some _ := lkE (i := 6) t rfl
  have g188 : E[188]? = some _ := lkE (i := 7) t rfl
  have g189 : E[189]? = some _ := lkE (i := 8) t rfl
  have g190 : E[190]? = some _ := lkE (i := 9) t rfl
  have g191 : E[191]? = some _ := lkE (i := 10) t rfl
  have g192 : E[192]? = some _ := lkE (i := 11) t rfl
  have g193 : E[193]? = some _ := lkE (i := 12) t rfl
  have g194 : E[194]? = some _ := lkE (i := 13) t rfl
  have g195 : E[195]? = some _ := lkE (i := 14) t rfl
  have g196 : E[196]? = some _ := lkE (i := 15) t rfl
  have g197 : E[197]? = some _ := lkE (i := 16) t rfl
  have g198 : E[198]? = some _ := lkE (i := 17) t rfl
  have g199 : E[199]? = some _ := lkE (i := 18) t rfl
  exact ⟨dr_E hn g181 g182 rfl rfl, dr_E hn g181 g183 rfl rfl, dr_E hn g181 g184 rfl rfl, dr_E hn g181 g185 rfl rfl, dr_E hn g181 g186 rfl rfl, dr_E hn g181 g187 rfl rfl, dr_E hn g181 g188 rfl rfl, dr_E hn g181 g189 rfl rfl, dr_E hn g181 g190 rfl rfl, dr_E hn g181 g191 rfl rfl, dr_E hn g181 g192 rfl rfl, dr_E hn g181 g193 rfl rfl, dr_E hn g181 g194 rfl rfl, dr_E hn g181 g195 rfl rfl, dr_E hn g181 g196 rfl rfl, dr_E hn g181 g197 rfl rfl, dr_E hn g181 g198 rfl rfl, dr_E hn g181 g199 rfl rfl, aZ_E hn g182 rfl, aZ_E hn g183 rfl, aZ_E hn g184 rfl, aZ_E hn g185 rfl, aZ_E hn g186 rfl, aZ_E hn g187 rfl, aZ_E hn g188 rfl, aZ_E hn g189 rfl, aZ_E hn g190 rfl, aZ_E hn g191 rfl, aZ_E hn g192 rfl, aZ_E hn g193 rfl, aZ_E hn g194 rfl, aZ_E hn g195 rfl, aZ_E hn g196 rfl, aZ_E hn g197 rfl, aZ_E hn g198 rfl, aZ_E hn g199 rfl⟩

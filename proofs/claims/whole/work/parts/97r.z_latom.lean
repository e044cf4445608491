/-! comparisons -/
def cmR (N : Nat) (Λ : Lay) (fA : Mem → Nat → Option (Int32 × Mem)) (μ : Mem) (v0 : Nat) : Option (Int32 × Mem) := (m_X12_readSum N Λ μ v0).bind fun r10 =>
        if r10.1 = 0 then
          (some (0, r10.2))
        else
          ((m_X12_sign N Λ r10.2 v0 60).bind fun r13 =>
          if r13.1 = 0 then
            ((m_X12_sign N Λ r13.2 v0 62).bind fun r16 =>
            if r16.1 = 0 then
              (jn_X12_readAtom_159 N Λ fA r16.2)
            else
              (jn_X12_readAtom_152 N Λ fA r16.2 v0 r13.1))
          else
            (jn_X12_readAtom_152 N Λ fA r13.2 v0 r13.1))
theorem x_cmp {N : Nat} (hN : 1099511627776 ≤ N) {Λ : Lay} {ad : Nat → Nat} (hj : Inj ad) (hP : LyP Λ ad) (hD : LyD Λ ad 52 36 2) (hR : LyR Λ ad) (hL : LyL Λ ad 36) {T : Nat → Int32} {n m : Nat} (hm : Tm T n m) (fA : Mem → Nat → Option (Int32 × Mem)) {H : Nat → Nat} {c i dp L pe b : Nat} (hL21 : L ≤ 21) (hc : c + 3 ≤ i) (hi : i ≤ m) (hpe : pe ≤ n) (hpb : nb T n pe = BT T n i) : XO ad T n m H c i dp false true L (fun μ v => m_X3_readComparison N Λ (rd ad 52 μ i v) (ad 52)) (fun μ => cmR N Λ fA (pt ad μ pe b) (ad 181)) := by
  have hm4 := hm.1
  have hmn := hm.2.1
  have h60 : 60 = 40 ∨ 60 = 41 ∨ 60 = 43 ∨ 60 = 59 ∨ 60 = 60 ∨ 60 = 62 := by omega
  have h62 : 62 = 40 ∨ 62 = 41 ∨ 62 = 43 ∨ 62 = 59 ∨ 62 = 60 ∨ 62 = 62 := by omega
  obtain ⟨ok1, i1, k1, H1, y1, y2, y3, y4⟩ := x_sum hN hj hP hD hR hL hm (H := H) (dp := dp) (b := b) (show L ≤ 22 by omega) hc hi hpe hpb
  cases ok1 with
  | false =>
    refine ⟨false, i1, c, H, y1, fun h => absurd h (by decide), fun μ v t e => ?_, fun μ t r e1 e2 => ?_⟩
    · obtain ⟨μ2, v2, q2, t2, e2, f2, z2⟩ := y3 μ v t e
      exact ⟨μ2, v2, tw0 q2, t2, fun h => absurd h (by decide), f2, z2⟩
    · obtain ⟨μ2, p2, b2, q2, t2, g2, d2, f2, w2, k2⟩ := y4 μ t r e1 e2
      exact ⟨μ2, p2, b2, tw0 q2, t2, fun h => absurd h (by decide), d2, f2, w2, k2⟩
  | true =>
    obtain ⟨x1, x2, x3, x4, x5, x6⟩ := y2 rfl
    have bt1 := BT_le T n i1
    -- which sign stands there
    by_cases hs : ST T n i1 60 = true ∨ ST T n i1 62 = true
    · have hk0 : KT T n i1 ≠ 0 := by
        rcases hs with h | h
        · exact ST_k h60 h
        · exact ST_k h62 h
      have hi1 := hm.kt y1 hk0
      obtain ⟨ok2, i2, k2, H2, w1, w2, w3, w4⟩ := x_sum hN hj hP hD hR hL hm (H := H1) (c := k1) (i := i1 + 1) (dp := dp) (L := L + 1) (pe := te T n (BT T n i1)) (b := BT T n i1) (by omega) (by omega) hi1 (te_le T bt1) rfl
      -- what comes behind the sign
      have cc : ∃ (l : Nat) (x : Int32) (cd : Nat), (cd = 12 ∨ cd = 13) ∧ itm cd 0 = x ∧ (∀ μ2 v2, TkC ad μ2 52 T n m → ((m_X7_takeSign N Λ (rd ad 52 μ2 i1 v2) (ad 52) 60).bind fun r4 => if r4.1 = 0 then ((m_X7_takeSign N Λ r4.2 (ad 52) 62).bind fun r7 => if r7.1 = 0 then (some (0, r7.2)) else (jn_X3_readComparison_31 N Λ r7.2 (ad 52) r4.1)) else (jn_X3_readComparison_31 N Λ r4.2 (ad 52) r4.1)) = ((m_X3_readSum N Λ (rd ad 52 μ2 (i1 + 1) v2) (ad 52)).bind fun r1 => if r1.1 = 0 then (jn_X3_readComparison_63 N Λ r1.2) else ((dr Λ (ad 52) 7 2).bind fun q4 => jn_X3_readComparison_53 N Λ r1.2 q4 x))) ∧ (∀ μ2 p2 b2, TkR ad μ2 T n → p2 ≤ n → nb T n p2 = BT T n i1 → ((m_X12_sign N Λ (pt ad μ2 p2 b2) (ad 181) 60).bind fun r13 => if r13.1 = 0 then ((m_X12_sign N Λ r13.2 (ad 181) 62).bind fun r16 => if r16.1 = 0 then (jn_X12_readAtom_159 N Λ fA r16.2) else (jn_X12_readAtom_152 N Λ fA r16.2 (ad 181) r13.1)) else (jn_X12_readAtom_152 N Λ fA r13.2 (ad 181) r13.1)) = ((m_X12_readSum N Λ (pt ad μ2 (te T n (BT T n i1)) (BT T n i1)) (ad 181)).bind fun r1 => if r1.1 = 0 then (jn_X12_readAtom_159 N Λ fA r1.2) else jn_X12_readAtom_173 N Λ fA r1.2 (ad 181) (n3 cd))) := by
        cases h6 : ST T n i1 60 with
        | true =>
          refine ⟨1, -15, 12, Or.inl rfl, rfl, fun μ2 v2 t2 => ?_, fun μ2 p2 b2 t2 l2 n2 => ?_⟩
          · refine (tw1 (c_ts_t hN (Or.inr rfl) hj hP hD t2 y1 v2 h60 h6)).trans ?_
            unfold jn_X3_readComparison_31
            rfl
          · refine (tw1 (r_sg_t hN hj hR t2 l2 n2 b2 h60 h6)).trans ?_
            unfold jn_X12_readAtom_152
            rfl
        | false =>
          have h7 := hs.resolve_left (by rw [h6]; decide)
          refine ⟨0, -16, 13, Or.inr rfl, rfl, fun μ2 v2 t2 => ?_, fun μ2 p2 b2 t2 l2 n2 => ?_⟩
          · refine (tw0 (c_ts_f hN (Or.inr rfl) hj hP hD t2 y1 v2 h60 h6)).trans ((tw1 (c_ts_t hN (Or.inr rfl) hj hP hD t2 y1 v2 h62 h7)).trans ?_)
            unfold jn_X3_readComparison_31
            rfl
          · refine (tw0 (r_sg_f hN hj hR t2 l2 n2 b2 h6)).trans ((tw1 (r_sg_t hN hj hR t2 bt1 (BT_nb T n i1) (BT T n i1) h62 h7)).trans ?_)
            unfold jn_X12_readAtom_152
            rfl
      obtain ⟨_, x, cd, hcd, hx, cC, cR⟩ := cc
      cases ok2 with
      | false =>
        refine ⟨false, i2, c, H, w1, fun h => absurd h (by decide), fun μ v t e => ?_, fun μ t r e1 e2 => ?_⟩
        · obtain ⟨μ2, v2, q2, t2, e2, f2, z2⟩ := y3 μ v t e
          obtain ⟨μ3, v3, q3, t3, e3, f3, z3⟩ := w3 μ2 v2 t2 (e2 rfl)
          exact ⟨μ3, v3, (tw1 q2).trans ((cC μ2 v2 t2).trans ((tw0 q3).trans rfl)), t3, fun h => absurd h (by decide), f2.trans f3, by rw [z3, z2]⟩
        · obtain ⟨μ2, p2, b2, q2, t2, g2, d2, f2, w2', k2'⟩ := y4 μ t r e1 e2
          obtain ⟨g21, g22, g23, g24, g25⟩ := g2 rfl
          obtain ⟨μ3, p3, b3, q3, t3, g3, d3, f3, w3', k3⟩ := w4 μ2 t2 g21 g22 g23
          exact ⟨μ3, p3, b3, (tw1 q2).trans ((cR μ2 p2 b2 t2 g24 g25).trans ((tw0 q3).trans rfl)), t3, fun h => absurd h (by decide), d3, f2.trans f3, fun k hk => by rw [w3' k (by omega), w2' k hk], fun k a1 a2 a3 a4 => by rw [k3 k a1 a2 a3 a4, k2' k a1 a2 a3 a4]⟩
      | true =>
        obtain ⟨z1, z2, z3, z4, z5, z6⟩ := w2 rfl
        have hk2 : k2 < 400 := by omega
        refine ⟨true, i2, k2 + 1, emH H2 k2 cd 0, w1, fun _ => ⟨by omega, by omega, by omega, fun p hp => ?_, fun ts hts => ?_, fun j j1 j2 => ?_⟩, fun μ v t e => ?_, fun μ t r e1 e2 => ?_⟩
        · rw [emH_lo (by omega), z4 p (by omega), x4 p hp]
        · rw [if_neg (by decide)]
          have a1 := x5 ts (by omega)
          rw [if_neg (by decide), ← tyR_congr (H' := emH H2 k2 cd 0) (k1 - c) (fun j hj => by rw [emH_lo (by omega), z4 _ (by omega)])] at a1
          have a2 := z5 (false :: ts) (by simp only [List.length_cons]; omega)
          rw [if_neg (by decide), ← tyR_congr (H' := emH H2 k2 cd 0) (k2 - k1) (fun j hj => by rw [emH_lo (by omega)])] at a2
          have a3 : tyR (emH H2 k2 cd 0) k2 (k2 + 1 - k2) (false :: false :: ts) = some (true :: ts) := by
            rw [Nat.add_sub_cancel_left, tyR_one, emH_0]
            rcases hcd with h | h <;> subst h <;> rfl
          exact tyR_split (show c ≤ k2 by omega) (show k2 ≤ k2 + 1 by omega) (tyR_split (show c ≤ k1 by omega) (show k1 ≤ k2 by omega) a1 a2) a3
        · by_cases j3 : j < k1
          · rw [emH_lo (by omega), z4 _ (by omega)]; exact x6 j j1 j3
          · by_cases j4 : j = k2
            · subst j4; rw [emH_1]; omega
            · rw [emH_lo (by omega)]; exact z6 j (by omega) (by omega)
        · obtain ⟨μ2, v2, q2, t2, e2, f2, y5⟩ := y3 μ v t e
          obtain ⟨μ3, v3, q3, t3, e3, f3, y6⟩ := w3 μ2 v2 t2 (e2 rfl)
          have ca := c_add (N := N) hj hL (e3 rfl) hk2 i2 v3 x
          refine ⟨emC ad μ3 k2 x, v3, (tw1 q2).trans ((cC μ2 v2 t2).trans ((tw1 q3).trans ?_)), t3.em hj _ _, fun _ => by rw [← hx]; exact (e3 rfl).em hj cd 0, f2.trans (f3.trans (emC_fr hj μ3 k2 x)), by rw [emC_0 hj, y6, y5]⟩
          show ((dr Λ (ad 52) 7 2).bind fun q4 => jn_X3_readComparison_53 N Λ (rd ad 52 μ3 i2 v3) q4 x) = _
          rw [hD.2.2.2.2.1, Option.bind_some]
          unfold jn_X3_readComparison_53
          rw [ca]; rfl
        · obtain ⟨μ2, p2, b2, q2, t2, g2, d2, f2, w2', k2'⟩ := y4 μ t r e1 e2
          obtain ⟨g21, g22, g23, g24, g25⟩ := g2 rfl
          obtain ⟨μ3, p3, b3, q3, t3, g3, d3, f3, w3', k3⟩ := w4 μ2 t2 g21 g22 g23
          obtain ⟨g31, g32, g33, g34, g35⟩ := g3 rfl
          have re' := r_emits (N := N) hj hR g32 hk2 p3 b3 cd 0
          refine ⟨emR ad μ3 k2 cd 0, p3, b3, (tw1 q2).trans ((cR μ2 p2 b2 t2 g24 g25).trans ((tw1 q3).trans ?_)), t3.em hj _ _ _, fun _ => ⟨emR_row hj g31 k2 cd 0, emR_16 ad μ3 k2 cd 0, by rw [emR_k hj μ3 k2 cd 0 (by omega)]; exact g33, g34, g35⟩, fun h => absurd h (by decide), f2.trans (f3.trans (emR_fr hj μ3 k2 cd 0)), fun k hk => by rw [emR_lo hj μ3 k2 cd 0 (by omega), w3' k (by omega), w2' k hk], fun k a1 a2 a3 a4 => by rw [emR_k hj μ3 k2 cd 0 a4, k3 k a1 a2 a3 a4, k2' k a1 a2 a3 a4]⟩
          show (m_X12_emits N Λ (pt ad μ3 p3 b3) (ad 181) (n3 cd) (n3 0)).bind _ = _
          rw [re']; rfl
    · have h6 : ST T n i1 60 = false := Bool.eq_false_iff.2 (fun h => hs (Or.inl h))
      have h7 : ST T n i1 62 = false := Bool.eq_false_iff.2 (fun h => hs (Or.inr h))
      refine ⟨false, i1, c, H, y1, fun h => absurd h (by decide), fun μ v t e => ?_, fun μ t r e1 e2 => ?_⟩
      · obtain ⟨μ2, v2, q2, t2, e2, f2, z2⟩ := y3 μ v t e
        exact ⟨μ2, v2, (tw1 q2).trans ((tw0 (c_ts_f hN (Or.inr rfl) hj hP hD t2 y1 v2 h60 h6)).trans ((tw0 (c_ts_f hN (Or.inr rfl) hj hP hD t2 y1 v2 h62 h7)).trans rfl)), t2, fun h => absurd h (by decide), f2, z2⟩
      · obtain ⟨μ2, p2, b2, q2, t2, g2, d2, f2, w2, k2⟩ := y4 μ t r e1 e2
        obtain ⟨g21, g22, g23, g24, g25⟩ := g2 rfl
        exact ⟨μ2, BT T n i1, BT T n i1, (tw1 q2).trans ((tw0 (r_sg_f hN hj hR t2 g24 g25 b2 h6)).trans ((tw0 (r_sg_f hN hj hR t2 bt1 (BT_nb T n i1) (BT T n i1) h7)).trans rfl)), t2, fun h => absurd h (by decide), fun _ => rfl, f2, w2, k2⟩

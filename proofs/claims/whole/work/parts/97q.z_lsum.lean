theorem x_rep {N : Nat} (hN : 1099511627776 ≤ N) {Λ : Lay} {ad : Nat → Nat} (hj : Inj ad) (hP : LyP Λ ad) (hD : LyD Λ ad 52 36 2) (hR : LyR Λ ad) (hL : LyL Λ ad 36) {T : Nat → Int32} {n m : Nat} (hm : Tm T n m) {tC xC tR xR : Mem → Option (Int32 × Mem)} {O : Nat → Bool} {kd : Bool} {op L dp : Nat}
  (hO : ∀ i, O i = true → KT T n i ≠ 0)
  (c1 : ∀ μ i v, TkC ad μ 52 T n m → i ≤ m → O i = true → tC (rd ad 52 μ i v) = some (n3 1, rd ad 52 μ (i + 1) v))
  (c0 : ∀ μ i v, TkC ad μ 52 T n m → i ≤ m → O i = false → tC (rd ad 52 μ i v) = some (n3 0, rd ad 52 μ i v))
  (r1 : ∀ μ i pe b, TkR ad μ T n → pe ≤ n → nb T n pe = BT T n i → O i = true → tR (pt ad μ pe b) = some (n3 1, pt ad μ (te T n (BT T n i)) (BT T n i)))
  (r0 : ∀ μ i pe b, TkR ad μ T n → pe ≤ n → nb T n pe = BT T n i → O i = false → tR (pt ad μ pe b) = some (n3 0, pt ad μ (BT T n i) (BT T n i)))
  (hX : ∀ H c i pe b, c + 3 ≤ i → i ≤ m → pe ≤ n → nb T n pe = BT T n i → XO ad T n m H c i dp false kd (L + 1) (fun μ v => xC (rd ad 52 μ i v)) (fun μ => xR (pt ad μ pe b)))
  (hop : ∀ ts, tyc op (kd :: kd :: ts) = some (kd :: ts)) (x : Int32) (hx : itm op 0 = x)
  {H : Nat → Nat} {c i pe b : Nat} (hc : c + 3 ≤ i) (hi : i ≤ m) (hpe : pe ≤ n) (hpb : nb T n pe = BT T n i) : XO ad T n m H c i dp false kd L (fun μ v => (xC (rd ad 52 μ i v)).bind fun r1 => if r1.1 = 0 then some (0, r1.2) else cw (lpC N Λ (ad 52) tC xC x) N (0, r1.2)) (fun μ => (xR (pt ad μ pe b)).bind fun r1 => if r1.1 = 0 then some (0, r1.2) else cw (lpR N Λ (ad 181) tR xR (n3 op)) N r1.2) := by
  have hm4 := hm.1
  have hmn := hm.2.1
  obtain ⟨ok1, i1, k1, H1, y1, y2, y3, y4⟩ := hX H c i pe b hc hi hpe hpb
  cases ok1 with
  | false =>
    refine ⟨false, i1, c, H, y1, fun h => absurd h (by decide), fun μ v t e => ?_, fun μ t r e1 e2 => ?_⟩
    · obtain ⟨μ2, v2, q2, t2, e2, f2, z2⟩ := y3 μ v t e
      exact ⟨μ2, v2, tw0 q2, t2, fun h => absurd h (by decide), f2, z2⟩
    · obtain ⟨μ2, p2, b2, q2, t2, g2, d2, f2, w2, k2⟩ := y4 μ t r e1 e2
      exact ⟨μ2, p2, b2, tw0 q2, t2, fun h => absurd h (by decide), d2, f2, w2, k2⟩
  | true =>
    obtain ⟨x1, x2, x3, x4, x5, x6⟩ := y2 rfl
    obtain ⟨ok2, i2, k2, H2, w1, w2, w3, w4⟩ := x_loop hN hj hP hD hR hL hm hO c1 c0 r1 r0 hX hop x hx 400 i1 0 k1 (BT T n i1) (BT T n i1) N N H1 (by omega) (by omega) (by omega) (by omega) (by omega) y1 (BT_le T n i1) (BT_nb T n i1)
    refine ⟨ok2, i2, k2, H2, w1, fun ho2 => ?_, fun μ v t e => ?_, fun μ t r e1 e2 => ?_⟩
    · obtain ⟨z1, z2, z3, z4, z5, z6⟩ := w2 ho2
      refine ⟨by omega, by omega, by omega, fun p hp => ?_, fun ts hts => ?_, fun j j1 j2 => ?_⟩
      · rw [z4 p (by omega), x4 p hp]
      · have a1 := x5 ts (by omega)
        rw [← tyR_congr (H' := H2) (k1 - c) (fun j hj => z4 _ (by omega))] at a1
        have a3 := z5 ts hts
        rw [if_pos rfl] at a3
        exact tyR_split (show c ≤ k1 by omega) (show k1 ≤ k2 by omega) a1 a3
      · by_cases j3 : j < k1
        · rw [z4 _ (by omega)]; exact x6 j j1 j3
        · exact z6 j (by omega) j2
    · obtain ⟨μ2, v2, q2, t2, e2, f2, z2⟩ := y3 μ v t e
      obtain ⟨μ3, v3, q3, t3, e3, f3, z3⟩ := w3 μ2 v2 t2 (e2 rfl)
      exact ⟨μ3, v3, (tw1 q2).trans q3, t3, e3, f2.trans f3, by rw [z3, z2]⟩
    · obtain ⟨μ2, p2, b2, q2, t2, g2, d2, f2, w2', k2'⟩ := y4 μ t r e1 e2
      obtain ⟨g21, g22, g23, g24, g25⟩ := g2 rfl
      obtain ⟨μ3, p3, b3, q3, t3, g3, d3, f3, w3', k3⟩ := w4 μ2 t2 g21 g22 g23
      refine ⟨μ3, p3, b3, ?_, t3, g3, d3, f2.trans f3, fun k hk => by rw [w3' k (by omega), w2' k hk], fun k a1 a2 a3 a4 => by rw [k3 k a1 a2 a3 a4, k2' k a1 a2 a3 a4]⟩
      have eqp : ∀ K, lpR N Λ (ad 181) tR xR (n3 op) K (pt ad μ2 p2 b2) = lpR N Λ (ad 181) tR xR (n3 op) K (pt ad μ2 (BT T n i1) (BT T n i1)) := fun K => by
        have bt1 := BT_le T n i1
        unfold lpR
        cases ho1 : O i1 with
        | true => rw [r1 _ i1 p2 b2 t2 g24 g25 ho1, r1 _ i1 _ _ t2 bt1 (BT_nb T n i1) ho1]
        | false => rw [r0 _ i1 p2 b2 t2 g24 g25 ho1, r0 _ i1 _ _ t2 bt1 (BT_nb T n i1) ho1]
      refine (tw1 q2).trans (Eq.trans ?_ q3)
      obtain ⟨M, hM⟩ : ∃ Q, N = Q + 1 := ⟨N - 1, by omega⟩
      rw [show cw (lpR N Λ (ad 181) tR xR (n3 op)) N = cw (lpR N Λ (ad 181) tR xR (n3 op)) (M + 1) by rw [← hM]]
      exact eqp _
theorem XO.mono {ad : Nat → Nat} {T : Nat → Int32} {n m : Nat} {H : Nat → Nat} {c i dp : Nat} {s k : Bool} {L L' : Nat} {fc : Mem → Nat → Option (Int32 × Mem)} {fr : Mem → Option (Int32 × Mem)} (h : XO ad T n m H c i dp s k L fc fr) (hL : L' ≤ L) : XO ad T n m H c i dp s k L' fc fr := by
  obtain ⟨ok, i', c', H', h1, h2, h3, h4⟩ := h
  exact ⟨ok, i', c', H', h1, fun ho => ⟨(h2 ho).1, (h2 ho).2.1, (h2 ho).2.2.1, (h2 ho).2.2.2.1, fun ts hts => (h2 ho).2.2.2.2.1 ts (by omega), (h2 ho).2.2.2.2.2⟩, h3, h4⟩
theorem ST_k {T : Nat → Int32} {n i c : Nat} (hc : c = 40 ∨ c = 41 ∨ c = 43 ∨ c = 59 ∨ c = 60 ∨ c = 62) (h : ST T n i c = true) : KT T n i ≠ 0 := by
  have h1 := of_decide_eq_true h
  rw [KT_t h1.1, kd_s hc h1.2]; decide
theorem x_sum {N : Nat} (hN : 1099511627776 ≤ N) {Λ : Lay} {ad : Nat → Nat} (hj : Inj ad) (hP : LyP Λ ad) (hD : LyD Λ ad 52 36 2) (hR : LyR Λ ad) (hL : LyL Λ ad 36) {T : Nat → Int32} {n m : Nat} (hm : Tm T n m) {H : Nat → Nat} {c i dp L pe b : Nat} (hL22 : L ≤ 22) (hc : c + 3 ≤ i) (hi : i ≤ m) (hpe : pe ≤ n) (hpb : nb T n pe = BT T n i) : XO ad T n m H c i dp false false L (fun μ v => m_X3_readSum N Λ (rd ad 52 μ i v) (ad 52)) (fun μ => m_X12_readSum N Λ (pt ad μ pe b) (ad 181)) := by
  have hm4 := hm.1
  have hmn := hm.2.1
  have h43 : 43 = 40 ∨ 43 = 41 ∨ 43 = 43 ∨ 43 = 59 ∨ 43 = 60 ∨ 43 = 62 := by omega
  exact x_rep hN hj hP hD hR hL hm (tC := fun μ => m_X7_takeSign N Λ μ (ad 52) 43) (xC := fun μ => m_X3_readPart N Λ μ (ad 52)) (tR := fun μ => m_X12_sign N Λ μ (ad 181) 43) (xR := fun μ => m_X12_readPart N Λ μ (ad 181)) (O := fun i => ST T n i 43) (kd := false) (op := 11) (L := L) (dp := dp) (fun i h => ST_k h43 h)
    (fun μ i v t hi h => c_ts_t hN (Or.inr rfl) hj hP hD t hi v h43 h) (fun μ i v t hi h => c_ts_f hN (Or.inr rfl) hj hP hD t hi v h43 h)
    (fun μ i pe b t h1 h2 h => r_sg_t hN hj hR t h1 h2 b h43 h) (fun μ i pe b t h1 h2 h => r_sg_f hN hj hR t h1 h2 b h)
    (fun H c i pe b h1 h2 h3 h4 => x_part hN hj hP hD hR hL hm h2 (by omega) (by omega) pe b h3 h4) (fun ts => rfl) (-14) rfl hc hi hpe hpb

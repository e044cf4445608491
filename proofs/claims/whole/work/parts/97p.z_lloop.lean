/-! X { op X } -/
def lpC (N : Nat) (Λ : Lay) (a : Nat) (tC xC : Mem → Option (Int32 × Mem)) (x : Int32) (k : Int32 × Mem → Option (Int32 × Mem)) (s : Int32 × Mem) : Option (Int32 × Mem) :=
  if 400 ≤ s.1 then some (1, s.2) else
    ((tC s.2).bind fun r2 =>
    if r2.1 = 0 then some (1, r2.2) else
      ((xC r2.2).bind fun r5 =>
      if r5.1 = 0 then some (0, r5.2) else
        ((dr Λ a 7 2).bind fun q8 =>
        (m_X2_add N Λ r5.2 q8 x).bind fun r10 =>
        lt (s.1 + 1) fun y12 =>
        k (y12, r10.2))))
def lpR (N : Nat) (Λ : Lay) (a : Nat) (tR xR : Mem → Option (Int32 × Mem)) (x : Int32) (k : Mem → Option (Int32 × Mem)) (s : Mem) : Option (Int32 × Mem) :=
  (tR s).bind fun r1 =>
  if r1.1 = 0 then some (1, r1.2) else
    ((xR r1.2).bind fun r4 =>
    if r4.1 = 0 then some (0, r4.2) else
      ((m_X12_emits N Λ r4.2 a x 0).bind fun r7 =>
      k r7))
theorem tyR_split {H : Nat → Nat} {c c1 c2 : Nat} {ts ts1 ts2 : List Bool} (h1 : c ≤ c1) (h2 : c1 ≤ c2) (e1 : tyR H c (c1 - c) ts = some ts1) (e2 : tyR H c1 (c2 - c1) ts1 = some ts2) : tyR H c (c2 - c) ts = some ts2 := by
  rw [show c2 - c = (c1 - c) + (c2 - c1) by omega, tyR_add, e1, show c + (c1 - c) = c1 by omega]; exact e2
theorem q400 {q : Nat} (h : q < 400) : ¬ (400 : Int32) ≤ n3 q := by
  rw [n3_lit 400, n3_le_f (a := 400) (b := q) h (by omega)]; exact id
theorem x_loop {N : Nat} (hN : 1099511627776 ≤ N) {Λ : Lay} {ad : Nat → Nat} (hj : Inj ad) (hP : LyP Λ ad) (hD : LyD Λ ad 52 36 2) (hR : LyR Λ ad) (hL : LyL Λ ad 36) {T : Nat → Int32} {n m : Nat} (hm : Tm T n m) {tC xC tR xR : Mem → Option (Int32 × Mem)} {O : Nat → Bool} {kd : Bool} {op L dp : Nat}
  (hO : ∀ i, O i = true → KT T n i ≠ 0)
  (c1 : ∀ μ i v, TkC ad μ 52 T n m → i ≤ m → O i = true → tC (rd ad 52 μ i v) = some (n3 1, rd ad 52 μ (i + 1) v))
  (c0 : ∀ μ i v, TkC ad μ 52 T n m → i ≤ m → O i = false → tC (rd ad 52 μ i v) = some (n3 0, rd ad 52 μ i v))
  (r1 : ∀ μ i pe b, TkR ad μ T n → pe ≤ n → nb T n pe = BT T n i → O i = true → tR (pt ad μ pe b) = some (n3 1, pt ad μ (te T n (BT T n i)) (BT T n i)))
  (r0 : ∀ μ i pe b, TkR ad μ T n → pe ≤ n → nb T n pe = BT T n i → O i = false → tR (pt ad μ pe b) = some (n3 0, pt ad μ (BT T n i) (BT T n i)))
  (hX : ∀ H c i pe b, c + 3 ≤ i → i ≤ m → pe ≤ n → nb T n pe = BT T n i → XO ad T n m H c i dp false kd (L + 1) (fun μ v => xC (rd ad 52 μ i v)) (fun μ => xR (pt ad μ pe b)))
  (hop : ∀ ts, tyc op (kd :: kd :: ts) = some (kd :: ts)) (x : Int32) (hx : itm op 0 = x) :
  ∀ (d i q c pe b M M' : Nat) (H : Nat → Nat), m ≤ i + d → d < M → d < M' → 2 * q ≤ i → c + 3 ≤ i → i ≤ m → pe ≤ n → nb T n pe = BT T n i → XO ad T n m H c i dp true kd L (fun μ v => cw (lpC N Λ (ad 52) tC xC x) M (n3 q, rd ad 52 μ i v)) (fun μ => cw (lpR N Λ (ad 181) tR xR (n3 op)) M' (pt ad μ pe b)) := by
  have hm4 := hm.1
  have hmn := hm.2.1
  intro d
  induction d with
  | zero =>
    intro i q c pe b M M' H hd hM hM' hq hc hi hpe hpb
    obtain ⟨M, rfl⟩ : ∃ Q, M = Q + 1 := ⟨M - 1, by omega⟩
    obtain ⟨M', rfl⟩ : ∃ Q, M' = Q + 1 := ⟨M' - 1, by omega⟩
    have hf : O i = false := by
      cases h : O i with
      | false => rfl
      | true => have := hm.kt hi (hO i h); omega
    refine ⟨true, i, c, H, hi, fun _ => ⟨Nat.le_refl c, Nat.le_refl i, by omega, fun _ _ => rfl, fun ts _ => by rw [if_pos rfl, Nat.sub_self]; rfl, fun j h1 h2 => by omega⟩, fun μ v t e => ⟨μ, v, ?_, t, fun _ => e, Fr.refl μ, rfl⟩, fun μ t r e1 e2 => ⟨μ, BT T n i, BT T n i, ?_, t, fun _ => ⟨r, e1, e2, BT_le T n i, BT_nb T n i⟩, fun h => absurd h (by decide), Fr.refl μ, fun _ _ => rfl, fun _ _ _ _ _ => rfl⟩⟩
    · have e0 := c0 μ i v t hi hf
      have key : ∀ K, lpC N Λ (ad 52) tC xC x K (n3 q, rd ad 52 μ i v) = some (n3 1, rd ad 52 μ i v) := fun K => by
        unfold lpC
        rw [if_neg (q400 (by omega))]
        exact tw0 e0
      exact key _
    · have e0 := r0 μ i pe b t hpe hpb hf
      have key : ∀ K, lpR N Λ (ad 181) tR xR (n3 op) K (pt ad μ pe b) = some (n3 1, pt ad μ (BT T n i) (BT T n i)) := fun K => tw0 e0
      exact key _
  | succ d ih =>
    intro i q c pe b M M' H hd hM hM' hq hc hi hpe hpb
    obtain ⟨M, rfl⟩ : ∃ Q, M = Q + 1 := ⟨M - 1, by omega⟩
    obtain ⟨M', rfl⟩ : ∃ Q, M' = Q + 1 := ⟨M' - 1, by omega⟩
    cases ho : O i with
    | false =>
      refine ⟨true, i, c, H, hi, fun _ => ⟨Nat.le_refl c, Nat.le_refl i, by omega, fun _ _ => rfl, fun ts _ => by rw [if_pos rfl, Nat.sub_self]; rfl, fun j h1 h2 => by omega⟩, fun μ v t e => ⟨μ, v, ?_, t, fun _ => e, Fr.refl μ, rfl⟩, fun μ t r e1 e2 => ⟨μ, BT T n i, BT T n i, ?_, t, fun _ => ⟨r, e1, e2, BT_le T n i, BT_nb T n i⟩, fun h => absurd h (by decide), Fr.refl μ, fun _ _ => rfl, fun _ _ _ _ _ => rfl⟩⟩
      · have e0 := c0 μ i v t hi ho
        have key : ∀ K, lpC N Λ (ad 52) tC xC x K (n3 q, rd ad 52 μ i v) = some (n3 1, rd ad 52 μ i v) := fun K => by
          unfold lpC
          rw [if_neg (q400 (by omega))]
          exact tw0 e0
        exact key _
      · have e0 := r0 μ i pe b t hpe hpb ho
        have key : ∀ K, lpR N Λ (ad 181) tR xR (n3 op) K (pt ad μ pe b) = some (n3 1, pt ad μ (BT T n i) (BT T n i)) := fun K => tw0 e0
        exact key _
    | true =>
      have hi1 := hm.kt hi (hO i ho)
      have bt := BT_le T n i
      obtain ⟨ok1, i1, k1, H1, y1, y2, y3, y4⟩ := hX H c (i + 1) (te T n (BT T n i)) (BT T n i) (by omega) hi1 (te_le T bt) rfl
      have kc : ∀ μ v, TkC ad μ 52 T n m → ∀ K, lpC N Λ (ad 52) tC xC x K (n3 q, rd ad 52 μ i v) = ((xC (rd ad 52 μ (i + 1) v)).bind fun r5 => if r5.1 = 0 then some (0, r5.2) else ((dr Λ (ad 52) 7 2).bind fun q8 => (m_X2_add N Λ r5.2 q8 x).bind fun r10 => K (n3 (q + 1), r10.2))) := fun μ v t K => by
        unfold lpC
        rw [if_neg (q400 (by omega))]
        refine (tw1 (c1 μ i v t hi ho)).trans ?_
        rw [← n3_add]; rfl
      have kr : ∀ μ, TkR ad μ T n → ∀ K, lpR N Λ (ad 181) tR xR (n3 op) K (pt ad μ pe b) = ((xR (pt ad μ (te T n (BT T n i)) (BT T n i))).bind fun r4 => if r4.1 = 0 then some (0, r4.2) else ((m_X12_emits N Λ r4.2 (ad 181) (n3 op) 0).bind fun r7 => K r7)) := fun μ t K => (tw1 (r1 μ i pe b t hpe hpb ho)).trans rfl
      cases ok1 with
      | false =>
        refine ⟨false, i1, c, H, y1, fun h => absurd h (by decide), fun μ v t e => ?_, fun μ t r e1 e2 => ?_⟩
        · obtain ⟨μ2, v2, q2, t2, e2, f2, z2⟩ := y3 μ v t e
          exact ⟨μ2, v2, (kc μ v t _).trans (tw0 q2), t2, fun h => absurd h (by decide), f2, z2⟩
        · obtain ⟨μ2, p2, b2, q2, t2, g2, d2, f2, w2, k2⟩ := y4 μ t r e1 e2
          exact ⟨μ2, p2, b2, (kr μ t _).trans (tw0 q2), t2, fun h => absurd h (by decide), d2, f2, w2, k2⟩
      | true =>
        obtain ⟨x1, x2, x3, x4, x5, x6⟩ := y2 rfl
        have hck : c < k1 := by
          rcases Nat.lt_or_ge c k1 with h | h
          · exact h
          · have e : k1 = c := by omega
            have a := x5 [] (Nat.zero_le _)
            rw [e, Nat.sub_self, if_neg (by decide)] at a
            exact absurd (Option.some.inj a) (by simp)
        obtain ⟨ok2, i2, k2, H2, w1, w2, w3, w4⟩ := ih i1 (q + 1) (k1 + 1) (BT T n i1) (BT T n i1) M M' (emH H1 k1 op 0) (by omega) (by omega) (by omega) (by omega) (by omega) y1 (BT_le T n i1) (BT_nb T n i1)
        have hk1 : k1 < 400 := by omega
        refine ⟨ok2, i2, k2, H2, w1, fun ho2 => ?_, fun μ v t e => ?_, fun μ t r e1 e2 => ?_⟩
        · obtain ⟨z1, z2, z3, z4, z5, z6⟩ := w2 ho2
          refine ⟨by omega, by omega, by omega, fun p hp => ?_, fun ts hts => ?_, fun j j1 j2 => ?_⟩
          · rw [z4 p (by omega), emH_lo (by omega), x4 p hp]
          · rw [if_pos rfl]
            have a1 := x5 (kd :: ts) (by simp only [List.length_cons]; omega)
            rw [if_neg (by decide)] at a1
            rw [← tyR_congr (H' := H2) (k1 - c) (fun j hj => by rw [z4 _ (by omega), emH_lo (by omega)])] at a1
            have a2 : tyR H2 k1 (k1 + 1 - k1) (kd :: kd :: ts) = some (kd :: ts) := by
              rw [Nat.add_sub_cancel_left, tyR_one, z4 _ (by omega), emH_0]; exact hop ts
            have a3 := z5 ts hts
            rw [if_pos rfl] at a3
            exact tyR_split (show c ≤ k1 + 1 by omega) (show k1 + 1 ≤ k2 by omega) (tyR_split (show c ≤ k1 by omega) (show k1 ≤ k1 + 1 by omega) a1 a2) a3
          · by_cases j3 : j < k1
            · rw [z4 _ (by omega), emH_lo (by omega)]; exact x6 j j1 j3
            · by_cases j4 : j = k1
              · subst j4; rw [z4 _ (by omega), emH_1]; omega
              · exact z6 j (by omega) j2
        · obtain ⟨μ2, v2, q2, t2, e2, f2, z2⟩ := y3 μ v t e
          have ca := c_add (N := N) hj hL (e2 rfl) hk1 i1 v2 x
          obtain ⟨μ3, v3, q3, t3, e3, f3, z3⟩ := w3 (emC ad μ2 k1 x) v2 (t2.em hj _ _) (by rw [← hx]; exact (e2 rfl).em hj op 0)
          refine ⟨μ3, v3, ?_, t3, e3, f2.trans ((emC_fr hj μ2 k1 x).trans f3), by rw [z3, emC_0 hj, z2]⟩
          refine (kc μ v t _).trans ((tw1 q2).trans ?_)
          refine Eq.trans ?_ q3
          show ((dr Λ (ad 52) 7 2).bind fun q8 => (m_X2_add N Λ (rd ad 52 μ2 i1 v2) q8 x).bind _) = _
          rw [hD.2.2.2.2.1, Option.bind_some, ca]; rfl
        · obtain ⟨μ2, p2, b2, q2, t2, g2, d2, f2, w2', k2'⟩ := y4 μ t r e1 e2
          obtain ⟨g21, g22, g23, g24, g25⟩ := g2 rfl
          have re' := r_emits (N := N) hj hR g22 hk1 p2 b2 op 0
          have t2e := t2.em hj k1 op 0
          obtain ⟨μ3, p3, b3, q3, t3, g3, d3, f3, w3', k3⟩ := w4 (emR ad μ2 k1 op 0) t2e (emR_row hj g21 k1 op 0) (emR_16 ad μ2 k1 op 0) (by rw [emR_k hj μ2 k1 op 0 (by omega)]; exact g23)
          refine ⟨μ3, p3, b3, ?_, t3, g3, d3, f2.trans ((emR_fr hj μ2 k1 op 0).trans f3), fun k hk => by rw [w3' k (by omega), emR_lo hj μ2 k1 op 0 (by omega), w2' k hk], fun k a1 a2 a3 a4 => by rw [k3 k a1 a2 a3 a4, emR_k hj μ2 k1 op 0 a4, k2' k a1 a2 a3 a4]⟩
          have eqp : ∀ K, lpR N Λ (ad 181) tR xR (n3 op) K (pt ad (emR ad μ2 k1 op 0) p2 b2) = lpR N Λ (ad 181) tR xR (n3 op) K (pt ad (emR ad μ2 k1 op 0) (BT T n i1) (BT T n i1)) := fun K => by
            have bt1 := BT_le T n i1
            unfold lpR
            cases ho1 : O i1 with
            | true => rw [r1 _ i1 p2 b2 t2e g24 g25 ho1, r1 _ i1 _ _ t2e bt1 (BT_nb T n i1) ho1]
            | false => rw [r0 _ i1 p2 b2 t2e g24 g25 ho1, r0 _ i1 _ _ t2e bt1 (BT_nb T n i1) ho1]
          obtain ⟨M', rfl⟩ : ∃ Q, M' = Q + 1 := ⟨M' - 1, by omega⟩
          refine (kr μ t _).trans ((tw1 q2).trans ?_)
          refine Eq.trans ?_ q3
          show (m_X12_emits N Λ (pt ad μ2 p2 b2) (ad 181) (n3 op) (n3 0)).bind _ = _
          rw [re', Option.bind_some]
          exact eqp _

/-! ===== look, lookAboard, hear ===== -/
theorem RA.n8 {σ μ : ST} {T P : Nat → Nat} {c : Sc} {n : Nat} {A : Nat → Sc} (ha : RA σ μ T c n A) (hc : CI T c) (hi : TI T P) : n ≤ c.2 1 + c.2 2 ∧ c.2 1 ≤ T 5 ∧ c.2 2 ≤ 2 ∧ T 5 ≤ 6 := ⟨ha.2.2.1, hc.2.1, hc.2.2.1, hi.2.2.2.2.2.2.1⟩
/-- the reference's look at p and the tide behind it, from a state that has remembered -/
theorem a9_act {z : Nat} {μ : ST} {T P : Nat → Nat} {c : Sc} {p : Nat} (ht : TM μ T P) (hi : TI T P) (hl : LM μ 0 c.1) (hp : p ≤ 10) (hs1 : μ.1 5 1 = nI (c.2 1)) (hst : c.2 1 < T 5) (hz : 13 ≤ z) : ∃ x μ1 μ2, fX9_lookAt z μ 0 (nI p) = some (x, μ1) ∧ fX9_drift z μ1 0 (nI (c.2 1)) = some μ2 ∧ μ1.1 = μ.1 ∧ LM μ2 0 (fun j => psN T (decide (T 5 ≤ c.2 1 + 1)) (fun j => c.1 j * (if j = p then 10 - chN T p else 10)) j) ∧ FrL μ μ2 0 := by
  obtain ⟨μ1, e1, l1, f1⟩ := a9_lookAt (z := z) hl (by decide) ht hi hp (by omega)
  obtain ⟨μ2, e2, l2, f2⟩ := a9_drift (z := z) (st := c.2 1) l1 (by decide) (f1.tm ht) hi hst (by omega)
  exact ⟨_, μ1, μ2, e1, e2, f1.1, l2, f1.tr f2⟩
theorem op_look {z : Nat} {σ μ : ST} (hz : 30000 ≤ z) (h : Rel σ μ) (x : Int32) : ∃ r σ' μ', fX8_look z σ x = some (r, σ') ∧ fX9_look z μ x = some (r, μ') ∧ Rel σ' μ' := by
  obtain ⟨T, P, sec, L, t, c, n, A, B, hT, hs, ht, hn, ha, hb, hd⟩ := id h
  obtain ⟨g1, g2, g3, g4⟩ := ha.n8 hn.2.2 hT.2.2
  unfold fX8_look fX9_look
  rw [show fX9_in z x.toInt64 0 2 = fX8_isWithin z x 0 2 from in_eq (a := 0) (b := 2)]
  rcases isW (z := z) x (a' := 0) (b' := 2) 0 2 rfl rfl (by decide) (by decide) with e | ⟨f, -, hf, rfl, e⟩
  · rw [e, bd_s, bd_s, if_pos rfl, if_pos rfl]
    exact ⟨_, _, _, rfl, rfl, h⟩
  · have q0 : (0 : Int32).toNatClampNeg = 0 := rfl
    have q1 : (1 : Int32).toNatClampNeg = 1 := rfl
    have b0 : inb (0 : Int32) 9 = true := rfl
    have b1 : inb (1 : Int32) 9 = true := rfl
    have m1 : μ.1 5 1 = nI (c.2 1) := hn.2.1.2.2.1
    have one : ¬ (1 : Int32) = 0 := by decide
    rw [e, bd_s, bd_s, if_neg one, if_neg one, b1, gd_t, q1, m1, hn.1.2.2.1, hT.1.2.2.2.2.2.1, hT.2.1.2.2.2.2.2.1]
    by_cases hq : c.2 1 < T 5
    · have hn8 : n < 8 := by omega
      obtain ⟨σ1, μ1, r1, r2, r3, r4, r5, r6, r7, r8, r9, r10, r11, r12, r13, r14, r15⟩ := a_remember (z := z) hn ha hn8 (by omega)
      have tx1 : TX σ1 T P := hT.1.eq (r9 3 (by decide) (by omega)).1 (r9 4 (by decide) (by omega)).1
      have tm1 : TM μ1 T P := hT.2.1.eq (fun j hj => r12 j (by omega)) (r11 1 (by decide) (by decide))
      obtain ⟨σ2, a1, a2, a3⟩ := a_act (z := z) (k := 5) (f := f) rfl r7 tx1 hT.2.2 hn.2.2.1 (by omega) (by omega) (by omega)
      have hmv := mvN_le (f := f) hn.2.2.1
      have s50 : μ1.1 5 0 = nI (c.2 0) := r8.2.1
      have s51 : μ1.1 5 1 = nI (c.2 1) := r8.2.2.1
      have lm1 : LM (pI μ1 5 0 (nI (mvN (c.2 0) f))) 0 c.1 := fun j hj => by
        rw [pI_2, Nat.mul_zero]
        exact r8.1 j hj
      have tm2 : TM (pI μ1 5 0 (nI (mvN (c.2 0) f))) T P := tm1.eq (fun j _ => by rw [pI_n (by decide)]) (pI_n (by decide))
      obtain ⟨y, μ2, μ3, c1, c2, c3, c4, c5⟩ := a9_act (z := z) (c := c) (p := mvN (c.2 0) f) tm2 hT.2.2 lm1 (by omega) (by rw [pI_nj (by decide)]; exact s51) hq (by omega)
      have u0 : μ3.1 5 0 = nI (mvN (c.2 0) f) := by rw [c5.1, pI_at]
      have u1 : μ3.1 5 1 = nI (c.2 1) := by rw [c5.1, pI_nj (by decide)]; exact s51
      have u1b : μ2.1 5 1 = nI (c.2 1) := by rw [c3, pI_nj (by decide)]; exact s51
      have hpl : plN c f = mvN (c.2 0) f := by unfold plN; rw [if_neg (by omega)]
      refine ⟨nI (mvN (c.2 0) f), σ2, pI μ3 5 1 (nI (c.2 1 + 1)), ?_, ?_, ?_⟩
      · rw [if_pos (plt (c.2 1) (T 5) rfl rfl hq (by omega)), r1, bd_s, a1, bd_s, a2.2.1]; rfl
      · rw [if_neg (neq (c.2 1) (T 5) rfl rfl (by omega) (by omega) (by omega)), r2, bd_s, b0, gd_t, q0, s50, s9_to hn.2.2.1 (by omega), bd_s, gd_t, lt_r, gd_t, pI_at, c1, bd_s, gd_t, u1b, c2, bd_s, gd_t, gd_t, u1, lt_r, gd_t, pI_nj (by decide), u0, show (1 : Int32) = nI 1 from rfl, nI_add]
      · refine Rel.act (c' := acN T c f) hT hs ht hn ha hb hd hn8 (fun q q0 q5 qn => ?_) ?_ (fun q q0 q5 q9 => ?_) (fun j hj => ?_) (fun j hj => ?_) (fun q q4 q7 q8 => ?_) (fun j hj => ?_) ⟨a2, ⟨fun j hj => ?_, ?_, ?_, ?_, fun w w1 w2 => ?_⟩, hn.2.2.act hT.2.2 hq⟩ ⟨?_, ?_⟩ ?_ ?_ ?_
        · have k1 := a3 q (by omega) (by omega) (by omega) (by omega)
          have k2 := r9 q q0 qn
          exact ⟨k1.1.trans k2.1, k1.2.trans k2.2⟩
        · rw [(a3 0 (by decide) (by decide) (by decide) (by decide)).1]; exact r10
        · rw [pI_n q5, c5.1, pI_n q5]; exact r11 q q0 q9
        · rw [pI_n (by decide), c5.1, pI_n (by decide)]; exact r12 j hj
        · rw [pI_n (by decide), c5.1, pI_n (by decide)]; exact r13 j hj
        · rw [pI_2, c5.2.1 q q4 q7, pI_2]; exact r14 q q8
        · rw [pI_2, c5.2.1 8 (by decide) (by decide), pI_2]; exact r15 j hj
        · have := c4 j hj
          rw [Nat.mul_zero] at this
          rw [pI_2, this]
          show lN (psN T (decide (T 5 ≤ c.2 1 + 1)) (fun j => c.1 j * (if j = mvN (c.2 0) f then 10 - chN T (mvN (c.2 0) f) else 10)) j) = lN (psN T (decide (T 5 ≤ c.2 1 + 1)) (fun j => c.1 j * (if j = plN c f then 10 - chN T (plN c f) else 10)) j)
          rw [hpl]
        · rw [pI_nj (by decide)]; exact u0
        · exact pI_at
        · rw [pI_nj (by decide), c5.1, pI_nj (by decide)]; exact r8.2.2.2.1
        · rw [ac_q (by omega), ac_q (by omega)]
          have k := r8.2.2.2.2 w w1 w2
          rw [pI_nj (by omega), pI_nj (by omega), c5.1, pI_nj (by omega), pI_nj (by omega)]
          exact k
        · exact r3.eq (a3 _ (by omega) (by omega) (by omega) (by omega)).1 (a3 _ (by omega) (by omega) (by omega) (by omega)).2 (a3 _ (by omega) (by omega) (by omega) (by omega)).1 (a3 _ (by omega) (by omega) (by omega) (by omega)).1
        · exact r4.cp (fun j _ => by rw [pI_2, c5.2.1 8 (by decide) (by decide), pI_2]) (fun j _ => by rw [pI_n (by decide), c5.1, pI_n (by decide)])
        · rw [(a3 0 (by decide) (by decide) (by decide) (by decide)).1]; exact r5
        · rw [pI_n (by decide), c5.1, pI_n (by decide)]; exact r6
        · show c.2 1 + c.2 2 + 1 = (c.2 1 + 1) + c.2 2
          omega
    · rw [if_neg (nlt (c.2 1) (T 5) rfl rfl (by omega) (by omega)), if_pos (peq (c.2 1) (T 5) rfl rfl (by omega))]
      exact ⟨_, _, _, rfl, rfl, h⟩
theorem op_lookAboard {z : Nat} {σ μ : ST} (hz : 30000 ≤ z) (h : Rel σ μ) : ∃ r σ' μ', fX8_lookAboard z σ = some (r, σ') ∧ fX9_lookAboard z μ = some (r, μ') ∧ Rel σ' μ' := by
  obtain ⟨T, P, sec, L, t, c, n, A, B, hT, hs, ht, hn, ha, hb, hd⟩ := id h
  obtain ⟨g1, g2, g3, g4⟩ := ha.n8 hn.2.2 hT.2.2
  unfold fX8_lookAboard fX9_lookAboard
  have q1 : (1 : Int32).toNatClampNeg = 1 := rfl
  have b1 : inb (1 : Int32) 9 = true := rfl
  have m1 : μ.1 5 1 = nI (c.2 1) := hn.2.1.2.2.1
  rw [b1, gd_t, q1, m1, hn.1.2.2.1, hT.1.2.2.2.2.2.1, hT.2.1.2.2.2.2.2.1]
  by_cases hq : c.2 1 < T 5
  · have hn8 : n < 8 := by omega
    obtain ⟨σ1, μ1, r1, r2, r3, r4, r5, r6, r7, r8, r9, r10, r11, r12, r13, r14, r15⟩ := a_remember (z := z) hn ha hn8 (by omega)
    have tx1 : TX σ1 T P := hT.1.eq (r9 3 (by decide) (by omega)).1 (r9 4 (by decide) (by omega)).1
    have tm1 : TM μ1 T P := hT.2.1.eq (fun j hj => r12 j (by omega)) (r11 1 (by decide) (by decide))
    obtain ⟨σ2, a1, a2, a3⟩ := a_act (z := z) (k := 5) (f := 3) rfl r7 tx1 hT.2.2 hn.2.2.1 (by omega) (by omega) (by omega)
    have s51 : μ1.1 5 1 = nI (c.2 1) := r8.2.2.1
    have lm1 : LM μ1 0 c.1 := fun j hj => by
      rw [Nat.mul_zero]
      exact r8.1 j hj
    obtain ⟨y, μ2, μ3, c1, c2, c3, c4, c5⟩ := a9_act (z := z) (c := c) (p := 10) tm1 hT.2.2 lm1 (by omega) s51 hq (by omega)
    have u1 : μ3.1 5 1 = nI (c.2 1) := by rw [c5.1]; exact s51
    have u1b : μ2.1 5 1 = nI (c.2 1) := by rw [c3]; exact s51
    have hpl : plN c 3 = 10 := rfl
    refine ⟨nI (c.2 1 + 1), σ2, pI μ3 5 1 (nI (c.2 1 + 1)), ?_, ?_, ?_⟩
    · rw [if_pos (plt (c.2 1) (T 5) rfl rfl hq (by omega)), r1, bd_s, show (3 : Int32) = nI 3 from rfl, a1, bd_s, a2.2.2.1]; rfl
    · rw [if_neg (neq (c.2 1) (T 5) rfl rfl (by omega) (by omega) (by omega)), r2, bd_s, show (10 : Int32) = nI 10 from rfl, c1, bd_s, gd_t, u1b, c2, bd_s, gd_t, gd_t, u1, lt_r, gd_t, pI_at, show (1 : Int32) = nI 1 from rfl, nI_add]
    · refine Rel.act (c' := acN T c 3) hT hs ht hn ha hb hd hn8 (fun q q0 q5 qn => ?_) ?_ (fun q q0 q5 q9 => ?_) (fun j hj => ?_) (fun j hj => ?_) (fun q q4 q7 q8 => ?_) (fun j hj => ?_) ⟨a2, ⟨fun j hj => ?_, ?_, ?_, ?_, fun w w1 w2 => ?_⟩, hn.2.2.act hT.2.2 hq⟩ ⟨?_, ?_⟩ ?_ ?_ ?_
      · have k1 := a3 q (by omega) (by omega) (by omega) (by omega)
        have k2 := r9 q q0 qn
        exact ⟨k1.1.trans k2.1, k1.2.trans k2.2⟩
      · rw [(a3 0 (by decide) (by decide) (by decide) (by decide)).1]; exact r10
      · rw [pI_n q5, c5.1]; exact r11 q q0 q9
      · rw [pI_n (by decide), c5.1]; exact r12 j hj
      · rw [pI_n (by decide), c5.1]; exact r13 j hj
      · rw [pI_2, c5.2.1 q q4 q7]; exact r14 q q8
      · rw [pI_2, c5.2.1 8 (by decide) (by decide)]; exact r15 j hj
      · have := c4 j hj
        rw [Nat.mul_zero] at this
        rw [pI_2, this]
        rfl
      · rw [pI_nj (by decide), c5.1]; exact r8.2.1
      · exact pI_at
      · rw [pI_nj (by decide), c5.1]; exact r8.2.2.2.1
      · rw [ac_q (by omega), ac_q (by omega)]
        have k := r8.2.2.2.2 w w1 w2
        rw [pI_nj (by omega), pI_nj (by omega), c5.1]
        exact k
      · exact r3.eq (a3 _ (by omega) (by omega) (by omega) (by omega)).1 (a3 _ (by omega) (by omega) (by omega) (by omega)).2 (a3 _ (by omega) (by omega) (by omega) (by omega)).1 (a3 _ (by omega) (by omega) (by omega) (by omega)).1
      · exact r4.cp (fun j _ => by rw [pI_2, c5.2.1 8 (by decide) (by decide)]) (fun j _ => by rw [pI_n (by decide), c5.1])
      · rw [(a3 0 (by decide) (by decide) (by decide) (by decide)).1]; exact r5
      · rw [pI_n (by decide), c5.1]; exact r6
      · show c.2 1 + c.2 2 + 1 = (c.2 1 + 1) + c.2 2
        omega
  · rw [if_neg (nlt (c.2 1) (T 5) rfl rfl (by omega) (by omega)), if_pos (peq (c.2 1) (T 5) rfl rfl (by omega))]
    exact ⟨_, _, _, rfl, rfl, h⟩
theorem s9_hear {z : Nat} {μ : ST} {c : Sc} {i j x : Nat} (hl : LM μ 0 c.1) (h2 : μ.1 5 2 = nI (c.2 2)) (hh : c.2 2 < 2) (hi : i ≤ 9) (hj : j ≤ 9) (hx : x ≤ 9) (hz : 13 ≤ z) : fX9_hear_44 z (nI i) (nI j) (nI x) z μ 0 = some (nI (c.2 2 + 1), pI (pI (pI (pI (regL μ 4 0 11 (fun q => lN ((blN c i j x).1 q))) 5 (3 + 3 * c.2 2) (nI i)) 5 (4 + 3 * c.2 2) (nI j)) 5 (5 + 3 * c.2 2) (nI x)) 5 2 (nI (c.2 2 + 1))) := by
  have hw : ∀ q, q < 11 → μ.2 4 q = lN (c.1 q) := fun q hq => by
    have := hl q hq
    rwa [Nat.mul_zero, Nat.zero_add] at this
  have loop : ∀ m q, q ≤ 10 → 10 < q + m → fX9_hear_44 z (nI i) (nI j) (nI x) m (regL μ 4 0 q (fun q => lN ((blN c i j x).1 q))) (nI q) = some (nI (c.2 2 + 1), pI (pI (pI (pI (regL μ 4 0 11 (fun q => lN ((blN c i j x).1 q))) 5 (3 + 3 * c.2 2) (nI i)) 5 (4 + 3 * c.2 2) (nI j)) 5 (5 + 3 * c.2 2) (nI x)) 5 2 (nI (c.2 2 + 1))) := by
    intro m
    induction m with
    | zero => intro q h1 h2; omega
    | succ m ih =>
      intro q g1 g2
      unfold fX9_hear_44
      by_cases hq : q = 10
      · subst hq
        have e2 : (2 : Int32).toNatClampNeg = 2 := rfl
        have e10 : (10 : Int32).toNatClampNeg = 10 := rfl
        have i2 : inb (2 : Int32) 9 = true := rfl
        have i10 : inb (10 : Int32) 33 = true := rfl
        have hv : (blN c i j x).1 10 = c.1 10 * 5 := by
          show (if (10 : Nat) = 10 then c.1 10 * 5 else if i ≤ 10 ∧ 10 ≤ j then c.1 10 * x else c.1 10 * (10 - x)) = _
          exact if_pos rfl
        have hl10 := regL_s0 (σ := μ) (a := 4) (n := 10) (F := fun q => lN ((blN c i j x).1 q))
        rw [hv] at hl10
        rw [if_pos (ple (a := 10) 10 10 rfl rfl (Nat.le_refl _) (by decide)), i10, gd_t, gd_t, e10, regL_out (Or.inr (by decide)), hw 10 (by decide), show (5 : Int64) = lN 5 from rfl, lN_mul, hl10, lt_r, i2, gd_t, e2, regL_1, h2]
        have k3 : (3 : Int32) + (3 : Int32) * nI (c.2 2) = nI (3 + 3 * c.2 2) := by rw [show (3 : Int32) = nI 3 from rfl, pk_mul, nI_add]
        have k4 : nI (3 + 3 * c.2 2) + (1 : Int32) = nI (4 + 3 * c.2 2) := by rw [show (1 : Int32) = nI 1 from rfl, nI_add]; congr 1; omega
        have k5 : nI (3 + 3 * c.2 2) + (2 : Int32) = nI (5 + 3 * c.2 2) := by rw [show (2 : Int32) = nI 2 from rfl, nI_add]; congr 1; omega
        rw [k3, k4, k5, gd_inb (by omega) (by decide), nI_clamp (by omega), lt_r, gd_inb (by omega) (by decide), nI_clamp (by omega), lt_r, gd_inb (by omega) (by decide), nI_clamp (by omega), lt_r, gd_t, gd_t, pI_nj (by omega), pI_nj (by omega), pI_nj (by omega), regL_1, h2, show (1 : Int32) = nI 1 from rfl, nI_add, lt_r, gd_t, pI_at]
      · have hh2 := ih (q + 1) (by omega) (by omega)
        rw [← regL_s0] at hh2
        have hv : (blN c i j x).1 q = if i ≤ q ∧ q ≤ j then c.1 q * x else c.1 q * (10 - x) := by
          unfold blN
          exact if_neg hq
        rw [hv] at hh2
        rw [if_neg (nle (a := 10) 10 q rfl rfl (by omega) (by decide)), gd_inb (by omega) (by decide), in_eq, s_isWithinN (by omega) (by omega) (by omega), bd_s, nI_clamp (by omega), regL_out (Or.inr (by omega)), hw q (by omega)]
        unfold fX9_hear_82
        rw [gd_inb (by omega) (by decide), gd_inb (by omega) (by decide), nI_clamp (by omega), lt_r, lt_r, nI_1]
        by_cases hcnd : i ≤ q ∧ q ≤ j
        · rw [if_pos hcnd] at hh2
          rw [if_pos hcnd, if_neg (show ¬ (1 : Int32) = 0 by decide), nI_l (by omega), lN_mul]
          exact hh2
        · rw [if_neg hcnd] at hh2
          rw [if_neg hcnd, if_pos rfl, show (10 : Int32) = nI 10 from rfl, pk_sub (by omega), nI_l (by omega), lN_mul]
          exact hh2
  have := loop z 0 (by omega) (by omega)
  rw [regL_0] at this
  exact this
theorem op_hear {z : Nat} {σ μ : ST} (hz : 30000 ≤ z) (h : Rel σ μ) (v1 v2 v3 : Int32) : ∃ r σ' μ', fX8_hear z σ v1 v2 v3 = some (r, σ') ∧ fX9_hear z μ v1 v2 v3 = some (r, μ') ∧ Rel σ' μ' := by
  obtain ⟨T, P, sec, L, t, c, n, A, B, hT, hs, ht, hn, ha, hb, hd⟩ := id h
  obtain ⟨g1, g2, g3, g4⟩ := ha.n8 hn.2.2 hT.2.2
  unfold fX8_hear fX9_hear
  rcases s_isSaying (z := z) v1 v2 v3 with ⟨e1, e2⟩ | ⟨i, j, x, rfl, rfl, rfl, hij, hj, hx1, hx, e1, e2⟩
  · rw [e1, e2, bd_s, bd_s, if_pos rfl, if_pos rfl]
    exact ⟨_, _, _, rfl, rfl, h⟩
  · have q1 : (1 : Int32).toNatClampNeg = 1 := rfl
    have q2 : (2 : Int32).toNatClampNeg = 2 := rfl
    have b1 : inb (1 : Int32) 9 = true := rfl
    have b2 : inb (2 : Int32) 9 = true := rfl
    have m1 : μ.1 5 1 = nI (c.2 1) := hn.2.1.2.2.1
    have m2 : μ.1 5 2 = nI (c.2 2) := hn.2.1.2.2.2.1
    have one : ¬ (1 : Int32) = 0 := by decide
    rw [e1, e2, bd_s, bd_s, if_neg one, if_neg one, b1, gd_t, q1, m1, hn.1.2.2.1, b2, gd_t, q2, m2, hn.1.2.2.2.1]
    by_cases h0 : c.2 1 = 0
    · rw [if_pos (ple (b := 0) (c.2 1) 0 rfl rfl (by omega) (by omega)), if_pos (ple (b := 0) (c.2 1) 0 rfl rfl (by omega) (by omega))]
      by_cases hh : c.2 2 < 2
      · have hn8 : n < 8 := by omega
        obtain ⟨σ1, μ1, r1, r2, r3, r4, r5, r6, r7, r8, r9, r10, r11, r12, r13, r14, r15⟩ := a_remember (z := z) hn ha hn8 (by omega)
        obtain ⟨σ2, a1, a2, a3⟩ := a_believe (z := z) (k := 5) (i := i) (j := j) (x := x) rfl r7 (by omega) hj hx hh (by omega)
        have lm1 : LM μ1 0 c.1 := fun j hj => by
          rw [Nat.mul_zero]
          exact r8.1 j hj
        have eh := s9_hear (z := z) (i := i) (j := j) (x := x) lm1 r8.2.2.2.1 hh (by omega) hj hx (by omega)
        refine ⟨nI (c.2 2 + 1), σ2, _, ?_, (by rw [if_neg (neq (b := 2) (c.2 2) 2 rfl rfl (by omega) (by omega) (by decide)), r2, bd_s]; exact eh), ?_⟩
        · rw [if_pos (plt (b := 2) (c.2 2) 2 rfl rfl hh (by decide)), r1, bd_s, a1, bd_s, a2.2.2.2.1]; rfl
        · refine Rel.act (c' := blN c i j x) hT hs ht hn ha hb hd hn8 (fun q q0 q5 qn => ?_) ?_ (fun q q0 q5 q9 => ?_) (fun j hj => ?_) (fun j hj => ?_) (fun q q4 q7 q8 => ?_) (fun j hj => ?_) ⟨a2, ⟨fun j hj => ?_, ?_, ?_, ?_, fun w w1 w2 => ?_⟩, hn.2.2.bel hh hij hj hx⟩ ⟨?_, ?_⟩ ?_ ?_ ?_
          · have k1 := a3 q (by omega) (by omega) (by omega) (by omega)
            have k2 := r9 q q0 qn
            exact ⟨k1.1.trans k2.1, k1.2.trans k2.2⟩
          · rw [(a3 0 (by decide) (by decide) (by decide) (by decide)).1]; exact r10
          · rw [pI_n q5, pI_n q5, pI_n q5, pI_n q5, regL_1]; exact r11 q q0 q9
          · rw [pI_n (by decide), pI_n (by decide), pI_n (by decide), pI_n (by decide), regL_1]; exact r12 j hj
          · rw [pI_n (by decide), pI_n (by decide), pI_n (by decide), pI_n (by decide), regL_1]; exact r13 j hj
          · rw [pI_2, pI_2, pI_2, pI_2, regL_ne q4]; exact r14 q q8
          · rw [pI_2, pI_2, pI_2, pI_2, regL_ne (by decide)]; exact r15 j hj
          · rw [pI_2, pI_2, pI_2, pI_2, regL_in (by omega) (by omega), Nat.zero_add, Nat.sub_zero]
          · rw [pI_nj (by decide), pI_nj (by omega), pI_nj (by omega), pI_nj (by omega), regL_1, r8.2.1]
            show nI (c.2 0) = nI (if (0 : Nat) = 2 then c.2 2 + 1 else if 0 = 3 + 2 * c.2 2 then i else if 0 = 4 + 2 * c.2 2 then j else c.2 0)
            rw [if_neg (by decide), if_neg (by omega), if_neg (by omega)]
          · rw [pI_nj (by decide), pI_nj (by omega), pI_nj (by omega), pI_nj (by omega), regL_1]
            have := r8.2.2.1
            rw [this]
            show nI (c.2 1) = nI (if (1 : Nat) = 2 then c.2 2 + 1 else if 1 = 3 + 2 * c.2 2 then i else if 1 = 4 + 2 * c.2 2 then j else c.2 1)
            rw [if_neg (by decide), if_neg (by omega), if_neg (by omega)]
          · exact pI_at
          · have w2 : w < c.2 2 + 1 := w2
            have v3 : (blN c i j x).2 (3 + 2 * w) = if w = c.2 2 then i else c.2 (3 + 2 * w) := by
              show (if 3 + 2 * w = 2 then c.2 2 + 1 else if 3 + 2 * w = 3 + 2 * c.2 2 then i else if 3 + 2 * w = 4 + 2 * c.2 2 then j else c.2 (3 + 2 * w)) = _
              rw [if_neg (by omega)]
              by_cases hw : w = c.2 2
              · rw [if_pos hw, if_pos (by omega)]
              · rw [if_neg hw, if_neg (by omega), if_neg (by omega)]
            have v4 : (blN c i j x).2 (4 + 2 * w) = if w = c.2 2 then j else c.2 (4 + 2 * w) := by
              show (if 4 + 2 * w = 2 then c.2 2 + 1 else if 4 + 2 * w = 3 + 2 * c.2 2 then i else if 4 + 2 * w = 4 + 2 * c.2 2 then j else c.2 (4 + 2 * w)) = _
              rw [if_neg (by omega), if_neg (by omega)]
              by_cases hw : w = c.2 2
              · rw [if_pos hw, if_pos (by omega)]
              · rw [if_neg hw, if_neg (by omega)]
            rw [v3, v4, Nat.zero_add, Nat.zero_add]
            constructor
            · rw [pI_nj (by omega), pI_nj (by omega), pI_nj (by omega)]
              by_cases hw : w = c.2 2
              · rw [if_pos hw, hw, pI_at]
              · rw [if_neg hw, pI_nj (by omega), regL_1]
                have := (r8.2.2.2.2 w w1 (by omega)).1
                rwa [Nat.zero_add] at this
            · rw [pI_nj (by omega), pI_nj (by omega)]
              by_cases hw : w = c.2 2
              · rw [if_pos hw, hw, pI_at]
              · rw [if_neg hw, pI_nj (by omega), pI_nj (by omega), regL_1]
                have := (r8.2.2.2.2 w w1 (by omega)).2
                rwa [Nat.zero_add] at this
          · exact r3.eq (a3 _ (by omega) (by omega) (by omega) (by omega)).1 (a3 _ (by omega) (by omega) (by omega) (by omega)).2 (a3 _ (by omega) (by omega) (by omega) (by omega)).1 (a3 _ (by omega) (by omega) (by omega) (by omega)).1
          · exact r4.cp (fun j _ => by rw [pI_2, pI_2, pI_2, pI_2, regL_ne (by decide)]) (fun j _ => by rw [pI_n (by decide), pI_n (by decide), pI_n (by decide), pI_n (by decide), regL_1])
          · rw [(a3 0 (by decide) (by decide) (by decide) (by decide)).1]; exact r5
          · rw [pI_n (by decide), pI_n (by decide), pI_n (by decide), pI_n (by decide), regL_1]; exact r6
          · have v1 : (blN c i j x).2 1 = c.2 1 := by
              show (if (1 : Nat) = 2 then c.2 2 + 1 else if 1 = 3 + 2 * c.2 2 then i else if 1 = 4 + 2 * c.2 2 then j else c.2 1) = _
              rw [if_neg (by decide), if_neg (by omega), if_neg (by omega)]
            rw [v1]
            show c.2 1 + c.2 2 + 1 = c.2 1 + (c.2 2 + 1)
            omega
      · rw [if_neg (nlt (b := 2) (c.2 2) 2 rfl rfl (by omega) (by omega)), if_pos (peq (b := 2) (c.2 2) 2 rfl rfl (by omega))]
        exact ⟨_, _, _, rfl, rfl, h⟩
    · rw [if_neg (nle (b := 0) (c.2 1) 0 rfl rfl (by omega) (by omega)), if_neg (nle (b := 0) (c.2 1) 0 rfl rfl (by omega) (by omega))]
      exact ⟨_, _, _, rfl, rfl, h⟩
theorem op_seed {z : Nat} {σ μ : ST} (h : Rel σ μ) (v : Int64) : ∃ r σ' μ', fX8_seed z σ v = some (r, σ') ∧ fX9_seed z μ v = some (r, μ') ∧ Rel σ' μ' := by
  obtain ⟨T, P, sec, L, t, c, n, A, B, hT, hs, ht, hn, ha, hb, hd⟩ := h
  refine ⟨σ.2 79 0, pL σ 79 0 v, pL μ 0 25 v, rfl, by unfold fX9_seed; rw [lt_r]; rw [show σ.2 79 0 = μ.2 0 25 from hd], T, P, sec, L, t, c, n, A, B, hT, hs, ht, ⟨hn.1.eq rfl (pL_n (by decide)) rfl rfl, hn.2.1.cp (fun j _ => by rw [pL_n (by decide)]) (fun j _ => rfl), hn.2.2⟩, ⟨ha.1, ha.2.1, ha.2.2.1, fun k hk => ?_⟩, ⟨hb.1, fun s hs2 => ?_⟩, ?_⟩
  · obtain ⟨g1, g2, g3, g4⟩ := ha.2.2.2 k hk
    have hn8 : n ≤ 8 := by have := ha.n8 hn.2.2 hT.2.2; omega
    exact ⟨g1.eq rfl (pL_n (by omega)) rfl rfl, g2.cp (fun j _ => by rw [pL_n (by decide)]) (fun j _ => rfl), g3, g4⟩
  · obtain ⟨g1, g2⟩ := hb.2 s hs2
    refine ⟨g1, fun d hd2 => ?_⟩
    obtain ⟨k1, k2, k3⟩ := g2 d hd2
    exact ⟨k1.eq rfl (pL_n (by omega)) rfl rfl, k2.cp (fun j _ => by rw [pL_n (by decide)]) (fun j _ => rfl), k3⟩
  · unfold RD
    rw [pL_at, pL_at]

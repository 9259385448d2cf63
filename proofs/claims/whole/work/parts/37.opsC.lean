/-! ===== best, bestRow, soon, first ===== -/
theorem en_ne {T : Nat → Nat} : ∀ (m : Nat) (c : Sc) (row found : Nat), enN T m c row found ≠ []
  | 0, _, _, _ => by unfold enN; exact List.cons_ne_nil _ _
  | m + 1, c, row, found => by
    unfold enN
    intro h
    exact en_ne m _ _ _ (List.append_eq_nil_iff.mp h).1
theorem of_some (b : Bs) (q : Nat × Nat) : ∃ p, ofN b q = some p := by
  cases b with
  | none => exact ⟨q, rfl⟩
  | some p =>
    unfold ofN
    simp only
    split
    · exact ⟨_, rfl⟩
    · exact ⟨_, rfl⟩
theorem fold_some : ∀ (L : List (Nat × Nat)) (p : Nat × Nat), ∃ q, L.foldl ofN (some p) = some q
  | [], p => ⟨p, rfl⟩
  | a :: L, p => by
    obtain ⟨r, hr⟩ := of_some (some p) a
    rw [List.foldl_cons, hr]
    exact fold_some L r
theorem fold_some2 {L : List (Nat × Nat)} (b : Bs) (h : L ≠ []) : ∃ q, L.foldl ofN b = some q := by
  cases L with
  | nil => exact absurd rfl h
  | cons a L =>
    obtain ⟨r, hr⟩ := of_some b a
    rw [List.foldl_cons, hr]
    exact fold_some L r
theorem bbS_val {T : Nat → Nat} {c : Sc} {n mode lo : Nat} : ∀ (i : Nat) (q : Nat × Nat), bbS T c n mode lo i none = some q → ∃ f, q = (vlK T (dgN n f) c n, f)
  | 0, q, h => by cases h
  | i + 1, q, h => by
    have h : stB T c n mode (bbS T c n mode lo i none) (lo + i) = some q := h
    unfold stB at h
    by_cases hm : myR n mode (lo + i)
    · rw [if_pos hm] at h
      cases hb : bbS T c n mode lo i none with
      | none =>
        rw [hb] at h
        exact ⟨lo + i, (Option.some.inj h).symm⟩
      | some p =>
        rw [hb] at h
        unfold ofN at h
        simp only at h
        split at h
        · exact bbS_val i q (hb.trans h)
        · exact ⟨lo + i, (Option.some.inj h).symm⟩
    · rw [if_neg hm] at h
      exact bbS_val i q h
/-- the class's two bests, and that they are the reference's -/
theorem both_best {z : Nat} {σ μ : ST} {T P : Nat → Nat} {c : Sc} {m : Nat} (hT : RT σ μ T P) (hn : RN σ μ T c) (hm : m ≤ 3) (hst : c.2 1 + (m + 1) ≤ T 5) (hz : 30000 ≤ z) : ∃ σ' p q k w, fX0_tryAll z σ 5 (nI (m + 1)) = some σ' ∧ DcX σ σ' ∧ σ'.2 76 0 = lN p.1 ∧ σ'.2 77 0 = lN q.1 ∧ p.1 ≤ 39600000000000000 ∧ q.1 ≤ 39600000000000000 ∧ bbS T c (m + 1) 1 0 (10 ^ (m + 1)) none = some q ∧ bbS T c (m + 1) 2 0 (10 ^ (m + 1)) none = some p ∧ bbS T c (m + 1) 0 0 (10 ^ (m + 1)) none = some w ∧ w.1 ≤ 39600000000000000 ∧ kX k = 1 ∧ fX0_likelier z σ' = some (some k) ∧ σ'.2 k 0 = lN w.1 ∧ σ'.1 k 1 = nI w.2 := by
  obtain ⟨σ', e1, b1, b2, d1⟩ := s_tryAll (z := z) hT hn hm hst hz
  have hall := all_le hn.2.2 hT.2.2 hst
  obtain ⟨p, hp⟩ : ∃ p, seaB T c m = some p := fold_some2 _ (en_ne m _ _ _)
  obtain ⟨q, hq⟩ : ∃ q, aboB T c m = some q := fold_some2 _ (en_ne m _ _ _)
  have a1 : bbS T c (m + 1) 1 0 (10 ^ (m + 1)) none = some q := by rw [bb_ab]; exact hq
  have a2 : bbS T c (m + 1) 2 0 (10 ^ (m + 1)) none = some p := by rw [bb_sea]; exact hp
  have a0 : bbS T c (m + 1) 0 0 (10 ^ (m + 1)) none = ofN (some p) q := by
    rw [bb_all]
    show (hdN T c m 3).foldl ofN (seaB T c m) = _
    rw [fold_start, hp, show (hdN T c m 3).foldl ofN none = some q from hq]
    rfl
  have bound : ∀ mode r, bbS T c (m + 1) mode 0 (10 ^ (m + 1)) none = some r → r.1 ≤ 39600000000000000 := by
    intro mode r hr
    obtain ⟨f, rfl⟩ := bbS_val _ _ hr
    have hv := vlK_le (fg := dgN (m + 1) f) hn.2.2 hT.2.2 (m + 1) hst
    have hv2 : (m + 1) * (sumN c.1 11 * 100 ^ (m + 1)) ≤ 4 * 9900000000000000 := Nat.mul_le_mul (by omega) hall
    show vlK T (dgN (m + 1) f) c (m + 1) ≤ _
    omega
  rw [hp] at b1
  rw [hq] at b2
  obtain ⟨p1, p2, p3⟩ : σ'.2 76 0 = lN p.1 ∧ σ'.1 76 1 = nI p.2 ∧ p.1 < 2 ^ 63 := b1
  obtain ⟨q1, q2, q3⟩ : σ'.2 77 0 = lN q.1 ∧ σ'.1 77 1 = nI q.2 ∧ q.1 < 2 ^ 63 := b2
  have hp' := bound 2 p a2
  have hq' := bound 1 q a1
  have ea : ofN (some p) q = some (if q.1 ≤ p.1 then p else q) := by
    unfold ofN
    simp only
    split <;> rfl
  rw [ea] at a0
  by_cases hc : q.1 ≤ p.1
  · rw [if_pos hc] at a0
    refine ⟨σ', p, q, 76, p, e1, d1, p1, q1, hp', hq', a1, a2, a0, hp', rfl, ?_, p1, p2⟩
    unfold fX0_likelier fX0_likelier_29
    rw [p1, q1, if_pos (pleL q.1 p.1 rfl rfl hc p3)]
  · rw [if_neg hc] at a0
    refine ⟨σ', p, q, 77, q, e1, d1, p1, q1, hp', hq', a1, a2, a0, hq', rfl, ?_, q1, q2⟩
    unfold fX0_likelier fX0_likelier_29
    rw [p1, q1, if_neg (nleL q.1 p.1 rfl rfl (by omega) q3)]
theorem bm_some {Q : ST} {v : Int64} {b : Bs} {w : Nat × Nat} (h : BM Q v b) (e : b = some w) : v = lN w.1 ∧ Q.1 0 24 = nI w.2 := by
  subst e
  exact ⟨h.1, h.2.1⟩
theorem op_best {z : Nat} {σ μ : ST} (hz : 30000 ≤ z) (h : Rel σ μ) (v1 v : Int32) : ∃ r σ' μ', fX8_best z σ v1 v = some (r, σ') ∧ fX9_best z μ v1 v = some (r, μ') ∧ Rel σ' μ' := by
  obtain ⟨T, P, sec, L, t, c, n, A, B, hT, hs, ht, hn, ha, hb, hd⟩ := id h
  have one : ¬ (1 : Int32) = 0 := by decide
  unfold fX8_best fX9_best fX9_best_47
  rw [show fX9_in z v1.toInt64 1 4 = fX8_isWithin z v1 1 4 from in_eq (a := 1) (b := 4)]
  rcases isW (z := z) v1 (a' := 1) (b' := 4) 1 4 rfl rfl (by decide) (by decide) with e | ⟨n, hn1, hn4, rfl, e⟩
  · rw [e, bd_s, bd_s, if_pos rfl, if_pos rfl]
    exact ⟨_, _, _, rfl, rfl, h⟩
  · obtain ⟨m, rfl⟩ : ∃ m, n = m + 1 := ⟨n - 1, by omega⟩
    obtain ⟨l1, l2⟩ := s_isLeft (z := z) (n := m + 1) hT hn (by omega) (by omega)
    rw [e, bd_s, bd_s, if_neg one, if_neg one, l1, l2, bd_s, bd_s]
    by_cases hl : 0 < sumN c.1 11 ∧ c.2 1 + (m + 1) ≤ T 5
    · rw [if_pos hl, if_neg one, if_neg one]
      obtain ⟨σ1, p, q, k, w, f1, d1, -, -, -, -, -, -, a0, hw, hk, hlk, k1, k2⟩ := both_best (z := z) hT hn (by omega) hl.2 hz
      obtain ⟨x, μ1, g1, g2, d2⟩ := s9_bestBy (z := z) (mode := 0) hT hn (by omega) (by decide) hl.2 hz
      obtain ⟨w1, w2⟩ := bm_some g2 a0
      have rn1 := d1.rn d2 hn
      have hall := all_le hn.2.2 hT.2.2 hl.2
      have hpos : 0 < sumN c.1 11 * 100 ^ (m + 1) := Nat.mul_pos hl.1 (Nat.pow_pos (by decide))
      obtain ⟨r, p1, p2⟩ := part_ex (z := z) (v := v) (x := lN w.1) (a := w.1) (b := sumN c.1 11 * 100 ^ (m + 1)) (Or.inl rfl) (by omega) hpos (by omega) hz
      refine ⟨r, σ1, μ1, ?_, ?_, h.dc d1 d2⟩
      · rw [f1, bd_s, hlk, bd_s, nl_s, gd_k hk, s_together rfl (by omega) rn1.1.1, bd_s, show (100 : Int64) = lN 100 from rfl, s_power (by omega) (by omega), bd_s, lN_mul, k1, p1, bd_s]
      · rw [show (0 : Int32) = nI 0 from rfl, g1, bd_s, show (100 : Int32) = nI 100 from rfl, s9_allTimes rn1.lm (by omega) (by decide) (by omega), bd_s, w1, p2, bd_s]
    · rw [if_neg hl, if_pos rfl, if_pos rfl]
      exact ⟨_, _, _, rfl, rfl, h⟩
theorem op_bestRow {z : Nat} {σ μ : ST} (hz : 30000 ≤ z) (h : Rel σ μ) (v1 : Int32) : ∃ r σ' μ', fX8_bestRow z σ v1 = some (r, σ') ∧ fX9_bestRow z μ v1 = some (r, μ') ∧ Rel σ' μ' := by
  obtain ⟨T, P, sec, L, t, c, n, A, B, hT, hs, ht, hn, ha, hb, hd⟩ := id h
  have one : ¬ (1 : Int32) = 0 := by decide
  unfold fX8_bestRow fX9_bestRow
  rw [show fX9_in z v1.toInt64 1 4 = fX8_isWithin z v1 1 4 from in_eq (a := 1) (b := 4)]
  rcases isW (z := z) v1 (a' := 1) (b' := 4) 1 4 rfl rfl (by decide) (by decide) with e | ⟨n, hn1, hn4, rfl, e⟩
  · rw [e, bd_s, bd_s, if_pos rfl, if_pos rfl]
    exact ⟨_, _, _, rfl, rfl, h⟩
  · obtain ⟨m, rfl⟩ : ∃ m, n = m + 1 := ⟨n - 1, by omega⟩
    obtain ⟨l1, l2⟩ := s_isLeft (z := z) (n := m + 1) hT hn (by omega) (by omega)
    rw [e, bd_s, bd_s, if_neg one, if_neg one, l1, l2, bd_s, bd_s]
    by_cases hl : 0 < sumN c.1 11 ∧ c.2 1 + (m + 1) ≤ T 5
    · rw [if_pos hl, if_neg one, if_neg one]
      obtain ⟨σ1, p, q, k, w, f1, d1, -, -, -, -, -, -, a0, hw, hk, hlk, k1, k2⟩ := both_best (z := z) hT hn (by omega) hl.2 hz
      obtain ⟨x, μ1, g1, g2, d2⟩ := s9_bestBy (z := z) (mode := 0) hT hn (by omega) (by decide) hl.2 hz
      obtain ⟨w1, w2⟩ := bm_some g2 a0
      refine ⟨nI w.2, σ1, μ1, ?_, ?_, h.dc d1 d2⟩
      · rw [f1, bd_s, hlk, bd_s, nl_s, gd_k hk, k2]
      · rw [show (0 : Int32) = nI 0 from rfl, g1, bd_s, w2]
    · rw [if_neg hl, if_pos rfl, if_pos rfl]
      exact ⟨_, _, _, rfl, rfl, h⟩
theorem op_first {z : Nat} {σ μ : ST} (hz : 30000 ≤ z) (h : Rel σ μ) (v1 v : Int32) : ∃ r σ' μ', fX8_first z σ v1 v = some (r, σ') ∧ fX9_first z μ v1 v = some (r, μ') ∧ Rel σ' μ' := by
  obtain ⟨T, P, sec, L, t, c, n, A, B, hT, hs, ht, hn, ha, hb, hd⟩ := id h
  have one : ¬ (1 : Int32) = 0 := by decide
  unfold fX8_first fX9_first fX9_first_54
  rw [show fX9_in z v1.toInt64 1 4 = fX8_isWithin z v1 1 4 from in_eq (a := 1) (b := 4)]
  rcases isW (z := z) v1 (a' := 1) (b' := 4) 1 4 rfl rfl (by decide) (by decide) with e | ⟨n, hn1, hn4, rfl, e⟩
  · rw [e, bd_s, bd_s, if_pos rfl, if_pos rfl]
    exact ⟨_, _, _, rfl, rfl, h⟩
  · obtain ⟨m, rfl⟩ : ∃ m, n = m + 1 := ⟨n - 1, by omega⟩
    obtain ⟨l1, l2⟩ := s_isLeft (z := z) (n := m + 1) hT hn (by omega) (by omega)
    rw [e, bd_s, bd_s, if_neg one, if_neg one, l1, l2, bd_s, bd_s]
    by_cases hl : 0 < sumN c.1 11 ∧ c.2 1 + (m + 1) ≤ T 5
    · rw [if_pos hl, if_neg one, if_neg one]
      obtain ⟨σ1, p, q, k, w, f1, d1, p76, q77, hp, hq, a1, a2, -, -, -, -, -, -⟩ := both_best (z := z) hT hn (by omega) hl.2 hz
      obtain ⟨x1, μ1, g1, g2, d2⟩ := s9_bestBy (z := z) (mode := 1) hT hn (by omega) (by decide) hl.2 hz
      obtain ⟨x2, μ2, j1, j2, d3⟩ := s9_bestBy (z := z) (mode := 2) (DcX.rf.rt d2 hT) (DcX.rf.rn d2 hn) (by omega) (by decide) hl.2 hz
      obtain ⟨w1, -⟩ := bm_some g2 a1
      obtain ⟨w2, -⟩ := bm_some j2 a2
      have dd := d2.tr d3
      have rn1 := d1.rn dd hn
      have hall := all_le hn.2.2 hT.2.2 hl.2
      have hpos : 0 < sumN c.1 11 * 100 ^ (m + 1) := Nat.mul_pos hl.1 (Nat.pow_pos (by decide))
      have hx : ∃ a, a < 2 ^ 63 ∧ (lN q.1 - lN p.1 = lN a ∨ lN q.1 - lN p.1 = - lN a) := by
        by_cases hc : p.1 ≤ q.1
        · exact ⟨q.1 - p.1, by omega, Or.inl (lN_sub hc)⟩
        · refine ⟨p.1 - q.1, by omega, Or.inr ?_⟩
          rw [← lN_sub (by omega), Int64.neg_sub]
      obtain ⟨a, ha2, hx2⟩ := hx
      obtain ⟨r, p1, p2⟩ := part_ex (z := z) (v := v) (x := lN q.1 - lN p.1) (a := a) (b := sumN c.1 11 * 100 ^ (m + 1)) hx2 ha2 hpos (by omega) hz
      refine ⟨r, σ1, μ2, ?_, ?_, h.dc d1 dd⟩
      · rw [f1, bd_s, s_together rfl (by omega) rn1.1.1, bd_s, show (100 : Int64) = lN 100 from rfl, s_power (by omega) (by omega), bd_s, lN_mul, p76, q77, p1, bd_s]
      · rw [show (1 : Int32) = nI 1 from rfl, g1, bd_s, show (2 : Int32) = nI 2 from rfl, j1, bd_s, show (100 : Int32) = nI 100 from rfl, s9_allTimes rn1.lm (by omega) (by decide) (by omega), bd_s, w1, w2, p2, bd_s]
    · rw [if_neg hl, if_pos rfl, if_pos rfl]
      exact ⟨_, _, _, rfl, rfl, h⟩
theorem op_soon {z : Nat} {σ μ : ST} (hz : 30000 ≤ z) (h : Rel σ μ) (v1 : Int32) : ∃ r σ' μ', fX8_soon z σ v1 = some (r, σ') ∧ fX9_soon z μ v1 = some (r, μ') ∧ Rel σ' μ' := by
  obtain ⟨T, P, sec, L, t, c, n, A, B, hT, hs, ht, hn, ha, hb, hd⟩ := id h
  have one : ¬ (1 : Int32) = 0 := by decide
  have hle := hn.2.2.le2 hT.2.2
  unfold fX8_soon fX9_soon
  rw [show fX9_in z v1.toInt64 1 10 = fX8_isWithin z v1 1 10 from in_eq (a := 1) (b := 10)]
  rcases isW (z := z) v1 (a' := 1) (b' := 10) 1 10 rfl rfl (by decide) (by decide) with e | ⟨x, hx1, hx2, rfl, e⟩
  · rw [e, bd_s, bd_s, if_pos rfl, if_pos rfl]
    exact ⟨_, _, _, rfl, rfl, h⟩
  · rw [e, bd_s, bd_s, if_neg one, if_neg one, s_together rfl (by omega) hn.1.1, bd_s, show fX9_sumOf z μ 0 = some (lN (sumN c.1 11)) from s9_sumOf hn.lm (by decide) (by omega), bd_s]
    by_cases h0 : sumN c.1 11 = 0
    · rw [h0, if_neg (show ¬ (0 : Int64) < lN 0 by decide), if_pos (show lN 0 = 0 from rfl)]
      exact ⟨_, _, _, rfl, rfl, h⟩
    · rw [if_pos (pltL (a := 0) 0 (sumN c.1 11) rfl rfl (by omega) (by omega)), if_neg (neqL (b := 0) (sumN c.1 11) 0 rfl rfl h0 (by omega) (by decide))]
      have loop : ∀ k n (S Q : ST), 1 ≤ n → n ≤ 5 → 5 < n + k → DcX σ S → DcM μ Q → ∃ r S' Q', fX8_soon_30 z (nI x) k S (nI n) = some (r, S') ∧ fX9_soon_30 z (nI x) k Q (nI n) = some (r, Q') ∧ DcX σ S' ∧ DcM μ Q' := by
        intro k
        induction k with
        | zero => intro n S Q h1 h2 h3; omega
        | succ k ih =>
          intro n S Q h1 h2 h3 dx dm
          have hT2 := dx.rt dm hT
          have hn2 := dx.rn dm hn
          unfold fX8_soon_30 fX9_soon_30 fX8_soon_103 fX9_soon_75
          by_cases h5 : n = 5
          · subst h5
            rw [if_pos (plt (a := 4) 4 5 rfl rfl (by decide) (by decide)), if_pos (ple (a := 5) 5 5 rfl rfl (by decide) (by decide))]
            exact ⟨_, _, _, rfl, rfl, dx, dm⟩
          · obtain ⟨m, rfl⟩ : ∃ m, n = m + 1 := ⟨n - 1, by omega⟩
            obtain ⟨l1, l2⟩ := s_isLeft (z := z) (n := m + 1) hT2 hn2 (by omega) (by omega)
            rw [if_neg (nlt (a := 4) 4 (m + 1) rfl rfl (by omega) (by decide)), if_neg (nle (a := 5) 5 (m + 1) rfl rfl (by omega) (by decide)), l1, l2, bd_s, bd_s]
            by_cases hl : 0 < sumN c.1 11 ∧ c.2 1 + (m + 1) ≤ T 5
            · rw [if_pos hl, if_neg one, if_neg one]
              obtain ⟨σ1, p, q, kk, w, f1, d1, -, -, -, -, -, -, a0, hw, hk, hlk, k1, k2⟩ := both_best (z := z) hT2 hn2 (by omega) hl.2 hz
              obtain ⟨y, μ1, g1, g2, d2⟩ := s9_bestBy (z := z) (mode := 0) hT2 hn2 (by omega) (by decide) hl.2 hz
              obtain ⟨w1, w2⟩ := bm_some g2 a0
              have rn1 := d1.rn d2 hn2
              have hall := all_le hn.2.2 hT.2.2 hl.2
              have hax : sumN c.1 11 * 100 ^ (m + 1) * x ≤ 9900000000000000 * 10 := Nat.mul_le_mul hall hx2
              have hdiv : sumN c.1 11 * 100 ^ (m + 1) / 10 * 10 = sumN c.1 11 * 100 ^ (m + 1) := by
                have : sumN c.1 11 * 100 ^ (m + 1) = (sumN c.1 11 * 100 ^ m * 10) * 10 := by
                  rw [Nat.pow_succ]; simp only [Nat.mul_assoc]
                omega
              have hcmp : w.1 * 10 < sumN c.1 11 * 100 ^ (m + 1) * x ↔ w.1 < sumN c.1 11 * 100 ^ (m + 1) / 10 * x := by
                generalize sumN c.1 11 * 100 ^ (m + 1) / 10 = D at hdiv
                rw [← hdiv, Nat.mul_right_comm]
                omega
              have hdx : sumN c.1 11 * 100 ^ (m + 1) / 10 * x ≤ 990000000000000 * 10 := Nat.mul_le_mul (by omega) hx2
              rw [f1, bd_s, hlk, bd_s, nl_s, gd_k hk, s_together rfl (by omega) rn1.1.1, bd_s, show (100 : Int64) = lN 100 from rfl, s_power (by omega) (by omega), bd_s, k1, show (0 : Int32) = nI 0 from rfl, g1, bd_s, show (100 : Int32) = nI 100 from rfl, s9_allTimes rn1.lm (by omega) (by decide) (by omega), bd_s, show nzL (10 : Int64) = true from rfl, gd_t, w1, show (10 : Int64) = lN 10 from rfl, pk_lDiv (by omega) (by decide) (by decide), lN_mul, lN_mul, nI_l (by omega), lN_mul, lN_mul, nI_1]
              by_cases hc : w.1 * 10 < sumN c.1 11 * 100 ^ (m + 1) * x
              · rw [if_pos (pltL (w.1 * 10) (sumN c.1 11 * 100 ^ (m + 1) * x) rfl rfl hc (by omega)), if_pos (pltL w.1 (sumN c.1 11 * 100 ^ (m + 1) / 10 * x) rfl rfl (hcmp.mp hc) (by omega))]
                exact ih (m + 1 + 1) σ1 μ1 (by omega) (by omega) (by omega) (dx.tr d1) (dm.tr d2)
              · rw [if_neg (nltL (w.1 * 10) (sumN c.1 11 * 100 ^ (m + 1) * x) rfl rfl (by omega) (by omega)), if_neg (nltL w.1 (sumN c.1 11 * 100 ^ (m + 1) / 10 * x) rfl rfl (by have := fun q => hc (hcmp.mpr q); omega) (by omega))]
                exact ⟨_, _, _, rfl, rfl, dx.tr d1, dm.tr d2⟩
            · rw [if_neg hl, if_pos rfl, if_pos rfl]
              exact ⟨_, _, _, rfl, rfl, dx, dm⟩
      obtain ⟨r, S, Q, r1, r2, r3, r4⟩ := loop z 1 σ μ (by decide) (by decide) (by omega) DcX.rf DcM.rf
      exact ⟨r, S, Q, r1, r2, h.dc r3 r4⟩

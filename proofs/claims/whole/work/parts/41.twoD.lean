/-! ===== withSecond ===== -/
theorem s_twoAll {z : Nat} {σ μ : ST} {T P : Nat → Nat} {c : Sc} {n q s : Nat} (hT : RT σ μ T P) (hn : RN σ μ T c) (hn1 : 1 ≤ n) (hn2 : n ≤ 2) (hst : c.2 1 + n ≤ T 5) (hs : s ≤ 9) (hq : q ≤ 6) (h6 : σ.1 3 6 = nI s) (h7 : σ.1 3 7 = nI q) (hz : 30000 ≤ z) : ∃ σ' p, fX0_tryTogether z σ 5 (nI n) = some σ' ∧ σ'.2 78 0 = lN p ∧ p < 2 ^ 63 ∧ rvN T q n c s 0 p ∧ (∀ x, rvN T q n c s 0 x → x ≤ p) ∧ DcX σ σ' ∧ sumN c.1 11 * 1000 ^ n ≤ 990000000000000000 := by
  have hi := hT.2.2
  have h5 := hi.2.2.2.2.2.2.1
  have hr4 : rl (58 + 1) = 4 := rfl
  have hall : sumN c.1 11 * 1000 ^ n ≤ 990000000000000000 := by
    have h1 := hn.2.2.le hi
    have : n = 1 ∨ n = 2 := by omega
    rcases this with rfl | rfl
    · have h2 : (100 : Nat) ^ c.2 1 ≤ 100 ^ 5 := Nat.pow_le_pow_right (by decide) (by omega)
      have e5 : (100 : Nat) ^ 5 = 10000000000 := by decide
      rw [e5] at h2
      rw [Nat.pow_one]
      omega
    · have h2 : (100 : Nat) ^ c.2 1 ≤ 100 ^ 4 := Nat.pow_le_pow_right (by decide) (by omega)
      have e5 : (100 : Nat) ^ 4 = 100000000 := by decide
      have e6 : (1000 : Nat) ^ 2 = 1000000 := by decide
      rw [e5] at h2
      rw [e6]
      omega
  obtain ⟨σ3, d1, d2, d3⟩ := s_clear (z := z) (σ := pI σ 57 4 (nI n)) (k := 78) rfl
  have sx3 : SX σ3 5 c := hn.1.eq ((d3 5 (by decide)).1.trans (pI_n (by decide))) ((d3 6 (by decide)).2.trans rfl) ((d3 7 (by decide)).1.trans (pI_n (by decide))) ((d3 8 (by decide)).1.trans (pI_n (by decide)))
  obtain ⟨σ4, e1, e2, e3⟩ := a_put (z := z) (σ := σ3) (k := 58) (i := 0) rfl (by rw [hr4]; decide) (by rw [hr4]; decide) (by decide) (by decide) sx3 (by omega)
  have fr4 : ∀ q, q ≠ 57 → q ≠ 78 → ¬ (60 ≤ q ∧ q ≤ 63) → σ4.1 q = σ.1 q ∧ σ4.2 q = σ.2 q := fun q h1 h2 h4 => by
    have k1 := e3 q (by omega) (by omega) (by omega) (by omega)
    have k2 := d3 q h2
    exact ⟨k1.1.trans (k2.1.trans (pI_n h1)), k1.2.trans (k2.2.trans rfl)⟩
  have tx4 : TX σ4 T P := hT.1.eq (fr4 3 (by decide) (by decide) (by decide)).1 (fr4 4 (by decide) (by decide) (by decide)).1
  have s57 : σ4.1 57 4 = nI n := by
    rw [(e3 57 (by decide) (by decide) (by decide) (by decide)).1, (d3 57 (by decide)).1, pI_at]
  have b78 : BX σ4 78 none := d2.eq (e3 78 (by decide) (by decide) (by decide) (by decide))
  have s36 : σ4.1 3 6 = nI s := by rw [(fr4 3 (by decide) (by decide) (by decide)).1]; exact h6
  have s37 : σ4.1 3 7 = nI q := by rw [(fr4 3 (by decide) (by decide) (by decide)).1]; exact h7
  obtain ⟨m, rfl⟩ : ∃ m, n = m + 1 := ⟨n - 1, by omega⟩
  obtain ⟨σ5, b5, g1, g2, g3, g4⟩ := s_two (z := z) (n := m + 1) (q := q) hi hz hn2 hq m 0 s 0 9 (sumN c.1 11) none σ4 c (by omega) (by omega) ⟨e2, tx4, s57, s37, b78⟩ hn.2.2.1 hs hst (Nat.le_refl _) (Nat.zero_le _) hall
  obtain ⟨p, hp, -⟩ := g3.2.1 (wvN T q (m + 1) c s 0 0) ((rv_wv _ _ _ _ _).mpr ⟨0, Nat.pow_pos (by decide), rfl⟩)
  rw [hp] at g2
  obtain ⟨v1, v2, v3⟩ : σ5.2 78 0 = lN p.1 ∧ σ5.1 78 1 = nI p.2 ∧ p.1 < 2 ^ 63 := g2
  refine ⟨σ5, p.1, ?_, v1, v3, ?_, fun x hx => ?_, fun q hq => ?_, hall⟩
  · unfold fX0_tryTogether
    rw [gd_k (show kX 5 = 3 from rfl), lt_r, d1, bd_s, show (0 : Int32) = nI 0 from rfl, e1, bd_s, s36, show (0 : Int64) = lN 0 from rfl, g1, bd_s]
  · rcases g3.2.2 p hp with ⟨p0, h0, -⟩ | h
    · cases h0
    · exact h
  · obtain ⟨p', hp', hle⟩ := g3.2.1 x hx
    rw [hp] at hp'
    rw [Option.some.inj hp']
    exact hle
  · have hq2 : ¬ ((9 ≤ q ∧ q ≤ 12) ∨ (57 ≤ q ∧ q ≤ 78)) := of_decide_eq_false hq
    have k1 := fr4 q (by omega) (by omega) (by omega)
    have k2 := g4 q (by omega) (by omega)
    exact ⟨k2.1.trans k1.1, k2.2.trans k1.2⟩
theorem op_withSecond {z : Nat} {σ μ : ST} (hz : 30000 ≤ z) (h : Rel σ μ) (v1 v2 : Int32) : ∃ r σ' μ', fX8_withSecond z σ v1 v2 = some (r, σ') ∧ fX9_withSecond z μ v1 v2 = some (r, μ') ∧ Rel σ' μ' := by
  obtain ⟨T, P, sec, L, t, c, n, A, B, hT, hs, ht, hn, ha, hb, hd⟩ := id h
  have one : ¬ (1 : Int32) = 0 := by decide
  unfold fX8_withSecond fX9_withSecond fX8_withSecond_33 fX9_withSecond_31
  rcases isW (z := z) v1 (a' := 1) (b' := 2) 1 2 rfl rfl (by decide) (by decide) with e | ⟨n, hn1, hn2, rfl, e⟩
  · have e9 : fX9_in z v1.toInt64 1 2 = some 0 := by rw [show fX9_in z v1.toInt64 1 2 = fX8_isWithin z v1 1 2 from in_eq (a := 1) (b := 2)]; exact e
    rw [e, e9, bd_s, bd_s, if_pos rfl, if_pos rfl]
    exact ⟨_, _, _, rfl, rfl, h⟩
  · have e9 : fX9_in z (nI n).toInt64 1 2 = some 1 := by rw [show fX9_in z (nI n).toInt64 1 2 = fX8_isWithin z (nI n) 1 2 from in_eq (a := 1) (b := 2)]; exact e
    rw [e, e9, bd_s, bd_s, if_neg one, if_neg one]
    cases sec with
    | none =>
      obtain ⟨s1, s2⟩ : σ.1 3 6 = -9 ∧ μ.1 0 8 = 0 := hs
      rw [if_pos s1, if_pos s2]
      exact ⟨_, _, _, rfl, rfl, h⟩
    | some q =>
      obtain ⟨s1, s2, s3, s4, s5, s6, s7⟩ : σ.1 3 6 = nI q.1 ∧ σ.1 3 7 = nI q.2 ∧ q.1 ≤ 9 ∧ q.2 ≤ 6 ∧ μ.1 0 8 = 1 ∧ μ.1 0 6 = nI q.1 ∧ μ.1 0 7 = nI q.2 := hs
      have hne : ¬ σ.1 3 6 = (-9 : Int32) := by
        rw [s1]
        intro e
        have : (nI q.1) < 0 := by rw [e]; decide
        exact nI_pos (by omega) this
      obtain ⟨l1, l2⟩ := s_isLeft (z := z) (n := n) hT hn (by omega) (by omega)
      rw [if_neg hne, if_neg (by rw [s5]; decide), l1, l2, bd_s, bd_s]
      by_cases hl : 0 < sumN c.1 11 ∧ c.2 1 + n ≤ T 5
      · rw [if_pos hl, if_neg one, if_neg one]
        obtain ⟨σ1, p, f1, f2, f3, f4, f5, d1, hall⟩ := s_twoAll (z := z) hT hn hn1 hn2 hl.2 s3 s4 s1 s2 hz
        have hpos : 0 < sumN c.1 11 * 1000 ^ n := Nat.mul_pos hl.1 (Nat.pow_pos (by decide))
        obtain ⟨x, p1, p2⟩ := part_ex (z := z) (v := v2) (x := lN p) (a := p) (b := sumN c.1 11 * 1000 ^ n) (Or.inl rfl) f3 hpos (by omega) hz
        have hN : 12 ^ n ≤ 144 ∧ ∀ Z : Int32 → Option (Int64 × ST), (if nI n = (1 : Int32) then Z 12 else Z 144) = Z (nI (12 ^ n)) := by
          have : n = 1 ∨ n = 2 := by omega
          rcases this with rfl | rfl
          · exact ⟨by decide, fun Z => if_pos rfl⟩
          · exact ⟨by decide, fun Z => if_neg (by decide)⟩
        have loop : ∀ m w (Q : ST) (y : Nat), w ≤ 12 ^ n → 12 ^ n < w + m → DcM μ Q → Q.1 = μ.1 → y ≤ p → (∀ w', w' < w → wvN T q.2 n c q.1 0 w' ≤ y) → ∃ μ', fX9_withSecond_40 z (nI n) v2 m Q (lN y) (nI w) = some (x, μ') ∧ DcM μ μ' := by
          intro m
          induction m with
          | zero => intro w Q y h1 h2; omega
          | succ m ih =>
            intro w Q y h1 h2 hd hQ hy hw
            unfold fX9_withSecond_40
            rw [hN.2 (fun N => fX9_withSecond_55 z (fX9_withSecond_40 z (nI n) v2 m) Q (nI n) v2 (lN y) (nI w) N (nI w))]
            unfold fX9_withSecond_55 fX9_withSecond_80
            have rnQ := DcX.rf.rn hd hn
            by_cases hwe : w = 12 ^ n
            · obtain ⟨w', k1, k2⟩ := (rv_wv _ _ _ _ _).mp f4
              have := hw w' (by omega)
              have hyp : y = p := by omega
              rw [if_pos (ple (12 ^ n) w rfl rfl (by omega) (by omega)), show (1000 : Int32) = nI 1000 from rfl, s9_allTimes rnQ.lm (by omega) (by decide) (by omega), bd_s, hyp, p2, bd_s]
              exact ⟨Q, rfl, hd⟩
            · have hlt : w < 12 ^ n := by omega
              obtain ⟨Q2, a1, a2, a3⟩ := s9_two (z := z) (q := q.2) (s := q.1) (DcX.rf.rt hd hT) rnQ hn2 hl.2 s3 s4 (by rw [hQ]; exact s6) (by rw [hQ]; exact s7) (by omega) (w := w) (by omega)
              have hval := f5 _ ((rv_wv n c q.1 0 _).mpr ⟨w, hlt, rfl⟩)
              rw [if_neg (nle (12 ^ n) w rfl rfl hlt (by omega)), a1, bd_s, nI_1]
              by_cases hcmp : wvN T q.2 n c q.1 0 w ≤ y
              · rw [if_pos (pleL (wvN T q.2 n c q.1 0 w) y rfl rfl hcmp (by omega))]
                refine ih (w + 1) Q2 y (by omega) (by omega) (hd.tr a2) (a3.trans hQ) hy (fun w' hw' => ?_)
                by_cases e : w' = w
                · rw [e]; exact hcmp
                · exact hw w' (by omega)
              · rw [if_neg (nleL (wvN T q.2 n c q.1 0 w) y rfl rfl (by omega) (by omega))]
                refine ih (w + 1) Q2 _ (by omega) (by omega) (hd.tr a2) (a3.trans hQ) hval (fun w' hw' => ?_)
                by_cases e : w' = w
                · rw [e]; exact Nat.le_refl _
                · have := hw w' (by omega)
                  omega
        obtain ⟨μ1, g1, d2⟩ := loop z 0 μ 0 (Nat.zero_le _) (by omega) DcM.rf rfl (Nat.zero_le _) (fun w' hw' => by omega)
        have rn1 := d1.rn d2 hn
        refine ⟨x, σ1, μ1, ?_, g1, h.dc d1 d2⟩
        rw [f1, bd_s, s_together rfl (by omega) rn1.1.1, bd_s, show (1000 : Int64) = lN 1000 from rfl, s_power (by omega) (by omega), bd_s, lN_mul, f2, p1, bd_s]
      · rw [if_neg hl, if_pos rfl, if_pos rfl]
        exact ⟨_, _, _, rfl, rfl, h⟩

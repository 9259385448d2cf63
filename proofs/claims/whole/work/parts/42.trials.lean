/-! ===== trials ===== -/
theorem Rel.draw {σ μ : ST} (h : Rel σ μ) (v : Int64) : Rel (pL σ 79 0 v) (pL μ 0 25 v) := by
  obtain ⟨r, σ', μ', e1, e2, h'⟩ := op_seed (z := 0) h v
  unfold fX9_seed at e2
  rw [lt_r] at e2
  have k1 : σ' = pL σ 79 0 v := by
    have : some (σ.2 79 0, pL σ 79 0 v) = some (r, σ') := e1
    exact (Prod.mk.inj (Option.some.inj this)).2.symm
  have k2 : μ' = pL μ 0 25 v := (Prod.mk.inj (Option.some.inj e2)).2.symm
  rw [k1, k2] at h'
  exact h'
theorem sh33 (x : Int64) : ∃ k : Nat, k < 2 ^ 31 ∧ (x.toUInt64 >>> (((33 : Int32)).toInt64.toUInt64 &&& Int64.toUInt64 63)).toInt64 = lN k := by
  have e : ((33 : Int32)).toInt64.toUInt64 &&& Int64.toUInt64 63 = 33 := by decide
  refine ⟨(x.toUInt64 >>> 33).toNat, ?_, ?_⟩
  · rw [UInt64.toNat_shiftRight, show (33 : UInt64).toNat % 64 = 33 from rfl, Nat.shiftRight_eq_div_pow]
    have := UInt64.toNat_lt x.toUInt64
    omega
  · rw [e]
    unfold lN
    rw [← UInt64.toInt64_ofNat', UInt64.ofNat_toNat]
theorem draw {z : Nat} {σ μ : ST} {T P : Nat → Nat} {b : Nat} (h : Rel σ μ) (hT : RT σ μ T P) (h0 : 0 < b) (hb : b < 2 ^ 31) : ∃ d σ' μ', d < b ∧ fX2_below z σ (nI b) = some (nI d, σ') ∧ fX9_drawn z μ (nI b) = some (nI d, μ') ∧ Rel σ' μ' ∧ RT σ' μ' T P := by
  have hd : σ.2 79 0 = μ.2 0 25 := by
    obtain ⟨_, _, _, _, _, _, _, _, _, _, _, _, _, _, _, hd⟩ := h
    exact hd
  generalize hX : σ.2 79 0 * (6364136223846793005 : Int64) + (1442695040888963407 : Int64) = X
  obtain ⟨k, hk, ek⟩ := sh33 X
  have hnz : nzL (lN b) = true := by
    have : ¬ lN b = 0 := neqL (b := 0) b 0 rfl rfl (by omega) (by omega) (by decide)
    unfold nzL
    rw [decide_eq_false this]
    rfl
  have hm : k % b < b := Nat.mod_lt _ h0
  refine ⟨k % b, pL σ 79 0 X, pL μ 0 25 X, hm, ?_, ?_, h.draw X, hT⟩
  · unfold fX2_below fX2_below_35
    rw [lt_r, hX, if_pos (plt (a := 0) 0 b rfl rfl h0 hb), nI_l hb, hnz, gd_t, pL_at, ek, pk_lRem (by omega) h0 (by omega), lN_i]
  · unfold fX9_drawn
    rw [lt_r, ← hd, hX, nI_l hb, hnz, gd_t, pL_at, ek, pk_lRem (by omega) h0 (by omega), lN_i]
theorem neg_sub : ∀ p, p < 10 → ∀ d, d < p → ¬ (0 : Int32) ≤ nI d - nI p := by decide
theorem place_of {z n r : Nat} {σ μ : ST} {T P : Nat → Nat} (hT : RT σ μ T P) : ∀ (m j d m2 : Nat), j ≤ 10 → 10 < j + m → 10 < j + m2 → sumN P j + d < sumN P 11 → ∃ p, p ≤ 10 ∧ fX7_placeOfPart_4 z σ m (nI d) (nI j) = some (nI p) ∧ fX9_isFound_12 z μ (nI n) (nI r) m2 (nI j) (nI d) = fX9_isFound_49 z (nI n) (nI r) z μ (nI p) (μ.1 0 4) 0 := by
  have hi := hT.2.2
  have hP := hi.2.2.2.2.2.2.2.2
  have mP : ∀ j, j < 11 → μ.1 1 j = nI (P j) := hT.2.1.2.2.2.2.2.2
  have hs := parts_le hi
  intro m
  induction m with
  | zero => intro j d m2 h1 h2; omega
  | succ m ih =>
    intro j d m2 h1 h2 h3 h4
    obtain ⟨m2', rfl⟩ : ∃ m', m2 = m' + 1 := ⟨m2 - 1, by omega⟩
    unfold fX7_placeOfPart_4 fX9_isFound_12
    have hpj := hP j (by omega)
    rw [gd_inb (by omega) (by decide), nI_clamp (by omega), mP j (by omega)]
    by_cases h10 : j = 10
    · subst h10
      have : d < P 10 := by
        have : sumN P 11 = sumN P 10 + P 10 := rfl
        omega
      rw [if_pos (ple (a := 10) 10 10 rfl rfl (Nat.le_refl _) (by decide)), if_pos (plt d (P 10) rfl rfl this (by omega))]
      exact ⟨10, Nat.le_refl _, rfl, rfl⟩
    · rw [if_neg (nle (a := 10) 10 j rfl rfl (by omega) (by decide)), s_partAt hT.1 (by omega), bd_s]
      by_cases hd : P j ≤ d
      · obtain ⟨p, p1, p2, p3⟩ := ih (j + 1) (d - P j) m2' (by omega) (by omega) (by omega) (by rw [sumN]; omega)
        rw [pk_sub hd, if_pos (ple (a := 0) 0 (d - P j) rfl rfl (by omega) (by omega)), nI_1, if_neg (nlt d (P j) rfl rfl hd (by omega)), gd_inb (by omega) (by decide)]
        exact ⟨p, p1, p2, p3⟩
      · rw [if_neg (neg_sub (P j) (by omega) d (by omega)), if_pos (plt d (P j) rfl rfl (by omega) (by omega))]
        exact ⟨j, h1, rfl, rfl⟩
theorem s_drifted {z : Nat} {σ : ST} {T P : Nat → Nat} {p d : Nat} (ht : TX σ T P) (hi : TI T P) (hp : p ≤ 9) (hd : d < 10) : fX7_drifted z σ (nI p) (nI d) = some (nI (mvN p (if T 0 ≤ d then (if T 0 + T 1 ≤ d then 0 else 2) else 1))) := by
  obtain ⟨h01, h0, h1, -⟩ := hi
  unfold fX7_drifted fX7_drifted_36
  rw [ht.1, ht.2.1, nI_add]
  by_cases c0 : T 0 ≤ d
  · rw [if_pos (ple (T 0) d rfl rfl c0 (by omega)), if_pos c0]
    by_cases c1 : T 0 + T 1 ≤ d
    · rw [if_pos (ple (T 0 + T 1) d rfl rfl c1 (by omega)), if_pos c1]
      rfl
    · rw [if_neg (nle (T 0 + T 1) d rfl rfl (by omega) (by omega)), if_neg c1, show (2 : Int32) = nI 2 from rfl, s_moved hp (by decide), bd_s]
  · rw [if_neg (nle (T 0) d rfl rfl (by omega) (by omega)), if_neg c0, show (1 : Int32) = nI 1 from rfl, s_moved hp (by decide), bd_s]
theorem op_found {z n r : Nat} {T P : Nat → Nat} (hn1 : 1 ≤ n) (hn : n ≤ 8) (hr : r < 2 ^ 31) (hz : 30000 ≤ z) : ∀ (m k : Nat) (S Q : ST) (pl cl : Nat), k ≤ n → n < k + m → Rel S Q → RT S Q T P → pl ≤ 10 → cl ≤ 9 → ∃ x S' Q', (x = 0 ∨ x = 1) ∧ fX8_isFound_34 z (nI n) (nI r) m S (nI pl) (nI cl) (nI k) = some (x, S') ∧ fX9_isFound_49 z (nI n) (nI r) m Q (nI pl) (nI cl) (nI k) = some (x, Q') ∧ Rel S' Q' ∧ RT S' Q' T P := by
  have one : ¬ (1 : Int32) = 0 := by decide
  intro m
  induction m with
  | zero => intro k S Q pl cl h1 h2; omega
  | succ m ih =>
    intro k S Q pl cl h1 h2 hR hT hpl hcl
    have hi := hT.2.2
    have h5 := hi.2.2.2.2.2.2.1
    unfold fX8_isFound_34 fX9_isFound_49
    by_cases hk : k = n
    · subst hk
      rw [if_pos (ple k k rfl rfl (Nat.le_refl _) (by omega)), if_pos (ple k k rfl rfl (Nat.le_refl _) (by omega))]
      exact ⟨0, S, Q, Or.inl rfl, rfl, rfl, hR, hT⟩
    · rw [if_neg (nle n k rfl rfl (by omega) (by omega)), if_neg (nle n k rfl rfl (by omega) (by omega)), hT.1.2.2.2.2.2.1, hT.2.1.2.2.2.2.2.1]
      by_cases h5k : T 5 ≤ k
      · rw [if_pos (ple (T 5) k rfl rfl h5k (by omega)), if_pos (ple (T 5) k rfl rfl h5k (by omega))]
        exact ⟨0, S, Q, Or.inl rfl, rfl, rfl, hR, hT⟩
      · have hd10 := dgN_lt n r k
        rw [if_neg (nle (T 5) k rfl rfl (by omega) (by omega)), if_neg (nle (T 5) k rfl rfl (by omega) (by omega)), s_figureOf hn (by omega) hr (by omega), bd_s, s_moved hcl (by omega), bd_s, show (1 : Int32) = nI 1 from rfl, pk_sub (by omega), pk_sub (by omega), s9_tenTo (by omega) (by omega), bd_s, nz_ten (by omega), gd_t, show nz (10 : Int32) = true from rfl, gd_t, fig9 (by omega) hr, show r / 10 ^ (n - 1 - k) % 10 = dgN n r k from rfl]
        generalize dgN n r k = f at *
        have hmv := mvN_le (f := f) hcl
        generalize hq : mvN cl f = cl2 at *
        -- the rest of a step: the tide carries it on
        have tide : ∀ (S Q : ST), Rel S Q → RT S Q T P → ∃ x S' Q', (x = 0 ∨ x = 1) ∧ fX8_isFound_118 z (fX8_isFound_34 z (nI n) (nI r) m) S (nI n) (nI r) (nI pl) (nI cl2) (nI k) = some (x, S') ∧ fX9_isFound_157 z (fX9_isFound_49 z (nI n) (nI r) m) Q (nI n) (nI r) (nI pl) (nI cl2) (nI k) = some (x, Q') ∧ Rel S' Q' ∧ RT S' Q' T P := by
          intro S Q hR hT
          unfold fX8_isFound_118 fX9_isFound_157 fX8_isFound_142 fX9_isFound_204 fX9_isFound_208
          by_cases h10 : pl = 10
          · rw [if_pos (peq (b := 10) pl 10 rfl rfl h10), if_pos (ple (a := 10) 10 pl rfl rfl (by omega) (by omega)), nI_1]
            exact ih (k + 1) S Q pl cl2 (by omega) (by omega) hR hT hpl hmv
          · obtain ⟨d, S1, Q1, hd, e1, e2, hR1, hT1⟩ := draw (z := z) (b := 10) hR hT (by decide) (by decide)
            have t0 := hT1.2.1.1
            have t1 := hT1.2.1.2.1
            have h01 := hi.1
            rw [if_neg (neq (b := 10) pl 10 rfl rfl h10 (by omega) (by decide)), if_neg (nle (a := 10) 10 pl rfl rfl (by omega) (by decide)), show (10 : Int32) = nI 10 from rfl, e1, e2, bd_s, bd_s, s_drifted hT1.1 hi (by omega) hd, bd_s, nI_1, t0, t1, nI_add]
            obtain ⟨x, S', Q', g0, g1, g2, g3, g4⟩ := ih (k + 1) S1 Q1 (mvN pl (if T 0 ≤ d then (if T 0 + T 1 ≤ d then 0 else 2) else 1)) cl2 (by omega) (by omega) hR1 hT1 (by have := mvN_le (c := pl) (f := if T 0 ≤ d then (if T 0 + T 1 ≤ d then 0 else 2) else 1) (by omega); omega) hmv
            refine ⟨x, S', Q', g0, g1, ?_, g3, g4⟩
            rw [← g2]
            by_cases c0 : T 0 ≤ d
            · rw [if_pos (ple (T 0) d rfl rfl c0 (by omega)), if_pos c0]
              by_cases c1 : T 0 + T 1 ≤ d
              · rw [if_pos (ple (T 0 + T 1) d rfl rfl c1 (by omega)), if_pos c1, show (0 : Int32) = nI 0 from rfl, s9_to (by omega) (by decide), bd_s]
              · rw [if_neg (nle (T 0 + T 1) d rfl rfl (by omega) (by omega)), if_neg c1, show (2 : Int32) = nI 2 from rfl, s9_to (by omega) (by decide), bd_s]
            · rw [if_neg (nle (T 0) d rfl rfl (by omega) (by omega)), if_neg c0, show (1 : Int32) = nI 1 from rfl, s9_to (by omega) (by decide), bd_s]
        obtain ⟨d, S1, Q1, hd, e1, e2, hR1, hT1⟩ := draw (z := z) (b := 10) hR hT (by decide) (by decide)
        obtain ⟨x, S', Q', g0, g1, g2, g3, g4⟩ := tide S1 Q1 hR1 hT1
        -- a look at lk
        have look : ∀ lk : Nat, lk ≤ 10 → (f = 3 ↔ lk = 10) → ∃ x S' Q', (x = 0 ∨ x = 1) ∧ fX8_isFound_83 z (fX8_isFound_34 z (nI n) (nI r) m) S (nI n) (nI r) (nI pl) (nI cl2) (nI k) (nI lk) = some (x, S') ∧ fX9_isFound_114 z (fX9_isFound_49 z (nI n) (nI r) m) Q (nI n) (nI r) (nI pl) (nI cl2) (nI k) (nI f) (nI lk) (nI pl) = some (x, Q') ∧ Rel S' Q' ∧ RT S' Q' T P := by
          intro lk hlk hf3
          have hch := chN_le hi lk
          unfold fX8_isFound_83 fX9_isFound_114
          have e122 : ∀ t : Int32, fX9_isFound_122 z (fX9_isFound_49 z (nI n) (nI r) m) Q (nI n) (nI r) (nI pl) (nI cl2) (nI k) (nI f) t = fX9_isFound_147 z (fX9_isFound_49 z (nI n) (nI r) m) Q1 (nI n) (nI r) (nI pl) (nI cl2) (nI k) t (nI (chN T lk)) (nI d) := by
            intro t
            unfold fX9_isFound_122 chN
            rw [show (10 : Int32) = nI 10 from rfl, e2, bd_s]
            by_cases h3 : f = 3
            · rw [if_pos (peq (b := 3) f 3 rfl rfl h3), if_pos (hf3.mp h3), hT1.2.1.2.2.2.1]
            · rw [if_neg (neq (b := 3) f 3 rfl rfl h3 (by omega) (by decide)), if_neg (fun q => h3 (hf3.mpr q)), hT1.2.1.2.2.1]
          rw [e122, e122, show (10 : Int32) = nI 10 from rfl, e1, bd_s]
          unfold fX9_isFound_147
          by_cases hp : pl = lk
          · rw [if_pos (peq pl lk rfl rfl hp), if_pos (peq pl lk rfl rfl hp), s_chanceAt hT1.1 (by omega), bd_s]
            by_cases hc : chN T lk ≤ d
            · rw [if_pos (ple (chN T lk) d rfl rfl hc (by omega)), if_pos (ple (chN T lk) d rfl rfl hc (by omega))]
              exact ⟨x, S', Q', g0, g1, g2, g3, g4⟩
            · rw [if_neg (nle (chN T lk) d rfl rfl (by omega) (by omega)), if_neg (nle (chN T lk) d rfl rfl (by omega) (by omega)), if_neg one]
              exact ⟨1, S1, Q1, Or.inr rfl, rfl, rfl, hR1, hT1⟩
          · rw [if_neg (neq pl lk rfl rfl hp (by omega) (by omega)), if_neg (neq pl lk rfl rfl hp (by omega) (by omega)), if_pos rfl]
            refine ⟨x, S', Q', g0, g1, ?_, g3, g4⟩
            by_cases hc : nI (chN T lk) ≤ nI d
            · rw [if_pos hc]; exact g2
            · rw [if_neg hc]; exact g2
        unfold fX9_isFound_98
        by_cases h3 : f = 3
        · have hm3 : cl2 = cl := by rw [← hq, mvN_3 (by omega)]
          rw [if_pos (peq (b := 3) f 3 rfl rfl h3), if_pos (peq (b := 3) f 3 rfl rfl h3), if_pos (peq (b := 3) f 3 rfl rfl h3), ← hm3]
          exact look 10 (Nat.le_refl _) ⟨fun _ => rfl, fun _ => h3⟩
        · rw [if_neg (neq (b := 3) f 3 rfl rfl h3 (by omega) (by decide)), if_neg (neq (b := 3) f 3 rfl rfl h3 (by omega) (by decide)), s9_to hcl (by omega), hq, bd_s, if_neg (neq (b := 3) f 3 rfl rfl h3 (by omega) (by decide))]
          exact look cl2 (by omega) ⟨fun q => absurd q h3, fun q => by omega⟩
theorem op_trials {z : Nat} {σ μ : ST} (hz : 30000 ≤ z) (h : Rel σ μ) (v1 v2 v3 : Int32) : ∃ r σ' μ', fX8_trials z σ v1 v2 v3 = some (r, σ') ∧ fX9_trials z μ v1 v2 v3 = some (r, μ') ∧ Rel σ' μ' := by
  obtain ⟨T, P, hT⟩ : ∃ T P, RT σ μ T P := by
    obtain ⟨T, P, _, _, _, _, _, _, _, hT, _⟩ := h
    exact ⟨T, P, hT⟩
  have hi := hT.2.2
  have hs := parts_le hi
  have one : ¬ (1 : Int32) = 0 := by decide
  unfold fX8_trials fX9_trials fX8_trials_27 fX9_trials_20
  rcases isW (z := z) v1 (a' := 1) (b' := 30) 1 30 rfl rfl (by decide) (by decide) with e | ⟨N, hN1, hN2, rfl, e⟩
  · have e9 : fX9_in z v1.toInt64 1 30 = some 0 := by rw [show fX9_in z v1.toInt64 1 30 = fX8_isWithin z v1 1 30 from in_eq (a := 1) (b := 30)]; exact e
    rw [e, e9, bd_s, bd_s, if_pos rfl, if_pos rfl]
    exact ⟨_, _, _, rfl, rfl, h⟩
  · have e9 : fX9_in z (nI N).toInt64 1 30 = some 1 := by rw [show fX9_in z (nI N).toInt64 1 30 = fX8_isWithin z (nI N) 1 30 from in_eq (a := 1) (b := 30)]; exact e
    rw [e, e9, bd_s, bd_s, if_neg one, if_neg one]
    rcases isW (z := z) v2 (a' := 1) (b' := 4) 1 4 rfl rfl (by decide) (by decide) with e | ⟨n, hn1, hn4, rfl, e⟩
    · have e9 : fX9_in z v2.toInt64 1 4 = some 0 := by rw [show fX9_in z v2.toInt64 1 4 = fX8_isWithin z v2 1 4 from in_eq (a := 1) (b := 4)]; exact e
      rw [e, bd_s, if_pos rfl, s9_isRow_out e9 (by omega), bd_s, if_pos rfl]
      exact ⟨_, _, _, rfl, rfl, h⟩
    · rw [e, bd_s, if_neg one]
      rcases s_isRow (z := z) hn1 hn4 v3 (by omega) with ⟨e1, e2⟩ | ⟨r, rfl, hr, hdig, e1, e2⟩
      · rw [e1, e2, bd_s, bd_s, if_pos rfl, if_pos rfl]
        exact ⟨_, _, _, rfl, rfl, h⟩
      · have ht10 := ten_le (n := n) (by omega)
        rw [e1, e2, bd_s, bd_s, if_neg one, if_neg one, s_allParts hT.1 (by omega), bd_s]
        by_cases h0 : sumN P 11 = 0
        · rw [if_neg (nlt (a := 0) 0 (sumN P 11) rfl rfl (by omega) (by decide))]
          obtain ⟨z', rfl⟩ : ∃ z', z = z' + 1 := ⟨z - 1, by omega⟩
          refine ⟨0, σ, μ, rfl, ?_, h⟩
          unfold fX9_trials_29 fX9_trials_67
          rw [if_neg (nle (b := 0) N 0 rfl rfl (by omega) (by omega)), s9_allParts hT.2.1 (by omega), bd_s, if_pos (ple (b := 0) (sumN P 11) 0 rfl rfl (by omega) (by decide))]
        · rw [if_pos (plt (a := 0) 0 (sumN P 11) rfl rfl (by omega) (by omega))]
          have loop : ∀ m k (S Q : ST) (y : Int32), k ≤ N → N < k + m → Rel S Q → RT S Q T P → ∃ x S' Q', fX8_trials_48 z (nI N) (nI n) (nI r) m S y (nI k) = some (x, S') ∧ fX9_trials_29 z (nI N) (nI n) (nI r) m Q y (nI k) = some (x, Q') ∧ Rel S' Q' := by
            intro m
            induction m with
            | zero => intro k S Q y h1 h2; omega
            | succ m ih =>
              intro k S Q y h1 h2 hR hT
              unfold fX8_trials_48 fX9_trials_29 fX9_trials_67 fX8_trials_66 fX9_trials_58
              by_cases hk : k = N
              · subst hk
                rw [if_pos (ple k k rfl rfl (Nat.le_refl _) (by omega)), if_pos (ple k k rfl rfl (Nat.le_refl _) (by omega))]
                exact ⟨y, S, Q, rfl, rfl, hR⟩
              · obtain ⟨d, S1, Q1, hd, e1, e2, hR1, hT1⟩ := draw (z := z) (b := sumN P 11) hR hT (by omega) (by omega)
                obtain ⟨p, p1, p2, p3⟩ := place_of (z := z) (n := n) (r := r) hT1 z 0 d z (by omega) (by omega) (by omega) (by rw [sumN]; omega)
                have h4 : T 4 ≤ 9 := hi.2.2.2.2.2.1
                obtain ⟨x, S2, Q2, x0, f1, f2, hR2, hT2⟩ := op_found (z := z) (n := n) (r := r) hn1 (by omega) (by omega) hz z 0 S1 Q1 p (T 4) (by omega) (by omega) hR1 hT1 p1 h4
                have c1 : fX8_isFound z S (nI n) (nI r) = some (x, S2) := by
                  unfold fX8_isFound fX7_placeOfPart
                  rw [s_allParts hT.1 (by omega), bd_s, e1, bd_s, show (0 : Int32) = nI 0 from rfl, p2, bd_s, hT1.1.2.2.2.2.1]
                  exact f1
                have c2 : fX9_isFound z Q (nI n) (nI r) = some (x, Q2) := by
                  unfold fX9_isFound
                  rw [s9_allParts hT.2.1 (by omega), bd_s, e2, bd_s, show (0 : Int32) = nI 0 from rfl, p3, hT1.2.1.2.2.2.2.1]
                  exact f2
                rw [if_neg (nle N k rfl rfl (by omega) (by omega)), if_neg (nle N k rfl rfl (by omega) (by omega)), s9_allParts hT.2.1 (by omega), bd_s, if_neg (nle (b := 0) (sumN P 11) 0 rfl rfl (by omega) (by omega)), c1, c2, bd_s, bd_s, nI_1]
                rcases x0 with rfl | rfl
                · rw [if_pos rfl, if_pos rfl, Int32.add_zero]
                  exact ih (k + 1) S2 Q2 y (by omega) (by omega) hR2 hT2
                · rw [if_neg one, if_neg one]
                  exact ih (k + 1) S2 Q2 (y + 1) (by omega) (by omega) hR2 hT2
          exact loop z 0 σ μ 0 (by omega) (by omega) h hT

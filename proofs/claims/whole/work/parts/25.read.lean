/-! ===== what is asked: ranges, fractions ===== -/
theorem s9_in {z : Nat} {x a b : Int64} : fX9_in z x a b = some (if x < a then 0 else if b < x then 0 else 1) := by
  unfold fX9_in fX9_in_17 fX9_in_18
  by_cases h1 : x < a
  · rw [if_pos h1, if_pos h1]; rfl
  · rw [if_neg h1, if_neg h1]
    by_cases h2 : b < x
    · rw [if_pos h2, if_pos h2]; rfl
    · rw [if_neg h2, if_neg h2]; rfl
theorem lt64 {x y : Int32} : x.toInt64 < y.toInt64 ↔ x < y := by
  rw [Int64.lt_iff_toInt_lt, Int32.lt_iff_toInt_lt, Int32.toInt_toInt64, Int32.toInt_toInt64]
theorem in_eq {z : Nat} {x a b : Int32} : fX9_in z x.toInt64 a.toInt64 b.toInt64 = fX8_isWithin z x a b := by
  rw [s9_in, s_isWithin]
  simp only [lt64]
theorem isW {z : Nat} (x : Int32) {a' b' : Int32} (a b : Nat) (ha : a' = nI a) (hb : b' = nI b) (ha2 : a < 2 ^ 31) (hb2 : b < 2 ^ 31) : fX8_isWithin z x a' b' = some 0 ∨ ∃ j, a ≤ j ∧ j ≤ b ∧ x = nI j ∧ fX8_isWithin z x a' b' = some 1 := by
  subst ha; subst hb
  rw [s_isWithin]
  by_cases h1 : x < nI a
  · left; rw [if_pos h1]
  · by_cases h2 : nI b < x
    · left; rw [if_neg h1, if_pos h2]
    · right
      have h0 : ¬ x < 0 := fun q => h1 (Int32.lt_of_lt_of_le q (nI_pos' ha2))
      obtain ⟨j, hj, rfl⟩ := nI_of h0
      refine ⟨j, ?_, ?_, rfl, by rw [if_neg h1, if_neg h2]⟩
      · rcases Nat.lt_or_ge j a with q | q
        · exact absurd (nI_lt q ha2) h1
        · exact q
      · rcases Nat.lt_or_ge b j with q | q
        · exact absurd (nI_lt q hj) h2
        · exact q
theorem half {b r : Nat} (h0 : 0 < r) (h : r < b) : 2 * (b % r) < b := by
  have h1 := Nat.mod_lt b h0
  have h2 := Nat.mod_add_div b r
  have h3 : 1 ≤ b / r := (Nat.one_le_div_iff h0).mpr (by omega)
  have h4 : r * 1 ≤ r * (b / r) := Nat.mul_le_mul_left r h3
  omega
theorem s_commonOf {z : Nat} : ∀ (m a b n k : Nat), a < 2 ^ 63 → b < 2 ^ 63 → b < 2 ^ m → 2 * m + 1 < n → k + 2 * m + 1 < 200 → fX3_commonOf_9 z n (lN a) (lN b) (nI k) = some (lN (Nat.gcd b a)) := by
  have stop : ∀ a n k, k < 200 → fX3_commonOf_9 z (n + 1) (lN a) (lN 0) (nI k) = some (lN (Nat.gcd 0 a)) := by
    intro a n k hk
    unfold fX3_commonOf_9 fX3_commonOf_45
    rw [if_neg (nle (a := 200) 200 k rfl rfl hk (by decide)), if_pos (show lN 0 = 0 from rfl), Nat.gcd_zero_left]
  have step : ∀ a b n k, 0 < b → a < 2 ^ 63 → b < 2 ^ 63 → k < 200 → fX3_commonOf_9 z (n + 1) (lN a) (lN b) (nI k) = fX3_commonOf_9 z n (lN b) (lN (a % b)) (nI (k + 1)) := by
    intro a b n k hb0 ha hb hk
    have hne : ¬ lN b = (0 : Int64) := neqL (b := 0) b 0 rfl rfl (by omega) hb (by decide)
    conv => lhs; unfold fX3_commonOf_9
    rw [if_neg (nle (a := 200) 200 k rfl rfl hk (by decide)), if_neg hne, show nzL (lN b) = true from by simp [nzL, hne], gd_t, pk_lRem ha hb0 hb, nI_1]
  intro m
  induction m with
  | zero =>
    intro a b n k ha hb hm hn hk
    have : b = 0 := by omega
    subst this
    obtain ⟨n', rfl⟩ : ∃ n', n = n' + 1 := ⟨n - 1, by omega⟩
    exact stop a n' k (by omega)
  | succ m ih =>
    intro a b n k ha hb hm hn hk
    obtain ⟨n', rfl⟩ : ∃ n', n = n' + 1 := ⟨n - 1, by omega⟩
    by_cases h0 : b = 0
    · subst h0
      exact stop a n' k (by omega)
    · rw [step a b n' k (by omega) ha hb (by omega), Nat.gcd_rec b a]
      have hr := Nat.mod_lt a (show 0 < b by omega)
      generalize a % b = r at *
      obtain ⟨n2, rfl⟩ : ∃ n2, n' = n2 + 1 := ⟨n' - 1, by omega⟩
      by_cases hr0 : r = 0
      · subst hr0
        exact stop b n2 (k + 1) (by omega)
      · rw [step b r n2 (k + 1) (by omega) hb (by omega) (by omega), Nat.gcd_rec r b]
        have hh := half (by omega) hr
        have hp : 2 ^ (m + 1) = 2 * 2 ^ m := by rw [Nat.pow_succ, Nat.mul_comm]
        exact ih r (b % r) n2 (k + 1 + 1) (by omega) (by omega) (by omega) (by omega) (by omega)
theorem s9_common {z : Nat} : ∀ (m a b n : Nat), a < 2 ^ 63 → b < 2 ^ 63 → b < 2 ^ m → 2 * m + 1 < n → fX9_common_17 z n (lN a) (lN b) = some (lN (Nat.gcd b a)) := by
  have stop : ∀ a n, fX9_common_17 z (n + 1) (lN a) (lN 0) = some (lN (Nat.gcd 0 a)) := by
    intro a n
    unfold fX9_common_17
    rw [if_pos (show lN 0 = 0 from rfl), Nat.gcd_zero_left]
  have step : ∀ a b n, 0 < b → a < 2 ^ 63 → b < 2 ^ 63 → fX9_common_17 z (n + 1) (lN a) (lN b) = fX9_common_17 z n (lN b) (lN (a % b)) := by
    intro a b n hb0 ha hb
    have hne : ¬ lN b = (0 : Int64) := neqL (b := 0) b 0 rfl rfl (by omega) hb (by decide)
    conv => lhs; unfold fX9_common_17
    rw [if_neg hne, show nzL (lN b) = true from by simp [nzL, hne], gd_t, pk_lRem ha hb0 hb]
  intro m
  induction m with
  | zero =>
    intro a b n ha hb hm hn
    have : b = 0 := by omega
    subst this
    obtain ⟨n', rfl⟩ : ∃ n', n = n' + 1 := ⟨n - 1, by omega⟩
    exact stop a n'
  | succ m ih =>
    intro a b n ha hb hm hn
    obtain ⟨n', rfl⟩ : ∃ n', n = n' + 1 := ⟨n - 1, by omega⟩
    by_cases h0 : b = 0
    · subst h0
      exact stop a n'
    · rw [step a b n' (by omega) ha hb, Nat.gcd_rec b a]
      have hr := Nat.mod_lt a (show 0 < b by omega)
      generalize a % b = r at *
      obtain ⟨n2, rfl⟩ : ∃ n2, n' = n2 + 1 := ⟨n' - 1, by omega⟩
      by_cases hr0 : r = 0
      · subst hr0
        exact stop b n2
      · rw [step b r n2 (by omega) hb (by omega), Nat.gcd_rec r b]
        have hh := half (by omega) hr
        have hp : 2 ^ (m + 1) = 2 * 2 ^ m := by rw [Nat.pow_succ, Nat.mul_comm]
        exact ih r (b % r) n2 (by omega) (by omega) (by omega) (by omega)
/-- both make the same fraction -/
theorem part_ex {z a b : Nat} {x : Int64} {v : Int32} (hx : x = lN a ∨ x = - lN a) (ha : a < 2 ^ 63) (hb0 : 0 < b) (hb : b < 2 ^ 63) (hz : 30000 ≤ z) : ∃ r, fX3_part z x (lN b) v = some r ∧ fX9_part z x (lN b) v = some r := by
  have g0 : 0 < Nat.gcd b a := Nat.gcd_pos_of_pos_left _ hb0
  have gb : Nat.gcd b a ≤ b := Nat.gcd_le_left _ hb0
  have e1 := s_commonOf (z := z) 63 a b z 0 ha hb hb (by omega) (by omega)
  have e2 := s9_common (z := z) 63 a b z ha hb hb (by omega)
  have hne : nzL (lN (Nat.gcd b a)) = true := by
    have : ¬ lN (Nat.gcd b a) = (0 : Int64) := neqL (b := 0) (Nat.gcd b a) 0 rfl rfl (by omega) (by omega) (by decide)
    simp [nzL, this]
  have hpos : (0 : Int64) < lN (Nat.gcd b a) := pltL (a := 0) 0 (Nat.gcd b a) rfl rfl g0 (by omega)
  have c1 : fX3_commonOf z (if 0 < x then x else -x) (lN b) = some (lN (Nat.gcd b a)) := by
    have : (if 0 < x then x else -x) = lN a := by
      rcases hx with h | h
      · by_cases h0 : a = 0
        · subst h0; subst h; rfl
        · rw [if_pos (by rw [h]; exact pltL (a := 0) 0 a rfl rfl (by omega) ha), h]
      · by_cases h0 : a = 0
        · subst h0; subst h; rfl
        · rw [if_neg ?_, h, Int64.neg_neg]
          intro q
          rw [h, Int64.lt_iff_toInt_lt, Int64.toInt_neg, pk_lT ha] at q
          have : ((-(a : Int)).bmod (2 ^ 64)) = -(a : Int) := by
            apply Int.bmod_eq_of_le <;> omega
          rw [this] at q
          have h00 : (0 : Int64).toInt = 0 := rfl
          rw [h00] at q
          omega
    rw [this]
    exact e1
  have c2 : fX9_common z x (lN b) = some (lN (Nat.gcd b a)) := by
    unfold fX9_common fX9_common_12
    rcases hx with h | h
    · rw [if_pos (by rw [h]; exact pleL (a := 0) 0 a rfl rfl (by omega) ha), h]
      exact e2
    · by_cases h0 : a = 0
      · subst h0; subst h
        rw [if_pos (by decide)]
        exact e2
      · rw [if_neg ?_, h, Int64.neg_neg]
        · exact e2
        · intro q
          rw [h, Int64.le_iff_toInt_le, Int64.toInt_neg, pk_lT ha] at q
          have : ((-(a : Int)).bmod (2 ^ 64)) = -(a : Int) := by
            apply Int.bmod_eq_of_le <;> omega
          rw [this] at q
          have h00 : (0 : Int64).toInt = 0 := rfl
          rw [h00] at q
          omega
  unfold fX3_part fX9_part fX3_part_44 fX3_part_27 fX9_part_23
  rw [c1, c2, bd_s, bd_s, if_pos hpos, hne]
  by_cases hv : v = 0
  · rw [if_pos hv]
    exact ⟨_, rfl, rfl⟩
  · rw [if_neg hv]
    exact ⟨_, rfl, rfl⟩

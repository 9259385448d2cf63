/-! ===== rows of looks ===== -/
theorem s_power {z b n : Nat} (hn : n ≤ 8) (hz : 10 ≤ z) : fX8_power z (lN b) (nI n) = some (lN (b ^ n)) := by
  have loop : ∀ m i, i ≤ n → n < i + m → fX8_power_5 z (lN b) (nI n) m (lN (b ^ i)) (nI i) = some (lN (b ^ n)) := by
    intro m
    induction m with
    | zero => intro i h1 h2; omega
    | succ m ih =>
      intro i h1 h2
      unfold fX8_power_5 fX8_power_28
      by_cases hi : i = n
      · subst hi
        rw [if_pos (ple i i rfl rfl (Nat.le_refl _) (by omega))]
      · rw [if_neg (nle n i rfl rfl (by omega) (by omega)), if_neg (nle (a := 8) 8 i rfl rfl (by omega) (by decide)), lN_mul, nI_1, ← Nat.pow_succ]
        exact ih (i + 1) (by omega) (by omega)
  exact loop z 0 (by omega) (by omega)
theorem ten_pos (n : Nat) : 0 < 10 ^ n := Nat.pow_pos (by decide)
theorem ten_le {n : Nat} (h : n ≤ 8) : 10 ^ n ≤ 100000000 := Nat.le_trans (Nat.pow_le_pow_right (by decide) h) (by decide)
/-- the figure at the place k of a row of n -/
def dgN (n r k : Nat) : Nat := r / 10 ^ (n - 1 - k) % 10
theorem dgN_lt (n r k : Nat) : dgN n r k < 10 := Nat.mod_lt _ (by decide)
theorem s_figureOf {z n r k : Nat} (hn : n ≤ 8) (hk : k < n) (hr : r < 2 ^ 31) (hz : 10 ≤ z) : fX8_figureOf z (nI n) (nI r) (nI k) = some (nI (dgN n r k)) := by
  have hp := ten_pos (n - 1 - k)
  have hp2 := ten_le (n := n - 1 - k) (by omega)
  have hd : r / 10 ^ (n - 1 - k) ≤ r := Nat.div_le_self _ _
  unfold fX8_figureOf fX8_figureOf_31
  rw [show (1 : Int32) = nI 1 from rfl, pk_sub (by omega), pk_sub (by omega), show (10 : Int64) = lN 10 from rfl, s_power (by omega) hz, bd_s, if_pos (pltL (a := 0) 0 (10 ^ (n - 1 - k)) rfl rfl hp (by omega))]
  have h1 : nzL (lN (10 ^ (n - 1 - k))) = true := by
    have : ¬ lN (10 ^ (n - 1 - k)) = (0 : Int64) := neqL (b := 0) (10 ^ (n - 1 - k)) 0 rfl rfl (by omega) (by omega) (by decide)
    simp [nzL, this]
  rw [h1, gd_t, show nzL (lN 10) = true from rfl, gd_t, nI_l hr, pk_lDiv (by omega) hp (by omega), pk_lRem (by omega) (by decide) (by decide), lN_i]
  rfl
theorem s9_tenTo {z n : Nat} (hn : n ≤ 9) (hz : 11 ≤ z) : fX9_tenTo z (nI n) = some (nI (10 ^ n)) := by
  have loop : ∀ m i, i ≤ n → n < i + m → fX9_tenTo_4 z (nI n) m (nI (10 ^ i)) (nI i) = some (nI (10 ^ n)) := by
    intro m
    induction m with
    | zero => intro i h1 h2; omega
    | succ m ih =>
      intro i h1 h2
      unfold fX9_tenTo_4
      by_cases hi : i = n
      · subst hi
        rw [if_pos (ple i i rfl rfl (Nat.le_refl _) (by omega))]
      · rw [if_neg (nle n i rfl rfl (by omega) (by omega)), show (10 : Int32) = nI 10 from rfl, pk_mul, nI_1, ← Nat.pow_succ]
        exact ih (i + 1) (by omega) (by omega)
  exact loop z 0 (by omega) (by omega)
theorem nz_ten {m : Nat} (h : m ≤ 8) : nz (nI (10 ^ m)) = true := by
  have hp := ten_pos m
  have hp2 := ten_le h
  have : ¬ nI (10 ^ m) = (0 : Int32) := neq (b := 0) (10 ^ m) 0 rfl rfl (by omega) (by omega) (by decide)
  simp [nz, this]
/-- the reference's figure -/
theorem fig9 {r m : Nat} (hm : m ≤ 8) (hr : r < 2 ^ 31) : ((nI r / nI (10 ^ m)) - (nI r / nI (10 ^ m)) / (10 : Int32) * (10 : Int32)) = nI (r / 10 ^ m % 10) := by
  have hp := ten_pos m
  have hp2 := ten_le hm
  have hd : r / 10 ^ m ≤ r := Nat.div_le_self _ _
  rw [pk_div hr hp (by omega), show (10 : Int32) = nI 10 from rfl, pk_rem (by omega) (by decide) (by decide)]
theorem s_isRow {z n : Nat} (hn1 : 1 ≤ n) (hn : n ≤ 4) (x : Int32) (hz : 11 ≤ z) : (fX8_isRow z (nI n) x = some 0 ∧ fX9_isRow z (nI n) x = some 0) ∨ ∃ r, x = nI r ∧ r < 10 ^ n ∧ (∀ k, k < n → dgN n r k ≤ 3) ∧ fX8_isRow z (nI n) x = some 1 ∧ fX9_isRow z (nI n) x = some 1 := by
  have hp := ten_pos n
  have hp2 := ten_le (n := n) (by omega)
  have in1 : fX9_in z (nI n).toInt64 1 4 = some 1 := by
    rw [show fX9_in z (nI n).toInt64 1 4 = fX8_isWithin z (nI n) 1 4 from in_eq (a := 1) (b := 4), show (1 : Int32) = nI 1 from rfl, show (4 : Int32) = nI 4 from rfl, s_isWithinN (by omega) (by decide) (by decide), if_pos ⟨hn1, hn⟩]
    rfl
  have in2 : fX9_in z x.toInt64 0 (nI (10 ^ n - 1)).toInt64 = fX8_isWithin z x 0 (nI (10 ^ n - 1)) := in_eq (a := 0)
  have one : ¬ (1 : Int32) = 0 := by decide
  have m9 : fX9_isRow z (nI n) x = bd (fX8_isWithin z x 0 (nI (10 ^ n - 1))) (fun u24 => (if u24 = 0 then fX9_isRow_32 z (nI n) x else fX9_isRow_33 z (nI n) x (1 : Int32))) := by
    unfold fX9_isRow
    rw [in1, bd_s, if_neg one, s9_tenTo (by omega) hz, bd_s, show (1 : Int32) = nI 1 from rfl, pk_sub (by omega), in2]
  have neg0 : ∀ y : Int32, fX9_isRow_32 z (nI n) y = some 0 := by
    intro y
    obtain ⟨z', rfl⟩ : ∃ z', z = z' + 1 := ⟨z - 1, by omega⟩
    unfold fX9_isRow_32 fX9_isRow_33 fX9_isRow_36 fX9_isRow_70
    by_cases h : nI n ≤ 0
    · rw [if_pos h]; rfl
    · rw [if_neg h]; rfl
  rcases isW (z := z) x (a' := 0) (b' := nI (10 ^ n - 1)) 0 (10 ^ n - 1) rfl rfl (by decide) (by omega) with e | ⟨r, -, hr, rfl, e⟩
  · left
    refine ⟨?_, by rw [m9, e, bd_s, if_pos rfl, neg0]⟩
    unfold fX8_isRow fX8_isRow_17
    by_cases h0 : x < 0
    · rw [if_pos h0]; rfl
    · obtain ⟨r, hr, rfl⟩ := nI_of h0
      rw [if_neg h0, show (10 : Int64) = lN 10 from rfl, s_power (by omega) (by omega), bd_s, nI_l hr]
      by_cases hlt : r < 10 ^ n
      · rw [show (0 : Int32) = nI 0 from rfl, s_isWithinN hr (by decide) (by omega), if_pos ⟨Nat.zero_le _, by omega⟩] at e
        cases e
      · rw [if_neg (nltL r (10 ^ n) rfl rfl (by omega) (by omega))]; rfl
  · have c8 : ∀ m i, i ≤ n → n < i + m → fX8_isRow_21 z (nI n) (nI r) m (nI i) = some (if ∀ k, k < n → i ≤ k → dgN n r k ≤ 3 then 1 else 0) := by
      intro m
      induction m with
      | zero => intro i h1 h2; omega
      | succ m ih =>
        intro i h1 h2
        unfold fX8_isRow_21
        by_cases hi : i = n
        · subst hi
          rw [if_pos (ple i i rfl rfl (Nat.le_refl _) (by omega)), if_pos (fun k h1 h2 => by omega)]; rfl
        · have hd := dgN_lt n r i
          rw [if_neg (nle n i rfl rfl (by omega) (by omega)), s_figureOf (by omega) (by omega) (by omega) (by omega), bd_s, nI_1]
          by_cases h3 : dgN n r i ≤ 3
          · rw [if_pos (ple (b := 3) (dgN n r i) 3 rfl rfl h3 (by decide)), ih (i + 1) (by omega) (by omega)]
            congr 1
            by_cases hq : ∀ k, k < n → i + 1 ≤ k → dgN n r k ≤ 3
            · rw [if_pos hq, if_pos]
              intro k k1 k2
              by_cases hk : k = i
              · rw [hk]; exact h3
              · exact hq k k1 (by omega)
            · rw [if_neg hq, if_neg]
              exact fun g => hq (fun k k1 k2 => g k k1 (by omega))
          · rw [if_neg (nle (b := 3) (dgN n r i) 3 rfl rfl (by omega) (by omega)), if_neg (fun g => h3 (g i (by omega) (Nat.le_refl _)))]; rfl
    have c9 : ∀ m i, i ≤ n → n < i + m → fX9_isRow_36 z (nI n) (nI r) m 1 (nI i) = some (if ∀ k, k < n → i ≤ k → r / 10 ^ k % 10 ≤ 3 then 1 else 0) := by
      intro m
      induction m with
      | zero => intro i h1 h2; omega
      | succ m ih =>
        intro i h1 h2
        unfold fX9_isRow_36 fX9_isRow_70 fX9_isRow_63
        by_cases hi : i = n
        · subst hi
          rw [if_pos (ple i i rfl rfl (Nat.le_refl _) (by omega)), if_pos (fun k h1 h2 => by omega)]; rfl
        · have hd : r / 10 ^ i % 10 < 10 := Nat.mod_lt _ (by decide)
          rw [if_neg (nle n i rfl rfl (by omega) (by omega)), if_neg one, s9_tenTo (by omega) (by omega), bd_s, nz_ten (by omega), gd_t, show nz (10 : Int32) = true from rfl, gd_t, fig9 (by omega) (by omega), nI_1]
          by_cases h3 : r / 10 ^ i % 10 ≤ 3
          · rw [if_neg (nle (a := 4) 4 (r / 10 ^ i % 10) rfl rfl (by omega) (by decide)), ih (i + 1) (by omega) (by omega)]
            congr 1
            by_cases hq : ∀ k, k < n → i + 1 ≤ k → r / 10 ^ k % 10 ≤ 3
            · rw [if_pos hq, if_pos]
              intro k k1 k2
              by_cases hk : k = i
              · rw [hk]; exact h3
              · exact hq k k1 (by omega)
            · rw [if_neg hq, if_neg]
              exact fun g => hq (fun k k1 k2 => g k k1 (by omega))
          · rw [if_pos (ple (a := 4) 4 (r / 10 ^ i % 10) rfl rfl (by omega) (by omega)), if_neg (fun g => h3 (g i (by omega) (Nat.le_refl _)))]
            obtain ⟨m', rfl⟩ : ∃ m', m = m' + 1 := ⟨m - 1, by omega⟩
            unfold fX9_isRow_36 fX9_isRow_70
            by_cases h : nI n ≤ nI (i + 1)
            · rw [if_pos h]; rfl
            · rw [if_neg h]; rfl
    have e8 : fX8_isRow z (nI n) (nI r) = some (if ∀ k, k < n → dgN n r k ≤ 3 then 1 else 0) := by
      unfold fX8_isRow
      rw [if_neg (nI_pos (by omega)), show (10 : Int64) = lN 10 from rfl, s_power (by omega) (by omega), bd_s, nI_l (by omega), if_pos (pltL r (10 ^ n) rfl rfl (by omega) (by omega))]
      refine (c8 z 0 (by omega) (by omega)).trans ?_
      simp only [Nat.zero_le, forall_const]
    have e9 : fX9_isRow z (nI n) (nI r) = some (if ∀ k, k < n → dgN n r k ≤ 3 then 1 else 0) := by
      rw [m9, e, bd_s, if_neg one]
      unfold fX9_isRow_33
      refine (c9 z 0 (by omega) (by omega)).trans ?_
      simp only [Nat.zero_le, forall_const]
      congr 1
      by_cases hq : ∀ k, k < n → dgN n r k ≤ 3
      · rw [if_pos hq, if_pos]
        intro k hk
        have := hq (n - 1 - k) (by omega)
        unfold dgN at this
        rw [show n - 1 - (n - 1 - k) = k from by omega] at this
        exact this
      · rw [if_neg hq, if_neg]
        intro g
        exact hq (fun k hk => g (n - 1 - k) (by omega))
    by_cases hq : ∀ k, k < n → dgN n r k ≤ 3
    · right
      rw [if_pos hq] at e8 e9
      exact ⟨r, rfl, by omega, hq, e8, e9⟩
    · left
      rw [if_neg hq] at e8 e9
      exact ⟨e8, e9⟩
/-- a row of another length is none -/
theorem s9_isRow_out {z : Nat} {x y : Int32} (h : fX9_in z x.toInt64 1 4 = some 0) (hz : 1 ≤ z) : fX9_isRow z x y = some 0 := by
  obtain ⟨z', rfl⟩ : ∃ z', z = z' + 1 := ⟨z - 1, by omega⟩
  unfold fX9_isRow
  rw [h, bd_s, if_pos rfl]
  unfold fX9_isRow_32 fX9_isRow_33 fX9_isRow_36 fX9_isRow_70
  by_cases h : x ≤ 0
  · rw [if_pos h]; rfl
  · rw [if_neg h]; rfl
/-! what a row finds -/
def scK (T : Nat → Nat) (fg : Nat → Nat) (c : Sc) : Nat → Sc
  | 0 => c
  | k + 1 => acN T (scK T fg c k) (fg k)
def vlK (T : Nat → Nat) (fg : Nat → Nat) (c : Sc) : Nat → Nat
  | 0 => 0
  | k + 1 => vlK T fg c k * 100 + fnN T (scK T fg c k) (fg k) * 10
theorem scK_ok {T P : Nat → Nat} {fg : Nat → Nat} {c : Sc} (hc : CI T c) (hi : TI T P) : ∀ k, c.2 1 + k ≤ T 5 → CI T (scK T fg c k) ∧ (scK T fg c k).2 1 = c.2 1 + k ∧ sumN (scK T fg c k).1 11 ≤ sumN c.1 11 * 100 ^ k
  | 0, _ => ⟨hc, rfl, by rw [Nat.pow_zero, Nat.mul_one]; exact Nat.le_refl _⟩
  | k + 1, h => by
    obtain ⟨h1, h2, h3⟩ := scK_ok hc hi k (by omega)
    refine ⟨h1.act hi (by omega), ?_, ?_⟩
    · show (scK T fg c k).2 1 + 1 = _
      omega
    · have e1 := sum_lk (T := T) (c := scK T fg c k) (f := fg k)
      have e2 := sum_ps (T := T) (w := (lkN T (scK T fg c k) (fg k)).1) (d := decide (T 5 ≤ (lkN T (scK T fg c k) (fg k)).2 1 + 1)) hi
      have e4 : sumN c.1 11 * 100 ^ (k + 1) = sumN c.1 11 * 100 ^ k * 100 := by rw [Nat.pow_succ, Nat.mul_assoc]
      show sumN (psN T (decide (T 5 ≤ (lkN T (scK T fg c k) (fg k)).2 1 + 1)) (lkN T (scK T fg c k) (fg k)).1) 11 ≤ _
      rw [e4]
      omega
theorem fnN_le {T P : Nat → Nat} {c : Sc} {f : Nat} (hc : CI T c) (hi : TI T P) : fnN T c f ≤ sumN c.1 11 * 9 := by
  have h1 := plN_le (f := f) hc.1
  have h2 := sumN_mem (w := c.1) (n := 11) (j := plN c f) (by omega)
  exact Nat.mul_le_mul h2 (chN_le hi _)
theorem vlK_le {T P : Nat → Nat} {fg : Nat → Nat} {c : Sc} (hc : CI T c) (hi : TI T P) : ∀ k, c.2 1 + k ≤ T 5 → vlK T fg c k ≤ k * (sumN c.1 11 * 100 ^ k)
  | 0, _ => Nat.zero_le _
  | k + 1, h => by
    have ih := vlK_le (fg := fg) hc hi k (by omega)
    obtain ⟨h1, h2, h3⟩ := scK_ok (fg := fg) hc hi k (by omega)
    have h4 := fnN_le (f := fg k) h1 hi
    have e4 : sumN c.1 11 * 100 ^ (k + 1) = sumN c.1 11 * 100 ^ k * 100 := by rw [Nat.pow_succ, Nat.mul_assoc]
    show vlK T fg c k * 100 + fnN T (scK T fg c k) (fg k) * 10 ≤ _
    rw [e4]
    generalize sumN c.1 11 * 100 ^ k = S at *
    have e5 : (k + 1) * (S * 100) = k * S * 100 + S * 100 := by rw [Nat.add_mul, Nat.one_mul, Nat.mul_assoc]
    rw [e5]
    omega
/-- all weights, each by 100 for every look, stay in bounds -/
theorem all_le {T P : Nat → Nat} {c : Sc} (hc : CI T c) (hi : TI T P) {n : Nat} (h : c.2 1 + n ≤ T 5) : sumN c.1 11 * 100 ^ n ≤ 9900000000000000 := by
  have h1 := hc.le hi
  have h2 : sumN c.1 11 * 100 ^ n ≤ 9900 * 100 ^ c.2 1 * 100 ^ n := Nat.mul_le_mul_right _ h1
  have h3 : 9900 * 100 ^ c.2 1 * 100 ^ n = 9900 * 100 ^ (c.2 1 + n) := by rw [Nat.mul_assoc, ← Nat.pow_add]
  have h4 : (100 : Nat) ^ (c.2 1 + n) ≤ 100 ^ 6 := Nat.pow_le_pow_right (by decide) (by have := hi.2.2.2.2.2.2.1; omega)
  omega

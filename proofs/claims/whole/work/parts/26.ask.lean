/-! ===== where he is; what was said ===== -/
theorem RN.w {σ μ : ST} {T : Nat → Nat} {c : Sc} (h : RN σ μ T c) {j : Nat} (hj : j < 11) : μ.2 4 j = lN (c.1 j) := by
  have := h.2.1.1 j hj
  rwa [Nat.zero_add] at this
theorem RN.lm {σ μ : ST} {T : Nat → Nat} {c : Sc} (h : RN σ μ T c) : LM μ 0 c.1 := fun j hj => by
  rw [Nat.mul_zero, Nat.zero_add]
  exact h.w hj
theorem op_weight {z : Nat} {σ μ : ST} (hz : 30000 ≤ z) (h : Rel σ μ) (x : Int32) : ∃ r, fX8_weight z σ x = some r ∧ fX9_weight z μ x = some r := by
  obtain ⟨T, P, sec, L, t, c, n, A, B, hT, hs, ht, hn, ha, hb, hd⟩ := h
  unfold fX8_weight fX9_weight fX8_weight_24 fX9_weight_24
  rw [show (0 : Int64) = (0 : Int32).toInt64 from rfl, show (10 : Int64) = (10 : Int32).toInt64 from rfl, in_eq]
  rcases isW (z := z) x (a' := 0) (b' := 10) 0 10 rfl rfl (by decide) (by decide) with e | ⟨j, -, hj, rfl, e⟩
  · rw [e, bd_s, bd_s, if_pos rfl, if_pos rfl]
    exact ⟨_, rfl, rfl⟩
  · rw [e, bd_s, bd_s, if_neg (by decide), if_neg (by decide), s_of rfl (by omega), bd_s, gd_inb (by omega) (by decide), nI_clamp (by omega), hn.1.1 j (by omega), hn.w (by omega)]
    exact ⟨_, rfl, rfl⟩
theorem op_likely {z : Nat} {σ μ : ST} (hz : 30000 ≤ z) (h : Rel σ μ) (x v : Int32) : ∃ r, fX8_likely z σ x v = some r ∧ fX9_likely z μ x v = some r := by
  obtain ⟨T, P, sec, L, t, c, n, A, B, hT, hs, ht, hn, ha, hb, hd⟩ := h
  have hle := hn.2.2.le2 hT.2.2
  unfold fX8_likely fX9_likely fX8_likely_47 fX9_likely_64
  rw [show (10 : Int64) = (10 : Int32).toInt64 from rfl, show fX9_in z x.toInt64 0 (10 : Int32).toInt64 = fX8_isWithin z x 0 10 from in_eq (a := 0) (b := 10)]
  rcases isW (z := z) x (a' := 0) (b' := 10) 0 10 rfl rfl (by decide) (by decide) with e | ⟨j, -, hj, rfl, e⟩
  · rw [e, bd_s, bd_s, if_pos rfl, if_pos rfl]
    exact ⟨_, rfl, rfl⟩
  · have hw := hn.2.2.w hT.2.2 (show j < 11 by omega)
    rw [e, bd_s, bd_s, if_neg (by decide), if_neg (by decide), s_together rfl (by omega) hn.1.1, bd_s, show (0 : Int32) = nI 0 from rfl, s9_sumOf hn.lm (by decide) (by omega), bd_s]
    simp only [gd_inb (show j < 33 by omega) (by decide), nI_clamp (show j < 2 ^ 31 by omega), hn.w (show j < 11 by omega)]
    by_cases h0 : sumN c.1 11 = 0
    · rw [h0, if_neg (show ¬ (0 : Int64) < lN 0 by decide), if_pos (show lN 0 = 0 from rfl)]
      exact ⟨_, rfl, rfl⟩
    · rw [if_pos (pltL (a := 0) 0 (sumN c.1 11) rfl rfl (by omega) (by omega)), if_neg (neqL (b := 0) (sumN c.1 11) 0 rfl rfl h0 (by omega) (by decide)), s_of rfl (by omega), bd_s, hn.1.1 j (by omega)]
      obtain ⟨r, e1, e2⟩ := part_ex (z := z) (v := v) (x := lN (c.1 j)) (a := c.1 j) (b := sumN c.1 11) (Or.inl rfl) (by omega) (by omega) (by omega) hz
      rw [e1, bd_s]
      refine ⟨r, rfl, ?_⟩
      unfold fX9_part fX9_part_23 at e2
      exact e2
/-- the first place of the greatest weight, of the first i and one -/
def amN (w : Nat → Nat) : Nat → Nat
  | 0 => 0
  | i + 1 => if w (i + 1) ≤ w (amN w i) then amN w i else i + 1
theorem amN_le (w : Nat → Nat) : ∀ i, amN w i ≤ i
  | 0 => Nat.le_refl _
  | i + 1 => by
    have := amN_le w i
    unfold amN
    split <;> omega
theorem op_likeliest {z : Nat} {σ μ : ST} (hz : 30000 ≤ z) (h : Rel σ μ) : ∃ r, fX8_likeliest z σ = some r ∧ fX9_likeliest z μ = some r := by
  obtain ⟨T, P, sec, L, t, c, n, A, B, hT, hs, ht, hn, ha, hb, hd⟩ := h
  have hw := fun j (hj : j < 11) => hn.2.2.w hT.2.2 hj
  refine ⟨if c.1 (amN c.1 10) = 0 then -9 else nI (amN c.1 10), ?_, ?_⟩
  · have loop : ∀ n i, i ≤ 10 → 10 < i + n → fX8_likeliest_8 z σ n (if c.1 (amN c.1 i) = 0 then -9 else nI (amN c.1 i)) (lN (c.1 (amN c.1 i))) (nI (i + 1)) = some (if c.1 (amN c.1 10) = 0 then -9 else nI (amN c.1 10)) := by
      intro n
      induction n with
      | zero => intro i h1 h2; omega
      | succ n ih =>
        intro i h1 h2
        unfold fX8_likeliest_8 fX8_likeliest_42
        by_cases hi : i = 10
        · subst hi
          rw [if_pos (ple (a := 11) 11 11 rfl rfl (Nat.le_refl _) (by decide))]
        · have hh := ih (i + 1) (by omega) (by omega)
          have hm := amN_le c.1 i
          have w1 := hw (i + 1) (by omega)
          have w2 := hw (amN c.1 i) (by omega)
          rw [if_neg (nle (a := 11) 11 (i + 1) rfl rfl (by omega) (by decide)), s_of rfl (by omega), bd_s, bd_s, hn.1.1 _ (by omega), nI_1]
          have ea : amN c.1 (i + 1) = if c.1 (i + 1) ≤ c.1 (amN c.1 i) then amN c.1 i else i + 1 := rfl
          rw [ea] at hh
          by_cases hc : c.1 (i + 1) ≤ c.1 (amN c.1 i)
          · rw [if_pos hc] at hh
            rw [if_pos (pleL (c.1 (i + 1)) (c.1 (amN c.1 i)) rfl rfl hc (by omega))]
            exact hh
          · rw [if_neg hc, if_neg (by omega)] at hh
            rw [if_neg (nleL (c.1 (i + 1)) (c.1 (amN c.1 i)) rfl rfl (by omega) (by omega))]
            exact hh
    unfold fX8_likeliest
    obtain ⟨z', rfl⟩ : ∃ z', z = z' + 1 := ⟨z - 1, by omega⟩
    have h0 := hw 0 (by omega)
    have := loop z' 0 (by omega) (by omega)
    unfold fX8_likeliest_8 fX8_likeliest_42
    rw [if_neg (by decide), show (0 : Int32) = nI 0 from rfl, s_of rfl (by omega), bd_s, bd_s, hn.1.1 _ (by omega), nI_1]
    by_cases hc : c.1 0 = 0
    · have e0 : amN c.1 0 = 0 := rfl
      rw [e0, if_pos hc, hc] at this
      rw [hc, if_pos (show lN 0 ≤ 0 by decide)]
      exact this
    · have e0 : amN c.1 0 = 0 := rfl
      rw [e0, if_neg hc] at this
      rw [if_neg (nleL (b := 0) (c.1 0) 0 rfl rfl (by omega) (by omega))]
      exact this
  · have loop : ∀ n i, i ≤ 10 → 10 < i + n → fX9_likeliest_4 z μ n (nI (amN c.1 i)) (nI (i + 1)) = some (if c.1 (amN c.1 10) = 0 then -9 else nI (amN c.1 10)) := by
      intro n
      induction n with
      | zero => intro i h1 h2; omega
      | succ n ih =>
        intro i h1 h2
        have hm := amN_le c.1 i
        have w2 := hw (amN c.1 i) (by omega)
        unfold fX9_likeliest_4 fX9_likeliest_55 fX9_likeliest_31
        by_cases hi : i = 10
        · subst hi
          rw [if_pos (ple (a := 11) 11 11 rfl rfl (Nat.le_refl _) (by decide)), gd_inb (by omega) (by decide), nI_clamp (by omega), hn.w (by omega)]
          by_cases h0 : c.1 (amN c.1 10) = 0
          · rw [h0, if_pos (show lN 0 = 0 from rfl), if_pos rfl]
          · rw [if_neg (neqL (b := 0) (c.1 (amN c.1 10)) 0 rfl rfl h0 (by omega) (by decide)), if_neg h0]
        · have hh := ih (i + 1) (by omega) (by omega)
          have w1 := hw (i + 1) (by omega)
          have ea : amN c.1 (i + 1) = if c.1 (i + 1) ≤ c.1 (amN c.1 i) then amN c.1 i else i + 1 := rfl
          rw [ea] at hh
          rw [if_neg (nle (a := 11) 11 (i + 1) rfl rfl (by omega) (by decide)), gd_inb (by omega) (by decide), gd_inb (by omega) (by decide), nI_clamp (by omega), nI_clamp (by omega), hn.w (by omega), hn.w (by omega), nI_1]
          by_cases hc : c.1 (i + 1) ≤ c.1 (amN c.1 i)
          · rw [if_pos hc] at hh
            rw [if_pos (pleL (c.1 (i + 1)) (c.1 (amN c.1 i)) rfl rfl hc (by omega))]
            exact hh
          · rw [if_neg hc] at hh
            rw [if_neg (nleL (c.1 (i + 1)) (c.1 (amN c.1 i)) rfl rfl (by omega) (by omega))]
            exact hh
    unfold fX9_likeliest
    exact loop z 0 (by omega) (by omega)
/-! lanes -/
def lbN (w : Nat → Nat) (s : Nat) : Nat → Nat
  | 0 => 0
  | i + 1 => if w i = 0 then lbN w s i else if lbN w s i < s - i then s - i else lbN w s i
def laN (w : Nat → Nat) (s : Nat) : Nat → Nat
  | 0 => 0
  | i + 1 => if w i = 0 then laN w s i else if laN w s i < i - s then i - s else laN w s i
def llN (w : Nat → Nat) : Nat → Option (Nat × Nat)
  | 0 => none
  | i + 1 => if w i = 0 then llN w i else match llN w i with
    | none => some (i, i)
    | some q => some (q.1, i)
theorem lbN_le (w : Nat → Nat) (s : Nat) : ∀ i, lbN w s i ≤ s
  | 0 => Nat.zero_le _
  | i + 1 => by
    have := lbN_le w s i
    unfold lbN
    split
    · exact this
    · split <;> omega
theorem laN_le (w : Nat → Nat) (s : Nat) : ∀ i, laN w s i ≤ i
  | 0 => Nat.zero_le _
  | i + 1 => by
    have := laN_le w s i
    unfold laN
    split
    · omega
    · split <;> omega
theorem ll_ok (w : Nat → Nat) (s : Nat) : ∀ i, (llN w i = none → lbN w s i = 0 ∧ laN w s i = 0) ∧ ∀ q, llN w i = some q → lbN w s i = s - q.1 ∧ laN w s i = q.2 - s ∧ q.1 ≤ q.2 ∧ q.2 < i
  | 0 => ⟨fun _ => ⟨rfl, rfl⟩, fun q h => by cases h⟩
  | i + 1 => by
    obtain ⟨h1, h2⟩ := ll_ok w s i
    unfold lbN laN llN
    by_cases hw : w i = 0
    · rw [if_pos hw, if_pos hw, if_pos hw]
      exact ⟨h1, fun q hq => by obtain ⟨a, b, c, d⟩ := h2 q hq; exact ⟨a, b, c, by omega⟩⟩
    · rw [if_neg hw, if_neg hw, if_neg hw]
      cases hl : llN w i with
      | none =>
        obtain ⟨a, b⟩ := h1 hl
        refine ⟨fun q => (by cases q), fun q hq => ?_⟩
        cases hq
        rw [a, b]
        refine ⟨?_, ?_, Nat.le_refl _, by omega⟩ <;> split <;> omega
      | some q0 =>
        obtain ⟨a, b, c, d⟩ := h2 q0 hl
        refine ⟨fun q => (by cases q), fun q hq => ?_⟩
        cases hq
        rw [a, b]
        refine ⟨?_, ?_, by simp only; omega, by simp only; omega⟩ <;> simp only <;> split <;> omega
theorem op_lanes {z : Nat} {σ μ : ST} (hz : 30000 ≤ z) (h : Rel σ μ) : ∃ r, fX8_lanes z σ = some r ∧ fX9_lanes z μ = some r := by
  obtain ⟨T, P, sec, L, t, c, n, A, B, hT, hs, ht, hn, ha, hb, hd⟩ := h
  have hw := fun j (hj : j < 11) => hn.2.2.w hT.2.2 hj
  have hsh := hn.2.2.1
  refine ⟨nI (lbN c.1 (c.2 0) 10 + laN c.1 (c.2 0) 10 + (if laN c.1 (c.2 0) 10 < lbN c.1 (c.2 0) 10 then laN c.1 (c.2 0) 10 else lbN c.1 (c.2 0) 10)), ?_, ?_⟩
  · have loop : ∀ n i, i ≤ 10 → 10 < i + n → fX8_lanes_6 z σ n (nI (lbN c.1 (c.2 0) i)) (nI (laN c.1 (c.2 0) i)) (nI i) = some (nI (lbN c.1 (c.2 0) 10 + laN c.1 (c.2 0) 10 + (if laN c.1 (c.2 0) 10 < lbN c.1 (c.2 0) 10 then laN c.1 (c.2 0) 10 else lbN c.1 (c.2 0) 10))) := by
      intro n
      induction n with
      | zero => intro i h1 h2; omega
      | succ n ih =>
        intro i h1 h2
        have b1 := lbN_le c.1 (c.2 0) i
        have b2 := laN_le c.1 (c.2 0) i
        unfold fX8_lanes_6 fX8_lanes_53
        by_cases hi : i = 10
        · subst hi
          rw [if_pos (ple (a := 10) 10 10 rfl rfl (Nat.le_refl _) (by decide)), nI_add]
          by_cases hc : laN c.1 (c.2 0) 10 < lbN c.1 (c.2 0) 10
          · rw [if_pos hc, if_pos (plt (laN c.1 (c.2 0) 10) (lbN c.1 (c.2 0) 10) rfl rfl hc (by omega)), nI_add]
          · rw [if_neg hc, if_neg (nlt (laN c.1 (c.2 0) 10) (lbN c.1 (c.2 0) 10) rfl rfl (by omega) (by omega)), nI_add]
        · have hh := ih (i + 1) (by omega) (by omega)
          unfold lbN laN at hh
          have w1 := hw i (by omega)
          rw [if_neg (nle (a := 10) 10 i rfl rfl (by omega) (by decide)), s_of rfl (by omega), bd_s, hn.1.1 _ (by omega), nI_1]
          by_cases hc : c.1 i = 0
          · rw [if_pos hc, if_pos hc] at hh
            rw [hc, if_pos (show lN 0 ≤ 0 by decide)]
            exact hh
          · rw [if_neg hc, if_neg hc] at hh
            rw [if_neg (nleL (b := 0) (c.1 i) 0 rfl rfl (by omega) (by omega)), hn.1.2.1]
            have e1 : (if nI (lbN c.1 (c.2 0) i) < nI (c.2 0) - nI i then nI (c.2 0) - nI i else nI (lbN c.1 (c.2 0) i)) = nI (if lbN c.1 (c.2 0) i < c.2 0 - i then c.2 0 - i else lbN c.1 (c.2 0) i) := by
              by_cases hle : i ≤ c.2 0
              · rw [pk_sub hle]
                by_cases hq : lbN c.1 (c.2 0) i < c.2 0 - i
                · rw [if_pos hq, if_pos (plt (lbN c.1 (c.2 0) i) (c.2 0 - i) rfl rfl hq (by omega))]
                · rw [if_neg hq, if_neg (nlt (lbN c.1 (c.2 0) i) (c.2 0 - i) rfl rfl (by omega) (by omega))]
              · have hneg := pk_sneg (a := c.2 0) (b := i) (by omega) (by omega)
                rw [if_neg (by omega : ¬ lbN c.1 (c.2 0) i < c.2 0 - i), if_neg]
                intro q
                exact nI_pos (n := lbN c.1 (c.2 0) i) (by omega) (Int32.lt_trans q hneg)
            have e2 : (if nI (laN c.1 (c.2 0) i) < nI i - nI (c.2 0) then nI i - nI (c.2 0) else nI (laN c.1 (c.2 0) i)) = nI (if laN c.1 (c.2 0) i < i - c.2 0 then i - c.2 0 else laN c.1 (c.2 0) i) := by
              by_cases hle : c.2 0 ≤ i
              · rw [pk_sub hle]
                by_cases hq : laN c.1 (c.2 0) i < i - c.2 0
                · rw [if_pos hq, if_pos (plt (laN c.1 (c.2 0) i) (i - c.2 0) rfl rfl hq (by omega))]
                · rw [if_neg hq, if_neg (nlt (laN c.1 (c.2 0) i) (i - c.2 0) rfl rfl (by omega) (by omega))]
              · have hneg := pk_sneg (a := i) (b := c.2 0) (by omega) (by omega)
                rw [if_neg (by omega : ¬ laN c.1 (c.2 0) i < i - c.2 0), if_neg]
                intro q
                exact nI_pos (n := laN c.1 (c.2 0) i) (by omega) (Int32.lt_trans q hneg)
            rw [e1, e2]
            exact hh
    exact loop z 0 (by omega) (by omega)
  · have hz0 : (0 : Int32).toNatClampNeg = 0 := rfl
    have sh : μ.1 5 0 = nI (c.2 0) := hn.2.1.2.1
    obtain ⟨ok1, ok2⟩ := ll_ok c.1 (c.2 0) 10
    have fin : (match llN c.1 10 with | none => fX9_lanes_8 z μ 1 (-9) (-9) (nI 10) | some q => fX9_lanes_8 z μ 1 (nI q.1) (nI q.2) (nI 10)) = some (nI (lbN c.1 (c.2 0) 10 + laN c.1 (c.2 0) 10 + (if laN c.1 (c.2 0) 10 < lbN c.1 (c.2 0) 10 then laN c.1 (c.2 0) 10 else lbN c.1 (c.2 0) 10))) := by
      cases hl : llN c.1 10 with
      | none =>
        obtain ⟨a, b⟩ := ok1 hl
        rw [a, b]
        rfl
      | some q =>
        obtain ⟨a, b, c1, d⟩ := ok2 q hl
        rw [a, b]
        simp only
        unfold fX9_lanes_8
        rw [if_pos (ple (a := 10) 10 10 rfl rfl (Nat.le_refl _) (by decide)), if_neg (show ¬ nI q.1 = (-9 : Int32) from fun e => by have := nI_pos (n := q.1) (by omega); rw [e] at this; exact this (by decide)), show inb (0 : Int32) 9 = true from rfl, gd_t, gd_t, hz0, sh]
        have stp : ∀ lo : Nat, lo = c.2 0 - q.1 → fX9_lanes_90 z μ (nI q.1) (nI q.2) (nI lo) = some (nI (c.2 0 - q.1 + (q.2 - c.2 0) + (if q.2 - c.2 0 < c.2 0 - q.1 then q.2 - c.2 0 else c.2 0 - q.1))) := by
          intro lo hlo
          have stp2 : ∀ hi : Nat, hi = q.2 - c.2 0 → fX9_lanes_113 z μ (nI q.1) (nI q.2) (nI lo) (nI hi) = some (nI (c.2 0 - q.1 + (q.2 - c.2 0) + (if q.2 - c.2 0 < c.2 0 - q.1 then q.2 - c.2 0 else c.2 0 - q.1))) := by
            intro hi hhi
            have stp3 : ∀ sm : Nat, sm = (if q.2 - c.2 0 < c.2 0 - q.1 then q.2 - c.2 0 else c.2 0 - q.1) → fX9_lanes_127 z μ (nI q.1) (nI q.2) (nI lo) (nI hi) (nI sm) = some (nI (c.2 0 - q.1 + (q.2 - c.2 0) + (if q.2 - c.2 0 < c.2 0 - q.1 then q.2 - c.2 0 else c.2 0 - q.1))) := by
              intro sm hsm
              unfold fX9_lanes_127 fX9_lanes_178
              rw [show inb (0 : Int32) 9 = true from rfl, gd_t, gd_t, gd_t, gd_t, hz0, sh]
              by_cases k1 : q.1 ≤ c.2 0
              · rw [if_pos (ple q.1 (c.2 0) rfl rfl k1 (by omega))]
                by_cases k2 : c.2 0 ≤ q.2
                · rw [if_pos (ple (c.2 0) q.2 rfl rfl k2 (by omega)), nI_add, nI_add, hlo, hhi, hsm]
                · rw [if_neg (nle (c.2 0) q.2 rfl rfl (by omega) (by omega)), pk_sub k1, ← hsm]
                  have e1 : q.2 - c.2 0 = 0 := by omega
                  rw [e1] at hsm ⊢
                  have e2 : sm = 0 := by rw [hsm]; split <;> omega
                  rw [e2]; rfl
              · rw [if_neg (nle q.1 (c.2 0) rfl rfl (by omega) (by omega)), pk_sub (by omega), ← hsm]
                have e1 : c.2 0 - q.1 = 0 := by omega
                rw [e1] at hsm ⊢
                have e2 : sm = 0 := by rw [hsm]; split <;> omega
                rw [e2, Nat.zero_add, Nat.add_zero]
            unfold fX9_lanes_113
            by_cases k : hi ≤ lo
            · rw [if_pos (ple hi lo rfl rfl k (by omega))]
              exact stp3 hi (by rw [← hlo, ← hhi]; split <;> omega)
            · rw [if_neg (nle hi lo rfl rfl (by omega) (by omega))]
              exact stp3 lo (by rw [← hlo, ← hhi]; split <;> omega)
          unfold fX9_lanes_90
          rw [show inb (0 : Int32) 9 = true from rfl, gd_t, gd_t, hz0, sh]
          by_cases k : q.2 ≤ c.2 0
          · rw [if_pos (ple q.2 (c.2 0) rfl rfl k (by omega))]
            exact stp2 0 (by omega)
          · rw [if_neg (nle q.2 (c.2 0) rfl rfl (by omega) (by omega)), pk_sub (by omega)]
            exact stp2 _ rfl
        by_cases k : c.2 0 ≤ q.1
        · rw [if_pos (ple (c.2 0) q.1 rfl rfl k (by omega))]
          exact stp 0 (by omega)
        · rw [if_neg (nle (c.2 0) q.1 rfl rfl (by omega) (by omega)), pk_sub (by omega)]
          exact stp _ rfl
    have loop : ∀ n i, i ≤ 10 → 10 < i + n → (match llN c.1 i with | none => fX9_lanes_8 z μ n (-9) (-9) (nI i) | some q => fX9_lanes_8 z μ n (nI q.1) (nI q.2) (nI i)) = some (nI (lbN c.1 (c.2 0) 10 + laN c.1 (c.2 0) 10 + (if laN c.1 (c.2 0) 10 < lbN c.1 (c.2 0) 10 then laN c.1 (c.2 0) 10 else lbN c.1 (c.2 0) 10))) := by
      intro n
      induction n with
      | zero => intro i h1 h2; omega
      | succ n ih =>
        intro i h1 h2
        by_cases hi : i = 10
        · subst hi
          rw [← fin]
          cases llN c.1 10 with
          | none => rfl
          | some q =>
            simp only
            unfold fX9_lanes_8
            rw [if_pos (ple (a := 10) 10 10 rfl rfl (Nat.le_refl _) (by decide)), if_pos (ple (a := 10) 10 10 rfl rfl (Nat.le_refl _) (by decide))]
        · have hh := ih (i + 1) (by omega) (by omega)
          have w1 := hw i (by omega)
          have st : ∀ v1 v2 : Int32, fX9_lanes_8 z μ (n + 1) v1 v2 (nI i) = if c.1 i = 0 then fX9_lanes_8 z μ n v1 v2 (nI (i + 1)) else if v1 = (-9 : Int32) then fX9_lanes_8 z μ n (nI i) (nI i) (nI (i + 1)) else fX9_lanes_8 z μ n v1 (nI i) (nI (i + 1)) := by
            intro v1 v2
            conv => lhs; unfold fX9_lanes_8
            unfold fX9_lanes_35 fX9_lanes_36 fX9_lanes_53
            rw [if_neg (nle (a := 10) 10 i rfl rfl (by omega) (by decide)), gd_inb (by omega) (by decide), gd_inb (by omega) (by decide), gd_inb (by omega) (by decide), nI_clamp (by omega), hn.w (by omega), nI_1]
            by_cases hc : c.1 i = 0
            · rw [hc, if_pos (show lN 0 ≤ 0 by decide), if_pos (show lN 0 ≤ 0 by decide), if_pos rfl]
            · have hnl : ¬ lN (c.1 i) ≤ 0 := nleL (b := 0) (c.1 i) 0 rfl rfl (by omega) (by omega)
              simp only [hnl, if_false, hc]
          unfold llN at hh
          by_cases hc : c.1 i = 0
          · rw [if_pos hc] at hh
            rw [← hh]
            cases llN c.1 i with
            | none => simp only; rw [st, if_pos hc]
            | some q => simp only; rw [st, if_pos hc]
          · rw [if_neg hc] at hh
            obtain ⟨-, okq⟩ := ll_ok c.1 (c.2 0) i
            cases hl : llN c.1 i with
            | none =>
              rw [hl] at hh
              simp only at hh ⊢
              rw [st, if_neg hc, if_pos rfl]
              exact hh
            | some q =>
              rw [hl] at hh
              obtain ⟨-, -, c1, d⟩ := okq q hl
              simp only at hh ⊢
              rw [st, if_neg hc, if_neg (show ¬ nI q.1 = (-9 : Int32) from fun e => by have := nI_pos (n := q.1) (by omega); rw [e] at this; exact this (by decide))]
              exact hh
    exact loop z 0 (by omega) (by omega)

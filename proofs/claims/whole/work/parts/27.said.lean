/-! ===== witnesses, and what is counted ===== -/
def ptU (P : Nat → Nat) (a c : Nat) : Nat := sumN (fun j => if a ≤ j ∧ j < c then P j else 0) 11
theorem ptU_s {P : Nat → Nat} {a c : Nat} (h : a ≤ c) (hc : c < 11) : ptU P a (c + 1) = ptU P a c + P c := by
  unfold ptU
  have e : ∀ n, sumN (fun j => if a ≤ j ∧ j < c + 1 then P j else 0) n = sumN (fun j => if a ≤ j ∧ j < c then P j else 0) n + (if c < n then P c else 0) := by
    intro n
    induction n with
    | zero => rfl
    | succ n ih =>
      rw [sumN, sumN, ih]
      by_cases h1 : n = c
      · subst h1
        rw [if_pos (show a ≤ n ∧ n < n + 1 from ⟨h, by omega⟩), if_neg (show ¬ n < n by omega), if_neg (show ¬ (a ≤ n ∧ n < n) by omega), if_pos (show n < n + 1 by omega)]
      · by_cases h2 : n < c
        · rw [if_neg (by omega : ¬ c < n), if_neg (by omega : ¬ c < n + 1)]
          by_cases h3 : a ≤ n
          · rw [if_pos (show a ≤ n ∧ n < c + 1 from ⟨h3, by omega⟩), if_pos (show a ≤ n ∧ n < c from ⟨h3, h2⟩)]; omega
          · rw [if_neg (show ¬ (a ≤ n ∧ n < c + 1) by omega), if_neg (show ¬ (a ≤ n ∧ n < c) by omega)]
        · rw [if_neg (by omega : ¬ (a ≤ n ∧ n < c + 1)), if_neg (by omega : ¬ (a ≤ n ∧ n < c)), if_pos (by omega : c < n), if_pos (by omega : c < n + 1)]; omega
  rw [e 11, if_pos hc]
theorem ptU_0 {P : Nat → Nat} {a : Nat} : ptU P a a = 0 := sumN_0.mpr (fun j _ => if_neg (by omega))
theorem ptU_pt {P : Nat → Nat} {a b : Nat} : ptU P a (b + 1) = ptN P a b := sumN_congr (fun j _ => by
  by_cases h : a ≤ j ∧ j ≤ b
  · rw [if_pos h, if_pos ⟨h.1, by omega⟩]
  · rw [if_neg h, if_neg (by omega)])
theorem s9_partsIn {z : Nat} {μ : ST} {T P : Nat → Nat} {a b : Nat} (ht : TM μ T P) (hab : a ≤ b + 1) (hb : b ≤ 10) (hz : 13 ≤ z) : fX9_partsIn z μ (nI a) (nI b) = some (nI (ptN P a b)) := by
  have loop : ∀ n i, a ≤ i → i ≤ b + 1 → b + 1 < i + n → fX9_partsIn_5 z μ (nI b) n (nI (ptU P a i)) (nI i) = some (nI (ptN P a b)) := by
    intro n
    induction n with
    | zero => intro i h0 h1 h2; omega
    | succ n ih =>
      intro i h0 h1 h2
      unfold fX9_partsIn_5
      by_cases hi : i = b + 1
      · subst hi
        rw [if_pos (plt b (b + 1) rfl rfl (by omega) (by omega)), ptU_pt]
      · rw [if_neg (nlt b i rfl rfl (by omega) (by omega)), gd_inb (by omega) (by decide), nI_clamp (by omega), ht.2.2.2.2.2.2 i (by omega), nI_add, nI_1, ← ptU_s h0 (by omega)]
        exact ih (i + 1) (by omega) (by omega) (by omega)
  unfold fX9_partsIn
  have := loop z a (Nat.le_refl _) hab (by omega)
  rw [ptU_0] at this
  exact this
theorem s9_allParts {z : Nat} {μ : ST} {T P : Nat → Nat} (ht : TM μ T P) (hz : 13 ≤ z) : fX9_allParts z μ = some (nI (sumN P 11)) := by
  have loop : ∀ n i, i ≤ 11 → 11 < i + n → fX9_allParts_4 z μ n (nI (sumN P i)) (nI i) = some (nI (sumN P 11)) := by
    intro n
    induction n with
    | zero => intro i h1 h2; omega
    | succ n ih =>
      intro i h1 h2
      unfold fX9_allParts_4
      by_cases hi : i = 11
      · subst hi
        rw [if_pos (ple (a := 11) 11 11 rfl rfl (Nat.le_refl _) (by decide))]
      · rw [if_neg (nle (a := 11) 11 i rfl rfl (by omega) (by decide)), gd_inb (by omega) (by decide), nI_clamp (by omega), ht.2.2.2.2.2.2 i (by omega), nI_add, nI_1]
        exact ih (i + 1) (by omega) (by omega)
  exact loop z 0 (by omega) (by omega)
theorem i32_said (a b : Int32) : a - (b - a) = 2 * a - b := by
  apply Int32.toBitVec_inj.mp
  simp only [Int32.toBitVec_sub, Int32.toBitVec_mul]
  have : (2 : Int32).toBitVec = 2#32 := rfl
  rw [this]
  bv_omega
theorem op_said {z : Nat} {σ μ : ST} (hz : 30000 ≤ z) (h : Rel σ μ) (x : Int32) : ∃ r, fX8_said z σ x = some r ∧ fX9_said z μ x = some r := by
  obtain ⟨T, P, sec, L, t, c, n, A, B, hT, hs, ht, hn, ha, hb, hd⟩ := h
  unfold fX8_said fX9_said
  rw [show fX9_in z x.toInt64 0 1 = fX8_isWithin z x 0 1 from in_eq (a := 0) (b := 1)]
  rcases isW (z := z) x (a' := 0) (b' := 1) 0 1 rfl rfl (by decide) (by decide) with e | ⟨j, -, hj, rfl, e⟩
  · rw [e, bd_s, bd_s, if_pos rfl, if_pos rfl]
    exact ⟨_, rfl, rfl⟩
  · have h2 : (2 : Int32).toNatClampNeg = 2 := rfl
    have he : μ.1 5 2 = nI (c.2 2) := hn.2.1.2.2.2.1
    have hc2 := hn.2.2.2.2.1
    rw [e, bd_s, bd_s, if_neg (show ¬ (1 : Int32) = 0 by decide), if_neg (show ¬ (1 : Int32) = 0 by decide), show inb (2 : Int32) 9 = true from rfl, gd_t, h2, he, hn.1.2.2.2.1]
    by_cases hq : j < c.2 2
    · have ho := hn.2.2.2.2.2.1 j (by omega) hq
      have g := hn.2.1.2.2.2.2 j (by omega) hq
      have gx := hn.1.2.2.2.2 j (by omega) hq
      have e3 : (3 : Int32) + (3 : Int32) * nI j = nI (3 + 3 * j) := by rw [show (3 : Int32) = nI 3 from rfl, pk_mul, nI_add]
      have e4 : nI (3 + 3 * j) + (1 : Int32) = nI (4 + 3 * j) := by rw [show (1 : Int32) = nI 1 from rfl, nI_add]; congr 1; omega
      have g1 := g.1
      have g2 := g.2
      rw [Nat.zero_add] at g1 g2
      rw [if_pos (plt j (c.2 2) rfl rfl hq (by omega)), if_pos (plt j (c.2 2) rfl rfl hq (by omega)), s_lowOf rfl (by omega), bd_s, s_highOf rfl (by omega), bd_s, gx.1, gx.2, s_partsFrom hT.1 (by omega) (by omega) (by omega), bd_s, show (0 : Int32) = nI 0 from rfl, show (9 : Int32) = nI 9 from rfl, s_partsFrom hT.1 (by decide) (by decide) (by omega), bd_s, e3, e4, gd_inb (by omega) (by decide), gd_inb (by omega) (by decide), nI_clamp (by omega), nI_clamp (by omega), g1, g2, s9_partsIn hT.2.1 (by omega) (by omega) (by omega), bd_s, s9_partsIn hT.2.1 (by omega) (by omega) (by omega), bd_s]
      exact ⟨_, rfl, by rw [i32_said]⟩
    · rw [if_neg (nlt j (c.2 2) rfl rfl (by omega) (by omega)), if_neg (nlt j (c.2 2) rfl rfl (by omega) (by omega))]
      exact ⟨_, rfl, rfl⟩
/-! trust -/
theorem s_isSaying {z : Nat} (i j x : Int32) : (fX8_isSaying z i j x = some 0 ∧ fX9_isWitness z i j x = some 0) ∨ ∃ a b c : Nat, i = nI a ∧ j = nI b ∧ x = nI c ∧ a ≤ b ∧ b ≤ 9 ∧ 1 ≤ c ∧ c ≤ 9 ∧ fX8_isSaying z i j x = some 1 ∧ fX9_isWitness z i j x = some 1 := by
  unfold fX8_isSaying fX9_isWitness fX8_isSaying_34 fX8_isSaying_35 fX9_isWitness_41 fX9_isWitness_42
  rw [show fX9_in z i.toInt64 0 9 = fX8_isWithin z i 0 9 from in_eq (a := 0) (b := 9), show fX9_in z j.toInt64 i.toInt64 9 = fX8_isWithin z j i 9 from in_eq (b := 9), show fX9_in z x.toInt64 1 9 = fX8_isWithin z x 1 9 from in_eq (a := 1) (b := 9)]
  rcases isW (z := z) i (a' := 0) (b' := 9) 0 9 rfl rfl (by decide) (by decide) with e | ⟨a, -, ha, rfl, e⟩
  · left
    rw [e, bd_s, if_pos rfl]
    exact ⟨rfl, rfl⟩
  · rw [e, bd_s, if_neg (show ¬ (1 : Int32) = 0 by decide)]
    rcases isW (z := z) j (a' := nI a) (b' := 9) a 9 rfl rfl (by omega) (by decide) with e | ⟨b, hb1, hb, rfl, e⟩
    · left
      rw [e, bd_s, if_pos rfl]
      exact ⟨rfl, rfl⟩
    · rw [e, bd_s, if_neg (show ¬ (1 : Int32) = 0 by decide)]
      rcases isW (z := z) x (a' := 1) (b' := 9) 1 9 rfl rfl (by decide) (by decide) with e | ⟨c, hc1, hc, rfl, e⟩
      · left
        rw [e, bd_s, if_pos rfl]
        exact ⟨rfl, rfl⟩
      · right
        rw [e, bd_s, if_neg (show ¬ (1 : Int32) = 0 by decide)]
        exact ⟨a, b, c, rfl, rfl, rfl, hb1, hb, hc1, hc, rfl, rfl⟩
theorem bel_sum {P : Nat → Nat} {c : Sc} {i j x : Nat} (hc : c.1 = P) (hj : j ≤ 9) : sumN (blN c i j x).1 11 = ptN P i j * x + (ptN P 0 9 - ptN P i j) * (10 - x) + 5 * P 10 := by
  subst hc
  have e1 : ∀ n, n ≤ 10 → sumN (blN c i j x).1 n = sumN (fun q => if i ≤ q ∧ q ≤ j then c.1 q else 0) n * x + sumN (fun q => if i ≤ q ∧ q ≤ j then 0 else c.1 q) n * (10 - x) := by
    intro n
    induction n with
    | zero => intro _; simp [sumN]
    | succ n ih =>
      intro hn
      rw [sumN, sumN, sumN, ih (by omega)]
      have : (blN c i j x).1 n = if i ≤ n ∧ n ≤ j then c.1 n * x else c.1 n * (10 - x) := by
        unfold blN
        exact if_neg (by omega)
      rw [this]
      by_cases h : i ≤ n ∧ n ≤ j
      · rw [if_pos h, if_pos h, if_pos h, Nat.add_mul, Nat.add_zero]; omega
      · rw [if_neg h, if_neg h, if_neg h, Nat.add_mul, Nat.add_mul, Nat.zero_mul]; omega
  have e2 : ∀ n, sumN (fun q => if i ≤ q ∧ q ≤ j then c.1 q else 0) n + sumN (fun q => if i ≤ q ∧ q ≤ j then 0 else c.1 q) n = sumN c.1 n := by
    intro n
    rw [← sumN_add]
    exact sumN_congr (fun q _ => by by_cases h : i ≤ q ∧ q ≤ j <;> simp [h])
  have e3 : ptN c.1 i j = sumN (fun q => if i ≤ q ∧ q ≤ j then c.1 q else 0) 10 := by
    unfold ptN
    rw [sumN, if_neg (by omega), Nat.add_zero]
  have e4 : ptN c.1 0 9 = sumN c.1 10 := by
    unfold ptN
    rw [sumN, if_neg (by omega), Nat.add_zero]
    exact sumN_congr (fun q hq => if_pos ⟨Nat.zero_le _, by omega⟩)
  have e5 := e2 10
  rw [sumN, e1 10 (Nat.le_refl _), ← e3, e4, ← e5]
  have : (blN c i j x).1 10 = c.1 10 * 5 := by
    show (if (10 : Nat) = 10 then c.1 10 * 5 else if i ≤ 10 ∧ 10 ≤ j then c.1 10 * x else c.1 10 * (10 - x)) = _
    exact if_pos rfl
  rw [this, ← e3, Nat.add_sub_cancel_left]
  omega
theorem bel_in {P : Nat → Nat} {c : Sc} {i j x q : Nat} (hc : c.1 = P) (h1 : i ≤ q) (h2 : q ≤ j) (hj : j ≤ 9) : (blN c i j x).1 q = P q * x := by
  subst hc
  unfold blN
  show (if q = 10 then _ else if i ≤ q ∧ q ≤ j then c.1 q * x else _) = _
  rw [if_neg (by omega), if_pos ⟨h1, h2⟩]
theorem op_trust {z : Nat} {σ μ : ST} (hz : 30000 ≤ z) (h : Rel σ μ) (v1 v2 v3 v : Int32) : ∃ r σ', fX8_trust z σ v1 v2 v3 v = some (r, σ') ∧ fX9_trust z μ v1 v2 v3 v = some r ∧ Rel σ' μ := by
  obtain ⟨T, P, sec, L, t, c, n, A, B, hT, hrest⟩ := id h
  unfold fX8_trust fX9_trust
  rcases s_isSaying (z := z) v1 v2 v3 with ⟨e1, e2⟩ | ⟨i, j, x, rfl, rfl, rfl, hij, hj, hx1, hx, e1, e2⟩
  · rw [e1, e2, bd_s, bd_s, if_pos rfl, if_pos rfl]
    exact ⟨_, _, rfl, rfl, h⟩
  · have hP := parts_le hT.2.2
    rw [e1, e2, bd_s, bd_s, if_neg (by decide), if_neg (by decide), s_allParts hT.1 (by omega), s9_allParts hT.2.1 (by omega), bd_s, bd_s]
    by_cases h0 : sumN P 11 = 0
    · rw [h0, if_neg (show ¬ (0 : Int32) < nI 0 by decide), if_pos (show nI 0 = 0 from rfl)]
      exact ⟨_, _, rfl, rfl, h⟩
    · obtain ⟨σ1, b1, b2, b3⟩ := a_begin (z := z) (k := 9) rfl hT.1 hT.2.2 (by omega)
      obtain ⟨σ2, d1, d2, d3⟩ := a_believe (z := z) (i := i) (j := j) (x := x) (k := 9) rfl b2 (by omega) hj hx (show (0 : Nat) < 2 by decide) (by omega)
      have hsum : sumN (blN (bgN T P) i j x).1 11 = ptN P i j * x + (ptN P 0 9 - ptN P i j) * (10 - x) + 5 * P 10 := bel_sum rfl hj
      have hsub : ptN P i j ≤ ptN P 0 9 := sumN_le (fun q _ => by
        by_cases hq : i ≤ q ∧ q ≤ j
        · rw [if_pos hq, if_pos ⟨Nat.zero_le _, by omega⟩]; exact Nat.le_refl _
        · rw [if_neg hq]; exact Nat.zero_le _)
      have hall : ptN P 0 9 + P 10 = sumN P 11 := by
        unfold ptN
        have e10 : sumN (fun j => if 0 ≤ j ∧ j ≤ 9 then P j else 0) 10 = sumN P 10 := sumN_congr (fun q hq => if_pos ⟨Nat.zero_le _, by omega⟩)
        rw [sumN, e10, if_neg (by omega), Nat.add_zero]
        rfl
      have hb1 : ptN P i j * x ≤ 99 * 9 := Nat.mul_le_mul (by omega) hx
      have hb2 : (ptN P 0 9 - ptN P i j) * (10 - x) ≤ 99 * 9 := Nat.mul_le_mul (by omega) (by omega)
      have hpos : 0 < ptN P i j * x + (ptN P 0 9 - ptN P i j) * (10 - x) + 5 * P 10 := by
        rcases Nat.eq_zero_or_pos (ptN P i j) with q | q
        · rcases Nat.eq_zero_or_pos (ptN P 0 9) with q2 | q2
          · omega
          · have : 0 < (ptN P 0 9 - ptN P i j) * (10 - x) := Nat.mul_pos (by omega) (by omega)
            omega
        · have : 0 < ptN P i j * x := Nat.mul_pos q (by omega)
          omega
      obtain ⟨r, p1, p2⟩ := part_ex (z := z) (v := v) (x := lN (ptN P i j * x)) (a := ptN P i j * x) (b := ptN P i j * x + (ptN P 0 9 - ptN P i j) * (10 - x) + 5 * P 10) (Or.inl rfl) (by omega) hpos (by omega) hz
      refine ⟨r, σ2, ?_, ?_, ?_⟩
      · have loop : ∀ n q, i ≤ q → q ≤ j + 1 → j + 1 < q + n → fX8_trust_54 z σ2 (nI j) v n (lN (ptU P i q * x)) (nI q) = some (r, σ2) := by
          intro n
          induction n with
          | zero => intro q g0 g1 g2; omega
          | succ n ih =>
            intro q g0 g1 g2
            unfold fX8_trust_54
            by_cases hq : q = j + 1
            · subst hq
              rw [if_pos (plt j (j + 1) rfl rfl (by omega) (by omega)), s_together rfl (by omega) d2.1, bd_s, hsum, ptU_pt, p1, bd_s]
            · rw [if_neg (nlt j q rfl rfl (by omega) (by omega)), s_of rfl (by omega), bd_s, d2.1 q (by omega), bel_in (P := P) rfl g0 (by omega) hj, lN_add, ← Nat.add_mul, ← ptU_s g0 (by omega), nI_1]
              exact ih (q + 1) (by omega) (by omega) (by omega)
        have := loop z i (Nat.le_refl _) (by omega) (by omega)
        rw [ptU_0, Nat.zero_mul] at this
        rw [if_pos (plt (a := 0) 0 (sumN P 11) rfl rfl (by omega) (by omega)), b1, bd_s, d1, bd_s]
        exact this
      · rw [if_neg (neq (b := 0) (sumN P 11) 0 rfl rfl h0 (by omega) (by decide)), s9_partsIn hT.2.1 (by omega) (by omega) (by omega), bd_s, show (0 : Int32) = nI 0 from rfl, show (9 : Int32) = nI 9 from rfl, s9_partsIn hT.2.1 (by omega) (by omega) (by omega), bd_s, bd_s, show (10 : Int32) = nI 10 from rfl, gd_inb (by decide) (by decide), nI_clamp (by decide), hT.2.1.2.2.2.2.2.2 10 (by decide), show (5 : Int32) = nI 5 from rfl, pk_mul, pk_sub (by omega), pk_sub (by omega), pk_mul, pk_mul, nI_add, nI_add, nI_l (by omega), nI_l (by omega), p2, bd_s]
      · exact h.dc ((b3.dc ⟨rfl, rfl, rfl, rfl⟩).tr (d3.dc ⟨rfl, rfl, rfl, rfl⟩)) DcM.rf
/-! count -/
def cbI (w : Nat → Nat) : Nat → Int32
  | 0 => 0
  | i + 1 => if w i = 0 then cbI w i else cbI w i ||| ((1 : Int32) <<< (nI i &&& 31))
theorem s_cellBits {z : Nat} {σ : ST} {k : Nat} {c : Sc} (hk : kX k = 3) (hs : SX σ k c) (hw : ∀ j, j < 11 → c.1 j < 2 ^ 63) (hz : 12 ≤ z) : fX4_cellBits z σ k = some (cbI c.1 10) := by
  have loop : ∀ n i, i ≤ 10 → 10 < i + n → fX4_cellBits_4 z σ k n (cbI c.1 i) (nI i) = some (cbI c.1 10) := by
    intro n
    induction n with
    | zero => intro i h1 h2; omega
    | succ n ih =>
      intro i h1 h2
      unfold fX4_cellBits_4 fX4_cellBits_26
      by_cases hi : i = 10
      · subst hi
        rw [if_pos (ple (a := 10) 10 10 rfl rfl (Nat.le_refl _) (by decide))]
      · have hh := ih (i + 1) (by omega) (by omega)
        unfold cbI at hh
        have w1 := hw i (by omega)
        rw [if_neg (nle (a := 10) 10 i rfl rfl (by omega) (by decide)), s_of hk (by omega), bd_s, hs.1 i (by omega), nI_1]
        by_cases hc : c.1 i = 0
        · rw [if_pos hc] at hh
          rw [hc, if_pos (show lN 0 ≤ 0 by decide)]
          exact hh
        · rw [if_neg hc] at hh
          rw [if_neg (nleL (b := 0) (c.1 i) 0 rfl rfl (by omega) (by omega))]
          exact hh
  unfold fX4_cellBits
  rw [gd_k hk]
  exact loop z 0 (by omega) (by omega)
theorem ite_ex {α : Type} {p : Prop} [Decidable p] {a b : Option α} (ha : ∃ r, a = some r) (hb : ∃ r, b = some r) : ∃ r, (if p then a else b) = some r := by
  by_cases h : p
  · rw [if_pos h]; exact ha
  · rw [if_neg h]; exact hb
theorem op_count {z : Nat} {σ μ : ST} (hz : 30000 ≤ z) (h : Rel σ μ) (x : Int32) : ∃ r, fX8_count z σ x = some r ∧ fX9_count z μ x = some r := by
  obtain ⟨T, P, sec, L, t, c, n, A, B, hT, hs, ht, hn, ha, hb, hd⟩ := h
  have hw := fun j (hj : j < 11) => hn.2.2.w hT.2.2 hj
  have fin : ∀ n, fX9_count_4 z μ x (n + 1) (cbI c.1 10) (nI 10) = fX8_count z σ x := by
    intro n
    unfold fX9_count_4 fX8_count fX9_count_174
    rw [if_pos (ple (a := 10) 10 10 rfl rfl (Nat.le_refl _) (by decide)), s_cellBits rfl hn.1 (fun j hj => by have := hw j hj; omega) (by omega), bd_s]
    unfold fX6_size
    rw [bd_s, ht.1, ht.2.1, hT.1.1, hT.2.1.1, hT.1.2.1, hT.2.1.2.1, hT.1.2.2.1, hT.2.1.2.2.1, hT.1.2.2.2.1, hT.2.1.2.2.2.1, hT.1.2.2.2.2.2.1, hT.2.1.2.2.2.2.2.1, hn.1.2.1, hn.1.2.2.1, hn.1.2.2.2.1, ha.1, ha.2.1]
    rw [show inb (0 : Int32) 9 = true from rfl, show inb (1 : Int32) 9 = true from rfl, show inb (2 : Int32) 9 = true from rfl, gd_t, gd_t, gd_t, show (0 : Int32).toNatClampNeg = 0 from rfl, show (1 : Int32).toNatClampNeg = 1 from rfl, show (2 : Int32).toNatClampNeg = 2 from rfl]
    have m0 : μ.1 5 0 = nI (c.2 0) := hn.2.1.2.1
    have m1 : μ.1 5 1 = nI (c.2 1) := hn.2.1.2.2.1
    have m2 : μ.1 5 2 = nI (c.2 2) := hn.2.1.2.2.2.1
    rw [m0, m1, m2]
    have m3 : (if μ.1 0 8 = 0 then some (-9 : Int32) else some (μ.1 0 6)) = some (σ.1 3 6) := by
      unfold RS at hs
      cases sec with
      | none => rw [if_pos hs.2, hs.1]
      | some q =>
        simp only at hs
        rw [if_neg (by rw [hs.2.2.2.2.1]; decide), hs.1, hs.2.2.2.2.2.1]
    rw [m3]
  have loop : ∀ n i, i ≤ 10 → 10 < i + n → fX9_count_4 z μ x n (cbI c.1 i) (nI i) = fX8_count z σ x := by
    intro n
    induction n with
    | zero => intro i h1 h2; omega
    | succ n ih =>
      intro i h1 h2
      by_cases hi : i = 10
      · subst hi
        exact fin n
      · have hh := ih (i + 1) (by omega) (by omega)
        unfold cbI at hh
        have w1 := hw i (by omega)
        conv => lhs; unfold fX9_count_4
        unfold fX9_count_29
        rw [if_neg (nle (a := 10) 10 i rfl rfl (by omega) (by decide)), gd_inb (by omega) (by decide), nI_clamp (by omega), hn.w (by omega), nI_1]
        by_cases hc : c.1 i = 0
        · rw [if_pos hc] at hh
          rw [hc, if_pos (show lN 0 ≤ 0 by decide), Int32.or_zero]
          exact hh
        · rw [if_neg hc] at hh
          rw [if_neg (nleL (b := 0) (c.1 i) 0 rfl rfl (by omega) (by omega))]
          exact hh
  have e : fX9_count z μ x = fX8_count z σ x := loop z 0 (by omega) (by omega)
  have : ∃ r, fX8_count z σ x = some r := by
    unfold fX8_count
    rw [s_cellBits rfl hn.1 (fun j hj => by have := hw j hj; omega) (by omega), bd_s]
    unfold fX6_size
    rw [bd_s]
    exact ite_ex ⟨_, rfl⟩ (ite_ex ⟨_, rfl⟩ (ite_ex ⟨_, rfl⟩ (ite_ex ⟨_, rfl⟩ (ite_ex ⟨_, rfl⟩ (ite_ex ⟨_, rfl⟩ (ite_ex ⟨_, rfl⟩ (ite_ex ⟨_, rfl⟩ (ite_ex ⟨_, rfl⟩ (ite_ex ⟨_, rfl⟩ (ite_ex ⟨_, rfl⟩ (ite_ex ⟨_, rfl⟩ ⟨_, rfl⟩)))))))))))
  obtain ⟨r, hr⟩ := this
  exact ⟨r, hr, e.trans hr⟩

/-! ===== what was told, what is asked ===== -/
theorem s_isWithin {z : Nat} {x a b : Int32} : fX8_isWithin z x a b = some (if x < a then 0 else if b < x then 0 else 1) := by
  unfold fX8_isWithin fX8_isWithin_14 fX8_isWithin_15
  by_cases h1 : x < a
  · rw [if_pos h1, if_pos h1]; rfl
  · rw [if_neg h1, if_neg h1]
    by_cases h2 : b < x
    · rw [if_pos h2, if_pos h2]; rfl
    · rw [if_neg h2, if_neg h2]; rfl
theorem s_isWithinN {z x a b : Nat} (hx : x < 2 ^ 31) (ha : a < 2 ^ 31) (hb : b < 2 ^ 31) : fX8_isWithin z (nI x) (nI a) (nI b) = some (if a ≤ x ∧ x ≤ b then 1 else 0) := by
  rw [s_isWithin]
  by_cases h1 : x < a
  · rw [if_pos (plt x a rfl rfl h1 ha), if_neg (by omega)]
  · rw [if_neg (nlt x a rfl rfl (by omega) hx)]
    by_cases h2 : b < x
    · rw [if_pos (plt b x rfl rfl h2 hx), if_neg (by omega)]
    · rw [if_neg (nlt b x rfl rfl (by omega) hb), if_pos (by omega)]
theorem s_partAt {z : Nat} {σ : ST} {T P : Nat → Nat} {i : Nat} (ht : TX σ T P) (hi : i < 11) : fX7_partAt z σ (nI i) = some (nI (P i)) := by
  unfold fX7_partAt fX7_partAt_23
  rw [if_neg (nI_pos (by omega)), if_neg (nle (a := 11) 11 i rfl rfl hi (by decide)), gd_inb hi (by decide), nI_clamp (by omega), ht.2.2.2.2.2.2 i hi]
/-- the parts from a to b -/
def ptN (P : Nat → Nat) (a b : Nat) : Nat := sumN (fun j => if a ≤ j ∧ j ≤ b then P j else 0) 11
theorem s_partsFrom {z : Nat} {σ : ST} {T P : Nat → Nat} {a b : Nat} (ht : TX σ T P) (ha : a < 2 ^ 31) (hb : b < 2 ^ 31) (hz : 12 ≤ z) : fX7_partsFrom z σ (nI a) (nI b) = some (nI (ptN P a b)) := by
  have loop : ∀ n i, i ≤ 11 → 11 < i + n → fX7_partsFrom_5 z σ (nI a) (nI b) n (nI (sumN (fun j => if a ≤ j ∧ j ≤ b then P j else 0) i)) (nI i) = some (nI (ptN P a b)) := by
    intro n
    induction n with
    | zero => intro i h1 h2; omega
    | succ n ih =>
      intro i h1 h2
      unfold fX7_partsFrom_5
      by_cases hi : i = 11
      · subst hi
        rw [if_pos (ple (a := 11) 11 11 rfl rfl (Nat.le_refl _) (by decide))]; rfl
      · have hh := ih (i + 1) (by omega) (by omega)
        rw [if_neg (nle (a := 11) 11 i rfl rfl (by omega) (by decide)), s_isWithinN (by omega) ha hb, bd_s]
        unfold fX7_partsFrom_31
        rw [nI_1]
        rw [sumN] at hh
        by_cases hc : a ≤ i ∧ i ≤ b
        · rw [if_pos hc] at hh
          rw [if_pos hc, if_neg (by decide), s_partAt ht (by omega), bd_s, nI_add]
          exact hh
        · rw [if_neg hc, Nat.add_zero] at hh
          rw [if_neg hc, if_pos rfl]
          exact hh
  exact loop z 0 (by omega) (by omega)
theorem ptN_all {P : Nat → Nat} : ptN P 0 10 = sumN P 11 := sumN_congr (fun j hj => if_pos ⟨Nat.zero_le _, by omega⟩)
theorem s_allParts {z : Nat} {σ : ST} {T P : Nat → Nat} (ht : TX σ T P) (hz : 12 ≤ z) : fX7_allParts z σ = some (nI (sumN P 11)) := by
  unfold fX7_allParts
  rw [show (0 : Int32) = nI 0 from rfl, show (10 : Int32) = nI 10 from rfl, s_partsFrom ht (by decide) (by decide) hz, bd_s, ptN_all]
theorem sumN_bound {w : Nat → Nat} {n c : Nat} (h : ∀ j, j < n → w j ≤ c) : sumN w n ≤ n * c := by
  induction n with
  | zero => simp [sumN]
  | succ n ih =>
    have h1 := ih (fun j hj => h j (by omega))
    have h2 := h n (by omega)
    rw [sumN, Nat.succ_mul]
    omega
theorem parts_le {T P : Nat → Nat} (h : TI T P) : sumN P 11 ≤ 99 := sumN_bound h.2.2.2.2.2.2.2.2
/-- a fresh scene -/
def bgN (T P : Nat → Nat) : Sc := (P, fun j => if j = 0 then T 4 else 0)
theorem a_begin {z : Nat} {σ : ST} {k : Nat} {T P : Nat → Nat} (hk : kX k = 3) (ht : TX σ T P) (hi : TI T P) (hz : 12 ≤ z) : ∃ σ', fX4_begin z σ k = some σ' ∧ SX σ' k (bgN T P) ∧ FrS σ σ' k := by
  have h3 : (3 : Nat) ≠ k := (sc_ne hk (by decide : kX 3 ≠ 3 ∧ kX 3 ≠ 12 ∧ kX 3 ≠ 13)).1
  have loop : ∀ n i, i ≤ 11 → 11 < i + n → fX4_begin_2 z k n (regL σ (k + 1) 0 i (fun j => lN (P j))) (nI i) = some (pI (pI (pI (regL σ (k + 1) 0 11 (fun j => lN (P j))) k 3 (nI (T 4))) k 4 0) k 5 0) := by
    intro n
    induction n with
    | zero => intro i h1 h2; omega
    | succ n ih =>
      intro i h1 h2
      unfold fX4_begin_2
      by_cases hi : i = 11
      · subst hi
        rw [if_pos (ple (a := 11) 11 11 rfl rfl (Nat.le_refl _) (by decide)), lt_r, lt_r, lt_r, regL_1, ht.2.2.2.2.1]
      · have ht2 : TX (regL σ (k + 1) 0 i (fun j => lN (P j))) T P := ht
        have hP := hi
        have hp9 := (‹TI T P›).2.2.2.2.2.2.2.2 i (by omega)
        rw [if_neg (nle (a := 11) 11 i rfl rfl (by omega) (by decide)), s_partAt ht2 (by omega), bd_s, gd_inb (by omega) (by decide), nI_clamp (by omega), lt_r, nI_1, nI_l (by omega)]
        have hh := ih (i + 1) (by omega) (by omega)
        rw [← regL_s0] at hh
        exact hh
  have e := loop z 0 (by omega) (by omega)
  rw [regL_0] at e
  refine ⟨_, by unfold fX4_begin; rw [gd_k hk]; exact e, ?_, fun q q0 q1 q2 q3 => ?_⟩
  · refine ⟨fun j hj => ?_, ?_, ?_, ?_, fun w h1 h2 => ?_⟩
    · rw [pI_2, pI_2, pI_2, regL_in (Nat.zero_le _) (by omega), Nat.sub_zero]; rfl
    · rw [pI_nj (by decide), pI_nj (by decide), pI_at]; rfl
    · rw [pI_nj (by decide), pI_at]; rfl
    · rw [pI_at]; rfl
    · exact absurd h2 (Nat.not_lt_zero _)
  · exact ⟨by rw [pI_n q0, pI_n q0, pI_n q0, regL_1], by rw [pI_2, pI_2, pI_2, regL_ne q1]⟩
/-- a witness is believed -/
def blN (c : Sc) (i j x : Nat) : Sc := (fun q => if q = 10 then c.1 10 * 5 else if i ≤ q ∧ q ≤ j then c.1 q * x else c.1 q * (10 - x), fun q => if q = 2 then c.2 2 + 1 else if q = 3 + 2 * c.2 2 then i else if q = 4 + 2 * c.2 2 then j else c.2 q)
theorem a_believe {z : Nat} {σ : ST} {k i j x : Nat} {c : Sc} (hk : kX k = 3) (hs : SX σ k c) (hi : i ≤ 9) (hj : j ≤ 9) (hx : x ≤ 9) (hc : c.2 2 < 2) (hz : 12 ≤ z) : ∃ σ', fX4_believe z σ k (nI i) (nI j) (nI x) = some σ' ∧ SX σ' k (blN c i j x) ∧ FrS σ σ' k := by
  have loop : ∀ n q, q ≤ 11 → 11 < q + n → fX4_believe_3 z k (nI i) (nI j) (nI x) n (regL σ (k + 1) 0 q (fun r => lN ((blN c i j x).1 r))) (nI q) = some (pI (pI (pI (regL σ (k + 1) 0 11 (fun r => lN ((blN c i j x).1 r))) (k + 2) (c.2 2) (nI i)) (k + 3) (c.2 2) (nI j)) k 5 (nI (c.2 2 + 1))) := by
    intro n
    induction n with
    | zero => intro q h1 h2; omega
    | succ n ih =>
      intro q h1 h2
      unfold fX4_believe_3
      by_cases hq : q = 11
      · subst hq
        rw [if_pos (ple (a := 11) 11 11 rfl rfl (Nat.le_refl _) (by decide)), regL_1, hs.2.2.2.1, if_neg (nI_pos (by omega)), if_neg (nle (a := 2) 2 (c.2 2) rfl rfl hc (by decide)), if_neg (nle (a := 2) 2 (c.2 2) rfl rfl hc (by decide)), gd_inb hc (by decide), nI_clamp (by omega), lt_r, pI_n (by omega), regL_1, hs.2.2.2.1, gd_inb hc (by decide), nI_clamp (by omega), lt_r, pI_n (by omega), pI_n (by omega), regL_1, hs.2.2.2.1, show (1 : Int32) = nI 1 from rfl, nI_add, lt_r]
        rfl
      · have hh := ih (q + 1) (by omega) (by omega)
        rw [← regL_s0] at hh
        rw [if_neg (nle (a := 11) 11 q rfl rfl (by omega) (by decide))]
        by_cases h10 : q = 10
        · subst h10
          rw [if_pos (peq (b := 10) 10 10 rfl rfl rfl), gd_inb (by decide) (by decide), gd_inb (by decide) (by decide), nI_clamp (by decide), lt_r, regL_out (Or.inr (by omega)), hs.1 10 (by omega), show (5 : Int64) = lN 5 from rfl, lN_mul]
          unfold fX4_believe_66
          rw [nI_1]
          exact hh
        · have hv : (blN c i j x).1 q = if i ≤ q ∧ q ≤ j then c.1 q * x else c.1 q * (10 - x) := by
            unfold blN
            exact if_neg h10
          rw [hv] at hh
          rw [if_neg (neq (b := 10) q 10 rfl rfl h10 (by omega) (by omega)), gd_inb (by omega) (by decide), s_isWithinN (by omega) (by omega) (by omega), bd_s, nI_clamp (by omega), regL_out (Or.inr (by omega)), hs.1 q (by omega)]
          unfold fX4_believe_64 fX4_believe_66
          rw [gd_inb (by omega) (by decide), gd_inb (by omega) (by decide), nI_clamp (by omega), lt_r, lt_r, nI_1]
          by_cases hcnd : i ≤ q ∧ q ≤ j
          · rw [if_pos hcnd] at hh
            rw [if_pos hcnd, if_neg (by decide), nI_l (by omega), lN_mul]
            exact hh
          · rw [if_neg hcnd] at hh
            rw [if_neg hcnd, if_pos rfl, show (10 : Int32) = nI 10 from rfl, pk_sub (by omega), nI_l (by omega), lN_mul]
            exact hh
  have e := loop z 0 (by omega) (by omega)
  rw [regL_0] at e
  refine ⟨_, by unfold fX4_believe; rw [gd_k hk]; exact e, ?_, fun q q0 q1 q2 q3 => ?_⟩
  · refine ⟨fun r hr => ?_, ?_, ?_, ?_, fun w h1 h2 => ?_⟩
    · rw [pI_2, pI_2, pI_2, regL_in (Nat.zero_le _) (by omega), Nat.sub_zero]
    · rw [pI_nj (by decide), pI_n (by omega), pI_n (by omega), regL_1, hs.2.1]
      show nI (c.2 0) = nI (if (0 : Nat) = 2 then c.2 2 + 1 else if 0 = 3 + 2 * c.2 2 then i else if 0 = 4 + 2 * c.2 2 then j else c.2 0)
      rw [if_neg (by decide), if_neg (by omega), if_neg (by omega)]
    · rw [pI_nj (by decide), pI_n (by omega), pI_n (by omega), regL_1, hs.2.2.1]
      show nI (c.2 1) = nI (if (1 : Nat) = 2 then c.2 2 + 1 else if 1 = 3 + 2 * c.2 2 then i else if 1 = 4 + 2 * c.2 2 then j else c.2 1)
      rw [if_neg (by decide), if_neg (by omega), if_neg (by omega)]
    · rw [pI_at]; rfl
    · have h2 : w < c.2 2 + 1 := h2
      have v3 : (blN c i j x).2 (3 + 2 * w) = if w = c.2 2 then i else c.2 (3 + 2 * w) := by
        show (if 3 + 2 * w = 2 then c.2 2 + 1 else if 3 + 2 * w = 3 + 2 * c.2 2 then i else if 3 + 2 * w = 4 + 2 * c.2 2 then j else c.2 (3 + 2 * w)) = _
        rw [if_neg (by omega)]
        by_cases hw : w = c.2 2
        · rw [if_pos hw, if_pos (by omega)]
        · rw [if_neg hw, if_neg (by omega), if_neg (by omega)]
      have v4 : (blN c i j x).2 (4 + 2 * w) = if w = c.2 2 then j else c.2 (4 + 2 * w) := by
        show (if 4 + 2 * w = 2 then c.2 2 + 1 else if 4 + 2 * w = 3 + 2 * c.2 2 then i else if 4 + 2 * w = 4 + 2 * c.2 2 then j else c.2 (4 + 2 * w)) = _
        rw [if_neg (by omega), if_neg (by omega)]
        by_cases hw : w = c.2 2
        · rw [if_pos hw, if_pos (by omega)]
        · rw [if_neg hw, if_neg (by omega)]
      rw [v3, v4]
      constructor
      · rw [pI_n (by omega), pI_n (by omega)]
        by_cases hw : w = c.2 2
        · rw [if_pos hw, hw, pI_at]
        · rw [if_neg hw, pI_nj hw, regL_1]
          exact (hs.2.2.2.2 w h1 (by omega)).1
      · rw [pI_n (by omega)]
        by_cases hw : w = c.2 2
        · rw [if_pos hw, hw, pI_at]
        · rw [if_neg hw, pI_nj hw, pI_n (by omega), regL_1]
          exact (hs.2.2.2.2 w h1 (by omega)).2
  · exact ⟨by rw [pI_n q0, pI_n q3, pI_n q2, regL_1], by rw [pI_2, pI_2, pI_2, regL_ne q1]⟩

/-! ===== acts ===== -/
theorem RM.cp {μ μ' : ST} {wa wo na no wa2 wo2 na2 no2 : Nat} {c : Sc} (h : RM μ wa wo na no c) (e1 : ∀ j, j < 11 → μ'.2 wa2 (wo2 + j) = μ.2 wa (wo + j)) (e2 : ∀ j, j < 9 → μ'.1 na2 (no2 + j) = μ.1 na (no + j)) : RM μ' wa2 wo2 na2 no2 c := by
  refine ⟨fun j hj => (e1 j hj).trans (h.1 j hj), (e2 0 (by omega)).trans h.2.1, (e2 1 (by omega)).trans h.2.2.1, (e2 2 (by omega)).trans h.2.2.2.1, fun w h1 h2 => ?_⟩
  have g := h.2.2.2.2 w h1 h2
  refine ⟨?_, ?_⟩
  · have := e2 (3 + 3 * w) (by omega)
    rw [← Nat.add_assoc, ← Nat.add_assoc] at this
    exact this.trans g.1
  · have := e2 (4 + 3 * w) (by omega)
    rw [← Nat.add_assoc, ← Nat.add_assoc] at this
    exact this.trans g.2
theorem s_at {z : Nat} {σ : ST} {k i : Nat} (hk : kX k = 4) (hi : i < rl (k + 1)) (hr : rl (k + 1) ≤ 8) : fX5_at z σ k (nI i) = some (some (k + 1 + 1 + 4 * i)) := by
  unfold fX5_at fX5_at_23
  rw [gd_k hk, if_neg (nI_pos (by omega)), if_neg (show ¬ Int32.ofNat (rl (k + 1)) ≤ nI i from nI_ge hi (by omega)), gd_inb hi (by omega), nI_clamp (by omega)]
theorem a_put {z : Nat} {σ : ST} {k i : Nat} {c : Sc} (hk : kX k = 4) (hi : i < rl (k + 1)) (hr : rl (k + 1) ≤ 8) (h3 : kX (k + 1 + 1 + 4 * i) = 3) (hn : k + 1 + 1 + 4 * i ≠ 5) (hs : SX σ 5 c) (hz : 12 ≤ z) : ∃ σ', fX5_put z σ k (nI i) 5 = some σ' ∧ SX σ' (k + 1 + 1 + 4 * i) c ∧ FrS σ σ' (k + 1 + 1 + 4 * i) := by
  obtain ⟨σ', e, s, f⟩ := a_copy (z := z) (k := k + 1 + 1 + 4 * i) (k2 := 5) h3 rfl hn hs hz
  refine ⟨σ', ?_, s, f⟩
  unfold fX5_put fX5_put_15
  rw [gd_k hk, gd_k (show kX 5 = 3 from rfl), s_at hk hi hr, bd_s, nl_s, gd_k h3, e, bd_s]
theorem a_give {z : Nat} {σ : ST} {k i : Nat} {c : Sc} (hk : kX k = 4) (hi : i < rl (k + 1)) (hr : rl (k + 1) ≤ 8) (h3 : kX (k + 1 + 1 + 4 * i) = 3) (hn : 5 ≠ k + 1 + 1 + 4 * i) (hs : SX σ (k + 1 + 1 + 4 * i) c) (hz : 12 ≤ z) : ∃ σ', fX5_give z σ k (nI i) 5 = some σ' ∧ SX σ' 5 c ∧ FrS σ σ' 5 := by
  obtain ⟨σ', e, s, f⟩ := a_copy (z := z) (k := 5) (k2 := k + 1 + 1 + 4 * i) rfl h3 hn hs hz
  refine ⟨σ', ?_, s, f⟩
  unfold fX5_give fX5_give_15
  rw [gd_k hk, gd_k (show kX 5 = 3 from rfl), s_at hk hi hr, bd_s, nl_s, gd_k h3, e, bd_s]
theorem k_acts : ∀ n, n < 8 → kX (15 + 4 * n) = 3 := by decide
theorem k_slots : ∀ n, n < 2 → kX (49 + 4 * n) = 3 := by decide
/-! the reference's copies -/
theorem ix9b (m i : Nat) : ((9 : Int32) * nI m) + nI i = nI (9 * m + i) := by rw [show (9 : Int32) = nI 9 from rfl, pk_mul, nI_add]
theorem s9_keepAct {z : Nat} {μ : ST} {n : Nat} (hn : μ.1 0 21 = nI n) (hle : n ≤ 8) (hz : 13 ≤ z) : fX9_keepAct z μ = some (pI (regI (regL μ 8 (11 * n) 11 (μ.2 4)) 9 (9 * n) 9 (μ.1 5)) 0 21 (nI (n + 1))) := by
  have l36 : ∀ S : ST, S.1 = μ.1 → ∀ m i, i ≤ 9 → 9 < i + m → fX9_keepAct_36 z m (regI S 9 (9 * n) i (μ.1 5)) (nI i) = some (pI (regI S 9 (9 * n) 9 (μ.1 5)) 0 21 (nI (n + 1))) := by
    intro S hS m
    induction m with
    | zero => intro i h1 h2; omega
    | succ m ih =>
      intro i h1 h2
      have e0 : ∀ i, (regI S 9 (9 * n) i (μ.1 5)).1 0 21 = nI n := fun i => by rw [regI_ne (by decide), hS, hn]
      have e5 : ∀ i, (regI S 9 (9 * n) i (μ.1 5)).1 5 = μ.1 5 := fun i => by rw [regI_ne (by decide), hS]
      unfold fX9_keepAct_36
      by_cases hi : i = 9
      · subst hi
        rw [if_pos (ple (a := 9) 9 9 rfl rfl (Nat.le_refl _) (by decide)), e0, lt_r, nI_1]
      · rw [if_neg (nle (a := 9) 9 i rfl rfl (by omega) (by decide)), e0, e5, ix9b, gd_inb (by omega) (by decide), gd_inb (by omega) (by decide), nI_clamp (by omega), nI_clamp (by omega), lt_r, regI_s, nI_1]
        exact ih (i + 1) (by omega) (by omega)
  have l2 : ∀ m i, i ≤ 11 → 11 < i + m → fX9_keepAct_2 z m (regL μ 8 (11 * n) i (μ.2 4)) (nI i) = some (pI (regI (regL μ 8 (11 * n) 11 (μ.2 4)) 9 (9 * n) 9 (μ.1 5)) 0 21 (nI (n + 1))) := by
    intro m
    induction m with
    | zero => intro i h1 h2; omega
    | succ m ih =>
      intro i h1 h2
      unfold fX9_keepAct_2
      by_cases hi : i = 11
      · subst hi
        rw [if_pos (ple (a := 11) 11 11 rfl rfl (Nat.le_refl _) (by decide))]
        have := l36 (regL μ 8 (11 * n) 11 (μ.2 4)) rfl z 0 (by omega) (by omega)
        rw [regI_0] at this
        exact this
      · rw [if_neg (nle (a := 11) 11 i rfl rfl (by omega) (by decide)), regL_1, hn, ix9, regL_ne (by decide), gd_inb (by omega) (by decide), gd_inb (by omega) (by decide), nI_clamp (by omega), nI_clamp (by omega), lt_r, regL_s, nI_1]
        exact ih (i + 1) (by omega) (by omega)
  have := l2 z 0 (by omega) (by omega)
  rw [regL_0] at this
  exact this
/-! the sums stay in bounds -/
theorem sum_lk {T : Nat → Nat} {c : Sc} {f : Nat} : sumN (lkN T c f).1 11 ≤ sumN c.1 11 * 10 := by
  rw [← sumN_mul]
  refine sumN_le (fun j _ => ?_)
  show c.1 j * (if j = plN c f then 10 - chN T (plN c f) else 10) ≤ c.1 j * 10
  refine Nat.mul_le_mul_left _ ?_
  split <;> omega
theorem sum_ps {T P w : Nat → Nat} {d : Bool} (hi : TI T P) : sumN (psN T d w) 11 ≤ sumN w 11 * 10 := by
  cases d with
  | true =>
    have e : sumN (psN T true w) 11 = w 10 * 10 := by simp [sumN, psN]
    have := sumN_mem (w := w) (n := 11) (j := 10) (by decide)
    rw [e]
    exact Nat.mul_le_mul_right _ this
  | false =>
    have h1 := hi.1
    obtain ⟨s, hs⟩ : ∃ s, s = 10 - T 0 - T 1 := ⟨_, rfl⟩
    have key : ∀ x : Nat, x * s + x * T 0 + x * T 1 = x * 10 := fun x => by rw [← Nat.mul_add, ← Nat.mul_add]; congr 1; omega
    have k0 := key (w 0); have k1 := key (w 1); have k2 := key (w 2); have k3 := key (w 3); have k4 := key (w 4)
    have k5 := key (w 5); have k6 := key (w 6); have k7 := key (w 7); have k8 := key (w 8); have k9 := key (w 9)
    simp only [sumN, psN, stN, ← hs]
    simp [Nat.mul_add, Nat.add_mul]
    omega
theorem ac_q {T : Nat → Nat} {c : Sc} {f j : Nat} (h : 2 ≤ j) : (acN T c f).2 j = c.2 j := by
  show (if j = 1 then _ else if j = 0 then _ else c.2 j) = _
  rw [if_neg (by omega), if_neg (by omega)]
theorem CI.act {T P : Nat → Nat} {c : Sc} {f : Nat} (h : CI T c) (hi : TI T P) (hs : c.2 1 < T 5) : CI T (acN T c f) := by
  obtain ⟨h1, h2, h3, h4, h5⟩ := h
  refine ⟨mvN_le h1, hs, h3, fun w hw1 hw2 => by rw [ac_q (by omega), ac_q (by omega)]; exact h4 w hw1 hw2, ?_⟩
  have e1 := sum_lk (T := T) (c := c) (f := f)
  have e2 := sum_ps (T := T) (w := (lkN T c f).1) (d := decide (T 5 ≤ (lkN T c f).2 1 + 1)) hi
  have e3 : (acN T c f).1 = psN T (decide (T 5 ≤ (lkN T c f).2 1 + 1)) (lkN T c f).1 := rfl
  have e4 : (99 * 10 ^ c.2 2 * 100 ^ (c.2 1 + 1)) = (99 * 10 ^ c.2 2 * 100 ^ c.2 1) * 100 := by
    rw [Nat.pow_succ]
    exact (Nat.mul_assoc _ _ _).symm
  show sumN (acN T c f).1 11 ≤ 99 * 10 ^ c.2 2 * 100 ^ (c.2 1 + 1)
  rw [e3, e4]
  omega
theorem CI.bel {T : Nat → Nat} {c : Sc} {i j x : Nat} (h : CI T c) (hh : c.2 2 < 2) (hij : i ≤ j) (hj : j ≤ 9) (hx : x ≤ 9) : CI T (blN c i j x) := by
  obtain ⟨h1, h2, h3, h4, h5⟩ := h
  have v0 : (blN c i j x).2 0 = c.2 0 := by
    show (if (0 : Nat) = 2 then c.2 2 + 1 else if 0 = 3 + 2 * c.2 2 then i else if 0 = 4 + 2 * c.2 2 then j else c.2 0) = _
    rw [if_neg (by decide), if_neg (by omega), if_neg (by omega)]
  have v1 : (blN c i j x).2 1 = c.2 1 := by
    show (if (1 : Nat) = 2 then c.2 2 + 1 else if 1 = 3 + 2 * c.2 2 then i else if 1 = 4 + 2 * c.2 2 then j else c.2 1) = _
    rw [if_neg (by decide), if_neg (by omega), if_neg (by omega)]
  have v2 : (blN c i j x).2 2 = c.2 2 + 1 := rfl
  refine ⟨by rw [v0]; exact h1, by rw [v1]; exact h2, by rw [v2]; omega, fun w hw1 hw2 => ?_, ?_⟩
  · rw [v2] at hw2
    have v3 : (blN c i j x).2 (3 + 2 * w) = if w = c.2 2 then i else c.2 (3 + 2 * w) := by
      show (if 3 + 2 * w = 2 then c.2 2 + 1 else if 3 + 2 * w = 3 + 2 * c.2 2 then i else if 3 + 2 * w = 4 + 2 * c.2 2 then j else c.2 (3 + 2 * w)) = _
      rw [if_neg (by omega)]
      by_cases hw : w = c.2 2
      · rw [if_pos hw, if_pos (by omega)]
      · rw [if_neg hw, if_neg (by omega), if_neg (by omega)]
    have v4 : (blN c i j x).2 (4 + 2 * w) = if w = c.2 2 then j else c.2 (4 + 2 * w) := by
      show (if 4 + 2 * w = 2 then c.2 2 + 1 else if 4 + 2 * w = 3 + 2 * c.2 2 then i else if 4 + 2 * w = 4 + 2 * c.2 2 then j else c.2 (4 + 2 * w)) = _
      rw [if_neg (by omega), if_neg (by omega)]
      by_cases hw : w = c.2 2
      · rw [if_pos hw, if_pos (by omega)]
      · rw [if_neg hw, if_neg (by omega)]
    rw [v3, v4]
    by_cases hw : w = c.2 2
    · rw [if_pos hw, if_pos hw]; omega
    · rw [if_neg hw, if_neg hw]; exact h4 w hw1 (by omega)
  · rw [v1, v2]
    have e : sumN (blN c i j x).1 11 ≤ sumN c.1 11 * 10 := by
      rw [← sumN_mul]
      refine sumN_le (fun q _ => ?_)
      show (if q = 10 then c.1 10 * 5 else if i ≤ q ∧ q ≤ j then c.1 q * x else c.1 q * (10 - x)) ≤ c.1 q * 10
      split
      · rename_i hq; rw [hq]; omega
      · split
        · exact Nat.mul_le_mul_left _ (by omega)
        · exact Nat.mul_le_mul_left _ (by omega)
    have e4 : 99 * 10 ^ (c.2 2 + 1) * 100 ^ c.2 1 = (99 * 10 ^ c.2 2 * 100 ^ c.2 1) * 10 := by
      rw [Nat.pow_succ]
      simp only [Nat.mul_assoc, Nat.mul_comm, Nat.mul_left_comm]
    rw [e4]
    omega
/-- an act more in the row -/
theorem Rel.act {σ σ' μ μ' : ST} {T P : Nat → Nat} {sec : Option (Nat × Nat)} {L : Nat} {t : Nat → Nat} {c c' : Sc} {n : Nat} {A : Nat → Sc} {B : Nat → Option Sc} (hT : RT σ μ T P) (hs : RS σ μ sec) (ht : RX σ μ L t) (hn : RN σ μ T c) (ha : RA σ μ T c n A) (hb : RB σ μ T B) (hd : RD σ μ) (hn8 : n < 8)
    (hx : ∀ q, q ≠ 0 → ¬ (5 ≤ q ∧ q ≤ 8) → ¬ (15 + 4 * n ≤ q ∧ q ≤ 15 + 4 * n + 3) → σ'.1 q = σ.1 q ∧ σ'.2 q = σ.2 q) (hx0 : σ'.1 0 8 = σ.1 0 8)
    (m1 : ∀ q, q ≠ 0 → q ≠ 5 → q ≠ 9 → μ'.1 q = μ.1 q) (m2 : ∀ j, j ≠ 21 → μ'.1 0 j = μ.1 0 j) (m3 : ∀ j, j < 9 * n ∨ 9 * n + 9 ≤ j → μ'.1 9 j = μ.1 9 j) (m4 : ∀ q, q ≠ 4 → q ≠ 7 → q ≠ 8 → μ'.2 q = μ.2 q) (m5 : ∀ j, j < 11 * n ∨ 11 * n + 11 ≤ j → μ'.2 8 j = μ.2 8 j)
    (hc : RN σ' μ' T c') (hcp : SX σ' (15 + 4 * n) c ∧ RM μ' 8 (11 * n) 9 (9 * n) c) (e1 : σ'.1 0 9 = nI (n + 1)) (e2 : μ'.1 0 21 = nI (n + 1)) (hsum : c.2 1 + c.2 2 + 1 = c'.2 1 + c'.2 2) : Rel σ' μ' := by
  obtain ⟨h1, h2, h3⟩ := hT
  obtain ⟨a1, a2, a3, a4⟩ := ha
  obtain ⟨b1, b2⟩ := hb
  refine ⟨T, P, sec, L, t, c', n + 1, fun k => if k = n then c else A k, B, ⟨h1.eq (hx 3 (by decide) (by omega) (by omega)).1 (hx 4 (by decide) (by omega) (by omega)).1, h2.eq (fun j hj => m2 j (by omega)) (m1 1 (by decide) (by decide) (by decide)), h3⟩, hs.eq (hx 3 (by decide) (by omega) (by omega)).1 (fun j _ _ => m2 j (by omega)), ht.eq (by rw [(hx 1 (by decide) (by omega) (by omega)).1]) (hx 2 (by decide) (by omega) (by omega)).1 (m2 17 (by decide)) (m1 6 (by decide) (by decide) (by decide)), hc, ⟨e1, e2, by omega, fun k hk => ?_⟩, ⟨by rw [hx0]; exact b1, fun s hs2 => ?_⟩, ?_⟩
  · by_cases hkn : k = n
    · subst hkn
      simp only [if_true]
      exact ⟨hcp.1, hcp.2, hn.2.2, a3⟩
    · simp only [hkn, if_false]
      obtain ⟨g1, g2, g3, g4⟩ := a4 k (by omega)
      refine ⟨g1.eq (hx _ (by omega) (by omega) (by omega)).1 (hx _ (by omega) (by omega) (by omega)).2 (hx _ (by omega) (by omega) (by omega)).1 (hx _ (by omega) (by omega) (by omega)).1, g2.cp (fun j hj => m5 _ (by omega)) (fun j hj => m3 _ (by omega)), g3, g4⟩
  · obtain ⟨g1, g2⟩ := b2 s hs2
    refine ⟨by rw [m1 10 (by decide) (by decide) (by decide)]; exact g1, fun d hd => ?_⟩
    obtain ⟨k1, k2, k3⟩ := g2 d hd
    exact ⟨k1.eq (hx _ (by omega) (by omega) (by omega)).1 (hx _ (by omega) (by omega) (by omega)).2 (hx _ (by omega) (by omega) (by omega)).1 (hx _ (by omega) (by omega) (by omega)).1, k2.cp (fun j _ => by rw [m4 11 (by decide) (by decide) (by decide)]) (fun j _ => by rw [m1 12 (by decide) (by decide) (by decide)]), k3⟩
  · unfold RD at *
    rw [(hx 79 (by decide) (by omega) (by omega)).2, m4 0 (by decide) (by decide) (by decide)]
    exact hd
/-- a scene is remembered: both sides -/
theorem a_remember {z : Nat} {σ μ : ST} {T : Nat → Nat} {c : Sc} {n : Nat} {A : Nat → Sc} (hn : RN σ μ T c) (ha : RA σ μ T c n A) (hn8 : n < 8) (hz : 13 ≤ z) : ∃ σ' μ', fX8_remember z σ = some σ' ∧ fX9_keepAct z μ = some μ' ∧ SX σ' (15 + 4 * n) c ∧ RM μ' 8 (11 * n) 9 (9 * n) c ∧ σ'.1 0 9 = nI (n + 1) ∧ μ'.1 0 21 = nI (n + 1) ∧ SX σ' 5 c ∧ RM μ' 4 0 5 0 c
    ∧ (∀ q, q ≠ 0 → ¬ (15 + 4 * n ≤ q ∧ q ≤ 15 + 4 * n + 3) → σ'.1 q = σ.1 q ∧ σ'.2 q = σ.2 q) ∧ σ'.1 0 8 = σ.1 0 8
    ∧ (∀ q, q ≠ 0 → q ≠ 9 → μ'.1 q = μ.1 q) ∧ (∀ j, j ≠ 21 → μ'.1 0 j = μ.1 0 j) ∧ (∀ j, j < 9 * n ∨ 9 * n + 9 ≤ j → μ'.1 9 j = μ.1 9 j) ∧ (∀ q, q ≠ 8 → μ'.2 q = μ.2 q) ∧ (∀ j, j < 11 * n ∨ 11 * n + 11 ≤ j → μ'.2 8 j = μ.2 8 j) := by
  have h3 := k_acts n hn8
  have hr : rl (13 + 1) = 8 := rfl
  have ek : 13 + 1 + 1 + 4 * n = 15 + 4 * n := by omega
  obtain ⟨σ1, e1, s1, f1⟩ := a_put (z := z) (σ := σ) (k := 13) (i := n) rfl (by rw [hr]; exact hn8) (by rw [hr]; exact Nat.le_refl _) (by rw [ek]; exact h3) (by omega) hn.1 (by omega)
  rw [ek] at s1 f1
  have z0 : σ1.1 0 = σ.1 0 := (f1 0 (by omega) (by omega) (by omega) (by omega)).1
  refine ⟨pI σ1 0 9 (nI (n + 1)), _, ?_, s9_keepAct ha.2.1 (by omega) hz, ?_, ?_, ?_, ?_, ?_, ?_, ?_, ?_, ?_, ?_, ?_, ?_, ?_⟩
  · unfold fX8_remember
    rw [ha.1, e1, bd_s, lt_r, z0, ha.1, nI_1]
  · exact s1.eq (pI_n (by omega)) rfl (pI_n (by omega)) (pI_n (by omega))
  · refine hn.2.1.cp (fun j hj => ?_) (fun j hj => ?_)
    · rw [pI_2, regI_2, regL_in (by omega) (by omega), Nat.add_sub_cancel_left, Nat.zero_add]
    · rw [pI_n (by decide), regI_in (by omega) (by omega), Nat.add_sub_cancel_left, Nat.zero_add]
  · exact pI_at
  · exact pI_at
  · refine SX.eq (σ := σ) hn.1 ?_ ?_ ?_ ?_
    · rw [pI_n (by decide)]; exact (f1 5 (by omega) (by omega) (by omega) (by omega)).1
    · rw [pI_2]; exact (f1 6 (by omega) (by omega) (by omega) (by omega)).2
    · rw [pI_n (by decide)]; exact (f1 7 (by omega) (by omega) (by omega) (by omega)).1
    · rw [pI_n (by decide)]; exact (f1 8 (by omega) (by omega) (by omega) (by omega)).1
  · refine hn.2.1.cp (fun j hj => ?_) (fun j hj => ?_)
    · rw [pI_2, regI_2, regL_ne (by decide)]
    · rw [pI_n (by decide), regI_ne (by decide), regL_1]
  · intro q q0 q1
    have := f1 q (by omega) (by omega) (by omega) (by omega)
    exact ⟨(pI_n q0).trans this.1, this.2⟩
  · rw [pI_nj (by decide), z0]
  · intro q q0 q9
    rw [pI_n q0, regI_ne q9, regL_1]
  · intro j hj
    rw [pI_nj hj, regI_ne (by decide), regL_1]
  · intro j hj
    rw [pI_n (by decide), regI_out (by omega), regL_1]
  · intro q q8
    rw [pI_2, regI_2, regL_ne q8]
  · intro j hj
    rw [pI_2, regI_2, regL_out (by omega)]

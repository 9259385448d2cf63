/-! ===== a scene in numbers: weights by place; 0 ship, 1 step, 2 heard, 3 + 2 w and 4 + 2 w what a witness named ===== -/
abbrev Sc : Type := (Nat → Nat) × (Nat → Nat)
def SX (σ : ST) (k : Nat) (c : Sc) : Prop := (∀ j, j < 11 → σ.2 (k + 1) j = lN (c.1 j)) ∧ σ.1 k 3 = nI (c.2 0) ∧ σ.1 k 4 = nI (c.2 1) ∧ σ.1 k 5 = nI (c.2 2) ∧ ∀ w, w < 2 → w < c.2 2 → σ.1 (k + 2) w = nI (c.2 (3 + 2 * w)) ∧ σ.1 (k + 3) w = nI (c.2 (4 + 2 * w))
/-- nothing but the scene at k is another -/
def FrS (σ σ' : ST) (k : Nat) : Prop := ∀ q, q ≠ k → q ≠ k + 1 → q ≠ k + 2 → q ≠ k + 3 → σ'.1 q = σ.1 q ∧ σ'.2 q = σ.2 q
theorem FrS.rf {σ : ST} {k : Nat} : FrS σ σ k := fun _ _ _ _ _ => ⟨rfl, rfl⟩
theorem FrS.tr {a b c : ST} {k : Nat} (h1 : FrS a b k) (h2 : FrS b c k) : FrS a c k := fun q q0 q1 q2 q3 => ⟨(h2 q q0 q1 q2 q3).1.trans (h1 q q0 q1 q2 q3).1, (h2 q q0 q1 q2 q3).2.trans (h1 q q0 q1 q2 q3).2⟩
theorem FrS.sx {σ σ' : ST} {k k2 : Nat} {c : Sc} (h : FrS σ σ' k) (hk : kX k = 3) (hk2 : kX k2 = 3) (hn : k ≠ k2) (hs : SX σ k2 c) : SX σ' k2 c := by
  obtain ⟨a1, a2, a3, b0, b1, b2, b3, c0, c1, c2, c3, d0, d1, d2, d3⟩ := sc_apart hk hk2 hn
  have e0 := h k2 (Ne.symm hn) a1 a2 a3
  have e1 := h (k2 + 1) b0 b1 b2 b3
  have e2 := h (k2 + 2) c0 c1 c2 c3
  have e3 := h (k2 + 3) d0 d1 d2 d3
  unfold SX at *
  rw [e0.1, e1.2, e2.1, e3.1]
  exact hs
/-- what was told -/
def TX (σ : ST) (T P : Nat → Nat) : Prop := σ.1 3 0 = nI (T 0) ∧ σ.1 3 1 = nI (T 1) ∧ σ.1 3 2 = nI (T 2) ∧ σ.1 3 3 = nI (T 3) ∧ σ.1 3 4 = nI (T 4) ∧ σ.1 3 5 = nI (T 5) ∧ ∀ j, j < 11 → σ.1 4 j = nI (P j)
/-- what holds of what was told: 0 on, 1 back, 2 sees, 3 finds, 4 begin, 5 lasts; the parts -/
def TI (T P : Nat → Nat) : Prop := T 0 + T 1 ≤ 10 ∧ T 0 ≤ 9 ∧ T 1 ≤ 9 ∧ T 2 ≤ 9 ∧ T 3 ≤ 9 ∧ T 4 ≤ 9 ∧ T 5 ≤ 6 ∧ 1 ≤ T 5 ∧ ∀ j, j < 11 → P j ≤ 9
theorem sc_ne {k q : Nat} (h : kX k = 3) (hq : kX q ≠ 3 ∧ kX q ≠ 12 ∧ kX q ≠ 13) : q ≠ k ∧ q ≠ k + 1 ∧ q ≠ k + 2 ∧ q ≠ k + 3 := by
  have a1 := kSX4_1 h; have a2 := kSX4_2 h; have a3 := kSX4_3 h
  refine ⟨?_, ?_, ?_, ?_⟩ <;> intro e <;> rw [e] at hq <;> omega
theorem FrS.at_ {σ σ' : ST} {k : Nat} (h : FrS σ σ' k) (hk : kX k = 3) (q : Nat) (hq : kX q ≠ 3 ∧ kX q ≠ 12 ∧ kX q ≠ 13) : σ'.1 q = σ.1 q ∧ σ'.2 q = σ.2 q := by
  obtain ⟨a, b, c, d⟩ := sc_ne hk hq
  exact h q a b c d
theorem FrS.tx {σ σ' : ST} {k : Nat} {T P : Nat → Nat} (h : FrS σ σ' k) (hk : kX k = 3) (ht : TX σ T P) : TX σ' T P := by
  have e3 := (h.at_ hk 3 (by decide)).1
  have e4 := (h.at_ hk 4 (by decide)).1
  unfold TX at *
  rw [e3, e4]
  exact ht
/-! the steps of a scene -/
def mvN (c f : Nat) : Nat := if f = 1 then (if 9 < c + 1 then 9 else c + 1) else if f = 2 then c - 1 else c
theorem mvN_le {c f : Nat} (h : c ≤ 9) : mvN c f ≤ 9 := by unfold mvN; split <;> split <;> omega
theorem s_moved {z c f : Nat} (hc : c ≤ 9) (hf : f < 2 ^ 31) : fX8_moved z (nI c) (nI f) = some (nI (mvN c f)) := by
  unfold fX8_moved mvN fX8_moved_30
  by_cases h1 : f = 1
  · subst h1
    rw [if_pos (peq (b := 1) 1 1 rfl rfl rfl), if_pos rfl, nI_1]
    by_cases h9 : 9 < c + 1
    · rw [if_pos h9, if_pos (plt (a := 9) 9 (c + 1) rfl rfl h9 (by omega))]; rfl
    · rw [if_neg h9, if_neg (nlt (a := 9) 9 (c + 1) rfl rfl (by omega) (by omega))]
  · rw [if_neg (neq (b := 1) f 1 rfl rfl h1 (by omega) (by omega)), if_neg h1]
    by_cases h2 : f = 2
    · subst h2
      rw [if_pos (peq (b := 2) 2 2 rfl rfl rfl), if_pos rfl]
      by_cases h0 : c = 0
      · subst h0; rfl
      · rw [show (1 : Int32) = nI 1 from rfl, pk_sub (by omega), if_neg (nlt (b := 0) (c - 1) 0 rfl rfl (by omega) (by omega))]
    · rw [if_neg (neq (b := 2) f 2 rfl rfl h2 (by omega) (by omega)), if_neg h2]
def plN (c : Sc) (f : Nat) : Nat := if f = 3 then 10 else mvN (c.2 0) f
theorem plN_le {c : Sc} {f : Nat} (h : c.2 0 ≤ 9) : plN c f ≤ 10 := by
  unfold plN
  split
  · omega
  · have := mvN_le (f := f) h; omega
theorem s_placeBy {z : Nat} {σ : ST} {k f : Nat} {c : Sc} (hk : kX k = 3) (hs : SX σ k c) (hc : c.2 0 ≤ 9) (hf : f < 2 ^ 31) : fX4_placeBy z σ k (nI f) = some (nI (plN c f)) := by
  unfold fX4_placeBy plN fX4_placeBy_18
  rw [gd_k hk]
  by_cases h3 : f = 3
  · subst h3
    rw [if_pos (peq (b := 3) 3 3 rfl rfl rfl), if_pos rfl]; rfl
  · rw [if_neg (neq (b := 3) f 3 rfl rfl h3 (by omega) (by omega)), if_neg h3, hs.2.1, s_moved hc hf]; rfl
def chN (T : Nat → Nat) (p : Nat) : Nat := if p = 10 then T 3 else T 2
theorem chN_le {T P : Nat → Nat} (h : TI T P) (p : Nat) : chN T p ≤ 9 := by
  unfold chN
  split
  · exact h.2.2.2.2.1
  · exact h.2.2.2.1
theorem s_chanceAt {z : Nat} {σ : ST} {T P : Nat → Nat} {p : Nat} (ht : TX σ T P) (hp : p < 2 ^ 31) : fX7_chanceAt z σ (nI p) = some (nI (chN T p)) := by
  unfold fX7_chanceAt chN fX7_chanceAt_17
  by_cases h : p = 10
  · subst h
    rw [if_pos (peq (b := 10) 10 10 rfl rfl rfl), if_pos rfl, ht.2.2.2.1]
  · rw [if_neg (neq (b := 10) p 10 rfl rfl h (by omega) (by omega)), if_neg h, ht.2.2.1]
def fnN (T : Nat → Nat) (c : Sc) (f : Nat) : Nat := c.1 (plN c f) * chN T (plN c f)
theorem s_foundNow {z : Nat} {σ : ST} {k f : Nat} {c : Sc} {T P : Nat → Nat} (hk : kX k = 3) (hs : SX σ k c) (ht : TX σ T P) (hi : TI T P) (hc : c.2 0 ≤ 9) (hf : f < 2 ^ 31) : fX4_foundNow z σ k (nI f) = some (lN (fnN T c f)) := by
  have hp := plN_le (f := f) hc
  have hch := chN_le hi (plN c f)
  unfold fX4_foundNow fnN
  rw [gd_k hk, s_placeBy hk hs hc hf, bd_s, s_of hk (by omega), bd_s, s_chanceAt ht (by omega), bd_s, hs.1 _ (by omega), nI_l (by omega), lN_mul]
theorem regL_s0 {σ : ST} {a n : Nat} {F : Nat → Int64} : pL (regL σ a 0 n F) a n (F n) = regL σ a 0 (n + 1) F := by
  have := regL_s (σ := σ) (a := a) (o := 0) (n := n) (F := F)
  rwa [Nat.zero_add] at this
theorem regI_s0 {σ : ST} {a n : Nat} {F : Nat → Int32} : pI (regI σ a 0 n F) a n (F n) = regI σ a 0 (n + 1) F := by
  have := regI_s (σ := σ) (a := a) (o := 0) (n := n) (F := F)
  rwa [Nat.zero_add] at this
theorem s_lessen {z : Nat} {σ : ST} {k : Nat} {p t : Int32} (hk : kX k = 3) (hz : 12 ≤ z) : fX4_lessen z σ k p t = some (regL σ (k + 1) 0 11 (fun j => σ.2 (k + 1) j * (if nI j = p then t.toInt64 else 10))) := by
  have loop : ∀ n i, i ≤ 11 → 11 < i + n → fX4_lessen_2 z k p t n (regL σ (k + 1) 0 i (fun j => σ.2 (k + 1) j * (if nI j = p then t.toInt64 else 10))) (nI i) = some (regL σ (k + 1) 0 11 (fun j => σ.2 (k + 1) j * (if nI j = p then t.toInt64 else 10))) := by
    intro n
    induction n with
    | zero => intro i h1 h2; omega
    | succ n ih =>
      intro i h1 h2
      unfold fX4_lessen_2
      by_cases hi : i = 11
      · subst hi
        rw [if_pos (ple (a := 11) 11 11 rfl rfl (Nat.le_refl _) (by decide))]
      · rw [if_neg (nle (a := 11) 11 i rfl rfl (by omega) (by decide)), gd_inb (by omega) (by decide)]
        have hh := ih (i + 1) (by omega) (by omega)
        rw [← regL_s0] at hh
        unfold fX4_lessen_31
        rw [gd_inb (by omega) (by decide), gd_inb (by omega) (by decide), nI_clamp (by omega), regL_out (Or.inr (by omega)), lt_r, lt_r, nI_1]
        by_cases hp : nI i = p
        · rw [if_pos hp]
          rw [if_pos hp] at hh
          exact hh
        · rw [if_neg hp]
          rw [if_neg hp] at hh
          exact hh
  unfold fX4_lessen
  rw [gd_k hk]
  have := loop z 0 (by omega) (by omega)
  rw [regL_0] at this
  exact this
def lkN (T : Nat → Nat) (c : Sc) (f : Nat) : Sc := (fun j => c.1 j * (if j = plN c f then 10 - chN T (plN c f) else 10), fun j => if j = 0 then mvN (c.2 0) f else c.2 j)
theorem FrS.of {σ σ' : ST} {k : Nat} (h : ∀ q, q ≠ k → q ≠ k + 1 → q ≠ k + 2 → q ≠ k + 3 → σ'.1 q = σ.1 q ∧ σ'.2 q = σ.2 q) : FrS σ σ' k := h
theorem s_lookBy {z : Nat} {σ : ST} {k f : Nat} {c : Sc} {T P : Nat → Nat} (hk : kX k = 3) (hs : SX σ k c) (ht : TX σ T P) (hi : TI T P) (hc : c.2 0 ≤ 9) (hf : f < 2 ^ 31) (hz : 12 ≤ z) : ∃ σ', fX4_lookBy z σ k (nI f) = some σ' ∧ SX σ' k (lkN T c f) ∧ FrS σ σ' k := by
  have hp := plN_le (f := f) hc
  have hch := chN_le hi (plN c f)
  have h3 : (3 : Nat) ≠ k := (sc_ne hk (by decide : kX 3 ≠ 3 ∧ kX 3 ≠ 12 ∧ kX 3 ≠ 13)).1
  have h4 : (4 : Nat) ≠ k := (sc_ne hk (by decide : kX 4 ≠ 3 ∧ kX 4 ≠ 12 ∧ kX 4 ≠ 13)).1
  have ht2 : TX (pI σ k 3 (nI (mvN (c.2 0) f))) T P := by
    unfold TX at *
    rw [pI_n h3, pI_n h4]
    exact ht
  have e : fX4_lookBy z σ k (nI f) = some (regL (pI σ k 3 (nI (mvN (c.2 0) f))) (k + 1) 0 11 (fun j => (pI σ k 3 (nI (mvN (c.2 0) f))).2 (k + 1) j * (if nI j = nI (plN c f) then (nI (10 - chN T (plN c f))).toInt64 else 10))) := by
    unfold fX4_lookBy
    rw [gd_k hk, s_placeBy hk hs hc hf, bd_s, hs.2.1, s_moved hc hf, bd_s, lt_r, s_chanceAt ht2 (by omega), bd_s, show (10 : Int32) = nI 10 from rfl, pk_sub (by omega), s_lessen hk hz, bd_s]
  refine ⟨_, e, ?_, ?_⟩
  · refine ⟨fun j hj => ?_, ?_, ?_, ?_, fun w h1 h2 => ?_⟩
    · rw [regL_in (Nat.zero_le _) (by omega), Nat.sub_zero, pI_2, hs.1 j hj]
      show _ = lN (c.1 j * (if j = plN c f then 10 - chN T (plN c f) else 10))
      by_cases hj2 : j = plN c f
      · rw [if_pos hj2, if_pos (by rw [hj2]), nI_l (by omega), lN_mul]
      · rw [if_neg hj2, if_neg (fun q => hj2 ((nI_eq (by omega) (by omega)).mp q)), show (10 : Int64) = lN 10 from rfl, lN_mul]
    · rw [regL_1, pI_at]; rfl
    · rw [regL_1, pI_nj (by decide), hs.2.2.1]; rfl
    · rw [regL_1, pI_nj (by decide), hs.2.2.2.1]; rfl
    · rw [regL_1, pI_n (by omega), pI_n (by omega)]
      show _ = nI (if 3 + 2 * w = 0 then _ else c.2 (3 + 2 * w)) ∧ _ = nI (if 4 + 2 * w = 0 then _ else c.2 (4 + 2 * w))
      rw [if_neg (by omega), if_neg (by omega)]
      exact hs.2.2.2.2 w h1 h2
  · intro q q0 q1 q2 q3
    exact ⟨by rw [regL_1, pI_n q0], by rw [regL_ne q1, pI_2]⟩
def stN (T : Nat → Nat) (j : Nat) : Nat := 10 - T 0 - T 1 + (if j = 0 then T 1 else 0) + (if j = 9 then T 0 else 0)
def psN (T : Nat → Nat) (dead : Bool) (w : Nat → Nat) (j : Nat) : Nat := if j = 10 then w 10 * 10 else if dead then 0 else (w j * stN T j + (if j = 0 then 0 else w (j - 1)) * T 0) + (if 9 ≤ j then 0 else w (j + 1)) * T 1
def paN (T : Nat → Nat) (c : Sc) : Sc := (fun j => psN T (decide (T 5 ≤ c.2 1 + 1)) c.1 j, fun j => if j = 1 then c.2 1 + 1 else c.2 j)
def acN (T : Nat → Nat) (c : Sc) (f : Nat) : Sc := paN T (lkN T c f)
theorem s_pass {z : Nat} {σ : ST} {k : Nat} {c : Sc} {T P : Nat → Nat} (hk : kX k = 3) (hs : SX σ k c) (ht : TX σ T P) (hi : TI T P) (hst : c.2 1 ≤ 6) (hz : 12 ≤ z) : fX4_pass z σ k = some (regL (pI σ k 4 (nI (c.2 1 + 1))) (k + 1) 0 11 (fun j => lN ((paN T c).1 j))) := by
  have h3 : (3 : Nat) ≠ k := (sc_ne hk (by decide : kX 3 ≠ 3 ∧ kX 3 ≠ 12 ∧ kX 3 ≠ 13)).1
  obtain ⟨t0, t1, t2, t3, t4, t5, tp⟩ := ht
  obtain ⟨i01, i0, i1, i2, i3, i4, i5, i6, ip⟩ := hi
  generalize hσ1 : pI σ k 4 (nI (c.2 1 + 1)) = σ1
  have w1 : ∀ j, j < 11 → σ1.2 (k + 1) j = lN (c.1 j) := fun j hj => by rw [← hσ1, pI_2]; exact hs.1 j hj
  have q4 : σ1.1 k 4 = nI (c.2 1 + 1) := by rw [← hσ1, pI_at]
  have q3 : σ1.1 3 = σ.1 3 := by rw [← hσ1, pI_n h3]
  have b106 : ∀ (S : ST) (r : ST → Int64 → Int32 → Option ST) (i st b h a : Nat), i < 11 → st ≤ 20 → S.1 = σ1.1 → fX4_pass_106 z r S k (lN b) (nI i) (lN h) (lN a) (nI st) = r (pL S (k + 1) i (lN (if T 5 ≤ c.2 1 + 1 then 0 else (h * st + b * T 0) + a * T 1))) (lN h) (nI (i + 1)) := by
    intro S r i st b h a hi hst2 hS
    unfold fX4_pass_106 fX4_pass_150
    rw [hS, q4, q3, t5, t0, t1]
    by_cases hd : T 5 ≤ c.2 1 + 1
    · rw [if_neg (nlt (c.2 1 + 1) (T 5) rfl rfl hd (by omega)), if_pos hd, gd_inb hi (by decide), nI_clamp (by omega), lt_r, nI_1]; rfl
    · rw [if_pos (plt (c.2 1 + 1) (T 5) rfl rfl (by omega) (by omega)), if_neg hd, gd_inb hi (by decide), nI_clamp (by omega), lt_r, nI_1, nI_l (by omega), nI_l (by omega), nI_l (by omega), lN_mul, lN_mul, lN_mul, lN_add, lN_add]
  have b60 : ∀ (S : ST) (r : ST → Int64 → Int32 → Option ST) (i b h a : Nat), i < 10 → S.1 = σ1.1 → fX4_pass_60 z r S k (lN b) (nI i) (lN h) (lN a) = r (pL S (k + 1) i (lN (if T 5 ≤ c.2 1 + 1 then 0 else (h * stN T i + b * T 0) + a * T 1))) (lN h) (nI (i + 1)) := by
    intro S r i b h a hi hS
    unfold fX4_pass_60 fX4_pass_90
    have es : ((10 : Int32) - (S.1 3 0)) - (S.1 3 1) = nI (10 - T 0 - T 1) := by rw [hS, q3, t0, t1, show (10 : Int32) = nI 10 from rfl, pk_sub (by omega), pk_sub (by omega)]
    have e1 : S.1 3 1 = nI (T 1) := by rw [hS, q3, t1]
    have e0 : S.1 3 0 = nI (T 0) := by rw [hS, q3, t0]
    rw [es, e1, e0, nI_add]
    by_cases hi0 : i = 0
    · subst hi0
      rw [if_pos (peq (b := 0) 0 0 rfl rfl rfl), if_neg (neq (b := 9) 0 9 rfl rfl (by decide) (by decide) (by decide)), b106 S r 0 _ b h a (by omega) (by omega) hS]
      rfl
    · rw [if_neg (neq (b := 0) i 0 rfl rfl hi0 (by omega) (by omega))]
      by_cases hi9 : i = 9
      · subst hi9
        rw [if_pos (peq (b := 9) 9 9 rfl rfl rfl), nI_add, b106 S r 9 _ b h a (by omega) (by omega) hS]
        rfl
      · rw [if_neg (neq (b := 9) i 9 rfl rfl hi9 (by omega) (by omega)), b106 S r i _ b h a (by omega) (by omega) hS]
        have : stN T i = 10 - T 0 - T 1 := by unfold stN; rw [if_neg hi0, if_neg hi9]; rfl
        rw [this]
  have loop : ∀ n i, i ≤ 10 → 10 < i + n → fX4_pass_15 z k n (regL σ1 (k + 1) 0 i (fun j => lN ((paN T c).1 j))) (lN (if i = 0 then 0 else c.1 (i - 1))) (nI i) = some (regL σ1 (k + 1) 0 11 (fun j => lN ((paN T c).1 j))) := by
    intro n
    induction n with
    | zero => intro i h1 h2; omega
    | succ n ih =>
      intro i h1 h2
      unfold fX4_pass_15
      by_cases hi : i = 10
      · subst hi
        rw [if_pos (ple (a := 10) 10 10 rfl rfl (Nat.le_refl _) (by decide))]
        unfold fX4_pass_160 fX4_pass_183
        rw [show (10 : Int32) = nI 10 from rfl, if_neg (nle (a := 11) 11 10 rfl rfl (by decide) (by decide)), gd_inb (by decide) (by decide), gd_inb (by decide) (by decide), nI_clamp (by decide), lt_r, regL_out (Or.inr (by omega)), w1 10 (by omega), show (10 : Int64) = lN 10 from rfl, lN_mul]
        have := regL_s0 (σ := σ1) (a := k + 1) (n := 10) (F := fun j => lN ((paN T c).1 j))
        exact congrArg some this
      · have hF : lN ((paN T c).1 i) = lN (if T 5 ≤ c.2 1 + 1 then 0 else (c.1 i * stN T i + (if i = 0 then 0 else c.1 (i - 1)) * T 0) + (if 9 ≤ i then 0 else c.1 (i + 1)) * T 1) := by
          show lN (psN T (decide (T 5 ≤ c.2 1 + 1)) c.1 i) = _
          unfold psN
          rw [if_neg hi]
          simp only [decide_eq_true_eq]
        have hh := ih (i + 1) (by omega) (by omega)
        rw [← regL_s0, hF, if_neg (Nat.succ_ne_zero i), Nat.add_sub_cancel] at hh
        rw [if_neg (nle (a := 10) 10 i rfl rfl (by omega) (by decide)), if_neg (nle (a := 11) 11 i rfl rfl (by omega) (by decide)), gd_inb (by omega) (by decide), nI_clamp (by omega), regL_out (Or.inr (by omega)), w1 i (by omega)]
        by_cases h9 : 9 ≤ i
        · rw [if_pos h9] at hh
          rw [if_pos (ple (a := 9) 9 i rfl rfl h9 (by omega)), show (0 : Int64) = lN 0 from rfl, b60 _ _ i _ _ _ (by omega) regL_1]
          exact hh
        · rw [if_neg h9] at hh
          rw [if_neg (nle (a := 9) 9 i rfl rfl (by omega) (by decide)), show (1 : Int32) = nI 1 from rfl, nI_add, s_of hk (by omega), bd_s, regL_out (Or.inr (by omega)), w1 (i + 1) (by omega), b60 _ _ i _ _ _ (by omega) regL_1]
          exact hh
  unfold fX4_pass
  rw [gd_k hk, hs.2.2.1, show (1 : Int32) = nI 1 from rfl, nI_add, hσ1, lt_r]
  have := loop z 0 (by omega) (by omega)
  rw [regL_0] at this
  exact this
theorem a_pass {z : Nat} {σ : ST} {k : Nat} {c : Sc} {T P : Nat → Nat} (hk : kX k = 3) (hs : SX σ k c) (ht : TX σ T P) (hi : TI T P) (hst : c.2 1 ≤ 6) (hz : 12 ≤ z) : ∃ σ', fX4_pass z σ k = some σ' ∧ SX σ' k (paN T c) ∧ FrS σ σ' k := by
  refine ⟨_, s_pass hk hs ht hi hst hz, ⟨fun j hj => ?_, ?_, ?_, ?_, fun w h1 h2 => ?_⟩, fun q q0 q1 q2 q3 => ?_⟩
  · rw [regL_in (Nat.zero_le _) (by omega), Nat.sub_zero]
  · rw [regL_1, pI_nj (by decide), hs.2.1]; rfl
  · rw [regL_1, pI_at]; rfl
  · rw [regL_1, pI_nj (by decide), hs.2.2.2.1]; rfl
  · rw [regL_1, pI_n (by omega), pI_n (by omega)]
    show _ = nI (if 3 + 2 * w = 1 then _ else c.2 (3 + 2 * w)) ∧ _ = nI (if 4 + 2 * w = 1 then _ else c.2 (4 + 2 * w))
    rw [if_neg (by omega), if_neg (by omega)]
    exact hs.2.2.2.2 w h1 h2
  · exact ⟨by rw [regL_1, pI_n q0], by rw [regL_ne q1, pI_2]⟩
theorem a_act {z : Nat} {σ : ST} {k f : Nat} {c : Sc} {T P : Nat → Nat} (hk : kX k = 3) (hs : SX σ k c) (ht : TX σ T P) (hi : TI T P) (hc : c.2 0 ≤ 9) (hst : c.2 1 ≤ 6) (hf : f < 2 ^ 31) (hz : 12 ≤ z) : ∃ σ', fX4_act z σ k (nI f) = some σ' ∧ SX σ' k (acN T c f) ∧ FrS σ σ' k := by
  obtain ⟨σ1, e1, s1, f1⟩ := s_lookBy hk hs ht hi hc hf hz
  obtain ⟨σ2, e2, s2, f2⟩ := a_pass (c := lkN T c f) hk s1 (f1.tx hk ht) hi hst hz
  refine ⟨σ2, ?_, s2, f1.tr f2⟩
  unfold fX4_act
  rw [gd_k hk, e1, bd_s, e2, bd_s]
theorem pI_regI {σ : ST} {a b o n i : Nat} {v : Int32} {B : Nat → Int32} (h : a ≠ b) : pI (regI σ b o n B) a i v = regI (pI σ a i v) b o n B := by
  refine Prod.ext (funext fun q => ?_) rfl
  by_cases h1 : q = a
  · subst h1
    simp [pI, regI, h]
  · by_cases h2 : q = b
    · subst h2
      simp [pI, regI, h1]
    · simp [pI, regI, h1, h2]
theorem s_copy {z : Nat} {σ : ST} {k k2 : Nat} (hk : kX k = 3) (hk2 : kX k2 = 3) (hn : k ≠ k2) (hz : 12 ≤ z) : fX4_copy z σ k k2 = some (cpS σ k k2) := by
  obtain ⟨a1, a2, a3, b0, b1, b2, b3, c0, c1, c2, c3, d0, d1, d2, d3⟩ := sc_apart hk hk2 hn
  have l76 : ∀ S : ST, S.1 k2 = σ.1 k2 → fX4_copy_76 z S k k2 = some (pI (pI (pI S k 3 (σ.1 k2 3)) k 4 (σ.1 k2 4)) k 5 (σ.1 k2 5)) := by
    intro S hS
    unfold fX4_copy_76
    rw [lt_r, lt_r, lt_r, pI_n (Ne.symm hn), pI_n (Ne.symm hn), pI_n (Ne.symm hn), hS]
  have l30 : ∀ (S : ST), S.1 = σ.1 → ∀ n i, i ≤ 2 → 2 < i + n → fX4_copy_30 z k k2 n (regI (regI S (k + 2) 0 i (σ.1 (k2 + 2))) (k + 3) 0 i (σ.1 (k2 + 3))) (nI i) = some (pI (pI (pI (regI (regI S (k + 2) 0 2 (σ.1 (k2 + 2))) (k + 3) 0 2 (σ.1 (k2 + 3))) k 3 (σ.1 k2 3)) k 4 (σ.1 k2 4)) k 5 (σ.1 k2 5)) := by
    intro S hS n
    induction n with
    | zero => intro i h1 h2; omega
    | succ n ih =>
      intro i h1 h2
      unfold fX4_copy_30
      by_cases hi : i = 2
      · subst hi
        rw [if_pos (ple (a := 2) 2 2 rfl rfl (Nat.le_refl _) (by decide)), l76 _ (by rw [regI_ne a3, regI_ne a2, hS])]
      · rw [if_neg (nle (a := 2) 2 i rfl rfl (by omega) (by decide)), if_neg (nle (a := 2) 2 i rfl rfl (by omega) (by decide)), s_lowOf hk2 (by omega), bd_s, gd_inb (by omega) (by decide), nI_clamp (by omega), lt_r, s_highOf hk2 (by omega), bd_s, gd_inb (by omega) (by decide), lt_r, nI_1, regI_ne c3, regI_ne c2, pI_n d2, regI_ne d3, regI_ne d2, hS, pI_regI (by omega), regI_s0, regI_s0]
        exact ih (i + 1) (by omega) (by omega)
  have l2 : ∀ n i, i ≤ 11 → 11 < i + n → fX4_copy_2 z k k2 n (regL σ (k + 1) 0 i (σ.2 (k2 + 1))) (nI i) = some (cpS σ k k2) := by
    intro n
    induction n with
    | zero => intro i h1 h2; omega
    | succ n ih =>
      intro i h1 h2
      unfold fX4_copy_2
      by_cases hi : i = 11
      · subst hi
        rw [if_pos (ple (a := 11) 11 11 rfl rfl (Nat.le_refl _) (by decide))]
        have := l30 (regL σ (k + 1) 0 11 (σ.2 (k2 + 1))) rfl z 0 (by omega) (by omega)
        rw [regI_0, regI_0] at this
        exact this
      · rw [if_neg (nle (a := 11) 11 i rfl rfl (by omega) (by decide)), s_of hk2 (by omega), bd_s, gd_inb (by omega) (by decide), nI_clamp (by omega), lt_r, regL_ne b1, regL_s0, nI_1]
        exact ih (i + 1) (by omega) (by omega)
  unfold fX4_copy
  rw [gd_k hk, gd_k hk2]
  have := l2 z 0 (by omega) (by omega)
  rw [regL_0] at this
  exact this
theorem a_copy {z : Nat} {σ : ST} {k k2 : Nat} {c : Sc} (hk : kX k = 3) (hk2 : kX k2 = 3) (hn : k ≠ k2) (hs : SX σ k2 c) (hz : 12 ≤ z) : ∃ σ', fX4_copy z σ k k2 = some σ' ∧ SX σ' k c ∧ FrS σ σ' k := by
  refine ⟨_, s_copy hk hk2 hn hz, ?_, fun q q0 q1 q2 q3 => ?_⟩
  · unfold cpS
    refine ⟨fun j hj => ?_, ?_, ?_, ?_, fun w h1 h2 => ?_⟩
    · rw [pI_2, pI_2, pI_2, regI_2, regI_2, regL_in (Nat.zero_le _) (by omega), Nat.sub_zero, hs.1 j hj]
    · rw [pI_nj (by decide), pI_nj (by decide), pI_at, hs.2.1]
    · rw [pI_nj (by decide), pI_at, hs.2.2.1]
    · rw [pI_at, hs.2.2.2.1]
    · rw [pI_n (by omega), pI_n (by omega), pI_n (by omega), pI_n (by omega), pI_n (by omega), pI_n (by omega), regI_ne (by omega), regI_in (Nat.zero_le _) (by omega), regI_in (Nat.zero_le _) (by omega), Nat.sub_zero]
      exact hs.2.2.2.2 w h1 h2
  · unfold cpS
    exact ⟨by rw [pI_n q0, pI_n q0, pI_n q0, regI_ne q3, regI_ne q2, regL_1], by rw [pI_2, pI_2, pI_2, regI_2, regI_2, regL_ne q1]⟩

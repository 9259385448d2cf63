/-! ===== the reference's steps, in the same numbers ===== -/
def TM (μ : ST) (T P : Nat → Nat) : Prop := μ.1 0 0 = nI (T 0) ∧ μ.1 0 1 = nI (T 1) ∧ μ.1 0 2 = nI (T 2) ∧ μ.1 0 3 = nI (T 3) ∧ μ.1 0 4 = nI (T 4) ∧ μ.1 0 5 = nI (T 5) ∧ ∀ j, j < 11 → μ.1 1 j = nI (P j)
/-- the weights of a level -/
def LM (μ : ST) (lv : Nat) (w : Nat → Nat) : Prop := ∀ j, j < 11 → μ.2 4 (11 * lv + j) = lN (w j)
/-- nothing but the weights of a level (and the scratch row) is another -/
def FrL (μ μ' : ST) (lv : Nat) : Prop := μ'.1 = μ.1 ∧ (∀ q, q ≠ 4 → q ≠ 7 → μ'.2 q = μ.2 q) ∧ ∀ j, j < 11 * lv ∨ 11 * lv + 11 ≤ j → μ'.2 4 j = μ.2 4 j
theorem FrL.rf {μ : ST} {lv : Nat} : FrL μ μ lv := ⟨rfl, fun _ _ _ => rfl, fun _ _ => rfl⟩
theorem FrL.tr {a b c : ST} {lv : Nat} (h1 : FrL a b lv) (h2 : FrL b c lv) : FrL a c lv := ⟨h2.1.trans h1.1, fun q a b => (h2.2.1 q a b).trans (h1.2.1 q a b), fun j h => (h2.2.2 j h).trans (h1.2.2 j h)⟩
theorem FrL.lm {μ μ' : ST} {a b : Nat} {w : Nat → Nat} (h : FrL μ μ' a) (hn : a ≠ b) (hl : LM μ b w) : LM μ' b w := fun j hj => by
  rw [h.2.2 _ (by omega)]
  exact hl j hj
theorem FrL.tm {μ μ' : ST} {a : Nat} {T P : Nat → Nat} (h : FrL μ μ' a) (ht : TM μ T P) : TM μ' T P := by
  unfold TM at *
  rw [h.1]
  exact ht
theorem s9_to {z c f : Nat} (hc : c ≤ 9) (hf : f < 2 ^ 31) : fX9_to z (nI c) (nI f) = some (nI (mvN c f)) := by
  unfold fX9_to mvN fX9_to_23 fX9_to_44
  by_cases h1 : f = 1
  · subst h1
    rw [if_pos (peq (b := 1) 1 1 rfl rfl rfl), if_pos rfl, show (1 : Int32) = nI 1 from rfl, nI_add, if_pos (ple (a := 0) 0 (c + 1) rfl rfl (by omega) (by omega))]
    by_cases h9 : 9 < c + 1
    · rw [if_pos h9, if_neg (nle (b := 9) (c + 1) 9 rfl rfl h9 (by omega))]; rfl
    · rw [if_neg h9, if_pos (ple (b := 9) (c + 1) 9 rfl rfl (by omega) (by omega))]
  · rw [if_neg (neq (b := 1) f 1 rfl rfl h1 (by omega) (by omega)), if_neg h1]
    by_cases h2 : f = 2
    · subst h2
      rw [if_pos (peq (b := 2) 2 2 rfl rfl rfl), if_pos rfl]
      by_cases h0 : c = 0
      · subst h0; rfl
      · rw [show (1 : Int32) = nI 1 from rfl, pk_sub (by omega), if_pos (ple (a := 0) 0 (c - 1) rfl rfl (by omega) (by omega)), if_pos (ple (b := 9) (c - 1) 9 rfl rfl (by omega) (by omega))]
    · rw [if_neg (neq (b := 2) f 2 rfl rfl h2 (by omega) (by omega)), if_neg h2, if_pos (ple (a := 0) 0 c rfl rfl (by omega) (by omega)), if_pos (ple (b := 9) c 9 rfl rfl (by omega) (by omega))]
theorem ix9 (lv i : Nat) : ((11 : Int32) * nI lv) + nI i = nI (11 * lv + i) := by rw [show (11 : Int32) = nI 11 from rfl, pk_mul, nI_add]
theorem s9_sumOf {z : Nat} {μ : ST} {lv : Nat} {w : Nat → Nat} (hl : LM μ lv w) (hlv : lv ≤ 2) (hz : 12 ≤ z) : fX9_sumOf z μ (nI lv) = some (lN (sumN w 11)) := by
  have loop : ∀ n i, i ≤ 11 → 11 < i + n → fX9_sumOf_5 z μ (nI lv) n (lN (sumN w i)) (nI i) = some (lN (sumN w 11)) := by
    intro n
    induction n with
    | zero => intro i h1 h2; omega
    | succ n ih =>
      intro i h1 h2
      unfold fX9_sumOf_5
      by_cases hi : i = 11
      · subst hi
        rw [if_pos (ple (a := 11) 11 11 rfl rfl (Nat.le_refl _) (by decide))]
      · rw [if_neg (nle (a := 11) 11 i rfl rfl (by omega) (by decide)), ix9, gd_inb (by omega) (by decide), nI_clamp (by omega), nI_1, hl i (by omega), lN_add]
        exact ih (i + 1) (by omega) (by omega)
  exact loop z 0 (by omega) (by omega)
/-- by how many tenths a look at p lessens the place j -/
def lsN (T : Nat → Nat) (p : Int32) (j : Nat) : Nat := if nI j = p then chN T j else 0
theorem lsN_le {T P : Nat → Nat} (h : TI T P) (p : Int32) (j : Nat) : lsN T p j ≤ 9 := by
  unfold lsN
  split
  · exact chN_le h j
  · omega
theorem s9_lookAt {z : Nat} {μ : ST} {lv : Nat} {w T P : Nat → Nat} {p : Int32} (hl : LM μ lv w) (hlv : lv ≤ 2) (ht : TM μ T P) (hi : TI T P) (hz : 12 ≤ z) : fX9_lookAt z μ (nI lv) p = some (lN (sumN (fun j => w j * lsN T p j) 11), regL μ 4 (11 * lv) 11 (fun j => lN (w j * (10 - lsN T p j)))) := by
  have loop : ∀ n i, i ≤ 11 → 11 < i + n → fX9_lookAt_5 z (nI lv) p n (regL μ 4 (11 * lv) i (fun j => lN (w j * (10 - lsN T p j)))) (lN (sumN (fun j => w j * lsN T p j) i)) (nI i) = some (lN (sumN (fun j => w j * lsN T p j) 11), regL μ 4 (11 * lv) 11 (fun j => lN (w j * (10 - lsN T p j)))) := by
    intro n
    induction n with
    | zero => intro i h1 h2; omega
    | succ n ih =>
      intro i h1 h2
      unfold fX9_lookAt_5
      by_cases hq : i = 11
      · subst hq
        rw [if_pos (ple (a := 11) 11 11 rfl rfl (Nat.le_refl _) (by decide))]
      · have hh := ih (i + 1) (by omega) (by omega)
        rw [← regL_s] at hh
        have b40 : ∀ less : Nat, less = lsN T p i → fX9_lookAt_40 z (fX9_lookAt_5 z (nI lv) p n) (regL μ 4 (11 * lv) i (fun j => lN (w j * (10 - lsN T p j)))) (nI lv) p (lN (sumN (fun j => w j * lsN T p j) i)) (nI i) (nI less) = some (lN (sumN (fun j => w j * lsN T p j) 11), regL μ 4 (11 * lv) 11 (fun j => lN (w j * (10 - lsN T p j)))) := by
          intro less hless
          have h9 := lsN_le hi p i
          unfold fX9_lookAt_40
          rw [ix9, gd_inb (by omega) (by decide), gd_inb (by omega) (by decide), gd_inb (by omega) (by decide), nI_clamp (by omega), regL_out (Or.inr (by omega)), hl i (by omega), show (10 : Int32) = nI 10 from rfl, pk_sub (by omega), nI_l (by omega), nI_l (by omega), lN_mul, lN_mul, lN_add, lt_r, nI_1, hless]
          exact hh
        rw [if_neg (nle (a := 11) 11 i rfl rfl (by omega) (by decide)), regL_1]
        by_cases hp : nI i = p
        · rw [if_pos hp]
          by_cases h10 : i = 10
          · rw [if_pos (peq (b := 10) i 10 rfl rfl h10), ht.2.2.2.1]
            exact b40 _ (by unfold lsN chN; rw [if_pos hp, if_pos h10])
          · rw [if_neg (neq (b := 10) i 10 rfl rfl h10 (by omega) (by omega)), ht.2.2.1]
            exact b40 _ (by unfold lsN chN; rw [if_pos hp, if_neg h10])
        · rw [if_neg hp]
          exact b40 0 (by unfold lsN; rw [if_neg hp])
  have := loop z 0 (by omega) (by omega)
  rw [regL_0] at this
  exact this
theorem sum_one {w v : Nat → Nat} {n p : Nat} (hp : p < n) : sumN (fun j => w j * (if j = p then v j else 0)) n = w p * v p := by
  induction n with
  | zero => omega
  | succ n ih =>
    rw [sumN]
    by_cases h : n = p
    · subst h
      rw [if_pos rfl]
      have : sumN (fun j => w j * (if j = n then v j else 0)) n = 0 := sumN_0.mpr (fun j hj => by rw [if_neg (by omega), Nat.mul_zero])
      omega
    · rw [if_neg h, Nat.mul_zero, Nat.add_zero]
      exact ih (by omega)
theorem lsN_n {T : Nat → Nat} {p j : Nat} (hp : p < 2 ^ 31) (hj : j < 2 ^ 31) : lsN T (nI p) j = if j = p then chN T j else 0 := by
  unfold lsN
  by_cases h : j = p
  · rw [if_pos h, if_pos (by rw [h])]
  · rw [if_neg h, if_neg (fun q => h ((nI_eq hj hp).mp q))]
/-- a look at a place: what is found, and the level behind it -/
theorem a9_lookAt {z : Nat} {μ : ST} {lv p : Nat} {w T P : Nat → Nat} (hl : LM μ lv w) (hlv : lv ≤ 2) (ht : TM μ T P) (hi : TI T P) (hp : p ≤ 10) (hz : 12 ≤ z) : ∃ μ', fX9_lookAt z μ (nI lv) (nI p) = some (lN (w p * chN T p), μ') ∧ LM μ' lv (fun j => w j * (if j = p then 10 - chN T p else 10)) ∧ FrL μ μ' lv := by
  have e := s9_lookAt (p := nI p) hl hlv ht hi hz
  have es : sumN (fun j => w j * lsN T (nI p) j) 11 = w p * chN T p := by
    rw [← sum_one (w := w) (v := chN T) (show p < 11 by omega)]
    exact sumN_congr (fun j hj => by rw [lsN_n (by omega) (by omega)])
  rw [es] at e
  refine ⟨_, e, fun j hj => ?_, rfl, fun q h4 _ => regL_ne h4, fun j hj => regL_out hj⟩
  rw [regL_in (Nat.le_add_right _ _) (by omega), Nat.add_sub_cancel_left, lsN_n (by omega) (by omega)]
  show _ = lN (w j * (if j = p then 10 - chN T p else 10))
  by_cases h : j = p
  · rw [if_pos h, if_pos h, h]
  · rw [if_neg h, if_neg h]
def rowL (μ : ST) (a : Nat) (g : Nat → Int64) : ST := (μ.1, fun q => if q = a then g else μ.2 q)
theorem rowL_pL {μ : ST} {a j : Nat} {g : Nat → Int64} {v : Int64} : pL (rowL μ a g) a j v = rowL μ a (vp_updL g j v) := by
  refine Prod.ext rfl (funext fun q => ?_)
  by_cases h : q = a
  · subst h; simp [pL, rowL]
  · simp [pL, rowL, h]
theorem rowL_self {μ : ST} {a : Nat} : rowL μ a (μ.2 a) = μ := by
  refine Prod.ext rfl (funext fun q => ?_)
  by_cases h : q = a
  · subst h; simp [rowL]
  · simp [rowL, h]
theorem rowL_at {μ : ST} {a : Nat} {g : Nat → Int64} : (rowL μ a g).2 a = g := by simp [rowL]
theorem rowL_ne {μ : ST} {a q : Nat} {g : Nat → Int64} (h : q ≠ a) : (rowL μ a g).2 q = μ.2 q := by simp [rowL, h]
theorem rowL_1 {μ : ST} {a : Nat} {g : Nat → Int64} : (rowL μ a g).1 = μ.1 := rfl
/-- what the first i cells have put behind the tide into the cell k -/
def thN (T w : Nat → Nat) (i k : Nat) : Nat := sumN (fun c => ((if k = mvN c 1 then w c * T 0 else 0) + (if k = mvN c 2 then w c * T 1 else 0)) + (if k = c then w c * (10 - T 0 - T 1) else 0)) i
theorem thN_all {T w : Nat → Nat} {k : Nat} (hk : k < 10) : thN T w 10 k = psN T false w k := by
  unfold thN psN stN mvN
  have : k = 0 ∨ k = 1 ∨ k = 2 ∨ k = 3 ∨ k = 4 ∨ k = 5 ∨ k = 6 ∨ k = 7 ∨ k = 8 ∨ k = 9 := by omega
  rcases this with rfl | rfl | rfl | rfl | rfl | rfl | rfl | rfl | rfl | rfl <;> simp [sumN, Nat.mul_add] <;> omega
theorem upd_acc (g : Nat → Int64) (a : Nat) (x : Int64) : vp_updL g a (g a + x) = fun k => g k + (if k = a then x else 0) := by
  funext k
  unfold vp_updL
  by_cases h : k = a
  · rw [if_pos h, if_pos h, h]
  · rw [if_neg h, if_neg h, Int64.add_zero]
theorem if_lN (p : Prop) [Decidable p] (x : Nat) : (if p then lN x else (0 : Int64)) = lN (if p then x else 0) := by
  by_cases h : p
  · rw [if_pos h, if_pos h]
  · rw [if_neg h, if_neg h]; rfl
theorem s9_drift {z : Nat} {μ : ST} {lv st : Nat} {w T P : Nat → Nat} (hl : LM μ lv w) (hlv : lv ≤ 2) (ht : TM μ T P) (hi : TI T P) (hst : st + 1 ≤ T 5) (hz : 12 ≤ z) : ∃ g, fX9_drift z μ (nI lv) (nI st) = some (regL (rowL μ 7 g) 4 (11 * lv) 11 (fun j => lN (psN T (decide (T 5 ≤ st + 1)) w j))) := by
  obtain ⟨t0, t1, t2, t3, t4, t5, tp⟩ := ht
  obtain ⟨i01, i0, i1, i2, i3, i4, i5, i6, ip⟩ := hi
  have l139 : ∀ g : Nat → Int64, (∀ k, k < 10 → g k = lN (psN T false w k)) → ∀ n i, i ≤ 10 → 10 < i + n → fX9_drift_139 z (nI st) (nI (11 * lv)) n (regL (rowL μ 7 g) 4 (11 * lv) i (fun j => lN (psN T (decide (T 5 ≤ st + 1)) w j))) (nI i) = some (regL (rowL μ 7 g) 4 (11 * lv) 11 (fun j => lN (psN T (decide (T 5 ≤ st + 1)) w j))) := by
    intro g hg n
    induction n with
    | zero => intro i h1 h2; omega
    | succ n ih =>
      intro i h1 h2
      unfold fX9_drift_139
      by_cases hq : i = 10
      · subst hq
        rw [if_pos (ple (a := 10) 10 10 rfl rfl (Nat.le_refl _) (by decide)), show (10 : Int32) = nI 10 from rfl, nI_add, gd_inb (by omega) (by decide), gd_inb (by omega) (by decide), nI_clamp (by omega), lt_r, regL_out (Or.inr (by omega)), rowL_ne (by decide), hl 10 (by omega), show (10 : Int64) = lN 10 from rfl, lN_mul]
        have := regL_s (σ := rowL μ 7 g) (a := 4) (o := 11 * lv) (n := 10) (F := fun j => lN (psN T (decide (T 5 ≤ st + 1)) w j))
        exact congrArg some this
      · have hh := ih (i + 1) (by omega) (by omega)
        rw [← regL_s] at hh
        have b175 : ∀ v : Int64, v = lN (psN T (decide (T 5 ≤ st + 1)) w i) → fX9_drift_175 z (fX9_drift_139 z (nI st) (nI (11 * lv)) n) (regL (rowL μ 7 g) 4 (11 * lv) i (fun j => lN (psN T (decide (T 5 ≤ st + 1)) w j))) (nI st) (nI (11 * lv)) (nI i) v (nI (11 * lv + i)) = some (regL (rowL μ 7 g) 4 (11 * lv) 11 (fun j => lN (psN T (decide (T 5 ≤ st + 1)) w j))) := by
          intro v hv
          unfold fX9_drift_175
          rw [gd_inb (by omega) (by decide), nI_clamp (by omega), lt_r, nI_1, hv]
          exact hh
        rw [if_neg (nle (a := 10) 10 i rfl rfl (by omega) (by decide)), show (1 : Int32) = nI 1 from rfl, nI_add, nI_add, regL_1, rowL_1, t5]
        by_cases hd : st + 1 = T 5
        · rw [if_pos (by rw [hd])]
          refine b175 _ ?_
          unfold psN
          rw [if_neg hq, if_pos (by simp; omega)]; rfl
        · rw [if_neg (fun q => hd ((nI_eq (by omega) (by omega)).mp q)), gd_inb (by omega) (by decide), nI_clamp (by omega), regL_ne (by decide), rowL_at, hg i (by omega)]
          refine b175 _ ?_
          rw [show decide (T 5 ≤ st + 1) = false from by simp; omega]
  have l32 : ∀ n i (g : Nat → Int64), (∀ k, k < 10 → g k = lN (thN T w i k)) → i ≤ 10 → 10 < i + n → ∃ g', fX9_drift_32 z (nI st) (nI (11 * lv)) n (rowL μ 7 g) (nI i) = some (regL (rowL μ 7 g') 4 (11 * lv) 11 (fun j => lN (psN T (decide (T 5 ≤ st + 1)) w j))) := by
    intro n
    induction n with
    | zero => intro i g hg h1 h2; omega
    | succ n ih =>
      intro i g hg h1 h2
      unfold fX9_drift_32
      by_cases hq : i = 10
      · subst hq
        rw [if_pos (ple (a := 10) 10 10 rfl rfl (Nat.le_refl _) (by decide))]
        have := l139 g (fun k hk => by rw [hg k hk, thN_all hk]) z 0 (by omega) (by omega)
        rw [regL_0] at this
        exact ⟨g, this⟩
      · have m1 := mvN_le (c := i) (f := 1) (by omega)
        have m2 := mvN_le (c := i) (f := 2) (by omega)
        have e1 : fX9_to z (nI i) (1 : Int32) = some (nI (mvN i 1)) := s9_to (f := 1) (by omega) (by decide)
        have e2 : fX9_to z (nI i) (2 : Int32) = some (nI (mvN i 2)) := s9_to (f := 2) (by omega) (by decide)
        rw [if_neg (nle (a := 10) 10 i rfl rfl (by omega) (by decide)), e1, bd_s, nI_add, gd_inb (by omega) (by decide), gd_inb (by omega) (by decide), gd_inb (by omega) (by decide), nI_clamp (by omega), nI_clamp (by omega), lt_r, rowL_pL, e2, bd_s, gd_inb (by omega) (by decide), gd_inb (by omega) (by decide), gd_inb (by omega) (by decide), nI_clamp (by omega), lt_r, rowL_pL, gd_inb (by omega) (by decide), gd_inb (by omega) (by decide), gd_inb (by omega) (by decide), nI_clamp (by omega), lt_r, rowL_pL, nI_1]
        simp only [rowL_ne (show (4 : Nat) ≠ 7 by decide), rowL_at, rowL_1, hl i (show i < 11 by omega), t0, t1]
        rw [show (10 : Int32) = nI 10 from rfl, pk_sub (by omega), pk_sub (by omega), nI_l (by omega), nI_l (by omega), nI_l (by omega), lN_mul, lN_mul, lN_mul]
        refine ih (i + 1) _ (fun k hk => ?_) (by omega) (by omega)
        have hgk := hg k hk
        have hth : thN T w (i + 1) k = thN T w i k + (((if k = mvN i 1 then w i * T 0 else 0) + (if k = mvN i 2 then w i * T 1 else 0)) + (if k = i then w i * (10 - T 0 - T 1) else 0)) := rfl
        rw [hth]
        rw [upd_acc g, upd_acc, upd_acc]
        simp only [if_lN, hgk, lN_add, Nat.add_assoc]
  have l8 : ∀ n i (g : Nat → Int64), (∀ k, k < i → g k = 0) → i ≤ 10 → 10 < i + n → ∃ g', fX9_drift_8 z (nI st) (nI (11 * lv)) n (rowL μ 7 g) (nI i) = some (regL (rowL μ 7 g') 4 (11 * lv) 11 (fun j => lN (psN T (decide (T 5 ≤ st + 1)) w j))) := by
    intro n
    induction n with
    | zero => intro i g hg h1 h2; omega
    | succ n ih =>
      intro i g hg h1 h2
      unfold fX9_drift_8
      by_cases hq : i = 10
      · subst hq
        rw [if_pos (ple (a := 10) 10 10 rfl rfl (Nat.le_refl _) (by decide))]
        exact l32 z 0 g (fun k hk => by rw [hg k hk]; rfl) (by omega) (by omega)
      · rw [if_neg (nle (a := 10) 10 i rfl rfl (by omega) (by decide)), gd_inb (by omega) (by decide), nI_clamp (by omega), lt_r, rowL_pL, nI_1]
        refine ih (i + 1) _ (fun k hk => ?_) (by omega) (by omega)
        unfold vp_updL
        by_cases h : k = i
        · rw [if_pos h]
        · rw [if_neg h]
          exact hg k (by omega)
  obtain ⟨g, e⟩ := l8 z 0 (μ.2 7) (fun k hk => by omega) (by omega) (by omega)
  rw [rowL_self] at e
  refine ⟨g, ?_⟩
  unfold fX9_drift
  rw [show (11 : Int32) = nI 11 from rfl, pk_mul]
  exact e
theorem a9_drift {z : Nat} {μ : ST} {lv st : Nat} {w T P : Nat → Nat} (hl : LM μ lv w) (hlv : lv ≤ 2) (ht : TM μ T P) (hi : TI T P) (hst : st + 1 ≤ T 5) (hz : 12 ≤ z) : ∃ μ', fX9_drift z μ (nI lv) (nI st) = some μ' ∧ LM μ' lv (fun j => psN T (decide (T 5 ≤ st + 1)) w j) ∧ FrL μ μ' lv := by
  obtain ⟨g, e⟩ := s9_drift hl hlv ht hi hst hz
  refine ⟨_, e, fun j hj => ?_, rfl, fun q h4 h7 => ?_, fun j hj => ?_⟩
  · rw [regL_in (Nat.le_add_right _ _) (by omega), Nat.add_sub_cancel_left]
  · rw [regL_ne h4, rowL_ne h7]
  · rw [regL_out hj, rowL_ne (by decide)]

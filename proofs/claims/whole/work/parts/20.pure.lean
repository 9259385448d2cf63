/-! ===== numbers and maps of the pure pictures ===== -/
theorem gd_t {α : Type} {x : Option α} : gd true x = x := rfl
theorem bd_s {α β : Type} {a : α} {f : α → Option β} : bd (some a) f = f a := rfl
theorem lt_r {α β : Type} {x : α} {f : α → Option β} : lt x f = f x := rfl
theorem nl_s {α : Type} {k : Nat} {a : Option α} {f : Nat → Option α} : nl (some k) a f = f k := rfl
theorem nl_n {α : Type} {a : Option α} {f : Nat → Option α} : nl none a f = a := rfl
theorem inb_nI {i n : Nat} (h : i < n) (hn : n < 2 ^ 31) : inb (nI i) n = true := by
  have h1 : ¬ nI i < 0 := nI_pos (by omega)
  have h2 : (nI i).toNatClampNeg = i := nI_clamp (by omega)
  simp [inb, h1, h2, h]
theorem gd_inb {α : Type} {i n : Nat} {x : Option α} (h : i < n) (hn : n < 2 ^ 31) : gd (inb (nI i) n) x = x := by rw [inb_nI h hn]; rfl
theorem gd_k {α : Type} {k n : Nat} {x : Option α} (h : kX k = n) : gd (kX k == n) x = x := by simp [gd, h]
theorem gd_z0 {α : Type} {x : Option α} : gd (zok 0) x = x := rfl
theorem gd_z1 {α : Type} {x : Option α} : gd (zok 1) x = x := rfl
theorem ple (m i : Nat) {a b : Int32} (ha : a = nI m) (hb : b = nI i) (h : m ≤ i) (hi : i < 2 ^ 31) : a ≤ b := by subst ha; subst hb; exact nI_le h hi
theorem nle (m i : Nat) {a b : Int32} (ha : a = nI m) (hb : b = nI i) (h : i < m) (hm : m < 2 ^ 31) : ¬ a ≤ b := by subst ha; subst hb; exact nI_ge h hm
theorem plt (m i : Nat) {a b : Int32} (ha : a = nI m) (hb : b = nI i) (h : m < i) (hi : i < 2 ^ 31) : a < b := by subst ha; subst hb; exact nI_lt h hi
theorem nlt (m i : Nat) {a b : Int32} (ha : a = nI m) (hb : b = nI i) (h : i ≤ m) (hm : m < 2 ^ 31) : ¬ a < b := by subst ha; subst hb; exact nI_nlt h hm
theorem peq (m i : Nat) {a b : Int32} (ha : a = nI m) (hb : b = nI i) (h : m = i) : a = b := by subst ha; subst hb; rw [h]
theorem neq (m i : Nat) {a b : Int32} (ha : a = nI m) (hb : b = nI i) (h : m ≠ i) (hm : m < 2 ^ 31) (hi : i < 2 ^ 31) : ¬ a = b := by
  subst ha; subst hb
  exact fun q => h ((nI_eq hm hi).mp q)
theorem pleL (m i : Nat) {a b : Int64} (ha : a = lN m) (hb : b = lN i) (h : m ≤ i) (hi : i < 2 ^ 63) : a ≤ b := by subst ha; subst hb; exact (pk_lLE (by omega) hi).mpr h
theorem nleL (m i : Nat) {a b : Int64} (ha : a = lN m) (hb : b = lN i) (h : i < m) (hm : m < 2 ^ 63) : ¬ a ≤ b := by subst ha; subst hb; exact fun q => absurd ((pk_lLE hm (by omega)).mp q) (by omega)
theorem pltL (m i : Nat) {a b : Int64} (ha : a = lN m) (hb : b = lN i) (h : m < i) (hi : i < 2 ^ 63) : a < b := by subst ha; subst hb; exact (pk_lLT (by omega) hi).mpr h
theorem nltL (m i : Nat) {a b : Int64} (ha : a = lN m) (hb : b = lN i) (h : i ≤ m) (hm : m < 2 ^ 63) : ¬ a < b := by subst ha; subst hb; exact fun q => absurd ((pk_lLT hm (by omega)).mp q) (by omega)
theorem neqL (m i : Nat) {a b : Int64} (ha : a = lN m) (hb : b = lN i) (h : m ≠ i) (hm : m < 2 ^ 63) (hi : i < 2 ^ 63) : ¬ a = b := by subst ha; subst hb; exact fun q => h ((pk_lEQ hm hi).mp q)
/-- a stretch of a row of longs, of ints, all at once -/
def regL (σ : ST) (a o n : Nat) (F : Nat → Int64) : ST := (σ.1, fun q => if q = a then (fun j => if o ≤ j ∧ j < o + n then F (j - o) else σ.2 a j) else σ.2 q)
def regI (σ : ST) (a o n : Nat) (F : Nat → Int32) : ST := (fun q => if q = a then (fun j => if o ≤ j ∧ j < o + n then F (j - o) else σ.1 a j) else σ.1 q, σ.2)
theorem regL_0 {σ : ST} {a o : Nat} {F : Nat → Int64} : regL σ a o 0 F = σ := by
  refine Prod.ext rfl (funext fun q => ?_)
  by_cases h : q = a
  · subst h
    simp only [regL, if_true]
    funext j
    rw [if_neg (by omega)]
  · simp [regL, h]
theorem regI_0 {σ : ST} {a o : Nat} {F : Nat → Int32} : regI σ a o 0 F = σ := by
  refine Prod.ext (funext fun q => ?_) rfl
  by_cases h : q = a
  · subst h
    simp only [regI, if_true]
    funext j
    rw [if_neg (by omega)]
  · simp [regI, h]
theorem regL_s {σ : ST} {a o n : Nat} {F : Nat → Int64} : pL (regL σ a o n F) a (o + n) (F n) = regL σ a o (n + 1) F := by
  refine Prod.ext rfl (funext fun q => ?_)
  by_cases h : q = a
  · subst h
    simp only [regL, pL, if_true]
    funext j
    simp only [vp_updL]
    by_cases hj : j = o + n
    · subst hj
      rw [if_pos rfl, if_pos (by omega)]
      congr 1
      omega
    · rw [if_neg hj]
      by_cases h2 : o ≤ j ∧ j < o + n
      · rw [if_pos h2, if_pos (by omega)]
      · rw [if_neg h2, if_neg (by omega)]
  · simp [regL, pL, h]
theorem regI_s {σ : ST} {a o n : Nat} {F : Nat → Int32} : pI (regI σ a o n F) a (o + n) (F n) = regI σ a o (n + 1) F := by
  refine Prod.ext (funext fun q => ?_) rfl
  by_cases h : q = a
  · subst h
    simp only [regI, pI, if_true]
    funext j
    simp only [upd]
    by_cases hj : j = o + n
    · subst hj
      rw [if_pos rfl, if_pos (by omega)]
      congr 1
      omega
    · rw [if_neg hj]
      by_cases h2 : o ≤ j ∧ j < o + n
      · rw [if_pos h2, if_pos (by omega)]
      · rw [if_neg h2, if_neg (by omega)]
  · simp [regI, pI, h]
theorem regL_in {σ : ST} {a o n j : Nat} {F : Nat → Int64} (h1 : o ≤ j) (h2 : j < o + n) : (regL σ a o n F).2 a j = F (j - o) := by simp [regL, h1, h2]
theorem regL_out {σ : ST} {a o n j : Nat} {F : Nat → Int64} (h : j < o ∨ o + n ≤ j) : (regL σ a o n F).2 a j = σ.2 a j := by
  simp only [regL, if_true]
  rw [if_neg (by omega)]
theorem regL_ne {σ : ST} {a o n q : Nat} {F : Nat → Int64} (h : q ≠ a) : (regL σ a o n F).2 q = σ.2 q := by simp [regL, h]
theorem regL_1 {σ : ST} {a o n : Nat} {F : Nat → Int64} : (regL σ a o n F).1 = σ.1 := rfl
theorem regI_in {σ : ST} {a o n j : Nat} {F : Nat → Int32} (h1 : o ≤ j) (h2 : j < o + n) : (regI σ a o n F).1 a j = F (j - o) := by simp [regI, h1, h2]
theorem regI_out {σ : ST} {a o n j : Nat} {F : Nat → Int32} (h : j < o ∨ o + n ≤ j) : (regI σ a o n F).1 a j = σ.1 a j := by
  simp only [regI, if_true]
  rw [if_neg (by omega)]
theorem regI_ne {σ : ST} {a o n q : Nat} {F : Nat → Int32} (h : q ≠ a) : (regI σ a o n F).1 q = σ.1 q := by simp [regI, h]
theorem regI_2 {σ : ST} {a o n : Nat} {F : Nat → Int32} : (regI σ a o n F).2 = σ.2 := rfl
theorem pI_at {σ : ST} {k j : Nat} {v : Int32} : (pI σ k j v).1 k j = v := by simp [pI, upd]
theorem pI_nj {σ : ST} {k j i : Nat} {v : Int32} (h : i ≠ j) : (pI σ k j v).1 k i = σ.1 k i := by simp [pI, upd, h]
theorem pL_at {σ : ST} {k j : Nat} {v : Int64} : (pL σ k j v).2 k j = v := by simp [pL, vp_updL]
theorem pL_nj {σ : ST} {k j i : Nat} {v : Int64} (h : i ≠ j) : (pL σ k j v).2 k i = σ.2 k i := by simp [pL, vp_updL, h]
/-- the first n of a row of naturals together -/
def sumN (w : Nat → Nat) : Nat → Nat
  | 0 => 0
  | n + 1 => sumN w n + w n
theorem sumN_congr {w v : Nat → Nat} {n : Nat} (h : ∀ j, j < n → w j = v j) : sumN w n = sumN v n := by
  induction n with
  | zero => rfl
  | succ n ih => rw [sumN, sumN, ih (fun j hj => h j (by omega)), h n (by omega)]
theorem sumN_le {w v : Nat → Nat} {n : Nat} (h : ∀ j, j < n → w j ≤ v j) : sumN w n ≤ sumN v n := by
  induction n with
  | zero => exact Nat.le_refl _
  | succ n ih => exact Nat.add_le_add (ih (fun j hj => h j (by omega))) (h n (by omega))
theorem sumN_mul {w : Nat → Nat} {n c : Nat} : sumN (fun j => w j * c) n = sumN w n * c := by
  induction n with
  | zero => simp [sumN]
  | succ n ih => rw [sumN, sumN, ih, Nat.add_mul]
theorem sumN_add {w v : Nat → Nat} {n : Nat} : sumN (fun j => w j + v j) n = sumN w n + sumN v n := by
  induction n with
  | zero => rfl
  | succ n ih => simp only [sumN, ih]; omega
theorem sumN_mem {w : Nat → Nat} {n j : Nat} (h : j < n) : w j ≤ sumN w n := by
  induction n with
  | zero => omega
  | succ n ih =>
    rw [sumN]
    by_cases hj : j = n
    · subst hj; omega
    · have := ih (by omega); omega
theorem sumN_0 {w : Nat → Nat} {n : Nat} : sumN w n = 0 ↔ ∀ j, j < n → w j = 0 := by
  induction n with
  | zero => simp [sumN]
  | succ n ih =>
    rw [sumN]
    constructor
    · intro h j hj
      by_cases hjn : j = n
      · subst hjn; omega
      · exact ih.mp (by omega) j (by omega)
    · intro h
      have h1 := ih.mpr (fun j hj => h j (by omega))
      have h2 := h n (by omega)
      omega
/-! ===== the scene's methods, in closed form ===== -/
theorem s_of {z : Nat} {σ : ST} {k i : Nat} (hk : kX k = 3) (hi : i < 11) : fX4_of z σ k (nI i) = some (σ.2 (k + 1) i) := by
  unfold fX4_of
  rw [gd_k hk, if_neg (nI_pos (by omega)), if_neg (nle (a := 11) 11 i rfl rfl hi (by decide)), gd_inb hi (by decide), nI_clamp (by omega)]
  rfl
theorem s_lowOf {z : Nat} {σ : ST} {k i : Nat} (hk : kX k = 3) (hi : i < 2) : fX4_lowOf z σ k (nI i) = some (σ.1 (k + 2) i) := by
  unfold fX4_lowOf
  rw [gd_k hk, if_neg (nI_pos (by omega)), if_neg (nle (a := 2) 2 i rfl rfl hi (by decide)), gd_inb hi (by decide), nI_clamp (by omega)]
  rfl
theorem s_highOf {z : Nat} {σ : ST} {k i : Nat} (hk : kX k = 3) (hi : i < 2) : fX4_highOf z σ k (nI i) = some (σ.1 (k + 3) i) := by
  unfold fX4_highOf
  rw [gd_k hk, if_neg (nI_pos (by omega)), if_neg (nle (a := 2) 2 i rfl rfl hi (by decide)), gd_inb hi (by decide), nI_clamp (by omega)]
  rfl
theorem s_together {z : Nat} {σ : ST} {k : Nat} {w : Nat → Nat} (hk : kX k = 3) (hz : 12 ≤ z) (hw : ∀ j, j < 11 → σ.2 (k + 1) j = lN (w j)) : fX4_together z σ k = some (lN (sumN w 11)) := by
  have loop : ∀ n i, i ≤ 11 → 11 < i + n → fX4_together_4 z σ k n (lN (sumN w i)) (nI i) = some (lN (sumN w 11)) := by
    intro n
    induction n with
    | zero => intro i h1 h2; omega
    | succ n ih =>
      intro i h1 h2
      unfold fX4_together_4
      by_cases hi : i = 11
      · subst hi
        rw [if_pos (ple (a := 11) 11 11 rfl rfl (Nat.le_refl _) (by decide))]
      · rw [if_neg (nle (a := 11) 11 i rfl rfl (by omega) (by decide)), gd_inb (by omega) (by decide), nI_clamp (by omega), nI_1, hw i (by omega), lN_add]
        exact ih (i + 1) (by omega) (by omega)
  unfold fX4_together
  rw [gd_k hk]
  exact loop z 0 (by omega) (by omega)
/-- what a copy of a scene makes -/
def cpS (σ : ST) (k k2 : Nat) : ST := pI (pI (pI (regI (regI (regL σ (k + 1) 0 11 (σ.2 (k2 + 1))) (k + 2) 0 2 (σ.1 (k2 + 2))) (k + 3) 0 2 (σ.1 (k2 + 3))) k 3 (σ.1 k2 3)) k 4 (σ.1 k2 4)) k 5 (σ.1 k2 5)
theorem sc_apart {k k2 : Nat} (h : kX k = 3) (h2 : kX k2 = 3) (hn : k ≠ k2) : k2 ≠ k + 1 ∧ k2 ≠ k + 2 ∧ k2 ≠ k + 3 ∧ k2 + 1 ≠ k ∧ k2 + 1 ≠ k + 1 ∧ k2 + 1 ≠ k + 2 ∧ k2 + 1 ≠ k + 3 ∧ k2 + 2 ≠ k ∧ k2 + 2 ≠ k + 1 ∧ k2 + 2 ≠ k + 2 ∧ k2 + 2 ≠ k + 3 ∧ k2 + 3 ≠ k ∧ k2 + 3 ≠ k + 1 ∧ k2 + 3 ≠ k + 2 ∧ k2 + 3 ≠ k + 3 := by
  have a1 := kSX4_1 h; have a2 := kSX4_2 h; have a3 := kSX4_3 h
  have b1 := kSX4_1 h2; have b2 := kSX4_2 h2; have b3 := kSX4_3 h2
  refine ⟨?_, ?_, ?_, ?_, ?_, ?_, ?_, ?_, ?_, ?_, ?_, ?_, ?_, ?_, ?_⟩ <;> intro q <;> first | omega | (rw [q] at h2; omega) | (rw [q] at b1; omega) | (rw [q] at b2; omega) | (rw [q] at b3; omega) | skip
  · have : k2 = k + 1 := by omega
    rw [this] at h2; omega
  · have : k = k2 + 1 := by omega
    rw [this] at h; omega

/-! ===== the reference's reading of a part ===== -/
def SR (μ : ST) (S : Option (Nat × Nat)) : Prop := match S with
  | none => μ.1 0 12 = -9
  | some q => μ.1 0 12 = nI q.1 ∧ μ.1 0 13 = nI q.2 ∧ q.1 ≤ 9 ∧ q.2 ≤ 6
def KR (μ : ST) (K : Nat → Nat) : Prop := ∀ j, j < 11 → μ.1 3 j = nI (K j) ∧ K j ≤ 9
def IR (μ : ST) (K : Nat → Nat) (S : Option (Nat × Nat)) (i : Nat) : Prop := μ.1 0 18 = nI i ∧ μ.1 0 19 = -9 ∧ KR μ K ∧ SR μ S
theorem r_left {z : Nat} {μ : ST} {K : Nat → Nat} (hK : KR μ K) (hz : 12 ≤ z) : (¬ (∀ j, j < 10 → K j ≠ 0) → fX9_isCellLeft z μ = some 1) ∧ ((∀ j, j < 10 → K j ≠ 0) → fX9_isCellLeft z μ = some 0) := by
  have one' : ∀ m i, i ≤ 10 → 10 < i + m → fX9_isCellLeft_4 z μ m 1 (nI i) = some 1 := by
    intro m
    induction m with
    | zero => intro i h1 h2; omega
    | succ m ih =>
      intro i h1 h2
      unfold fX9_isCellLeft_4 fX9_isCellLeft_23 fX9_isCellLeft_28
      by_cases h10 : i = 10
      · rw [if_pos (ple (a := 10) 10 i rfl rfl (by omega) (by omega)), gd_z1]
      · rw [if_neg (nle (a := 10) 10 i rfl rfl (by omega) (by decide)), if_neg one0, nI_1]
        exact ih (i + 1) (by omega) (by omega)
  have zero' : ∀ m i, i ≤ 10 → 10 < i + m → ((¬ ∀ j, i ≤ j → j < 10 → K j ≠ 0) → fX9_isCellLeft_4 z μ m 0 (nI i) = some 1) ∧ ((∀ j, i ≤ j → j < 10 → K j ≠ 0) → fX9_isCellLeft_4 z μ m 0 (nI i) = some 0) := by
    intro m
    induction m with
    | zero => intro i h1 h2; omega
    | succ m ih =>
      intro i h1 h2
      unfold fX9_isCellLeft_4 fX9_isCellLeft_23 fX9_isCellLeft_28
      by_cases h10 : i = 10
      · rw [if_pos (ple (a := 10) 10 i rfl rfl (by omega) (by omega)), gd_z0]
        exact ⟨fun q => absurd (fun j j1 j2 => by omega) q, fun _ => rfl⟩
      · obtain ⟨k1, k2⟩ := hK i (by omega)
        rw [if_neg (nle (a := 10) 10 i rfl rfl (by omega) (by decide)), if_pos rfl, gd_inb (by omega) (by decide), nI_clamp (by omega), k1, nI_1]
        by_cases h0 : K i = 0
        · rw [if_pos (peq (b := 0) (K i) 0 rfl rfl h0)]
          exact ⟨fun _ => one' m (i + 1) (by omega) (by omega), fun q => absurd h0 (q i (Nat.le_refl _) (by omega))⟩
        · rw [if_neg (neq (b := 0) (K i) 0 rfl rfl h0 (by omega) (by decide))]
          obtain ⟨g1, g2⟩ := ih (i + 1) (by omega) (by omega)
          refine ⟨fun q => g1 (fun g => q (fun j j1 j2 => ?_)), fun q => g2 (fun j j1 j2 => q j (by omega) j2)⟩
          by_cases e : j = i
          · rw [e]; exact h0
          · exact g j (by omega) j2
  obtain ⟨g1, g2⟩ := zero' z 0 (by omega) (by omega)
  unfold fX9_isCellLeft
  exact ⟨fun q => g1 (fun g => q (fun j hj => g j (Nat.zero_le _) hj)), fun q => g2 (fun j _ hj => q j hj)⟩
theorem KR.eq {μ μ' : ST} {K : Nat → Nat} (h : KR μ K) (e : μ'.1 3 = μ.1 3) : KR μ' K := fun j hj => by rw [e]; exact h j hj
theorem KR.set {μ : ST} {K : Nat → Nat} {c d : Nat} (h : KR μ K) (hd : d ≤ 9) : KR (pI μ 3 c (nI d)) (fun j => if j = c then d else K j) := fun j hj => by
  show (pI μ 3 c (nI d)).1 3 j = nI (if j = c then d else K j) ∧ (if j = c then d else K j) ≤ 9
  by_cases e : j = c
  · rw [if_pos e, e, pI_at]; exact ⟨rfl, hd⟩
  · rw [if_neg e, pI_nj e]; exact h j hj
theorem SR.eq {μ μ' : ST} {S : Option (Nat × Nat)} (h : SR μ S) (e12 : μ'.1 0 12 = μ.1 0 12) (e13 : μ'.1 0 13 = μ.1 0 13) : SR μ' S := by
  cases S with
  | none => exact e12.trans h
  | some q => exact ⟨e12.trans h.1, e13.trans h.2.1, h.2.2⟩

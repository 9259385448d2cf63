/-! ===== the reference's head: one figure after the other ===== -/
def FH (μ μ' : ST) : Prop := (∀ q, q ≠ 0 → q ≠ 2 → q ≠ 3 → μ'.1 q = μ.1 q) ∧ (∀ j, j ≠ 12 → j ≠ 13 → j ≠ 18 → j ≠ 19 → μ'.1 0 j = μ.1 0 j) ∧ μ'.2 = μ.2
theorem FH.rf {μ : ST} : FH μ μ := ⟨fun _ _ _ _ => rfl, fun _ _ _ _ _ => rfl, rfl⟩
theorem FH.tr {a b c : ST} (h1 : FH a b) (h2 : FH b c) : FH a c := ⟨fun q x y w => (h2.1 q x y w).trans (h1.1 q x y w), fun j x y w v => (h2.2.1 j x y w v).trans (h1.2.1 j x y w v), h2.2.2.trans h1.2.2⟩
theorem FR.fh {μ μ' : ST} (h : FR μ μ') : FH μ μ' := ⟨fun q a _ c => h.1 q a c, h.2.1, h.2.2⟩
theorem FH.mt {μ μ' : ST} {L : Nat} {t : Nat → Nat} (h : FH μ μ') (ht : MTx μ L t) : MTx μ' L t := ⟨(h.2.1 17 (by decide) (by decide) (by decide) (by decide)).trans ht.1, ht.2.1, fun j hj => by rw [h.1 6 (by decide) (by decide) (by decide)]; exact ht.2.2 j hj⟩
theorem FH.p2 {μ : ST} {j : Nat} {v : Int32} : FH μ (pI μ 2 j v) := ⟨fun p _ h2 _ => pI_n h2, fun i _ _ _ _ => by rw [pI_n (by decide)], rfl⟩
def stG (z : Nat) (lo hi : Int32) (j : Nat) (k : ST → Option (Int32 × ST)) (σ : ST) : Option (Int32 × ST) := bd (fX9_figure z σ lo hi) (fun u => gd (inb (nI j) 7) (lt (pI u.2 2 j u.1) k))
/-- what the head holds where there is no fault ahead of i -/
def HR (μ : ST) (L : Nat) (t : Nat → Nat) (i : Nat) : Prop := μ.1 0 18 = nI i ∧ μ.1 0 19 = -9 ∧ μ.1 0 12 = -9 ∧ KR μ (fun _ => 0) ∧ ∀ j, 1 ≤ j → j < i → μ.1 2 j = nI (dvN L t j)
theorem g_bad {z lo j f : Nat} {hi : Int32} {k : ST → Option (Int32 × ST)} (hlo : lo ≤ 9) (hj : j < 7) (hf : f ≤ 40) (hk : ∀ σ : ST, σ.1 0 19 = nI f → ∃ σ', k σ = some (nI f, σ') ∧ FH σ σ') : ∀ σ : ST, σ.1 0 19 = nI f → ∃ σ', stG z (nI lo) hi j k σ = some (nI f, σ') ∧ FH σ σ' := by
  intro σ h
  have nf : ¬ σ.1 0 19 = (-9 : Int32) := by
    rw [h]
    intro q
    have h1 : (nI f) < 0 := by rw [q]; decide
    exact nI_pos (by omega) h1
  have q19 : (pI (pI σ 0 19 (σ.1 0 19)) 2 j (nI lo)).1 0 19 = nI f := by rw [pI_n (by decide), pI_at]; exact h
  obtain ⟨σ', e, f'⟩ := hk _ q19
  refine ⟨σ', ?_, ((FR.p0 (by decide)).fh.tr FH.p2).tr f'⟩
  unfold stG
  rw [r_figF nf hlo, bd_s, gd_inb hj (by decide), lt_r]
  exact e
theorem g_ok {z L lo hi i : Nat} {μ : ST} {t : Nat → Nat} {k : ST → Option (Int32 × ST)} (ht : MTx μ L t) (hh : HR μ L t i) (h1 : 1 ≤ i) (h6 : i ≤ 6) (hL : i ≤ L) (hlh : lo ≤ hi) (h9 : hi ≤ 9) : (lo ≤ dvN L t i ∧ dvN L t i ≤ hi → ∃ μ', stG z (nI lo) (nI hi) i k μ = k μ' ∧ HR μ' L t (i + 1) ∧ FH μ μ') ∧ (¬ (lo ≤ dvN L t i ∧ dvN L t i ≤ hi) → ∃ μ', stG z (nI lo) (nI hi) i k μ = k μ' ∧ μ'.1 0 19 = nI i ∧ FH μ μ') := by
  obtain ⟨a1, a2, a3, a4, a5⟩ := hh
  obtain ⟨g1, g2⟩ := r_fig (z := z) (lo := lo) (hi := hi) ht a1 a2 hL hlh h9
  unfold stG
  constructor
  · intro h
    rw [g1 h, bd_s, gd_inb (by omega) (by decide), lt_r]
    refine ⟨_, rfl, ⟨by rw [pI_n (by decide)]; exact pI_at, by rw [pI_n (by decide), pI_nj (by decide)]; exact a2, by rw [pI_n (by decide), pI_nj (by decide)]; exact a3, (a4.eq (pI_n (by decide))).eq (pI_n (by decide)), fun j j1 j2 => ?_⟩, (FR.p0 (by decide)).fh.tr FH.p2⟩
    by_cases e : j = i
    · rw [e]; exact pI_at
    · rw [pI_nj e, pI_n (by decide)]
      exact a5 j j1 (by omega)
  · intro h
    rw [g2 h, bd_s, gd_inb (by omega) (by decide), lt_r]
    exact ⟨_, rfl, by rw [pI_n (by decide)]; exact pI_at, (FR.p0 (by decide)).fh.tr FH.p2⟩

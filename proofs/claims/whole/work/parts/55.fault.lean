/-! ===== fault ===== -/
theorem r_zero {z : Nat} : ∀ (n i : Nat) (σ : ST), i ≤ 11 → 11 < i + n → ∃ n', fX9_readText_19 z n (regI σ 3 0 i (fun _ => 0)) (nI i) = fX9_readText_19 z (n' + 1) (regI σ 3 0 11 (fun _ => 0)) (nI 11) := by
  intro n
  induction n with
  | zero => intro i σ h1 h2; omega
  | succ n ih =>
    intro i σ h1 h2
    by_cases hi : i = 11
    · subst hi
      exact ⟨n, rfl⟩
    · obtain ⟨n', e⟩ := ih (i + 1) σ (by omega) (by omega)
      refine ⟨n', ?_⟩
      rw [← e]
      conv => lhs; unfold fX9_readText_19
      rw [if_neg (nle (a := 11) 11 i rfl rfl (by omega) (by decide)), gd_inb (by omega) (by decide), nI_clamp (by omega), lt_r, nI_1]
      have := regI_s0 (σ := σ) (a := 3) (n := i) (F := fun _ => (0 : Int32))
      rw [← this]

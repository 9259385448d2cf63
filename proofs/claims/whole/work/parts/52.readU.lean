/-! ===== the reference reads all parts ===== -/
/-- the reading's end: its answer, and what it holds where there is no fault -/
def EndR (μ' : ST) (x : Int32) (r : Nat ⊕ ((Nat → Nat) × Option (Nat × Nat))) : Prop := x = fvN r ∧ ∀ K S, r = .inr (K, S) → KR μ' K ∧ SR μ' S
theorem r_read {z L : Nat} {t : Nat → Nat} (hz : 12 ≤ z) : ∀ (m i fuel : Nat) (K : Nat → Nat) (S : Option (Nat × Nat)) (μ : ST), L < i + m → L + 2 ≤ i + fuel → i ≤ L → MTx μ L t → IR μ K S i → ∃ x μ', fX9_readText_163 z fuel μ = some (x, μ') ∧ FR μ μ' ∧ EndR μ' x (rdN L t m i K S) := by
  intro m
  induction m with
  | zero => intro i fuel K S μ h1 h2 h3; omega
  | succ m ih =>
    intro i fuel K S μ h1 h2 h3 ht hI
    have h40 := ht.2.1
    obtain ⟨n, rfl⟩ : ∃ n, fuel = n + 2 := ⟨fuel - 2, by omega⟩
    by_cases hl : L ≤ i
    · refine ⟨-9, μ, ?_, FR.rf, ?_⟩
      · unfold fX9_readText_163 fX9_readText_199
        rw [if_pos hI.2.1, ht.1, hI.1, if_pos (ple L i rfl rfl hl (by omega)), hI.2.1]
      · have e : rdN L t (m + 1) i K S = .inr (K, S) := by unfold rdN; rw [if_pos hl]
        rw [e]
        refine ⟨rfl, fun K' S' q => ?_⟩
        have q2 := Sum.inr.inj q
        have qa := congrArg Prod.fst q2
        have qb := congrArg Prod.snd q2
        simp only at qa qb
        rw [← qa, ← qb]
        exact ⟨hI.2.2.1, hI.2.2.2⟩
    · have hil : i < L := by omega
      obtain ⟨μ1, e1, f1, o1⟩ := r_part (z := z) (m := m) ht hI hil hz
      have st : fX9_readText_163 z (n + 2) μ = fX9_readText_163 z (n + 1) μ1 := by
        conv => lhs; unfold fX9_readText_163
        rw [if_pos hI.2.1, ht.1, hI.1, if_neg (nle L i rfl rfl hil (by omega)), gd_inb (by omega) (by decide), nI_clamp (by omega), (ht.2.2 i hil).1, e1, bd_s]
      rw [st]
      rcases o1 with ⟨f, g1, g2, g3⟩ | ⟨i', K', S', g1, g2, g3, g4⟩
      · have nf : ¬ nI f = (-9 : Int32) := by
          intro q
          have h1 : (nI f) < 0 := by rw [q]; decide
          exact nI_pos (by omega) h1
        refine ⟨nI f, μ1, ?_, f1, ?_⟩
        · unfold fX9_readText_163 fX9_readText_199
          rw [if_neg (by rw [g3]; exact nf), g3]
        · rw [g1]
          exact ⟨rfl, fun K S q => (by cases q)⟩
      · obtain ⟨x, μ', k1, k2, k3⟩ := ih i' (n + 1) K' S' μ1 (by omega) (by omega) g4 (f1.mt ht) g2
        exact ⟨x, μ', k1, f1.tr k2, by rw [g1]; exact k3⟩

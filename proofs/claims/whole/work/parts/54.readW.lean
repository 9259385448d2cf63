/-! ===== the reference's head behind the first figure ===== -/
theorem k6_bad {z f : Nat} (hz : 1 ≤ z) (hf : f ≤ 40) : ∀ σ : ST, σ.1 0 19 = nI f → ∃ σ', fX9_readText_163 z z σ = some (nI f, σ') ∧ FH σ σ' := by
  intro σ h
  obtain ⟨y, rfl⟩ : ∃ y, z = y + 1 := ⟨z - 1, by omega⟩
  have nf : ¬ σ.1 0 19 = (-9 : Int32) := by
    rw [h]
    intro q
    have h1 : (nI f) < 0 := by rw [q]; decide
    exact nI_pos (by omega) h1
  refine ⟨σ, ?_, FH.rf⟩
  unfold fX9_readText_163 fX9_readText_199
  rw [if_neg nf, h]
/-- the whole reading's end: its answer; where there is no fault, the parts, the second and the head's figures -/
def EndW (μ' : ST) (x : Int32) (L : Nat) (t : Nat → Nat) (r : Nat ⊕ ((Nat → Nat) × Option (Nat × Nat))) : Prop := x = fvN r ∧ ∀ K S, r = .inr (K, S) → KR μ' K ∧ SR μ' S ∧ ∀ j, 1 ≤ j → j < 7 → μ'.1 2 j = nI (dvN L t j)
theorem EndW.f {μ' : ST} {L : Nat} {t : Nat → Nat} {f : Nat} : EndW μ' (nI f) L t (.inl f) := ⟨rfl, fun K S q => (by cases q)⟩
theorem r_106 {z L hi : Nat} {μ : ST} {t : Nat → Nat} (hz : 100 ≤ z) (ht : MTx μ L t) (hh : HR μ L t 2) (hL : 2 ≤ L) (h9 : hi ≤ 9) : ∃ x μ', fX9_readText_106 z μ (nI hi) 0 2 = some (x, μ') ∧ FH μ μ' ∧ EndW μ' x L t (if ¬ dvN L t 2 ≤ hi then .inl 2 else if ¬ dvN L t 3 ≤ 9 then .inl 3 else if ¬ dvN L t 4 ≤ 9 then .inl 4 else if ¬ dvN L t 5 ≤ 9 then .inl 5 else if ¬ (1 ≤ dvN L t 6 ∧ dvN L t 6 ≤ 6) then .inl 6 else rdN L t 41 7 (fun _ => 0) none) := by
  have h40 := ht.2.1
  have e : fX9_readText_106 z μ (nI hi) 0 2 = stG z (nI 0) (nI hi) 2 (stG z (nI 0) (nI 9) 3 (stG z (nI 0) (nI 9) 4 (stG z (nI 0) (nI 9) 5 (stG z (nI 1) (nI 6) 6 (fX9_readText_163 z z))))) μ := rfl
  rw [e]
  have dl : ∀ i, dvN L t i ≤ 9 → i < L := fun i h => by
    have := dv_or L t i
    omega
  have b6 : ∀ f, f ≤ 40 → _ := fun f hf => k6_bad (z := z) (f := f) (by omega) hf
  have b5 : ∀ f, f ≤ 40 → _ := fun f hf => g_bad (z := z) (lo := 1) (j := 6) (hi := nI 6) (by decide) (by decide) hf (b6 f hf)
  have b4 : ∀ f, f ≤ 40 → _ := fun f hf => g_bad (z := z) (lo := 0) (j := 5) (hi := nI 9) (by decide) (by decide) hf (b5 f hf)
  have b3 : ∀ f, f ≤ 40 → _ := fun f hf => g_bad (z := z) (lo := 0) (j := 4) (hi := nI 9) (by decide) (by decide) hf (b4 f hf)
  have b2 : ∀ f, f ≤ 40 → _ := fun f hf => g_bad (z := z) (lo := 0) (j := 3) (hi := nI 9) (by decide) (by decide) hf (b3 f hf)
  obtain ⟨p1, p2⟩ := g_ok (z := z) (lo := 0) (hi := hi) (k := stG z (nI 0) (nI 9) 3 (stG z (nI 0) (nI 9) 4 (stG z (nI 0) (nI 9) 5 (stG z (nI 1) (nI 6) 6 (fX9_readText_163 z z))))) ht hh (by decide) (by decide) hL (Nat.zero_le _) h9
  by_cases c2 : dvN L t 2 ≤ hi
  · rw [if_neg (fun q => q c2)]
    have l2 := dl 2 (by omega)
    obtain ⟨μ2, e2, hh2, f2⟩ := p1 ⟨Nat.zero_le _, c2⟩
    have t2 := f2.mt ht
    rw [e2]
    obtain ⟨p1, p2⟩ := g_ok (z := z) (lo := 0) (hi := 9) (k := stG z (nI 0) (nI 9) 4 (stG z (nI 0) (nI 9) 5 (stG z (nI 1) (nI 6) 6 (fX9_readText_163 z z)))) t2 hh2 (by decide) (by decide) (by omega) (by decide) (by decide)
    by_cases c3 : dvN L t 3 ≤ 9
    · rw [if_neg (fun q => q c3)]
      have l3 := dl 3 c3
      obtain ⟨μ3, e3, hh3, f3⟩ := p1 ⟨Nat.zero_le _, c3⟩
      have t3 := f3.mt t2
      rw [e3]
      obtain ⟨p1, p2⟩ := g_ok (z := z) (lo := 0) (hi := 9) (k := stG z (nI 0) (nI 9) 5 (stG z (nI 1) (nI 6) 6 (fX9_readText_163 z z))) t3 hh3 (by decide) (by decide) (by omega) (by decide) (by decide)
      by_cases c4 : dvN L t 4 ≤ 9
      · rw [if_neg (fun q => q c4)]
        have l4 := dl 4 c4
        obtain ⟨μ4, e4, hh4, f4⟩ := p1 ⟨Nat.zero_le _, c4⟩
        have t4 := f4.mt t3
        rw [e4]
        obtain ⟨p1, p2⟩ := g_ok (z := z) (lo := 0) (hi := 9) (k := stG z (nI 1) (nI 6) 6 (fX9_readText_163 z z)) t4 hh4 (by decide) (by decide) (by omega) (by decide) (by decide)
        by_cases c5 : dvN L t 5 ≤ 9
        · rw [if_neg (fun q => q c5)]
          have l5 := dl 5 c5
          obtain ⟨μ5, e5, hh5, f5⟩ := p1 ⟨Nat.zero_le _, c5⟩
          have t5 := f5.mt t4
          rw [e5]
          obtain ⟨p1, p2⟩ := g_ok (z := z) (lo := 1) (hi := 6) (k := fX9_readText_163 z z) t5 hh5 (by decide) (by decide) (by omega) (by decide) (by decide)
          by_cases c6 : 1 ≤ dvN L t 6 ∧ dvN L t 6 ≤ 6
          · rw [if_neg (fun q => q c6)]
            have l6 := dl 6 (by omega)
            obtain ⟨μ6, e6, hh6, f6⟩ := p1 c6
            rw [e6]
            obtain ⟨x, μ', k1, k2, k3⟩ := r_read (z := z) (L := L) (t := t) (by omega) 41 7 z (fun _ => 0) none μ6 (by omega) (by omega) (by omega) (f6.mt t5) ⟨hh6.1, hh6.2.1, hh6.2.2.2.1, hh6.2.2.1⟩
            refine ⟨x, μ', k1, ((((f2.tr f3).tr f4).tr f5).tr f6).tr k2.fh, k3.1, fun K S q => ?_⟩
            obtain ⟨q1, q2⟩ := k3.2 K S q
            exact ⟨q1, q2, fun j j1 j2 => by rw [k2.1 2 (by decide) (by decide)]; exact hh6.2.2.2.2 j j1 j2⟩
          · rw [if_pos c6]
            obtain ⟨μ6, e6, hh6, f6⟩ := p2 c6
            obtain ⟨μ', k1, k2⟩ := b6 6 (by decide) μ6 hh6
            exact ⟨_, μ', by rw [e6]; exact k1, ((((f2.tr f3).tr f4).tr f5).tr f6).tr k2, EndW.f⟩
        · rw [if_pos c5]
          obtain ⟨μ5, e5, hh5, f5⟩ := p2 (fun q => c5 q.2)
          obtain ⟨μ', k1, k2⟩ := b5 5 (by decide) μ5 hh5
          exact ⟨_, μ', by rw [e5]; exact k1, (((f2.tr f3).tr f4).tr f5).tr k2, EndW.f⟩
      · rw [if_pos c4]
        obtain ⟨μ4, e4, hh4, f4⟩ := p2 (fun q => c4 q.2)
        obtain ⟨μ', k1, k2⟩ := b4 4 (by decide) μ4 hh4
        exact ⟨_, μ', by rw [e4]; exact k1, ((f2.tr f3).tr f4).tr k2, EndW.f⟩
    · rw [if_pos c3]
      obtain ⟨μ3, e3, hh3, f3⟩ := p2 (fun q => c3 q.2)
      obtain ⟨μ', k1, k2⟩ := b3 3 (by decide) μ3 hh3
      exact ⟨_, μ', by rw [e3]; exact k1, (f2.tr f3).tr k2, EndW.f⟩
  · rw [if_pos c2]
    obtain ⟨μ2, e2, hh2, f2⟩ := p2 (fun q => c2 q.2)
    obtain ⟨μ', k1, k2⟩ := b2 2 (by decide) μ2 hh2
    exact ⟨_, μ', by rw [e2]; exact k1, f2.tr k2, EndW.f⟩

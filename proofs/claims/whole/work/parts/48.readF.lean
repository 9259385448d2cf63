/-! ===== the class's first fault, with its head ===== -/
theorem hf_d {z L i : Nat} {σ : ST} {t : Nat → Nat} (ht : CTx σ L t) (hi : i = 1 ∨ i = 3 ∨ i = 4 ∨ i = 5) : (dvN L t i ≤ 9 → fX6_headFits z σ (nI i) = some 1) ∧ (¬ dvN L t i ≤ 9 → fX6_headFits z σ (nI i) = some 0) := by
  have hdv := dv_or L t i
  have hd2 : dvN L t i = 99 ∨ dvN L t i ≤ 9 := by omega
  have e : fX6_headFits z σ (nI i) = if dI (dvN L t i) < 0 then some 0 else some 1 := by
    unfold fX6_headFits fX6_headFits_104
    rw [s_digitAt ht (by omega), bd_s, if_neg (neq (b := 0) i 0 rfl rfl (by omega) (by omega) (by decide)), if_neg (neq (b := 2) i 2 rfl rfl (by omega) (by omega) (by decide)), if_neg (neq (b := 6) i 6 rfl rfl (by omega) (by omega) (by decide)), gd_z0, gd_z1]
  rw [e]
  constructor
  · intro h
    rw [if_neg (fun q => by have := (dI_neg hd2).mp q; omega)]
  · intro h
    rw [if_pos ((dI_neg hd2).mpr (by omega))]
theorem hf_6 {z L : Nat} {σ : ST} {t : Nat → Nat} (ht : CTx σ L t) : (1 ≤ dvN L t 6 ∧ dvN L t 6 ≤ 6 → fX6_headFits z σ (nI 6) = some 1) ∧ (¬ (1 ≤ dvN L t 6 ∧ dvN L t 6 ≤ 6) → fX6_headFits z σ (nI 6) = some 0) := by
  have hdv := dv_or L t 6
  have hd2 : dvN L t 6 = 99 ∨ dvN L t 6 ≤ 9 := by omega
  have e : fX6_headFits z σ (nI 6) = if dI (dvN L t 6) < 1 then some 0 else if 6 < dI (dvN L t 6) then some 0 else some 1 := by
    unfold fX6_headFits fX6_headFits_93 fX6_headFits_94
    rw [s_digitAt ht (by omega), bd_s, if_neg (by decide), if_neg (by decide), if_pos (by decide), gd_z0, gd_z1]
  rw [e]
  constructor
  · intro h
    rw [if_neg (fun q => ((dI_one hd2).mp q) ⟨h.1, by omega⟩), if_neg (fun q => ((dI_six hd2 (by omega)).mp q) h.2)]
  · intro h
    by_cases h1 : 1 ≤ dvN L t 6 ∧ dvN L t 6 ≤ 9
    · rw [if_neg (fun q => ((dI_one hd2).mp q) h1), if_pos ((dI_six hd2 (by omega)).mpr (by omega))]
    · rw [if_pos ((dI_one hd2).mpr h1)]
theorem hf_0 {z L : Nat} {σ : ST} {t : Nat → Nat} (ht : CTx σ L t) (hl : 0 < L) : (0 < L ∧ t 0 = 83 → fX6_headFits z σ (nI 0) = some 1) ∧ (¬ (0 < L ∧ t 0 = 83) → fX6_headFits z σ (nI 0) = some 0) := by
  have h255 := (ht.2.2 0 hl).2
  have e : fX6_headFits z σ (nI 0) = if nI (t 0) = 83 then some 1 else some 0 := by
    unfold fX6_headFits fX6_headFits_55
    rw [s_digitAt ht (by omega), bd_s, if_pos (by decide), s_letterAt ht (by omega), bd_s, if_pos hl, gd_z0, gd_z1]
  rw [e]
  constructor
  · intro h
    rw [if_pos (peq (b := 83) (t 0) 83 rfl rfl h.2)]
  · intro h
    rw [if_neg (neq (b := 83) (t 0) 83 rfl rfl (fun q => h ⟨hl, q⟩) (by omega) (by decide))]
theorem hf_2 {z L : Nat} {σ : ST} {t : Nat → Nat} (ht : CTx σ L t) (h1 : dvN L t 1 ≤ 9) : (dvN L t 2 ≤ 9 ∧ dvN L t 1 + dvN L t 2 ≤ 10 → fX6_headFits z σ (nI 2) = some 1) ∧ (¬ (dvN L t 2 ≤ 9 ∧ dvN L t 1 + dvN L t 2 ≤ 10) → fX6_headFits z σ (nI 2) = some 0) := by
  have hdv := dv_or L t 2
  have hd2 : dvN L t 2 = 99 ∨ dvN L t 2 ≤ 9 := by omega
  have e1 : dI (dvN L t 1) = nI (dvN L t 1) := by unfold dI; rw [if_neg (by omega)]
  have e : fX6_headFits z σ (nI 2) = if dI (dvN L t 2) < 0 then some 0 else if 10 < nI (dvN L t 1) + dI (dvN L t 2) then some 0 else some 1 := by
    unfold fX6_headFits fX6_headFits_76 fX6_headFits_77
    rw [s_digitAt ht (by omega), bd_s, if_neg (by decide), if_pos (by decide), show (1 : Int32) = nI 1 from rfl, s_digitAt ht (by omega), bd_s, e1, show nI 1 = (1 : Int32) from rfl, gd_z0, gd_z1]
  rw [e]
  constructor
  · intro h
    have e2 : dI (dvN L t 2) = nI (dvN L t 2) := by unfold dI; rw [if_neg (by omega)]
    rw [if_neg (fun q => by have := (dI_neg hd2).mp q; omega), e2, nI_add, if_neg (nlt (a := 10) 10 (dvN L t 1 + dvN L t 2) rfl rfl h.2 (by decide))]
  · intro h
    by_cases h9 : dvN L t 2 = 99
    · rw [if_pos ((dI_neg hd2).mpr h9)]
    · have e2 : dI (dvN L t 2) = nI (dvN L t 2) := by unfold dI; rw [if_neg h9]
      rw [if_neg (fun q => h9 ((dI_neg hd2).mp q)), e2, nI_add, if_pos (plt (a := 10) 10 (dvN L t 1 + dvN L t 2) rfl rfl (by omega) (by omega))]
theorem s_firstFault {z L : Nat} {σ : ST} {t : Nat → Nat} (ht : CTx σ L t) (hz : 100 ≤ z) : ∃ σ', fX6_firstFault z σ = some (fvN (rd0 L t), σ') ∧ FC σ σ' := by
  have h40 := ht.2.1
  obtain ⟨y, hy⟩ : ∃ y, z = y + 7 := ⟨z - 7, by omega⟩
  have f0 : FC σ (pI (pI (pI (pI σ 1 2 0) 1 3 1023) 1 4 1) 1 5 1) := (((FC.p (by decide)).tr (FC.p (by decide))).tr (FC.p (by decide))).tr (FC.p (by decide))
  have i0 : IC (pI (pI (pI (pI σ 1 2 0) 1 3 1023) 1 4 1) 1 5 1) (fun _ => 0) 1 1 0 := ⟨by rw [pI_nj (by decide), pI_nj (by decide), pI_at]; exact MB_i, by rw [pI_nj (by decide), pI_at]; rfl, by rw [pI_at]; rfl, by rw [pI_nj (by decide), pI_nj (by decide), pI_nj (by decide), pI_at]; rfl⟩
  unfold fX6_firstFault
  rw [lt_r, lt_r, gd_z1, lt_r, gd_z1, lt_r]
  generalize pI (pI (pI (pI σ 1 2 0) 1 3 1023) 1 4 1) 1 5 1 = S at *
  have hS := f0.ct ht
  have dl : ∀ i, dvN L t i ≤ 9 → i < L := fun i h => by
    have := dv_or L t i
    omega
  have k0 := c_h (z := z) (m := y + 6) (i := 0) (ok := 0 < L ∧ t 0 = 83) hS (by omega) (by omega) (fun h => h.1) (fun hl => hf_0 hS hl)
  rw [show fX6_firstFault_24 z z S 0 = fX6_firstFault_24 z (y + 6 + 1) S (nI 0) from by rw [show z = y + 6 + 1 from by omega]; rfl]
  unfold rd0
  by_cases c0 : 0 < L ∧ t 0 = 83
  · rw [k0.1 c0, if_neg (fun q => q c0)]
    have k1 := c_h (z := z) (m := y + 5) (i := 1) (ok := dvN L t 1 ≤ 9) hS (by omega) (by omega) (dl 1) (fun hl => hf_d hS (by omega))
    by_cases c1 : dvN L t 1 ≤ 9
    · have l1 := dl 1 c1
      rw [k1.1 c1, if_neg (fun q => q c1)]
      have k2 := c_h (z := z) (m := y + 4) (i := 2) (ok := dvN L t 2 ≤ 9 ∧ dvN L t 1 + dvN L t 2 ≤ 10) hS (by omega) (by omega) (fun h => dl 2 h.1) (fun hl => hf_2 hS c1)
      by_cases c2 : dvN L t 2 ≤ 9 ∧ dvN L t 1 + dvN L t 2 ≤ 10
      · have l2 := dl 2 c2.1
        rw [k2.1 c2, if_neg (fun q => q c2)]
        have k3 := c_h (z := z) (m := y + 3) (i := 3) (ok := dvN L t 3 ≤ 9) hS (by omega) (by omega) (dl 3) (fun hl => hf_d hS (by omega))
        by_cases c3 : dvN L t 3 ≤ 9
        · have l3 := dl 3 c3
          rw [k3.1 c3, if_neg (fun q => q c3)]
          have k4 := c_h (z := z) (m := y + 2) (i := 4) (ok := dvN L t 4 ≤ 9) hS (by omega) (by omega) (dl 4) (fun hl => hf_d hS (by omega))
          by_cases c4 : dvN L t 4 ≤ 9
          · have l4 := dl 4 c4
            rw [k4.1 c4, if_neg (fun q => q c4)]
            have k5 := c_h (z := z) (m := y + 1) (i := 5) (ok := dvN L t 5 ≤ 9) hS (by omega) (by omega) (dl 5) (fun hl => hf_d hS (by omega))
            by_cases c5 : dvN L t 5 ≤ 9
            · have l5 := dl 5 c5
              rw [k5.1 c5, if_neg (fun q => q c5)]
              have k6 := c_h (z := z) (m := y) (i := 6) (ok := 1 ≤ dvN L t 6 ∧ dvN L t 6 ≤ 6) hS (by omega) (by omega) (fun h => dl 6 (by omega)) (fun hl => hf_6 hS)
              by_cases c6 : 1 ≤ dvN L t 6 ∧ dvN L t 6 ≤ 6
              · have l6 := dl 6 (by omega)
                rw [k6.1 c6, if_neg (fun q => q c6)]
                obtain ⟨σ', e, f⟩ := c_read (z := z) (L := L) (t := t) 41 7 y (fun _ => 0) none 1 1 S (by omega) (by omega) (by omega) (by omega) hS i0 (Or.inl ⟨rfl, rfl⟩) (Or.inl ⟨rfl, rfl⟩)
                exact ⟨σ', e, f0.tr f⟩
              · rw [k6.2 c6, if_pos c6]; exact ⟨S, rfl, f0⟩
            · rw [k5.2 c5, if_pos c5]; exact ⟨S, rfl, f0⟩
          · rw [k4.2 c4, if_pos c4]; exact ⟨S, rfl, f0⟩
        · rw [k3.2 c3, if_pos c3]; exact ⟨S, rfl, f0⟩
      · rw [k2.2 c2, if_pos c2]; exact ⟨S, rfl, f0⟩
    · rw [k1.2 c1, if_pos c1]; exact ⟨S, rfl, f0⟩
  · rw [k0.2 c0, if_pos c0]; exact ⟨S, rfl, f0⟩

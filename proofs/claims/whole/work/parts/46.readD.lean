/-! ===== the class's reading, part by part ===== -/
theorem one0 : ¬ (1 : Int32) = 0 := by decide
theorem IC.st {σ : ST} {K : Nat → Nat} {a s st st2 : Nat} (h : IC σ K a s st) : IC (pI σ 1 2 (nI st2)) K a s st2 := ⟨by rw [pI_nj (by decide)]; exact h.1, by rw [pI_nj (by decide)]; exact h.2.1, by rw [pI_nj (by decide)]; exact h.2.2.1, pI_at⟩
/-- a figure of weight -/
theorem c_w {z m L i : Nat} {σ : ST} {t K : Nat → Nat} {a s : Nat} (ht : CTx σ L t) (hc : IC σ K a s 2) (h7 : 7 ≤ i) (hi : i ≤ L) : (1 ≤ dvN L t i ∧ dvN L t i ≤ 9 → fX6_firstFault_24 z (m + 1) σ (nI i) = fX6_firstFault_24 z m (pI σ 1 2 0) (nI (i + 1)) ∧ IC (pI σ 1 2 0) K a s 0 ∧ i + 1 ≤ L) ∧ (¬ (1 ≤ dvN L t i ∧ dvN L t i ≤ 9) → ∃ σ', fX6_firstFault_24 z (m + 1) σ (nI i) = some (nI i, σ') ∧ FC σ σ') := by
  have h40 := ht.2.1
  have hdv := dv_or L t i
  have hd2 : dvN L t i = 99 ∨ dvN L t i ≤ 9 := by omega
  have pf : fX6_partFits z σ (nI i) = if dI (dvN L t i) < 1 then some (0, pI σ 1 2 0) else some (1, pI σ 1 2 0) := by
    unfold fX6_partFits fX6_partFits_88
    rw [s_digitAt ht (by omega), bd_s, hc.2.2.2, if_neg (by decide), if_neg (by decide), if_pos (by decide), lt_r, gd_z0, gd_z1]
  constructor
  · intro h
    have hl : i < L := by omega
    refine ⟨?_, hc.st (st2 := 0), by omega⟩
    rw [c_step ht h7 hl, pf, if_neg (fun q => ((dI_one hd2).mp q) h), bd_s, if_neg one0]
  · intro h
    by_cases hl : i < L
    · refine ⟨pI σ 1 2 0, ?_, FC.p (by decide)⟩
      rw [c_step ht h7 hl, pf, if_pos ((dI_one hd2).mpr h), bd_s, if_pos rfl]
    · have e : i = L := by omega
      exact ⟨σ, by rw [c_end ht (by omega) e hc.2.2.2 (by decide), if_neg (by decide), e], FC.rf⟩
/-- the figure of the second's cell -/
theorem c_s {z m L i : Nat} {σ : ST} {t K : Nat → Nat} {a s : Nat} (ht : CTx σ L t) (hc : IC σ K a s 3) (h7 : 7 ≤ i) (hi : i ≤ L) : (dvN L t i ≤ 9 → fX6_firstFault_24 z (m + 1) σ (nI i) = fX6_firstFault_24 z m (pI σ 1 2 4) (nI (i + 1)) ∧ IC (pI σ 1 2 4) K a s 4 ∧ i + 1 ≤ L) ∧ (¬ dvN L t i ≤ 9 → ∃ σ', fX6_firstFault_24 z (m + 1) σ (nI i) = some (nI i, σ') ∧ FC σ σ') := by
  have h40 := ht.2.1
  have hdv := dv_or L t i
  have hd2 : dvN L t i = 99 ∨ dvN L t i ≤ 9 := by omega
  have pf : fX6_partFits z σ (nI i) = if dI (dvN L t i) < 0 then some (0, pI σ 1 2 4) else some (1, pI σ 1 2 4) := by
    unfold fX6_partFits fX6_partFits_103
    rw [s_digitAt ht (by omega), bd_s, hc.2.2.2, if_neg (by decide), if_neg (by decide), if_neg (by decide), if_pos (by decide), lt_r, gd_z0, gd_z1]
  constructor
  · intro h
    have hl : i < L := by omega
    refine ⟨?_, hc.st (st2 := 4), by omega⟩
    rw [c_step ht h7 hl, pf, if_neg (fun q => by have := (dI_neg hd2).mp q; omega), bd_s, if_neg one0]
  · intro h
    by_cases hl : i < L
    · refine ⟨pI σ 1 2 4, ?_, FC.p (by decide)⟩
      rw [c_step ht h7 hl, pf, if_pos ((dI_neg hd2).mpr (by omega)), bd_s, if_pos rfl]
    · have e : i = L := by omega
      exact ⟨σ, by rw [c_end ht (by omega) e hc.2.2.2 (by decide), if_neg (by decide), e], FC.rf⟩
/-- the figure of the second's step -/
theorem c_t {z m L i : Nat} {σ : ST} {t K : Nat → Nat} {a s : Nat} (ht : CTx σ L t) (hc : IC σ K a s 4) (h7 : 7 ≤ i) (hi : i ≤ L) : (dvN L t i ≤ 6 → fX6_firstFault_24 z (m + 1) σ (nI i) = fX6_firstFault_24 z m (pI σ 1 2 0) (nI (i + 1)) ∧ IC (pI σ 1 2 0) K a s 0 ∧ i + 1 ≤ L) ∧ (¬ dvN L t i ≤ 6 → ∃ σ', fX6_firstFault_24 z (m + 1) σ (nI i) = some (nI i, σ') ∧ FC σ σ') := by
  have h40 := ht.2.1
  have hdv := dv_or L t i
  have hd2 : dvN L t i = 99 ∨ dvN L t i ≤ 9 := by omega
  have pf : fX6_partFits z σ (nI i) = if dI (dvN L t i) < 0 then some (0, pI σ 1 2 0) else if 6 < dI (dvN L t i) then some (0, pI σ 1 2 0) else some (1, pI σ 1 2 0) := by
    unfold fX6_partFits fX6_partFits_123 fX6_partFits_124
    rw [s_digitAt ht (by omega), bd_s, hc.2.2.2, if_neg (by decide), if_neg (by decide), if_neg (by decide), if_neg (by decide), lt_r, gd_z0, gd_z1]
  constructor
  · intro h
    have hl : i < L := by omega
    refine ⟨?_, hc.st (st2 := 0), by omega⟩
    rw [c_step ht h7 hl, pf, if_neg (fun q => by have := (dI_neg hd2).mp q; omega), if_neg (fun q => ((dI_six hd2 (by omega)).mp q) h), bd_s, if_neg one0]
  · intro h
    by_cases hl : i < L
    · refine ⟨pI σ 1 2 0, ?_, FC.p (by decide)⟩
      rw [c_step ht h7 hl, pf]
      by_cases h99 : dvN L t i = 99
      · rw [if_pos ((dI_neg hd2).mpr h99), bd_s, if_pos rfl]
      · rw [if_neg (fun q => h99 ((dI_neg hd2).mp q)), if_pos ((dI_six hd2 h99).mpr h), bd_s, if_pos rfl]
    · have e : i = L := by omega
      exact ⟨σ, by rw [c_end ht (by omega) e hc.2.2.2 (by decide), if_neg (by decide), e], FC.rf⟩
/-- the figure of a cell -/
theorem c_c {z m L i : Nat} {σ : ST} {t K : Nat → Nat} {a s : Nat} (ht : CTx σ L t) (hc : IC σ K a s 1) (h7 : 7 ≤ i) (hi : i ≤ L) (w : Nat) (hw : w ≠ 0) : (dvN L t i ≤ 9 ∧ K (dvN L t i) = 0 → ∃ σ', fX6_firstFault_24 z (m + 1) σ (nI i) = fX6_firstFault_24 z m σ' (nI (i + 1)) ∧ IC σ' (fun j => if j = dvN L t i then w else K j) a s 2 ∧ i + 1 ≤ L ∧ FC σ σ') ∧ (¬ (dvN L t i ≤ 9 ∧ K (dvN L t i) = 0) → ∃ σ', fX6_firstFault_24 z (m + 1) σ (nI i) = some (nI i, σ') ∧ FC σ σ') := by
  have h40 := ht.2.1
  have hdv := dv_or L t i
  have hd2 : dvN L t i = 99 ∨ dvN L t i ≤ 9 := by omega
  have pf : fX6_partFits z σ (nI i) = if dI (dvN L t i) < 0 then some (0, pI σ 1 2 2) else bd (fX6_takeCell z (pI σ 1 2 2) (dI (dvN L t i))) (fun u29 => if u29.1 = 0 then some (0, u29.2) else some (1, u29.2)) := by
    unfold fX6_partFits fX6_partFits_71 fX6_partFits_72
    rw [s_digitAt ht (by omega), bd_s, hc.2.2.2, if_neg (by decide), if_pos (by decide), lt_r, gd_z0]
    simp only [gd_z0, gd_z1]
  have M0 : (pI σ 1 2 2).1 1 3 = σ.1 1 3 := pI_nj (by decide)
  constructor
  · intro h
    have hl : i < L := by omega
    have hbit : ¬ ((σ.1 1 3 >>> (nI (dvN L t i) &&& 31)) &&& (1 : Int32)) = 0 := fun q => (MB_t hc.1 (by omega)).mp q h.2
    have edI : dI (dvN L t i) = nI (dvN L t i) := by unfold dI; rw [if_neg (by omega)]
    refine ⟨pI (pI σ 1 2 2) 1 3 (σ.1 1 3 &&& (((1 : Int32) <<< (nI (dvN L t i) &&& 31)) ^^^ (-1 : Int32))), ?_, ⟨?_, ?_, ?_, ?_⟩, by omega, (FC.p (by decide)).tr (FC.p (by decide))⟩
    · rw [c_step ht h7 hl, pf, if_neg (fun q => by have := (dI_neg hd2).mp q; omega), edI]
      unfold fX6_takeCell fX6_takeCell_16
      rw [M0, if_neg hbit, lt_r, gd_z1, bd_s, if_neg one0, bd_s, if_neg one0]
    · rw [pI_at]; exact MB_c hc.1 (by omega) hw
    · rw [pI_nj (by decide), pI_nj (by decide)]; exact hc.2.1
    · rw [pI_nj (by decide), pI_nj (by decide)]; exact hc.2.2.1
    · rw [pI_nj (by decide), pI_at]; rfl
  · intro h
    by_cases hl : i < L
    · by_cases h99 : dvN L t i = 99
      · refine ⟨pI σ 1 2 2, ?_, FC.p (by decide)⟩
        rw [c_step ht h7 hl, pf, if_pos ((dI_neg hd2).mpr h99), bd_s, if_pos rfl]
      · have hbit : ((σ.1 1 3 >>> (nI (dvN L t i) &&& 31)) &&& (1 : Int32)) = 0 := (MB_t hc.1 (by omega)).mpr (fun q => h ⟨by omega, q⟩)
        have edI : dI (dvN L t i) = nI (dvN L t i) := by unfold dI; rw [if_neg (by omega)]
        refine ⟨pI (pI σ 1 2 2) 1 3 (σ.1 1 3 &&& (((1 : Int32) <<< (nI (dvN L t i) &&& 31)) ^^^ (-1 : Int32))), ?_, (FC.p (by decide)).tr (FC.p (by decide))⟩
        rw [c_step ht h7 hl, pf, if_neg (fun q => h99 ((dI_neg hd2).mp q)), edI]
        unfold fX6_takeCell fX6_takeCell_16
        rw [M0, if_pos hbit, lt_r, gd_z0, bd_s, if_pos rfl, bd_s, if_pos rfl]
    · have e : i = L := by omega
      exact ⟨σ, by rw [c_end ht (by omega) e hc.2.2.2 (by decide), if_neg (by decide), e], FC.rf⟩

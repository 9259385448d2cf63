/-! ===== how the class reads ===== -/
def dvN (L : Nat) (t : Nat → Nat) (i : Nat) : Nat := if i < L ∧ 48 ≤ t i ∧ t i ≤ 57 then t i - 48 else 99
theorem dv_or (L : Nat) (t : Nat → Nat) (i : Nat) : dvN L t i = 99 ∨ (dvN L t i ≤ 9 ∧ i < L ∧ t i = dvN L t i + 48) := by
  unfold dvN
  by_cases h : i < L ∧ 48 ≤ t i ∧ t i ≤ 57
  · rw [if_pos h]; exact Or.inr ⟨by omega, h.1, by omega⟩
  · rw [if_neg h]; exact Or.inl rfl
def dI (d : Nat) : Int32 := if d = 99 then -9 else nI d
def CTx (σ : ST) (L : Nat) (t : Nat → Nat) : Prop := σ.1 1 1 = nI L ∧ L ≤ 40 ∧ ∀ j, j < L → σ.1 2 j = nI (t j) ∧ t j ≤ 255
def FC (σ σ' : ST) : Prop := (∀ q, q ≠ 1 → σ'.1 q = σ.1 q) ∧ σ'.2 = σ.2 ∧ σ'.1 1 1 = σ.1 1 1
theorem FC.rf {σ : ST} : FC σ σ := ⟨fun _ _ => rfl, rfl, rfl⟩
theorem FC.tr {a b c : ST} (h1 : FC a b) (h2 : FC b c) : FC a c := ⟨fun q h => (h2.1 q h).trans (h1.1 q h), h2.2.1.trans h1.2.1, h2.2.2.trans h1.2.2⟩
theorem FC.ct {σ σ' : ST} {L : Nat} {t : Nat → Nat} (h : FC σ σ') (ht : CTx σ L t) : CTx σ' L t := ⟨h.2.2.trans ht.1, ht.2.1, fun j hj => by rw [h.1 2 (by decide)]; exact ht.2.2 j hj⟩
theorem FC.p {σ : ST} {j : Nat} {v : Int32} (h : j ≠ 1) : FC σ (pI σ 1 j v) := ⟨fun q hq => pI_n hq, rfl, pI_nj (Ne.symm h)⟩
theorem s_letterAt {z : Nat} {σ : ST} {L i : Nat} {t : Nat → Nat} (ht : CTx σ L t) (hi : i < 2 ^ 31) : fX6_letterAt z σ (nI i) = some (if i < L then nI (t i) else -9) := by
  obtain ⟨h1, h2, h3⟩ := ht
  unfold fX6_letterAt fX6_letterAt_30 fX6_letterAt_32
  rw [if_neg (nI_pos hi), h1]
  by_cases h : i < L
  · rw [if_neg (nle L i rfl rfl h (by omega)), if_neg (nle (a := 40) 40 i rfl rfl (by omega) (by decide)), gd_inb (by omega) (by decide), nI_clamp hi, (h3 i h).1, if_pos h]
  · rw [if_pos (ple L i rfl rfl (by omega) hi), if_neg h]
theorem s_digitAt {z : Nat} {σ : ST} {L i : Nat} {t : Nat → Nat} (ht : CTx σ L t) (hi : i < 2 ^ 31) : fX6_digitAt z σ (nI i) = some (dI (dvN L t i)) := by
  unfold fX6_digitAt fX6_digitAt_25 fX6_digitAt_27
  rw [s_letterAt ht hi, bd_s]
  have no : ¬ (i < L ∧ 48 ≤ t i ∧ t i ≤ 57) → dI (dvN L t i) = -9 := by
    intro h
    have e : dvN L t i = 99 := by unfold dvN; rw [if_neg h]
    rw [e]; rfl
  by_cases h : i < L
  · have h255 := (ht.2.2 i h).2
    rw [if_pos h]
    by_cases h48 : t i < 48
    · rw [if_pos (plt (b := 48) (t i) 48 rfl rfl h48 (by decide)), no (by omega)]
    · rw [if_neg (nlt (b := 48) (t i) 48 rfl rfl (by omega) (by omega))]
      by_cases h57 : 57 < t i
      · rw [if_pos (plt (a := 57) 57 (t i) rfl rfl h57 (by omega)), no (by omega)]
      · have e : dvN L t i = t i - 48 := by unfold dvN; rw [if_pos ⟨h, by omega, by omega⟩]
        rw [if_neg (nlt (a := 57) 57 (t i) rfl rfl (by omega) (by decide)), show (48 : Int32) = nI 48 from rfl, pk_sub (by omega), e]
        unfold dI
        rw [if_neg (by omega)]
  · rw [if_neg h, if_pos (show (-9 : Int32) < 48 by decide), no (fun q => h q.1)]
theorem dI_neg {d : Nat} (h : d = 99 ∨ d ≤ 9) : dI d < 0 ↔ d = 99 := by
  unfold dI
  rcases h with h | h
  · rw [if_pos h]; exact ⟨fun _ => h, fun _ => by decide⟩
  · rw [if_neg (by omega)]; exact ⟨fun q => absurd q (nI_pos (by omega)), fun q => by omega⟩
theorem dI_one {d : Nat} (h : d = 99 ∨ d ≤ 9) : dI d < 1 ↔ ¬ (1 ≤ d ∧ d ≤ 9) := by
  unfold dI
  rcases h with h | h
  · rw [if_pos h]; exact ⟨fun _ => by omega, fun _ => by decide⟩
  · rw [if_neg (by omega)]
    by_cases h0 : d = 0
    · subst h0; exact ⟨fun _ => by omega, fun _ => by decide⟩
    · exact ⟨fun q => absurd q (nlt (b := 1) d 1 rfl rfl (by omega) (by omega)), fun q => by omega⟩
theorem dI_six {d : Nat} (h : d = 99 ∨ d ≤ 9) (hn : d ≠ 99) : 6 < dI d ↔ ¬ d ≤ 6 := by
  unfold dI
  rw [if_neg hn]
  by_cases h6 : 6 < d
  · exact ⟨fun _ => by omega, fun _ => plt (a := 6) 6 d rfl rfl h6 (by omega)⟩
  · exact ⟨fun q => absurd q (nlt (a := 6) 6 d rfl rfl (by omega) (by decide)), fun q => by omega⟩
/-- what reading from i on comes to: the first fault, or all parts and the second -/
def rdN (L : Nat) (t : Nat → Nat) : Nat → Nat → (Nat → Nat) → Option (Nat × Nat) → Nat ⊕ ((Nat → Nat) × Option (Nat × Nat))
  | 0, i, _, _ => .inl i
  | m + 1, i, K, S =>
    if L ≤ i then .inr (K, S)
    else if t i = 70 ∧ ¬ ∀ j, j < 10 → K j ≠ 0 then
      (if dvN L t (i + 1) ≤ 9 ∧ K (dvN L t (i + 1)) = 0 then
        (if 1 ≤ dvN L t (i + 2) ∧ dvN L t (i + 2) ≤ 9 then rdN L t m (i + 3) (fun j => if j = dvN L t (i + 1) then dvN L t (i + 2) else K j) S else .inl (i + 2))
      else .inl (i + 1))
    else if t i = 65 ∧ K 10 = 0 then
      (if 1 ≤ dvN L t (i + 1) ∧ dvN L t (i + 1) ≤ 9 then rdN L t m (i + 2) (fun j => if j = 10 then dvN L t (i + 1) else K j) S else .inl (i + 1))
    else if t i = 84 ∧ S = none then
      (if dvN L t (i + 1) ≤ 9 then (if dvN L t (i + 2) ≤ 6 then rdN L t m (i + 3) K (some (dvN L t (i + 1), dvN L t (i + 2))) else .inl (i + 2)) else .inl (i + 1))
    else .inl i
def fvN : Nat ⊕ ((Nat → Nat) × Option (Nat × Nat)) → Int32
  | .inl f => nI f
  | .inr _ => -9
def IC (σ : ST) (K : Nat → Nat) (a s st : Nat) : Prop := MB (σ.1 1 3) K ∧ σ.1 1 4 = nI a ∧ σ.1 1 5 = nI s ∧ σ.1 1 2 = nI st
theorem c_step {z m L i : Nat} {σ : ST} {t : Nat → Nat} (ht : CTx σ L t) (h7 : 7 ≤ i) (hi : i < L) : fX6_firstFault_24 z (m + 1) σ (nI i) = bd (fX6_partFits z σ (nI i)) (fun u => if u.1 = 0 then some (nI i, u.2) else fX6_firstFault_24 z m u.2 (nI (i + 1))) := by
  have := ht.2.1
  conv => lhs; unfold fX6_firstFault_24
  unfold fX6_firstFault_51
  rw [ht.1, if_neg (nle L i rfl rfl hi (by omega)), if_pos (ple (a := 7) 7 i rfl rfl h7 (by omega)), nI_1]
theorem c_end {z m L i st : Nat} {σ : ST} {t : Nat → Nat} (ht : CTx σ L t) (h7 : 7 ≤ L) (hi : i = L) (hs : σ.1 1 2 = nI st) (hst : st ≤ 4) : fX6_firstFault_24 z (m + 1) σ (nI i) = some (if st = 0 then -9 else nI L, σ) := by
  have := ht.2.1
  unfold fX6_firstFault_24 fX6_firstFault_80 fX6_firstFault_89
  rw [ht.1, if_pos (ple L i rfl rfl (by omega) (by omega)), if_neg (nlt (b := 7) L 7 rfl rfl h7 (by omega)), hs]
  by_cases h0 : st = 0
  · rw [if_pos (peq (b := 0) st 0 rfl rfl h0), if_pos h0]
  · rw [if_neg (neq (b := 0) st 0 rfl rfl h0 (by omega) (by decide)), if_neg h0]
/-- one letter of a figure: where it ends the text, the fault is there -/
theorem c_fig {z m L i st : Nat} {σ : ST} {t : Nat → Nat} {R : Option (Int32 × ST)} (ht : CTx σ L t) (h7 : 7 ≤ i) (hi : i ≤ L) (hs : σ.1 1 2 = nI st) (hst : 1 ≤ st) (hst4 : st ≤ 4) (h : i < L → bd (fX6_partFits z σ (nI i)) (fun u => if u.1 = 0 then some (nI i, u.2) else fX6_firstFault_24 z m u.2 (nI (i + 1))) = R) (h2 : i = L → R = some (nI i, σ)) : fX6_firstFault_24 z (m + 1) σ (nI i) = R := by
  by_cases hl : i < L
  · rw [c_step ht h7 hl]; exact h hl
  · have e : i = L := by omega
    rw [c_end ht (by omega) e hs hst4, if_neg (by omega), h2 e, e]

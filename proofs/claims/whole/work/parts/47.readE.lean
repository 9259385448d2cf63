/-! ===== the class's first fault ===== -/
theorem c_pf0 {z L i a s : Nat} {σ : ST} {t K : Nat → Nat} (ht : CTx σ L t) (hc : IC σ K a s 0) (hi : i < L) : fX6_partFits z σ (nI i) = bd (fX6_partBegins z σ (nI (t i))) (fun u24 => gd (zok u24.1) (some (u24.1, u24.2))) := by
  have h40 := ht.2.1
  unfold fX6_partFits
  rw [s_digitAt ht (by omega), bd_s, hc.2.2.2, if_pos (show nI 0 = 0 from rfl), s_letterAt ht (by omega), bd_s, if_pos hi]
theorem c_read {z L : Nat} {t : Nat → Nat} : ∀ (m i fuel : Nat) (K : Nat → Nat) (S : Option (Nat × Nat)) (a s : Nat) (σ : ST), L < i + m → L + 3 ≤ i + fuel → 7 ≤ i → i ≤ L → CTx σ L t → IC σ K a s 0 → ((K 10 = 0 ∧ a = 1) ∨ (K 10 ≠ 0 ∧ a = 0)) → ((S = none ∧ s = 1) ∨ (S ≠ none ∧ s = 0)) → ∃ σ', fX6_firstFault_24 z fuel σ (nI i) = some (fvN (rdN L t m i K S), σ') ∧ FC σ σ' := by
  intro m
  induction m with
  | zero => intro i fuel K S a s σ h1 h2 h3 h4; omega
  | succ m ih =>
    intro i fuel K S a s σ h1 h2 h3 h4 ht hc ha hs
    have h40 := ht.2.1
    obtain ⟨n, rfl⟩ : ∃ n, fuel = n + 3 := ⟨fuel - 3, by omega⟩
    unfold rdN
    by_cases hl : L ≤ i
    · rw [if_pos hl]
      exact ⟨σ, by rw [c_end ht (by omega) (by omega) hc.2.2.2 (by decide), if_pos rfl]; rfl, FC.rf⟩
    · have hil : i < L := by omega
      have h255 := (ht.2.2 i hil).2
      rw [if_neg hl, show n + 3 = n + 2 + 1 from rfl, c_step ht h3 hil, c_pf0 ht hc hil]
      unfold fX6_partBegins fX6_partBegins_20 fX6_partBegins_74
      by_cases h70 : t i = 70
      · rw [if_pos (peq (b := 70) (t i) 70 rfl rfl h70)]
        by_cases hall : ∀ j, j < 10 → K j ≠ 0
        · rw [if_pos ((MB_0 hc.1).mpr hall), lt_r, gd_z0, bd_s, gd_z0, bd_s, if_pos rfl, if_neg (show ¬ (t i = 70 ∧ ¬ ∀ j, j < 10 → K j ≠ 0) from fun q => q.2 hall), if_neg (show ¬ (t i = 65 ∧ K 10 = 0) from fun q => by omega), if_neg (show ¬ (t i = 84 ∧ S = none) from fun q => by omega)]
          exact ⟨_, rfl, FC.p (by decide)⟩
        · rw [if_neg (fun q => hall ((MB_0 hc.1).mp q)), lt_r, gd_z1, bd_s, gd_z1, bd_s, if_neg one0, if_pos ⟨h70, hall⟩]
          have f1 : FC σ (pI σ 1 2 1) := FC.p (by decide)
          have i1 : IC (pI σ 1 2 1) K a s 1 := hc.st (st2 := 1)
          by_cases hcell : dvN L t (i + 1) ≤ 9 ∧ K (dvN L t (i + 1)) = 0
          · rw [if_pos hcell]
            by_cases hw : 1 ≤ dvN L t (i + 2) ∧ dvN L t (i + 2) ≤ 9
            · obtain ⟨σ2, e2, i2, l2, f2⟩ := (c_c (z := z) (m := n + 1) (f1.ct ht) i1 (by omega) (by omega) (dvN L t (i + 2)) (by omega)).1 hcell
              obtain ⟨e3, i3, l3⟩ := (c_w (z := z) (m := n) ((f1.tr f2).ct ht) i2 (by omega) l2).1 hw
              have f3 : FC σ2 (pI σ2 1 2 0) := FC.p (by decide)
              obtain ⟨σ4, e4, f4⟩ := ih (i + 3) n (fun j => if j = dvN L t (i + 1) then dvN L t (i + 2) else K j) S a s (pI σ2 1 2 0) (by omega) (by omega) (by omega) l3 (((f1.tr f2).tr f3).ct ht) i3 (by rw [if_neg (by omega)]; exact ha) hs
              exact ⟨σ4, by rw [if_pos hw, show n + 2 = n + 1 + 1 from rfl, e2, e3, ← e4], ((f1.tr f2).tr f3).tr f4⟩
            · obtain ⟨σ2, e2, i2, l2, f2⟩ := (c_c (z := z) (m := n + 1) (f1.ct ht) i1 (by omega) (by omega) 1 (by decide)).1 hcell
              obtain ⟨σ3, e3, f3⟩ := (c_w (z := z) (m := n) ((f1.tr f2).ct ht) i2 (by omega) l2).2 hw
              exact ⟨σ3, by rw [if_neg hw, show n + 2 = n + 1 + 1 from rfl, e2, e3]; rfl, (f1.tr f2).tr f3⟩
          · rw [if_neg hcell]
            obtain ⟨σ2, e2, f2⟩ := (c_c (z := z) (m := n + 1) (f1.ct ht) i1 (by omega) (by omega) 1 (by decide)).2 hcell
            exact ⟨σ2, by rw [show n + 2 = n + 1 + 1 from rfl, e2]; rfl, f1.tr f2⟩
      · rw [if_neg (neq (b := 70) (t i) 70 rfl rfl h70 (by omega) (by decide)), if_neg (show ¬ (t i = 70 ∧ ¬ ∀ j, j < 10 → K j ≠ 0) from fun q => h70 q.1)]
        by_cases h65 : t i = 65
        · rw [if_pos (peq (b := 65) (t i) 65 rfl rfl h65), gd_z0, lt_r, lt_r, hc.2.1]
          have f1 : FC σ (pI (pI σ 1 4 0) 1 2 2) := (FC.p (by decide)).tr (FC.p (by decide))
          have i1 : IC (pI (pI σ 1 4 0) 1 2 2) K 0 s 2 := ⟨by rw [pI_nj (by decide), pI_nj (by decide)]; exact hc.1, by rw [pI_nj (by decide), pI_at]; rfl, by rw [pI_nj (by decide), pI_nj (by decide)]; exact hc.2.2.1, pI_at⟩
          rcases ha with ⟨a0, rfl⟩ | ⟨a0, rfl⟩
          · rw [show nI 1 = (1 : Int32) from rfl, gd_z1, bd_s, gd_z1, bd_s, if_neg one0, if_pos ⟨h65, a0⟩]
            by_cases hw : 1 ≤ dvN L t (i + 1) ∧ dvN L t (i + 1) ≤ 9
            · obtain ⟨e3, i3, l3⟩ := (c_w (z := z) (m := n + 1) (f1.ct ht) i1 (by omega) (by omega)).1 hw
              have f3 : FC (pI (pI σ 1 4 0) 1 2 2) (pI (pI (pI σ 1 4 0) 1 2 2) 1 2 0) := FC.p (by decide)
              obtain ⟨σ4, e4, f4⟩ := ih (i + 2) (n + 1) (fun j => if j = 10 then dvN L t (i + 1) else K j) S 0 s (pI (pI (pI σ 1 4 0) 1 2 2) 1 2 0) (by omega) (by omega) (by omega) l3 ((f1.tr f3).ct ht) ⟨fun j => by
                rw [i3.1 j]
                show decide (j < 10 ∧ K j = 0) = decide (j < 10 ∧ (if j = 10 then dvN L t (i + 1) else K j) = 0)
                by_cases hj : j < 10
                · rw [if_neg (by omega)]
                · rw [decide_eq_false (by omega), decide_eq_false (by omega)], i3.2⟩ (Or.inr ⟨by rw [if_pos rfl]; omega, rfl⟩) hs
              exact ⟨σ4, by rw [if_pos hw, show n + 2 = n + 1 + 1 from rfl, e3, ← e4], (f1.tr f3).tr f4⟩
            · obtain ⟨σ3, e3, f3⟩ := (c_w (z := z) (m := n + 1) (f1.ct ht) i1 (by omega) (by omega)).2 hw
              exact ⟨σ3, by rw [if_neg hw, show n + 2 = n + 1 + 1 from rfl, e3]; rfl, f1.tr f3⟩
          · rw [show nI 0 = (0 : Int32) from rfl, gd_z0, bd_s, gd_z0, bd_s, if_pos rfl, if_neg (show ¬ (t i = 65 ∧ K 10 = 0) from fun q => a0 q.2), if_neg (show ¬ (t i = 84 ∧ S = none) from fun q => by omega)]
            exact ⟨_, rfl, f1⟩
        · rw [if_neg (neq (b := 65) (t i) 65 rfl rfl h65 (by omega) (by decide)), if_neg (show ¬ (t i = 65 ∧ K 10 = 0) from fun q => h65 q.1)]
          by_cases h84 : t i = 84
          · rw [if_pos (peq (b := 84) (t i) 84 rfl rfl h84), gd_z0, lt_r, lt_r, hc.2.2.1]
            have f1 : FC σ (pI (pI σ 1 5 0) 1 2 3) := (FC.p (by decide)).tr (FC.p (by decide))
            have i1 : IC (pI (pI σ 1 5 0) 1 2 3) K a 0 3 := ⟨by rw [pI_nj (by decide), pI_nj (by decide)]; exact hc.1, by rw [pI_nj (by decide), pI_nj (by decide)]; exact hc.2.1, by rw [pI_nj (by decide), pI_at]; rfl, pI_at⟩
            rcases hs with ⟨s0, rfl⟩ | ⟨s0, rfl⟩
            · rw [show nI 1 = (1 : Int32) from rfl, gd_z1, bd_s, gd_z1, bd_s, if_neg one0, if_pos ⟨h84, s0⟩]
              by_cases hw : dvN L t (i + 1) ≤ 9
              · rw [if_pos hw]
                obtain ⟨e2, i2, l2⟩ := (c_s (z := z) (m := n + 1) (f1.ct ht) i1 (by omega) (by omega)).1 hw
                have f2 : FC (pI (pI σ 1 5 0) 1 2 3) (pI (pI (pI σ 1 5 0) 1 2 3) 1 2 4) := FC.p (by decide)
                by_cases hw2 : dvN L t (i + 2) ≤ 6
                · obtain ⟨e3, i3, l3⟩ := (c_t (z := z) (m := n) ((f1.tr f2).ct ht) i2 (by omega) l2).1 hw2
                  have f3 : FC (pI (pI (pI σ 1 5 0) 1 2 3) 1 2 4) (pI (pI (pI (pI σ 1 5 0) 1 2 3) 1 2 4) 1 2 0) := FC.p (by decide)
                  obtain ⟨σ4, e4, f4⟩ := ih (i + 3) n K (some (dvN L t (i + 1), dvN L t (i + 2))) a 0 _ (by omega) (by omega) (by omega) l3 (((f1.tr f2).tr f3).ct ht) i3 ha (Or.inr ⟨fun q => (by cases q), rfl⟩)
                  exact ⟨σ4, by rw [if_pos hw2, show n + 2 = n + 1 + 1 from rfl, e2, e3, ← e4], ((f1.tr f2).tr f3).tr f4⟩
                · obtain ⟨σ3, e3, f3⟩ := (c_t (z := z) (m := n) ((f1.tr f2).ct ht) i2 (by omega) l2).2 hw2
                  exact ⟨σ3, by rw [if_neg hw2, show n + 2 = n + 1 + 1 from rfl, e2, e3]; rfl, (f1.tr f2).tr f3⟩
              · rw [if_neg hw]
                obtain ⟨σ3, e3, f3⟩ := (c_s (z := z) (m := n + 1) (f1.ct ht) i1 (by omega) (by omega)).2 hw
                exact ⟨σ3, by rw [show n + 2 = n + 1 + 1 from rfl, e3]; rfl, f1.tr f3⟩
            · rw [show nI 0 = (0 : Int32) from rfl, gd_z0, bd_s, gd_z0, bd_s, if_pos rfl, if_neg (show ¬ (t i = 84 ∧ S = none) from fun q => s0 q.2)]
              exact ⟨_, rfl, f1⟩
          · rw [if_neg (neq (b := 84) (t i) 84 rfl rfl h84 (by omega) (by decide)), if_neg (show ¬ (t i = 84 ∧ S = none) from fun q => h84 q.1), gd_z0, bd_s, gd_z0, bd_s, if_pos rfl]
            exact ⟨_, rfl, FC.rf⟩

/-- what reading the whole text comes to -/
def rd0 (L : Nat) (t : Nat → Nat) : Nat ⊕ ((Nat → Nat) × Option (Nat × Nat)) :=
  if ¬ (0 < L ∧ t 0 = 83) then .inl 0
  else if ¬ dvN L t 1 ≤ 9 then .inl 1
  else if ¬ (dvN L t 2 ≤ 9 ∧ dvN L t 1 + dvN L t 2 ≤ 10) then .inl 2
  else if ¬ dvN L t 3 ≤ 9 then .inl 3
  else if ¬ dvN L t 4 ≤ 9 then .inl 4
  else if ¬ dvN L t 5 ≤ 9 then .inl 5
  else if ¬ (1 ≤ dvN L t 6 ∧ dvN L t 6 ≤ 6) then .inl 6
  else rdN L t 41 7 (fun _ => 0) none
theorem c_h {z m L i : Nat} {σ : ST} {t : Nat → Nat} {ok : Prop} (ht : CTx σ L t) (h6 : i ≤ 6) (hi : i ≤ L) (hy : ok → i < L) (hh : i < L → (ok → fX6_headFits z σ (nI i) = some 1) ∧ (¬ ok → fX6_headFits z σ (nI i) = some 0)) : (ok → fX6_firstFault_24 z (m + 1) σ (nI i) = fX6_firstFault_24 z m σ (nI (i + 1))) ∧ (¬ ok → fX6_firstFault_24 z (m + 1) σ (nI i) = some (nI i, σ)) := by
  have h40 := ht.2.1
  have st : i < L → fX6_firstFault_24 z (m + 1) σ (nI i) = bd (fX6_headFits z σ (nI i)) (fun u => if u = 0 then some (nI i, σ) else fX6_firstFault_24 z m σ (nI (i + 1))) := by
    intro hl
    conv => lhs; unfold fX6_firstFault_24
    unfold fX6_firstFault_51
    rw [ht.1, if_neg (nle L i rfl rfl hl (by omega)), if_neg (nle (a := 7) 7 i rfl rfl (by omega) (by decide)), nI_1]
  constructor
  · intro h
    rw [st (hy h), (hh (hy h)).1 h, bd_s, if_neg one0]
  · intro h
    by_cases hl : i < L
    · rw [st hl, (hh hl).2 h, bd_s, if_pos rfl]
    · have e : i = L := by omega
      unfold fX6_firstFault_24 fX6_firstFault_80 fX6_firstFault_89
      rw [ht.1, if_pos (ple L i rfl rfl (by omega) (by omega)), if_pos (plt (b := 7) L 7 rfl rfl (by omega) (by decide)), e]

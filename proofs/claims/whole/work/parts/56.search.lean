/-! ===== search: the class takes the text ===== -/
def FT (σ σ' : ST) : Prop := (∀ q, q ≠ 3 → q ≠ 4 → σ'.1 q = σ.1 q) ∧ (∀ j, j < 6 → σ'.1 3 j = σ.1 3 j) ∧ σ'.2 = σ.2
theorem FT.rf {σ : ST} : FT σ σ := ⟨fun _ _ _ => rfl, fun _ _ => rfl, rfl⟩
theorem FT.tr {a b c : ST} (h1 : FT a b) (h2 : FT b c) : FT a c := ⟨fun q x y => (h2.1 q x y).trans (h1.1 q x y), fun j x => (h2.2.1 j x).trans (h1.2.1 j x), h2.2.2.trans h1.2.2⟩
theorem FT.ct {σ σ' : ST} {L : Nat} {t : Nat → Nat} (h : FT σ σ') (ht : CTx σ L t) : CTx σ' L t := ⟨by rw [h.1 1 (by decide) (by decide)]; exact ht.1, ht.2.1, fun j hj => by rw [h.1 2 (by decide) (by decide)]; exact ht.2.2 j hj⟩
theorem FT.p4 {σ : ST} {j : Nat} {v : Int32} : FT σ (pI σ 4 j v) := ⟨fun q _ h => pI_n h, fun j _ => by rw [pI_n (by decide)], rfl⟩
theorem FT.p3 {σ : ST} {j : Nat} {v : Int32} (h : 6 ≤ j) : FT σ (pI σ 3 j v) := ⟨fun q h _ => pI_n h, fun i hi => pI_nj (by omega), rfl⟩
def SC (σ : ST) (S : Option (Nat × Nat)) : Prop := match S with
  | none => σ.1 3 6 = -9
  | some q => σ.1 3 6 = nI q.1 ∧ σ.1 3 7 = nI q.2
theorem SC.eq {σ σ' : ST} {S : Option (Nat × Nat)} (h : SC σ S) (e : σ'.1 3 = σ.1 3) : SC σ' S := by
  unfold SC at *
  rw [e]
  exact h
theorem s_setPart {z j : Nat} {σ : ST} {v : Int32} (hj : j < 11) : fX7_setPart z σ (nI j) v = some (pI σ 4 j v) := by
  unfold fX7_setPart fX7_setPart_20
  rw [if_neg (nI_pos (by omega)), if_neg (nle (a := 11) 11 j rfl rfl hj (by decide)), gd_inb hj (by decide), nI_clamp (by omega), lt_r]
theorem dI_9 {d : Nat} (h : d ≤ 9) : dI d = nI d := if_neg (by omega)
def KC (σ : ST) (K : Nat → Nat) : Prop := ∀ j, j < 11 → σ.1 4 j = nI (K j)
theorem KC.up {σ : ST} {K : Nat → Nat} {a w : Nat} (h : KC σ K) : KC (pI σ 4 a (nI w)) (fun j => if j = a then w else K j) := fun j hj => by
  show (pI σ 4 a (nI w)).1 4 j = nI (if j = a then w else K j)
  by_cases e : j = a
  · rw [e, pI_at, if_pos rfl]
  · rw [pI_nj e, if_neg e]
    exact h j hj
theorem c_tk {z L : Nat} {t : Nat → Nat} : ∀ (m i fuel : Nat) (K : Nat → Nat) (S : Option (Nat × Nat)) (K' : Nat → Nat) (S' : Option (Nat × Nat)) (σ : ST), L < i + m → L + 3 ≤ i + fuel → i ≤ L → CTx σ L t → KC σ K → SC σ S → rdN L t m i K S = .inr (K', S') → ∃ σ', fX7_take_89 z fuel σ (nI i) = some σ' ∧ FT σ σ' ∧ KC σ' K' ∧ SC σ' S' := by
  intro m
  induction m with
  | zero => intro i fuel K S K' S' σ h1 h2 h3; omega
  | succ m ih =>
    intro i fuel K S K' S' σ h1 h2 h3 ht hK hS hr
    have h40 := ht.2.1
    obtain ⟨n, rfl⟩ : ∃ n, fuel = n + 1 := ⟨fuel - 1, by omega⟩
    unfold fX7_take_89 fX6_size
    rw [bd_s, ht.1]
    unfold rdN at hr
    have dl : ∀ i, dvN L t i ≤ 9 → i < L := fun i h => by
      have := dv_or L t i
      omega
    by_cases hl : L ≤ i
    · rw [if_pos hl] at hr
      have q2 := Sum.inr.inj hr
      have qa := congrArg Prod.fst q2
      have qb := congrArg Prod.snd q2
      simp only at qa qb
      rw [if_pos (ple L i rfl rfl hl (by omega)), ← qa, ← qb]
      exact ⟨σ, rfl, FT.rf, hK, hS⟩
    · have hil : i < L := by omega
      have h255 := (ht.2.2 i hil).2
      rw [if_neg hl] at hr
      rw [if_neg (nle L i rfl rfl hil (by omega))]
      unfold fX7_takePart fX7_takePart_91 fX7_take_119
      rw [s_letterAt ht (by omega), if_pos hil, bd_s]
      by_cases h70 : t i = 70 ∧ ¬ ∀ j, j < 10 → K j ≠ 0
      · rw [if_pos h70] at hr
        by_cases hc : dvN L t (i + 1) ≤ 9 ∧ K (dvN L t (i + 1)) = 0
        · rw [if_pos hc] at hr
          by_cases hw : 1 ≤ dvN L t (i + 2) ∧ dvN L t (i + 2) ≤ 9
          · rw [if_pos hw] at hr
            have l2 := dl _ hw.2
            have t' := (FT.p4 (σ := σ) (j := dvN L t (i + 1)) (v := nI (dvN L t (i + 2)))).ct ht
            obtain ⟨σ', k1, k2, k3, k4⟩ := ih (i + 3) n _ S K' S' (pI σ 4 (dvN L t (i + 1)) (nI (dvN L t (i + 2)))) (by omega) (by omega) (by omega) t' hK.up (hS.eq (pI_n (by decide))) hr
            refine ⟨σ', ?_, FT.p4.tr k2, k3, k4⟩
            rw [if_neg (neq (b := 65) (t i) 65 rfl rfl (by omega) (by omega) (by decide)), if_pos (peq (b := 70) (t i) 70 rfl rfl h70.1), show (1 : Int32) = nI 1 from rfl, show (2 : Int32) = nI 2 from rfl, nI_add, nI_add, s_digitAt ht (by omega), bd_s, s_digitAt ht (by omega), bd_s, dI_9 hc.1, dI_9 hw.2, s_setPart (by omega), bd_s, bd_s, s_letterAt t' (by omega), if_pos hil, bd_s, if_neg (neq (b := 65) (t i) 65 rfl rfl (by omega) (by omega) (by decide)), show (3 : Int32) = nI 3 from rfl, nI_add]
            exact k1
          · rw [if_neg hw] at hr
            cases hr
        · rw [if_neg hc] at hr
          cases hr
      · rw [if_neg h70] at hr
        by_cases h65 : t i = 65 ∧ K 10 = 0
        · rw [if_pos h65] at hr
          by_cases hw : 1 ≤ dvN L t (i + 1) ∧ dvN L t (i + 1) ≤ 9
          · rw [if_pos hw] at hr
            have l2 := dl _ hw.2
            have t' := (FT.p4 (σ := σ) (j := 10) (v := nI (dvN L t (i + 1)))).ct ht
            obtain ⟨σ', k1, k2, k3, k4⟩ := ih (i + 2) n _ S K' S' (pI σ 4 10 (nI (dvN L t (i + 1)))) (by omega) (by omega) (by omega) t' hK.up (hS.eq (pI_n (by decide))) hr
            refine ⟨σ', ?_, FT.p4.tr k2, k3, k4⟩
            rw [if_pos (peq (b := 65) (t i) 65 rfl rfl h65.1), show (1 : Int32) = nI 1 from rfl, show (2 : Int32) = nI 2 from rfl, nI_add, s_digitAt ht (by omega), bd_s, dI_9 hw.2, show (10 : Int32) = nI 10 from rfl, s_setPart (by omega), bd_s, bd_s, s_letterAt t' (by omega), if_pos hil, bd_s, if_pos (peq (b := 65) (t i) 65 rfl rfl h65.1), nI_add]
            exact k1
          · rw [if_neg hw] at hr
            cases hr
        · rw [if_neg h65] at hr
          by_cases h84 : t i = 84 ∧ S = none
          · rw [if_pos h84] at hr
            by_cases hc : dvN L t (i + 1) ≤ 9
            · rw [if_pos hc] at hr
              by_cases hw : dvN L t (i + 2) ≤ 6
              · rw [if_pos hw] at hr
                have l2 := dl _ (by omega : dvN L t (i + 2) ≤ 9)
                have f1 : FT σ (pI σ 3 6 (nI (dvN L t (i + 1)))) := FT.p3 (by decide)
                have f2 : FT (pI σ 3 6 (nI (dvN L t (i + 1)))) (pI (pI σ 3 6 (nI (dvN L t (i + 1)))) 3 7 (nI (dvN L t (i + 2)))) := FT.p3 (by decide)
                have t1 := f1.ct ht
                have t' := f2.ct t1
                obtain ⟨σ', k1, k2, k3, k4⟩ := ih (i + 3) n K (some (dvN L t (i + 1), dvN L t (i + 2))) K' S' (pI (pI σ 3 6 (nI (dvN L t (i + 1)))) 3 7 (nI (dvN L t (i + 2)))) (by omega) (by omega) (by omega) t' (fun j hj => by rw [pI_n (by decide), pI_n (by decide)]; exact hK j hj) ⟨by rw [pI_nj (by decide), pI_at], pI_at⟩ hr
                refine ⟨σ', ?_, (f1.tr f2).tr k2, k3, k4⟩
                rw [if_neg (neq (b := 65) (t i) 65 rfl rfl (by omega) (by omega) (by decide)), if_neg (neq (b := 70) (t i) 70 rfl rfl (by omega) (by omega) (by decide)), show (1 : Int32) = nI 1 from rfl, show (2 : Int32) = nI 2 from rfl, nI_add, nI_add, s_digitAt ht (by omega), bd_s, dI_9 hc, lt_r, s_digitAt t1 (by omega), bd_s, dI_9 (by omega : dvN L t (i + 2) ≤ 9), lt_r, bd_s, s_letterAt t' (by omega), if_pos hil, bd_s, if_neg (neq (b := 65) (t i) 65 rfl rfl (by omega) (by omega) (by decide)), show (3 : Int32) = nI 3 from rfl, nI_add]
                exact k1
              · rw [if_neg hw] at hr
                cases hr
            · rw [if_neg hc] at hr
              cases hr
          · rw [if_neg h84] at hr
            cases hr
theorem rd0_inr {L : Nat} {t K : Nat → Nat} {S : Option (Nat × Nat)} (h : rd0 L t = .inr (K, S)) : dvN L t 1 ≤ 9 ∧ dvN L t 2 ≤ 9 ∧ dvN L t 1 + dvN L t 2 ≤ 10 ∧ dvN L t 3 ≤ 9 ∧ dvN L t 4 ≤ 9 ∧ dvN L t 5 ≤ 9 ∧ 1 ≤ dvN L t 6 ∧ dvN L t 6 ≤ 6 ∧ rdN L t 41 7 (fun _ => 0) none = .inr (K, S) := by
  unfold rd0 at h
  by_cases c0 : ¬ (0 < L ∧ t 0 = 83)
  · rw [if_pos c0] at h; cases h
  rw [if_neg c0] at h
  by_cases c1 : ¬ dvN L t 1 ≤ 9
  · rw [if_pos c1] at h; cases h
  rw [if_neg c1] at h
  by_cases c2 : ¬ (dvN L t 2 ≤ 9 ∧ dvN L t 1 + dvN L t 2 ≤ 10)
  · rw [if_pos c2] at h; cases h
  rw [if_neg c2] at h
  by_cases c3 : ¬ dvN L t 3 ≤ 9
  · rw [if_pos c3] at h; cases h
  rw [if_neg c3] at h
  by_cases c4 : ¬ dvN L t 4 ≤ 9
  · rw [if_pos c4] at h; cases h
  rw [if_neg c4] at h
  by_cases c5 : ¬ dvN L t 5 ≤ 9
  · rw [if_pos c5] at h; cases h
  rw [if_neg c5] at h
  by_cases c6 : ¬ (1 ≤ dvN L t 6 ∧ dvN L t 6 ≤ 6)
  · rw [if_pos c6] at h; cases h
  rw [if_neg c6] at h
  exact ⟨by omega, by omega, by omega, by omega, by omega, by omega, by omega, by omega, h⟩
theorem rdN_f {L : Nat} {t : Nat → Nat} : ∀ (m i : Nat) (K : Nat → Nat) (S : Option (Nat × Nat)) (f : Nat), rdN L t m i K S = .inl f → f ≤ i + 3 * m + 2 := by
  intro m
  induction m with
  | zero =>
    intro i K S f h
    unfold rdN at h
    have := Sum.inl.inj h
    omega
  | succ m ih =>
    intro i K S f h
    unfold rdN at h
    repeat' split at h
    all_goals first
      | cases h; done
      | (have := Sum.inl.inj h; omega)
      | (have := ih _ _ _ _ h; omega)
theorem rd0_f {L : Nat} {t : Nat → Nat} {f : Nat} (h : rd0 L t = .inl f) : f ≤ 200 := by
  unfold rd0 at h
  repeat' split at h
  all_goals first
    | (have := Sum.inl.inj h; omega)
    | (have := rdN_f _ _ _ _ _ h; omega)
theorem c_take {z L : Nat} {σ : ST} {t K : Nat → Nat} {S : Option (Nat × Nat)} (hz : 100 ≤ z) (ht : CTx σ L t) (h : rd0 L t = .inr (K, S)) : ∃ σ', fX7_take z σ = some σ' ∧ (∀ q, q ≠ 3 → q ≠ 4 → σ'.1 q = σ.1 q) ∧ σ'.2 = σ.2 ∧ TX σ' (fun j => dvN L t (j + 1)) K ∧ SC σ' S := by
  obtain ⟨d1, d2, -, d3, d4, d5, -, d6, hr⟩ := rd0_inr h
  have h40 := ht.2.1
  have l7 : 6 < L := by have := dv_or L t 6; omega
  have ct : ∀ (s : ST) (j : Nat) (v : Int32), CTx s L t → CTx (pI s 3 j v) L t := fun s j v q => ⟨by rw [pI_n (by decide)]; exact q.1, q.2.1, fun i hi => by rw [pI_n (by decide)]; exact q.2.2 i hi⟩
  have loop : ∀ (s : ST) (n i : Nat), i ≤ 11 → 11 < i + n → fX7_take_68 z n (regI s 4 0 i (fun _ => 0)) (nI i) = fX7_take_89 z z (regI s 4 0 11 (fun _ => 0)) (nI 7) := by
    intro s n
    induction n with
    | zero => intro i h1 h2; omega
    | succ n ih =>
      intro i h1 h2
      unfold fX7_take_68
      by_cases hi : i = 11
      · subst hi
        rw [if_pos (ple (a := 11) 11 11 rfl rfl (Nat.le_refl _) (by decide))]
        rfl
      · rw [if_neg (nle (a := 11) 11 i rfl rfl (by omega) (by decide)), s_setPart (by omega), bd_s, nI_1]
        have e := regI_s0 (σ := s) (a := 4) (n := i) (F := fun _ => (0 : Int32))
        rw [e]
        exact ih (i + 1) (by omega) (by omega)
  have st : ∃ s, fX7_take z σ = fX7_take_68 z z s (nI 0) ∧ (∀ q, q ≠ 3 → s.1 q = σ.1 q) ∧ s.2 = σ.2 ∧ (∀ j, j < 6 → s.1 3 j = nI (dvN L t (j + 1))) ∧ s.1 3 6 = -9 := by
    refine ⟨pI (pI (pI (pI (pI (pI (pI (pI σ 3 0 (nI (dvN L t 1))) 3 1 (nI (dvN L t 2))) 3 2 (nI (dvN L t 3))) 3 3 (nI (dvN L t 4))) 3 4 (nI (dvN L t 5))) 3 5 (nI (dvN L t 6))) 3 6 (-9)) 3 7 0, ?_, fun q hq => by rw [pI_n hq, pI_n hq, pI_n hq, pI_n hq, pI_n hq, pI_n hq, pI_n hq, pI_n hq], rfl, ?_, by rw [pI_nj (by decide), pI_at]⟩
    · have t0 := ct _ 0 (nI (dvN L t 1)) ht
      have t1 := ct _ 1 (nI (dvN L t 2)) t0
      have t2 := ct _ 2 (nI (dvN L t 3)) t1
      have t3 := ct _ 3 (nI (dvN L t 4)) t2
      have t4 := ct _ 4 (nI (dvN L t 5)) t3
      unfold fX7_take
      rw [show (1 : Int32) = nI 1 from rfl, s_digitAt ht (by decide), bd_s, dI_9 d1, lt_r, show (2 : Int32) = nI 2 from rfl, s_digitAt t0 (by decide), bd_s, dI_9 d2, lt_r, show (3 : Int32) = nI 3 from rfl, s_digitAt t1 (by decide), bd_s, dI_9 d3, lt_r, show (4 : Int32) = nI 4 from rfl, s_digitAt t2 (by decide), bd_s, dI_9 d4, lt_r, show (5 : Int32) = nI 5 from rfl, s_digitAt t3 (by decide), bd_s, dI_9 d5, lt_r, show (6 : Int32) = nI 6 from rfl, s_digitAt t4 (by decide), bd_s, dI_9 (by omega : dvN L t 6 ≤ 9), lt_r, lt_r, lt_r]
      rfl
    · intro j hj
      have : j = 0 ∨ j = 1 ∨ j = 2 ∨ j = 3 ∨ j = 4 ∨ j = 5 := by omega
      rcases this with e | e | e | e | e | e <;> subst e <;> simp [pI, upd]
  obtain ⟨s, e, s1, s2, s3, s4⟩ := st
  have l := loop s z 0 (by omega) (by omega)
  rw [regI_0] at l
  have hs : CTx (regI s 4 0 11 (fun _ => 0)) L t := ⟨by rw [regI_ne (by decide), s1 1 (by decide)]; exact ht.1, ht.2.1, fun j hj => by rw [regI_ne (by decide), s1 2 (by decide)]; exact ht.2.2 j hj⟩
  have hS : SC (regI s 4 0 11 (fun _ => 0)) none := by
    show (regI s 4 0 11 (fun _ => 0)).1 3 6 = -9
    rw [regI_ne (by decide)]
    exact s4
  obtain ⟨σ', k1, k2, k3, k4⟩ := c_tk (z := z) 41 7 z (fun _ => 0) none K S (regI s 4 0 11 (fun _ => 0)) (by omega) (by omega) (by omega) hs (fun j hj => by rw [regI_in (Nat.zero_le _) (by omega)]; rfl) hS hr
  have g : ∀ j, j < 6 → σ'.1 3 j = nI (dvN L t (j + 1)) := fun j hj => by
    rw [k2.2.1 j hj, regI_ne (by decide)]
    exact s3 j hj
  exact ⟨σ', e.trans (l.trans k1), fun q q3 q4 => by rw [k2.1 q q3 q4, regI_ne q4, s1 q q3], by rw [k2.2.2, regI_2, s2], ⟨g 0 (by decide), g 1 (by decide), g 2 (by decide), g 3 (by decide), g 4 (by decide), g 5 (by decide), k3⟩, k4⟩
/-! ===== search: the reference takes the text ===== -/
theorem r_109 {z : Nat} {K : Nat → Nat} (hK : ∀ j, j < 11 → K j ≤ 9) : ∀ (n i : Nat) (s : ST), i ≤ 11 → 11 < i + n → (∀ j, j < 11 → s.1 3 j = nI (K j)) → ∃ s', fX9_search_109 z n s (nI i) = fX9_search_148 z z s' (nI 0) ∧ (∀ q, q ≠ 1 → s'.1 q = s.1 q) ∧ (∀ q, q ≠ 4 → s'.2 q = s.2 q) ∧ (∀ j, i ≤ j → j < 11 → s'.1 1 j = nI (K j) ∧ s'.2 4 j = lN (K j)) ∧ (∀ j, j < i → s'.1 1 j = s.1 1 j ∧ s'.2 4 j = s.2 4 j) := by
  intro n
  induction n with
  | zero => intro i s h1 h2; omega
  | succ n ih =>
    intro i s h1 h2 h3
    unfold fX9_search_109
    by_cases hi : i = 11
    · subst hi
      rw [if_pos (ple (a := 11) 11 11 rfl rfl (Nat.le_refl _) (by decide))]
      exact ⟨s, rfl, fun _ _ => rfl, fun _ _ => rfl, fun j h1 h2 => by omega, fun _ _ => ⟨rfl, rfl⟩⟩
    · have k9 := hK i (by omega)
      rw [if_neg (nle (a := 11) 11 i rfl rfl (by omega) (by decide)), gd_inb (by omega) (by decide), gd_inb (by omega) (by decide), lt_r, gd_inb (by omega) (by decide), gd_inb (by omega) (by decide), nI_clamp (by omega), lt_r, h3 i (by omega), pI_at, nI_l (by omega), nI_1]
      obtain ⟨s', e, a1, a2, a3, a4⟩ := ih (i + 1) (pL (pI s 1 i (nI (K i))) 4 i (lN (K i))) (by omega) (by omega) (fun j hj => by rw [pL_2, pI_n (by decide)]; exact h3 j hj)
      refine ⟨s', e, fun q hq => by rw [a1 q hq, pL_2, pI_n hq], fun q hq => by rw [a2 q hq, pL_n hq, pI_2], fun j j1 j2 => ?_, fun j hj => ?_⟩
      · by_cases ej : j = i
        · subst ej
          obtain ⟨b1, b2⟩ := a4 j (by omega)
          exact ⟨b1.trans (by rw [pL_2, pI_at]), b2.trans pL_at⟩
        · exact a3 j (by omega) j2
      · obtain ⟨b1, b2⟩ := a4 j (by omega)
        exact ⟨b1.trans (by rw [pL_2, pI_nj (by omega)]), b2.trans (by rw [pL_nj (by omega), pI_2])⟩
theorem r_148 {z : Nat} : ∀ (n i : Nat) (s : ST), i ≤ 9 → 9 < i + n → ∃ n', fX9_search_148 z n (regI s 5 0 i (fun _ => 0)) (nI i) = fX9_search_148 z (n' + 1) (regI s 5 0 9 (fun _ => 0)) (nI 9) := by
  intro n
  induction n with
  | zero => intro i s h1 h2; omega
  | succ n ih =>
    intro i s h1 h2
    by_cases hi : i = 9
    · subst hi
      exact ⟨n, rfl⟩
    · obtain ⟨n', e⟩ := ih (i + 1) s (by omega) (by omega)
      refine ⟨n', ?_⟩
      rw [← e]
      conv => lhs; unfold fX9_search_148
      rw [if_neg (nle (a := 9) 9 i rfl rfl (by omega) (by decide)), gd_inb (by omega) (by decide), nI_clamp (by omega), lt_r, nI_1]
      have := regI_s0 (σ := s) (a := 5) (n := i) (F := fun _ => (0 : Int32))
      rw [← this]
def FQ (μ μ' : ST) : Prop := (∀ q, q ≠ 0 → q ≠ 1 → q ≠ 5 → q ≠ 10 → μ'.1 q = μ.1 q) ∧ (∀ j, 9 ≤ j → j ≠ 21 → μ'.1 0 j = μ.1 0 j) ∧ (∀ q, q ≠ 4 → μ'.2 q = μ.2 q)
theorem r_end {z : Nat} {s : ST} {T K : Nat → Nat} (hz : 100 ≤ z) (hK : ∀ j, j < 11 → s.1 3 j = nI (K j) ∧ K j ≤ 9) (hT : ∀ j, j < 6 → s.1 0 j = nI (T j)) : ∃ s', fX9_search_109 z z s (nI 0) = some (nI (sumN K 11), s') ∧ FQ s s' ∧ (∀ j, j < 9 → s'.1 0 j = s.1 0 j) ∧ TM s' T K ∧ (∀ j, j < 11 → s'.2 4 j = lN (K j)) ∧ s'.1 5 0 = nI (T 4) ∧ s'.1 5 1 = 0 ∧ s'.1 5 2 = 0 ∧ s'.1 0 21 = 0 ∧ s'.1 10 0 = 0 ∧ s'.1 10 1 = 0 := by
  obtain ⟨s1, e1, a1, a2, a3, -⟩ := r_109 (z := z) (K := K) (fun j hj => (hK j hj).2) z 0 s (by omega) (by omega) (fun j hj => (hK j hj).1)
  obtain ⟨n', e2⟩ := r_148 (z := z) z 0 s1 (by omega) (by omega)
  rw [regI_0] at e2
  have b0 : ∀ j, (regI s1 5 0 9 (fun _ => 0)).1 0 j = s.1 0 j := fun j => by rw [regI_ne (by decide), a1 0 (by decide)]
  have c : fX9_search_148 z (n' + 1) (regI s1 5 0 9 (fun _ => 0)) (nI 9) = bd (fX9_allParts z (pI (pI (pI (pI (regI s1 5 0 9 (fun _ => 0)) 5 0 (nI (T 4))) 0 21 0) 10 0 0) 10 1 0)) (fun u => some (u, pI (pI (pI (pI (regI s1 5 0 9 (fun _ => 0)) 5 0 (nI (T 4))) 0 21 0) 10 0 0) 10 1 0)) := by
    unfold fX9_search_148
    rw [if_pos (ple (a := 9) 9 9 rfl rfl (Nat.le_refl _) (by decide)), b0 4, hT 4 (by decide)]
    rfl
  generalize hS : pI (pI (pI (pI (regI s1 5 0 9 (fun _ => 0)) 5 0 (nI (T 4))) 0 21 0) 10 0 0) 10 1 0 = S at c
  have g0 : ∀ j, j ≠ 21 → S.1 0 j = s.1 0 j := fun j hj => by rw [← hS, pI_n (by decide), pI_n (by decide), pI_nj hj, pI_n (by decide)]; exact b0 j
  have gq : ∀ q, q ≠ 0 → q ≠ 1 → q ≠ 5 → q ≠ 10 → S.1 q = s.1 q := fun q q0 q1 q5 q10 => by rw [← hS, pI_n q10, pI_n q10, pI_n q0, pI_n q5, regI_ne q5, a1 q q1]
  have g1 : S.1 1 = s1.1 1 := by rw [← hS, pI_n (by decide), pI_n (by decide), pI_n (by decide), pI_n (by decide), regI_ne (by decide)]
  have gL : S.2 = s1.2 := by rw [← hS]; rfl
  have tm : TM S T K := ⟨(g0 0 (by decide)).trans (hT 0 (by decide)), (g0 1 (by decide)).trans (hT 1 (by decide)), (g0 2 (by decide)).trans (hT 2 (by decide)), (g0 3 (by decide)).trans (hT 3 (by decide)), (g0 4 (by decide)).trans (hT 4 (by decide)), (g0 5 (by decide)).trans (hT 5 (by decide)), fun j hj => by rw [g1]; exact (a3 j (Nat.zero_le _) hj).1⟩
  refine ⟨S, ?_, ⟨gq, fun j _ h21 => g0 j h21, fun q hq => by rw [gL]; exact a2 q hq⟩, fun j hj => g0 j (by omega), tm, fun j hj => by rw [gL]; exact (a3 j (Nat.zero_le _) hj).2, ?_, ?_, ?_, ?_, ?_, ?_⟩
  · rw [e1, e2, c, s9_allParts tm (by omega), bd_s]
  · rw [← hS, pI_n (by decide), pI_n (by decide), pI_n (by decide), pI_at]
  · rw [← hS, pI_n (by decide), pI_n (by decide), pI_n (by decide), pI_nj (by decide), regI_in (by decide) (by decide)]
  · rw [← hS, pI_n (by decide), pI_n (by decide), pI_n (by decide), pI_nj (by decide), regI_in (by decide) (by decide)]
  · rw [← hS, pI_n (by decide), pI_n (by decide), pI_at]
  · rw [← hS, pI_nj (by decide), pI_at]
  · rw [← hS, pI_at]
def srQ (w : ST) : ST := pI (pI (pI (pI (pI (pI (pI w 0 0 (w.1 2 1)) 0 1 (w.1 2 2)) 0 2 (w.1 2 3)) 0 3 (w.1 2 4)) 0 4 (w.1 2 5)) 0 5 (w.1 2 6)) 0 6 (w.1 0 12)
def srE (w : ST) (b : Int32) : ST := pI (pI (srQ w) 0 8 b) 0 7 (w.1 0 13)
theorem srE_0 {w : ST} {b : Int32} {j : Nat} (h : 9 ≤ j) : (srE w b).1 0 j = w.1 0 j := by
  unfold srE srQ
  rw [pI_nj (by omega), pI_nj (by omega), pI_nj (by omega), pI_nj (by omega), pI_nj (by omega), pI_nj (by omega), pI_nj (by omega), pI_nj (by omega), pI_nj (by omega)]
theorem srE_q {w : ST} {b : Int32} {q : Nat} (h : q ≠ 0) : (srE w b).1 q = w.1 q := by
  unfold srE srQ
  rw [pI_n h, pI_n h, pI_n h, pI_n h, pI_n h, pI_n h, pI_n h, pI_n h, pI_n h]
theorem r_body {z : Nat} {μ w : ST} (h : fX9_readText z μ = some (-9, w)) : fX9_search z μ = if w.1 0 12 = -9 then fX9_search_96 z (srQ w) 0 else fX9_search_96 z (srQ w) 1 := by
  unfold fX9_search
  rw [h, bd_s, if_pos rfl]
  rfl
theorem r_take {z L : Nat} {μ w : ST} {t K : Nat → Nat} {S : Option (Nat × Nat)} (hz : 100 ≤ z) (e : fX9_readText z μ = some (-9, w)) (hK : KR w K) (hS : SR w S) (hr : ∀ j, 1 ≤ j → j < 7 → w.1 2 j = nI (dvN L t j)) : ∃ s', fX9_search z μ = some (nI (sumN K 11), s') ∧ FQ w s' ∧ TM s' (fun j => dvN L t (j + 1)) K ∧ (∀ j, j < 11 → s'.2 4 j = lN (K j)) ∧ s'.1 5 0 = nI (dvN L t 5) ∧ s'.1 5 1 = 0 ∧ s'.1 5 2 = 0 ∧ s'.1 0 21 = 0 ∧ s'.1 10 0 = 0 ∧ s'.1 10 1 = 0 ∧ (match S with
    | none => s'.1 0 8 = 0
    | some q => s'.1 0 8 = 1 ∧ s'.1 0 6 = nI q.1 ∧ s'.1 0 7 = nI q.2 ∧ q.1 ≤ 9 ∧ q.2 ≤ 6) := by
  have gen : ∀ b : Int32, ∃ s', fX9_search_109 z z (srE w b) (nI 0) = some (nI (sumN K 11), s') ∧ FQ w s' ∧ TM s' (fun j => dvN L t (j + 1)) K ∧ (∀ j, j < 11 → s'.2 4 j = lN (K j)) ∧ s'.1 5 0 = nI (dvN L t 5) ∧ s'.1 5 1 = 0 ∧ s'.1 5 2 = 0 ∧ s'.1 0 21 = 0 ∧ s'.1 10 0 = 0 ∧ s'.1 10 1 = 0 ∧ s'.1 0 8 = b ∧ s'.1 0 6 = w.1 0 12 ∧ s'.1 0 7 = w.1 0 13 := by
    intro b
    obtain ⟨s', a1, a2, a3, a4, a5, a6, a7, a8, a9, a10, a11⟩ := r_end (z := z) (s := srE w b) (T := fun j => dvN L t (j + 1)) (K := K) hz (fun j hj => by rw [srE_q (by decide)]; exact hK j hj) (fun j hj => by
      have : j = 0 ∨ j = 1 ∨ j = 2 ∨ j = 3 ∨ j = 4 ∨ j = 5 := by omega
      rcases this with q | q | q | q | q | q <;> subst q
      · exact hr 1 (by decide) (by decide)
      · exact hr 2 (by decide) (by decide)
      · exact hr 3 (by decide) (by decide)
      · exact hr 4 (by decide) (by decide)
      · exact hr 5 (by decide) (by decide)
      · exact hr 6 (by decide) (by decide))
    exact ⟨s', a1, ⟨fun q q0 q1 q5 q10 => (a2.1 q q0 q1 q5 q10).trans (srE_q q0), fun j h9 h21 => (a2.2.1 j h9 h21).trans (srE_0 h9), fun q hq => (a2.2.2 q hq).trans rfl⟩, a4, a5, a6, a7, a8, a9, a10, a11, (a3 8 (by decide)).trans rfl, (a3 6 (by decide)).trans rfl, (a3 7 (by decide)).trans rfl⟩
  cases S with
  | none =>
    obtain ⟨s', a1, a2, a3, a4, a5, a6, a7, a8, a9, a10, a11, -, -⟩ := gen 0
    refine ⟨s', ?_, a2, a3, a4, a5, a6, a7, a8, a9, a10, a11⟩
    rw [r_body e, if_pos (show w.1 0 12 = -9 from hS)]
    exact a1
  | some q =>
    obtain ⟨q1, q2, q3, q4⟩ := hS
    obtain ⟨s', a1, a2, a3, a4, a5, a6, a7, a8, a9, a10, a11, a12, a13⟩ := gen 1
    have n9 : ¬ w.1 0 12 = (-9 : Int32) := by
      rw [q1]
      intro g
      have h1 : (nI q.1) < 0 := by rw [g]; decide
      exact nI_pos (by omega) h1
    refine ⟨s', ?_, a2, a3, a4, a5, a6, a7, a8, a9, a10, a11, a12.trans q1, a13.trans q2, q3, q4⟩
    rw [r_body e, if_neg n9]
    exact a1
theorem op_search {z : Nat} {σ μ : ST} (hz : 30000 ≤ z) (h : Rel σ μ) : ∃ r σ' μ', fX8_search z σ = some (r, σ') ∧ fX9_search z μ = some (r, μ') ∧ Rel σ' μ' := by
  have h' := h
  obtain ⟨T, P, sec, L, t, c, n, A, B, hT, hs, ⟨x1, x2, x3, x4⟩, hn, ha, hb, hd⟩ := h'
  obtain ⟨σ1, e1, f1⟩ := s_firstFault (z := z) (σ := σ) (L := L) (t := t) ⟨x1, x3, fun j hj => ⟨(x4 j hj).1, (x4 j hj).2.2⟩⟩ (by omega)
  obtain ⟨w, e2, f2, w1⟩ := r_all (z := z) (μ := μ) (L := L) (t := t) (by omega) ⟨x2, x3, fun j hj => (x4 j hj).2⟩
  have ct : CTx σ1 L t := f1.ct ⟨x1, x3, fun j hj => ⟨(x4 j hj).1, (x4 j hj).2.2⟩⟩
  have mt : MTx w L t := f2.mt ⟨x2, x3, fun j hj => (x4 j hj).2⟩
  have xx : RX σ1 w L t := ⟨ct.1, mt.1, x3, fun j hj => ⟨(ct.2.2 j hj).1, mt.2.2 j hj⟩⟩
  cases hr : rd0 L t with
  | inl f =>
    rw [hr] at e1 e2
    have hf := rd0_f hr
    have n9 : ¬ fvN (.inl f) = (-9 : Int32) := by
      intro g
      have h1 : (nI f) < 0 := by rw [show nI f = (-9 : Int32) from g]; decide
      exact nI_pos (by omega) h1
    refine ⟨-3, σ1, w, ?_, ?_, h.tx ⟨fun q h1 _ => f1.1 q h1, f1.2.1, fun q h0 h2 h3 _ => f2.1 q h0 h2 h3, fun j a b _ c d => f2.2.1 j a b c d, f2.2.2⟩ ⟨L, t, xx⟩⟩
    · unfold fX8_search
      rw [e1, bd_s, if_neg n9]
    · unfold fX9_search
      rw [e2, bd_s, if_neg n9]
  | inr r =>
    obtain ⟨K, S⟩ := r
    rw [hr] at e1 e2
    obtain ⟨k1, k2, k3⟩ := w1.2 K S hr
    obtain ⟨d1, d2, d12, d3, d4, d5, d6, d6', -⟩ := rd0_inr hr
    obtain ⟨σ2, g1, g2, g3, g4, g5⟩ := c_take (z := z) (σ := σ1) (by omega) ct hr
    have ti : TI (fun j => dvN L t (j + 1)) K := ⟨d12, d1, d2, d3, d4, d5, d6', d6, fun j hj => (k1 j hj).2⟩
    obtain ⟨σ3, b1, b2, b3⟩ := a_begin (z := z) (σ := σ2) (k := 5) (by decide) g4 ti (by omega)
    obtain ⟨μ', a1, a2, a3, a4, a5, a6, a7, a8, a9, a10, a11⟩ := r_take (z := z) (L := L) (t := t) (μ := μ) (w := w) (K := K) (S := S) (by omega) e2 k1 k2 k3
    have F3 : ∀ q, q < 5 → σ3.1 q = σ2.1 q := fun q hq => (b3 q (by omega) (by omega) (by omega) (by omega)).1
    have r0 : ∀ q, q ≠ 0 → (pI (pI σ3 0 9 0) 0 8 0).1 q = σ3.1 q := fun q hq => by rw [pI_n hq, pI_n hq]
    have g4' : TX (pI (pI σ3 0 9 0) 0 8 0) (fun j => dvN L t (j + 1)) K := g4.eq (by rw [r0 3 (by decide), F3 3 (by decide)]) (by rw [r0 4 (by decide), F3 4 (by decide)])
    refine ⟨nI (sumN K 11), pI (pI σ3 0 9 0) 0 8 0, μ', ?_, a1, (fun j => dvN L t (j + 1)), K, S, L, t, bgN (fun j => dvN L t (j + 1)) K, 0, fun _ => bgN (fun j => dvN L t (j + 1)) K, fun _ => none, ⟨g4', a3, ti⟩, ?_, ⟨?_, ?_, x3, fun j hj => ⟨?_, ?_, (x4 j hj).2.2⟩⟩, ⟨?_, ⟨fun j hj => ?_, a5, a6, a7, fun w h1 h2 => absurd h2 (Nat.not_lt_zero _)⟩, d5, Nat.zero_le _, Nat.zero_le _, fun w h1 h2 => absurd h2 (Nat.not_lt_zero _), ?_⟩, ⟨?_, a8, Nat.zero_le _, fun k hk => absurd hk (Nat.not_lt_zero _)⟩, ⟨pI_at, fun s hs2 => ⟨?_, fun d hd2 => by cases hd2⟩⟩, ?_⟩
    · unfold fX8_search
      rw [e1, bd_s, if_pos (show fvN (.inr (K, S)) = (-9 : Int32) from rfl), g1, bd_s, b1, bd_s, lt_r, lt_r, s_allParts g4' (by omega), bd_s]
    · cases S with
      | none => exact ⟨by rw [r0 3 (by decide), F3 3 (by decide)]; exact g5, a11⟩
      | some q => exact ⟨by rw [r0 3 (by decide), F3 3 (by decide)]; exact g5.1, by rw [r0 3 (by decide), F3 3 (by decide)]; exact g5.2, a11.2.2.2.1, a11.2.2.2.2, a11.1, a11.2.1, a11.2.2.1⟩
    · rw [r0 1 (by decide), F3 1 (by decide), g2 1 (by decide) (by decide)]
      exact ct.1
    · rw [a2.2.1 17 (by decide) (by decide)]
      exact mt.1
    · rw [r0 2 (by decide), F3 2 (by decide), g2 2 (by decide) (by decide)]
      exact (ct.2.2 j hj).1
    · rw [a2.1 6 (by decide) (by decide) (by decide) (by decide)]
      exact (mt.2.2 j hj).1
    · exact b2.eq (r0 5 (by decide)) rfl (r0 7 (by decide)) (r0 8 (by decide))
    · rw [Nat.zero_add]
      exact a4 j hj
    · have := sumN_bound (w := K) (n := 11) (c := 9) (fun j hj => (k1 j hj).2)
      show sumN K 11 ≤ 99 * 10 ^ 0 * 100 ^ 0
      omega
    · rw [pI_nj (by decide), pI_at]
      rfl
    · have : s = 0 ∨ s = 1 := by omega
      rcases this with q | q <;> subst q
      · exact a9
      · exact a10
    · show (pI (pI σ3 0 9 0) 0 8 0).2 79 0 = μ'.2 0 25
      rw [pI_2, pI_2, (b3 79 (by decide) (by decide) (by decide) (by decide)).2, g3, f1.2.1, a2.2.2 0 (by decide), f2.2.2]
      exact hd

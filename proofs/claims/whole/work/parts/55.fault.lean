/-! ===== fault ===== -/
theorem r_zero {z : Nat} : ∀ (n i : Nat) (σ : ST), i ≤ 11 → 11 < i + n → ∃ n', fX9_readText_19 z n (regI σ 3 0 i (fun _ => 0)) (nI i) = fX9_readText_19 z (n' + 1) (regI σ 3 0 11 (fun _ => 0)) (nI 11) := by
  intro n
  induction n with
  | zero => intro i σ h1 h2; omega
  | succ n ih =>
    intro i σ h1 h2
    by_cases hi : i = 11
    · subst hi
      exact ⟨n, rfl⟩
    · obtain ⟨n', e⟩ := ih (i + 1) σ (by omega) (by omega)
      refine ⟨n', ?_⟩
      rw [← e]
      conv => lhs; unfold fX9_readText_19
      rw [if_neg (nle (a := 11) 11 i rfl rfl (by omega) (by decide)), gd_inb (by omega) (by decide), nI_clamp (by omega), lt_r, nI_1]
      have := regI_s0 (σ := σ) (a := 3) (n := i) (F := fun _ => (0 : Int32))
      rw [← this]
theorem r_all {z L : Nat} {μ : ST} {t : Nat → Nat} (hz : 100 ≤ z) (ht : MTx μ L t) : ∃ μ', fX9_readText z μ = some (fvN (rd0 L t), μ') ∧ FH μ μ' ∧ EndW μ' (fvN (rd0 L t)) L t (rd0 L t) := by
  have h40 := ht.2.1
  unfold fX9_readText
  rw [lt_r, lt_r, lt_r]
  have f0 : FH μ (pI (pI (pI μ 0 18 0) 0 19 (-9)) 0 12 (-9)) := ((FR.p0 (by decide)).tr (FR.p0 (by decide))).tr (FR.p0 (by decide)) |>.fh
  have e19 : (pI (pI (pI μ 0 18 0) 0 19 (-9)) 0 12 (-9)).1 0 19 = -9 := by rw [pI_nj (by decide), pI_at]
  have e12 : (pI (pI (pI μ 0 18 0) 0 19 (-9)) 0 12 (-9)).1 0 12 = -9 := pI_at
  generalize pI (pI (pI μ 0 18 0) 0 19 (-9)) 0 12 (-9) = S at *
  obtain ⟨n', e⟩ := r_zero (z := z) z 0 S (by omega) (by omega)
  rw [regI_0] at e
  rw [show (0 : Int32) = nI 0 from rfl, e]
  have f1 : FH S (regI S 3 0 11 (fun _ => 0)) := ⟨fun q _ _ h3 => regI_ne h3, fun j _ _ _ _ => by rw [regI_ne (by decide)], rfl⟩
  have g19 : (regI S 3 0 11 (fun _ => 0)).1 0 19 = -9 := by rw [regI_ne (by decide)]; exact e19
  have g12 : (regI S 3 0 11 (fun _ => 0)).1 0 12 = -9 := by rw [regI_ne (by decide)]; exact e12
  have gK : KR (regI S 3 0 11 (fun _ => 0)) (fun _ => 0) := fun j hj => ⟨by rw [regI_in (Nat.zero_le _) (by omega)]; rfl, Nat.zero_le _⟩
  have F := f0.tr f1
  have hS := F.mt ht
  generalize regI S 3 0 11 (fun _ => (0 : Int32)) = Q at *
  unfold fX9_readText_19 fX9_readText_56 rd0
  rw [if_pos (ple (a := 11) 11 11 rfl rfl (Nat.le_refl _) (by decide)), hS.1]
  by_cases h0 : L = 0
  · rw [if_pos (show nI L = 0 from by rw [h0]; rfl), if_pos (show ¬ (0 < L ∧ t 0 = 83) from fun q => by omega)]
    exact ⟨Q, rfl, F, EndW.f⟩
  · obtain ⟨k1, k2⟩ := hS.2.2 0 (by omega)
    rw [if_neg (neq (b := 0) L 0 rfl rfl h0 (by omega) (by decide)), show inb (0 : Int32) 40 = true from rfl, gd_t, show (0 : Int32).toNatClampNeg = 0 from rfl, k1]
    by_cases h83 : t 0 = 83
    · rw [if_pos (peq (b := 83) (t 0) 83 rfl rfl h83), if_neg (show ¬ ¬ (0 < L ∧ t 0 = 83) from fun q => q ⟨by omega, h83⟩), lt_r]
      have f2 : FH Q (pI Q 0 18 1) := (FR.p0 (by decide)).fh
      have hQ : HR (pI Q 0 18 1) L t 1 := ⟨pI_at, by rw [pI_nj (by decide)]; exact g19, by rw [pI_nj (by decide)]; exact g12, gK.eq (pI_n (by decide)), fun j j1 j2 => by omega⟩
      obtain ⟨p1, p2⟩ := g_ok (z := z) (lo := 0) (hi := 9) (k := fun s31 => gd (inb (1 : Int32) 7) (if s31.1 2 1 = 0 then fX9_readText_106 z s31 9 0 2 else gd (inb (1 : Int32) 7) (fX9_readText_106 z s31 ((10 : Int32) - s31.1 2 1) 0 2))) (f2.mt hS) hQ (by decide) (by decide) (by omega) (by decide) (by decide)
      have pre : ∀ r : Option (Int32 × ST), stG z (nI 0) (nI 9) 1 (fun s31 => gd (inb (1 : Int32) 7) (if s31.1 2 1 = 0 then fX9_readText_106 z s31 9 0 2 else gd (inb (1 : Int32) 7) (fX9_readText_106 z s31 ((10 : Int32) - s31.1 2 1) 0 2))) (pI Q 0 18 1) = r → bd (fX9_figure z (pI Q 0 18 1) 0 9) (fun u29 => gd (inb (1 : Int32) 7) (lt (pI u29.2 2 (1 : Int32).toNatClampNeg u29.1) (fun s31 => gd (inb (1 : Int32) 7) (if s31.1 2 (1 : Int32).toNatClampNeg = 0 then fX9_readText_106 z s31 9 0 2 else gd (inb (1 : Int32) 7) (fX9_readText_106 z s31 ((10 : Int32) - s31.1 2 (1 : Int32).toNatClampNeg) 0 2))))) = r := fun r h => h
      by_cases c1 : dvN L t 1 ≤ 9
      · have dl : 1 < L := by have := dv_or L t 1; omega
        obtain ⟨Q1, q1, q2, q3⟩ := p1 ⟨Nat.zero_le _, c1⟩
        have row : Q1.1 2 1 = nI (dvN L t 1) := q2.2.2.2.2 1 (by decide) (by decide)
        have ex : ∃ hi, hi ≤ 9 ∧ (dvN L t 2 ≤ hi ↔ (dvN L t 2 ≤ 9 ∧ dvN L t 1 + dvN L t 2 ≤ 10)) ∧ (fun s31 : ST => gd (inb (1 : Int32) 7) (if s31.1 2 1 = 0 then fX9_readText_106 z s31 9 0 2 else gd (inb (1 : Int32) 7) (fX9_readText_106 z s31 ((10 : Int32) - s31.1 2 1) 0 2))) Q1 = fX9_readText_106 z Q1 (nI hi) 0 2 := by
          by_cases d0 : dvN L t 1 = 0
          · refine ⟨9, by decide, by omega, ?_⟩
            show gd (inb (1 : Int32) 7) (if Q1.1 2 1 = 0 then fX9_readText_106 z Q1 9 0 2 else gd (inb (1 : Int32) 7) (fX9_readText_106 z Q1 ((10 : Int32) - Q1.1 2 1) 0 2)) = _
            rw [row, show inb (1 : Int32) 7 = true from rfl, gd_t, if_pos (peq (b := 0) (dvN L t 1) 0 rfl rfl d0)]
            rfl
          · refine ⟨10 - dvN L t 1, by omega, by omega, ?_⟩
            show gd (inb (1 : Int32) 7) (if Q1.1 2 1 = 0 then fX9_readText_106 z Q1 9 0 2 else gd (inb (1 : Int32) 7) (fX9_readText_106 z Q1 ((10 : Int32) - Q1.1 2 1) 0 2)) = _
            rw [row, show inb (1 : Int32) 7 = true from rfl, gd_t, if_neg (neq (b := 0) (dvN L t 1) 0 rfl rfl d0 (by omega) (by decide)), gd_t, show (10 : Int32) = nI 10 from rfl, pk_sub (by omega)]
        obtain ⟨hi, x1, x2, x3⟩ := ex
        obtain ⟨x, μ', y1, y2, y3⟩ := r_106 (z := z) (hi := hi) hz (q3.mt (f2.mt hS)) q2 (by omega) x1
        rw [if_neg (show ¬ ¬ dvN L t 1 ≤ 9 from fun q => q c1)]
        by_cases c2 : dvN L t 2 ≤ hi
        · rw [if_neg (show ¬ ¬ dvN L t 2 ≤ hi from fun q => q c2)] at y3
          rw [if_neg (show ¬ ¬ (dvN L t 2 ≤ 9 ∧ dvN L t 1 + dvN L t 2 ≤ 10) from fun q => q (x2.mp c2)), ← y3.1]
          exact ⟨μ', pre _ (q1.trans (x3.trans y1)), ((F.tr f2).tr q3).tr y2, y3⟩
        · rw [if_pos c2] at y3
          rw [if_pos (show ¬ (dvN L t 2 ≤ 9 ∧ dvN L t 1 + dvN L t 2 ≤ 10) from fun q => c2 (x2.mpr q)), ← y3.1]
          exact ⟨μ', pre _ (q1.trans (x3.trans y1)), ((F.tr f2).tr q3).tr y2, y3⟩
      · obtain ⟨Q1, q1, q2, q3⟩ := p2 (fun q => c1 q.2)
        have b5 := g_bad (z := z) (lo := 1) (j := 6) (f := 1) (hi := nI 6) (by decide) (by decide) (by decide) (k6_bad (z := z) (f := 1) (by omega) (by decide))
        have b4 := g_bad (z := z) (lo := 0) (j := 5) (f := 1) (hi := nI 9) (by decide) (by decide) (by decide) b5
        have b3 := g_bad (z := z) (lo := 0) (j := 4) (f := 1) (hi := nI 9) (by decide) (by decide) (by decide) b4
        have b2 := g_bad (z := z) (lo := 0) (j := 3) (f := 1) (hi := nI 9) (by decide) (by decide) (by decide) b3
        have b1 : ∀ hi : Int32, ∃ σ', fX9_readText_106 z Q1 hi 0 2 = some (nI 1, σ') ∧ FH Q1 σ' := fun hi => g_bad (z := z) (lo := 0) (j := 2) (f := 1) (hi := hi) (by decide) (by decide) (by decide) b2 Q1 q2
        rw [if_pos (show ¬ dvN L t 1 ≤ 9 from c1)]
        by_cases d0 : Q1.1 2 1 = 0
        · obtain ⟨σ', y1, y2⟩ := b1 9
          refine ⟨σ', pre _ (q1.trans ?_), ((F.tr f2).tr q3).tr y2, EndW.f⟩
          rw [show inb (1 : Int32) 7 = true from rfl, gd_t, if_pos d0]
          exact y1
        · obtain ⟨σ', y1, y2⟩ := b1 ((10 : Int32) - Q1.1 2 1)
          refine ⟨σ', pre _ (q1.trans ?_), ((F.tr f2).tr q3).tr y2, EndW.f⟩
          rw [show inb (1 : Int32) 7 = true from rfl, gd_t, if_neg d0, gd_t]
          exact y1
    · rw [if_neg (neq (b := 83) (t 0) 83 rfl rfl h83 (by omega) (by decide)), if_pos (show ¬ (0 < L ∧ t 0 = 83) from fun q => h83 q.2)]
      exact ⟨Q, rfl, F, EndW.f⟩
theorem op_fault {z : Nat} {σ μ : ST} (hz : 30000 ≤ z) (h : Rel σ μ) : ∃ r σ' μ', fX8_fault z σ = some (r, σ') ∧ fX9_fault z μ = some (r, μ') ∧ Rel σ' μ' := by
  obtain ⟨L, t, x1, x2, x3, x4⟩ : ∃ L t, RX σ μ L t := by
    obtain ⟨_, _, _, L, t, _, _, _, _, _, _, ht, _⟩ := h
    exact ⟨L, t, ht⟩
  obtain ⟨σ', e1, f1⟩ := s_firstFault (z := z) (σ := σ) (L := L) (t := t) ⟨x1, x3, fun j hj => ⟨(x4 j hj).1, (x4 j hj).2.2⟩⟩ (by omega)
  obtain ⟨μ', e2, f2, -⟩ := r_all (z := z) (μ := μ) (L := L) (t := t) (by omega) ⟨x2, x3, fun j hj => (x4 j hj).2⟩
  refine ⟨fvN (rd0 L t), σ', μ', by unfold fX8_fault; rw [e1, bd_s], by unfold fX9_fault; rw [e2, bd_s], h.tx ⟨fun q h1 _ => f1.1 q h1, f1.2.1, fun q h0 h2 h3 _ => f2.1 q h0 h2 h3, fun j a b _ c d => f2.2.1 j a b c d, f2.2.2⟩ ⟨L, t, f1.2.2.trans x1, (f2.2.1 17 (by decide) (by decide) (by decide) (by decide)).trans x2, x3, fun j hj => ?_⟩⟩
  rw [f1.1 2 (by decide), f2.1 6 (by decide) (by decide) (by decide)]
  exact x4 j hj

/-! ===== the reference reads a part as the class does ===== -/
def OutR (L : Nat) (t : Nat → Nat) (m i : Nat) (K : Nat → Nat) (S : Option (Nat × Nat)) (μ' : ST) : Prop := (∃ f, rdN L t (m + 1) i K S = .inl f ∧ f ≤ 40 ∧ μ'.1 0 19 = nI f) ∨ (∃ i' K' S', rdN L t (m + 1) i K S = rdN L t m i' K' S' ∧ IR μ' K' S' i' ∧ i < i' ∧ i' ≤ L)
theorem r_part {z L m i : Nat} {μ : ST} {t K : Nat → Nat} {S : Option (Nat × Nat)} (ht : MTx μ L t) (hI : IR μ K S i) (hl : i < L) (hz : 12 ≤ z) : ∃ μ', fX9_readPart z μ (nI (t i)) = some μ' ∧ FR μ μ' ∧ OutR L t m i K S μ' := by
  obtain ⟨h18, h19, hK, hS⟩ := hI
  have h40 := ht.2.1
  have h255 := (ht.2.2 i hl).2
  obtain ⟨cl1, cl2⟩ := r_left (z := z) hK hz
  have n9 : ∀ f, f ≤ 40 → ¬ nI f = (-9 : Int32) := by
    intro f hf q
    have h1 : (nI f) < 0 := by rw [q]; decide
    exact nI_pos (by omega) h1
  have e18 : μ.1 0 18 + (1 : Int32) = nI (i + 1) := by rw [h18, show (1 : Int32) = nI 1 from rfl, nI_add]
  have f1 : FR μ (pI μ 0 18 (nI (i + 1))) := FR.p0 (by decide)
  have s18 : (pI μ 0 18 (nI (i + 1))).1 0 18 = nI (i + 1) := pI_at
  have s19 : (pI μ 0 18 (nI (i + 1))).1 0 19 = -9 := by rw [pI_nj (by decide)]; exact h19
  have sK : KR (pI μ 0 18 (nI (i + 1))) K := hK.eq (pI_n (by decide))
  have sS : SR (pI μ 0 18 (nI (i + 1))) S := hS.eq (pI_nj (by decide)) (pI_nj (by decide))
  have bad : OutR L t m i K S (pI μ 0 19 (nI i)) ∨ True := Or.inr trivial
  unfold fX9_readPart fX9_readPart_64 fX9_readPart_122 fX9_readPart_188 fX9_readPart_196
  have il : ¬ L ≤ i := by omega
  by_cases h70 : t i = 70
  · rw [if_pos (peq (b := 70) (t i) 70 rfl rfl h70)]
    by_cases hall : ∀ j, j < 10 → K j ≠ 0
    · rw [cl2 hall, bd_s, if_pos rfl, if_neg (neq (b := 65) (t i) 65 rfl rfl (by omega) (by omega) (by decide)), if_neg (neq (b := 84) (t i) 84 rfl rfl (by omega) (by omega) (by decide)), lt_r, h18]
      refine ⟨_, rfl, FR.p0 (by decide), Or.inl ⟨i, ?_, by omega, pI_at⟩⟩
      unfold rdN
      rw [if_neg il, if_neg (show ¬ (t i = 70 ∧ ¬ ∀ j, j < 10 → K j ≠ 0) from fun q => q.2 hall), if_neg (show ¬ (t i = 65 ∧ K 10 = 0) from fun q => by omega), if_neg (show ¬ (t i = 84 ∧ S = none) from fun q => by omega)]
    · rw [cl1 hall, bd_s, if_neg one0, lt_r, e18]
      obtain ⟨g1, g2⟩ := r_fresh (z := z) (f1.mt ht) s18 s19 (by omega) sK
      by_cases hc : dvN L t (i + 1) ≤ 9 ∧ K (dvN L t (i + 1)) = 0
      · have dl : i + 1 < L := by have := dv_or L t (i + 1); omega
        rw [g1 hc, bd_s]
        have f2 : FR (pI μ 0 18 (nI (i + 1))) (pI (pI μ 0 18 (nI (i + 1))) 0 18 (nI (i + 1 + 1))) := FR.p0 (by decide)
        obtain ⟨w1, w2⟩ := r_fig (z := z) (lo := 1) (hi := 9) (i := i + 1 + 1) ((f1.tr f2).mt ht) pI_at (by rw [pI_nj (by decide)]; exact s19) (by omega) (by decide) (by decide)
        by_cases hw : 1 ≤ dvN L t (i + 1 + 1) ∧ dvN L t (i + 1 + 1) ≤ 9
        · have dl2 : i + 1 + 1 < L := by have := dv_or L t (i + 1 + 1); omega
          unfold fX9_readPart_60
          rw [show fX9_figure z _ (1 : Int32) (9 : Int32) = _ from w1 hw, bd_s]
          have q19 : (pI (pI (pI μ 0 18 (nI (i + 1))) 0 18 (nI (i + 1 + 1))) 0 18 (nI (i + 1 + 1 + 1))).1 0 19 = -9 := by rw [pI_nj (by decide), pI_nj (by decide)]; exact s19
          rw [if_pos q19, gd_inb (by omega) (by decide), lt_r, nI_clamp (by omega)]
          refine ⟨_, rfl, ((f1.tr f2).tr (FR.p0 (by decide))).tr (FR.p3 (by decide)), Or.inr ⟨i + 3, fun j => if j = dvN L t (i + 1) then dvN L t (i + 1 + 1) else K j, S, ?_, ⟨by rw [pI_n (by decide)]; exact pI_at, by rw [pI_n (by decide)]; exact q19, ?_, ?_⟩, by omega, by omega⟩⟩
          · conv => lhs; unfold rdN
            rw [if_neg il, if_pos ⟨h70, hall⟩, if_pos hc, if_pos hw]
          · exact KR.set (((sK.eq (pI_n (by decide)))).eq (pI_n (by decide))) hw.2
          · exact sS.eq (by rw [pI_n (by decide), pI_nj (by decide), pI_nj (by decide)]) (by rw [pI_n (by decide), pI_nj (by decide), pI_nj (by decide)])
        · unfold fX9_readPart_60
          rw [show fX9_figure z _ (1 : Int32) (9 : Int32) = _ from w2 hw, bd_s]
          have q19 : ¬ (pI (pI (pI μ 0 18 (nI (i + 1))) 0 18 (nI (i + 1 + 1))) 0 19 (nI (i + 1 + 1))).1 0 19 = -9 := by rw [pI_at]; exact n9 _ (by omega)
          rw [if_neg q19, gd_inb (by omega) (by decide), gd_inb (by omega) (by decide), lt_r]
          refine ⟨_, rfl, ((f1.tr f2).tr (FR.p0 (by decide))).tr (FR.p3 (by decide)), Or.inl ⟨i + 2, ?_, by omega, by rw [pI_n (by decide)]; exact pI_at⟩⟩
          unfold rdN
          rw [if_neg il, if_pos ⟨h70, hall⟩, if_pos hc, if_neg hw]
      · rw [g2 hc, bd_s]
        have f2 : FR (pI μ 0 18 (nI (i + 1))) (pI (pI μ 0 18 (nI (i + 1))) 0 19 (nI (i + 1))) := FR.p0 (by decide)
        have q19 : ¬ (pI (pI μ 0 18 (nI (i + 1))) 0 19 (nI (i + 1))).1 0 19 = -9 := by rw [pI_at]; exact n9 _ (by omega)
        have p19 : ¬ (pI (pI (pI μ 0 18 (nI (i + 1))) 0 19 (nI (i + 1))) 0 19 ((pI (pI μ 0 18 (nI (i + 1))) 0 19 (nI (i + 1))).1 0 19)).1 0 19 = -9 := by rw [pI_at]; exact q19
        unfold fX9_readPart_60
        rw [show fX9_figure z _ (1 : Int32) (9 : Int32) = _ from r_figF (lo := 1) q19 (by decide), bd_s, if_neg p19, show inb (0 : Int32) 11 = true from rfl, gd_t, gd_t, lt_r]
        refine ⟨_, rfl, ((f1.tr f2).tr (FR.p0 (by decide))).tr (FR.p3 (by decide)), Or.inl ⟨i + 1, ?_, by omega, by rw [pI_n (by decide), pI_at, pI_at]⟩⟩
        unfold rdN
        rw [if_neg il, if_pos ⟨h70, hall⟩, if_neg hc]
  · rw [if_neg (neq (b := 70) (t i) 70 rfl rfl h70 (by omega) (by decide))]
    have r70 : ¬ (t i = 70 ∧ ¬ ∀ j, j < 10 → K j ≠ 0) := fun q => h70 q.1
    by_cases h65 : t i = 65 ∧ K 10 = 0
    · have k10 : μ.1 3 10 = 0 := by rw [(hK 10 (by omega)).1, h65.2]; rfl
      rw [if_pos (peq (b := 65) (t i) 65 rfl rfl h65.1), show inb (10 : Int32) 11 = true from rfl, gd_t, show (10 : Int32).toNatClampNeg = 10 from rfl, if_pos k10, lt_r, e18]
      obtain ⟨w1, w2⟩ := r_fig (z := z) (lo := 1) (hi := 9) (i := i + 1) (f1.mt ht) s18 s19 (by omega) (by decide) (by decide)
      unfold fX9_readPart_118
      by_cases hw : 1 ≤ dvN L t (i + 1) ∧ dvN L t (i + 1) ≤ 9
      · have dl2 : i + 1 < L := by have := dv_or L t (i + 1); omega
        rw [show fX9_figure z _ (1 : Int32) (9 : Int32) = _ from w1 hw, bd_s]
        have q19 : (pI (pI μ 0 18 (nI (i + 1))) 0 18 (nI (i + 1 + 1))).1 0 19 = -9 := by rw [pI_nj (by decide)]; exact s19
        rw [if_pos q19, show inb (10 : Int32) 11 = true from rfl, gd_t, lt_r]
        refine ⟨_, rfl, (f1.tr (FR.p0 (by decide))).tr (FR.p3 (by decide)), Or.inr ⟨i + 2, fun j => if j = 10 then dvN L t (i + 1) else K j, S, ?_, ⟨by rw [pI_n (by decide)]; exact pI_at, by rw [pI_n (by decide)]; exact q19, ?_, ?_⟩, by omega, by omega⟩⟩
        · conv => lhs; unfold rdN
          rw [if_neg il, if_neg r70, if_pos h65, if_pos hw]
        · exact KR.set (sK.eq (pI_n (by decide))) hw.2
        · exact sS.eq (by rw [pI_n (by decide), pI_nj (by decide)]) (by rw [pI_n (by decide), pI_nj (by decide)])
      · rw [show fX9_figure z _ (1 : Int32) (9 : Int32) = _ from w2 hw, bd_s]
        have q19 : ¬ (pI (pI μ 0 18 (nI (i + 1))) 0 19 (nI (i + 1))).1 0 19 = -9 := by rw [pI_at]; exact n9 _ (by omega)
        rw [if_neg q19, show inb (10 : Int32) 11 = true from rfl, gd_t, lt_r]
        refine ⟨_, rfl, (f1.tr (FR.p0 (by decide))).tr (FR.p3 (by decide)), Or.inl ⟨i + 1, ?_, by omega, by rw [pI_n (by decide)]; exact pI_at⟩⟩
        unfold rdN
        rw [if_neg il, if_neg r70, if_pos h65, if_neg hw]
    · have skip : (if nI (t i) = (65 : Int32) then gd (inb (10 : Int32) 11) (if μ.1 3 (10 : Int32).toNatClampNeg = 0 then lt (pI μ 0 18 (μ.1 0 18 + 1)) (fun s32 => bd (fX9_figure z s32 1 9) (fun u33 => if u33.2.1 0 19 = -9 then fX9_readPart_118 z u33.2 u33.1 10 else fX9_readPart_118 z u33.2 0 10)) else fX9_readPart_122 z μ (nI (t i))) else fX9_readPart_122 z μ (nI (t i))) = fX9_readPart_122 z μ (nI (t i)) := by
        by_cases e65 : t i = 65
        · have k10 : ¬ μ.1 3 10 = 0 := by
            obtain ⟨k1, k2⟩ := hK 10 (by omega)
            rw [k1]
            exact neq (b := 0) (K 10) 0 rfl rfl (fun q => h65 ⟨e65, q⟩) (by omega) (by decide)
          rw [if_pos (peq (b := 65) (t i) 65 rfl rfl e65), show inb (10 : Int32) 11 = true from rfl, gd_t, show (10 : Int32).toNatClampNeg = 10 from rfl, if_neg k10]
        · rw [if_neg (neq (b := 65) (t i) 65 rfl rfl e65 (by omega) (by decide))]
      have fin : ∃ μ', fX9_readPart_122 z μ (nI (t i)) = some μ' ∧ FR μ μ' ∧ OutR L t m i K S μ' := by
        unfold fX9_readPart_122 fX9_readPart_188 fX9_readPart_182 fX9_readPart_196
        by_cases h84 : t i = 84 ∧ S = none
        · have hS2 := hS
          rw [h84.2] at hS2
          have k12 : μ.1 0 12 = -9 := hS2
          rw [if_pos (peq (b := 84) (t i) 84 rfl rfl h84.1), if_pos k12, lt_r, e18]
          obtain ⟨w1, w2⟩ := r_fig (z := z) (lo := 0) (hi := 9) (i := i + 1) (f1.mt ht) s18 s19 (by omega) (by decide) (by decide)
          by_cases hw : dvN L t (i + 1) ≤ 9
          · have dl : i + 1 < L := by have := dv_or L t (i + 1); omega
            rw [show fX9_figure z _ (0 : Int32) (9 : Int32) = _ from w1 ⟨Nat.zero_le _, hw⟩, bd_s]
            have f2 : FR (pI μ 0 18 (nI (i + 1))) (pI (pI μ 0 18 (nI (i + 1))) 0 18 (nI (i + 1 + 1))) := FR.p0 (by decide)
            have q19 : (pI (pI μ 0 18 (nI (i + 1))) 0 18 (nI (i + 1 + 1))).1 0 19 = -9 := by rw [pI_nj (by decide)]; exact s19
            obtain ⟨v1, v2⟩ := r_fig (z := z) (lo := 0) (hi := 6) (i := i + 1 + 1) ((f1.tr f2).mt ht) pI_at q19 (by omega) (by decide) (by decide)
            by_cases hw2 : dvN L t (i + 1 + 1) ≤ 6
            · have dl2 : i + 1 + 1 < L := by have := dv_or L t (i + 1 + 1); omega
              rw [show fX9_figure z _ (0 : Int32) (6 : Int32) = _ from v1 ⟨Nat.zero_le _, hw2⟩, bd_s, lt_r]
              have p19 : (pI (pI (pI (pI μ 0 18 (nI (i + 1))) 0 18 (nI (i + 1 + 1))) 0 18 (nI (i + 1 + 1 + 1))) 0 13 (nI (dvN L t (i + 1 + 1)))).1 0 19 = -9 := by rw [pI_nj (by decide), pI_nj (by decide)]; exact q19
              rw [if_pos p19, lt_r]
              refine ⟨_, rfl, (((f1.tr f2).tr (FR.p0 (by decide))).tr (FR.p0 (by decide))).tr (FR.p0 (by decide)), Or.inr ⟨i + 3, K, some (dvN L t (i + 1), dvN L t (i + 1 + 1)), ?_, ⟨by rw [pI_nj (by decide), pI_nj (by decide)]; exact pI_at, by rw [pI_nj (by decide)]; exact p19, ?_, ⟨pI_at, by rw [pI_nj (by decide)]; exact pI_at, hw, hw2⟩⟩, by omega, by omega⟩⟩
              · conv => lhs; unfold rdN
                rw [if_neg il, if_neg r70, if_neg h65, if_pos h84, if_pos hw, if_pos hw2]
              · exact ((((sK.eq (pI_n (by decide))).eq (pI_n (by decide))).eq (pI_n (by decide))).eq (pI_n (by decide)))
            · rw [show fX9_figure z _ (0 : Int32) (6 : Int32) = _ from v2 (fun q => hw2 q.2), bd_s, lt_r]
              have p19 : (pI (pI (pI (pI μ 0 18 (nI (i + 1))) 0 18 (nI (i + 1 + 1))) 0 19 (nI (i + 1 + 1))) 0 13 (nI 0)).1 0 19 = nI (i + 1 + 1) := by rw [pI_nj (by decide)]; exact pI_at
              rw [if_neg (by rw [p19]; exact n9 _ (by omega)), lt_r]
              refine ⟨_, rfl, (((f1.tr f2).tr (FR.p0 (by decide))).tr (FR.p0 (by decide))).tr (FR.p0 (by decide)), Or.inl ⟨i + 2, ?_, by omega, by rw [pI_nj (by decide)]; exact p19⟩⟩
              unfold rdN
              rw [if_neg il, if_neg r70, if_neg h65, if_pos h84, if_pos hw, if_neg hw2]
          · rw [show fX9_figure z _ (0 : Int32) (9 : Int32) = _ from w2 (fun q => hw q.2), bd_s]
            have q19 : ¬ (pI (pI μ 0 18 (nI (i + 1))) 0 19 (nI (i + 1))).1 0 19 = -9 := by rw [pI_at]; exact n9 _ (by omega)
            have p19 : (pI (pI (pI (pI μ 0 18 (nI (i + 1))) 0 19 (nI (i + 1))) 0 19 ((pI (pI μ 0 18 (nI (i + 1))) 0 19 (nI (i + 1))).1 0 19)) 0 13 (nI 0)).1 0 19 = nI (i + 1) := by rw [pI_nj (by decide), pI_at, pI_at]
            rw [show fX9_figure z _ (0 : Int32) (6 : Int32) = _ from r_figF (lo := 0) q19 (by decide), bd_s, lt_r, if_neg (by rw [p19]; exact n9 _ (by omega)), lt_r]
            refine ⟨_, rfl, (((f1.tr (FR.p0 (by decide))).tr (FR.p0 (by decide))).tr (FR.p0 (by decide))).tr (FR.p0 (by decide)), Or.inl ⟨i + 1, ?_, by omega, by rw [pI_nj (by decide)]; exact p19⟩⟩
            unfold rdN
            rw [if_neg il, if_neg r70, if_neg h65, if_pos h84, if_neg hw]
        · refine ⟨pI μ 0 19 (nI i), ?_, FR.p0 (by decide), Or.inl ⟨i, ?_, by omega, pI_at⟩⟩
          · by_cases e84 : t i = 84
            · have k12 : ¬ μ.1 0 12 = -9 := by
                cases S with
                | none => exact absurd ⟨e84, rfl⟩ h84
                | some q =>
                  obtain ⟨k1, k2, k3, k4⟩ : μ.1 0 12 = nI q.1 ∧ μ.1 0 13 = nI q.2 ∧ q.1 ≤ 9 ∧ q.2 ≤ 6 := hS
                  rw [k1]; exact n9 _ (by omega)
              rw [if_pos (peq (b := 84) (t i) 84 rfl rfl e84), if_neg k12, lt_r, h18]
            · rw [if_neg (neq (b := 84) (t i) 84 rfl rfl e84 (by omega) (by decide)), lt_r, h18]
          · unfold rdN
            rw [if_neg il, if_neg r70, if_neg h65, if_neg h84]
      obtain ⟨μ', e, q⟩ := fin
      refine ⟨μ', ?_, q⟩
      rw [← e]
      exact skip

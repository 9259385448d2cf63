/-! ===== how the reference reads ===== -/
def MTx (μ : ST) (L : Nat) (t : Nat → Nat) : Prop := μ.1 0 17 = nI L ∧ L ≤ 40 ∧ ∀ j, j < L → μ.1 6 j = nI (t j) ∧ t j ≤ 255
def FR (μ μ' : ST) : Prop := (∀ q, q ≠ 0 → q ≠ 3 → μ'.1 q = μ.1 q) ∧ (∀ j, j ≠ 12 → j ≠ 13 → j ≠ 18 → j ≠ 19 → μ'.1 0 j = μ.1 0 j) ∧ μ'.2 = μ.2
theorem FR.rf {μ : ST} : FR μ μ := ⟨fun _ _ _ => rfl, fun _ _ _ _ _ => rfl, rfl⟩
theorem FR.tr {a b c : ST} (h1 : FR a b) (h2 : FR b c) : FR a c := ⟨fun q x y => (h2.1 q x y).trans (h1.1 q x y), fun j x y w v => (h2.2.1 j x y w v).trans (h1.2.1 j x y w v), h2.2.2.trans h1.2.2⟩
theorem FR.mt {μ μ' : ST} {L : Nat} {t : Nat → Nat} (h : FR μ μ') (ht : MTx μ L t) : MTx μ' L t := ⟨(h.2.1 17 (by decide) (by decide) (by decide) (by decide)).trans ht.1, ht.2.1, fun j hj => by rw [h.1 6 (by decide) (by decide)]; exact ht.2.2 j hj⟩
theorem FR.p0 {μ : ST} {j : Nat} {v : Int32} (h : j = 12 ∨ j = 13 ∨ j = 18 ∨ j = 19) : FR μ (pI μ 0 j v) := ⟨fun q h0 _ => pI_n h0, fun i h1 h2 h3 h4 => pI_nj (by omega), rfl⟩
theorem FR.p3 {μ : ST} {q j : Nat} {v : Int32} (h : q = 3) : FR μ (pI μ q j v) := ⟨fun p h0 h3 => pI_n (by omega), fun i _ _ _ _ => by rw [pI_n (by omega)], rfl⟩
theorem neg48 : ∀ a, a < 48 → nI a - (48 : Int32) < 0 := by decide
/-- a letter as a figure between two -/
theorem in_dv {z L i lo hi : Nat} {t : Nat → Nat} (hi9 : hi ≤ 9) (hi' : i < L) (h255 : t i ≤ 255) : (lo ≤ dvN L t i ∧ dvN L t i ≤ hi → fX9_in z (nI (t i) - (48 : Int32)).toInt64 (nI lo).toInt64 (nI hi).toInt64 = some 1 ∧ nI (t i) - (48 : Int32) = nI (dvN L t i)) ∧ (lo ≤ hi → ¬ (lo ≤ dvN L t i ∧ dvN L t i ≤ hi) → fX9_in z (nI (t i) - (48 : Int32)).toInt64 (nI lo).toInt64 (nI hi).toInt64 = some 0) := by
  have hdv := dv_or L t i
  constructor
  · intro h
    have e : t i = dvN L t i + 48 := by omega
    have e2 : nI (t i) - (48 : Int32) = nI (dvN L t i) := by rw [show (48 : Int32) = nI 48 from rfl, pk_sub (by omega)]; congr 1; omega
    rw [e2, in_eq, s_isWithinN (by omega) (by omega) (by omega), if_pos h]
    exact ⟨rfl, rfl⟩
  · intro hlh h
    rw [in_eq]
    by_cases h48 : t i < 48
    · have h1 := neg48 (t i) h48
      have h2 : nI (t i) - (48 : Int32) < nI lo := by
        have h3 : (0 : Int32) ≤ nI lo := ple (a := 0) 0 lo rfl rfl (by omega) (by omega)
        exact Int32.lt_of_lt_of_le h1 h3
      rw [s_isWithin, if_pos h2]
    · have e2 : nI (t i) - (48 : Int32) = nI (t i - 48) := by rw [show (48 : Int32) = nI 48 from rfl, pk_sub (by omega)]
      have hn : ¬ (lo ≤ t i - 48 ∧ t i - 48 ≤ hi) := by
        intro q
        have : dvN L t i = t i - 48 := by unfold dvN; rw [if_pos ⟨hi', by omega, by omega⟩]
        rw [this] at h
        exact h q
      rw [e2, s_isWithinN (by omega) (by omega) (by omega), if_neg hn]
theorem in_m9 {z lo : Nat} {b : Int64} (hlo : lo ≤ 9) : fX9_in z (-9 : Int32).toInt64 (nI lo).toInt64 b = some 0 := by
  have : ((-9 : Int32).toInt64 < (nI lo).toInt64) := by
    rw [lt64]
    have : ∀ lo, lo < 10 → (-9 : Int32) < nI lo := by decide
    exact this lo (by omega)
  rw [s9_in, if_pos this]
theorem r_fig {z L i lo hi : Nat} {μ : ST} {t : Nat → Nat} (ht : MTx μ L t) (h18 : μ.1 0 18 = nI i) (h19 : μ.1 0 19 = -9) (hi40 : i ≤ L) (hlh : lo ≤ hi) (hi9 : hi ≤ 9) : (lo ≤ dvN L t i ∧ dvN L t i ≤ hi → fX9_figure z μ (nI lo) (nI hi) = some (nI (dvN L t i), pI μ 0 18 (nI (i + 1)))) ∧ (¬ (lo ≤ dvN L t i ∧ dvN L t i ≤ hi) → fX9_figure z μ (nI lo) (nI hi) = some (nI lo, pI μ 0 19 (nI i))) := by
  have h40 := ht.2.1
  have hdv := dv_or L t i
  unfold fX9_figure fX9_figure_35 fX9_figure_37 fX9_figure_71
  rw [if_pos h19, ht.1, h18]
  constructor
  · intro h
    have hl : i < L := by omega
    obtain ⟨e1, e2⟩ := (in_dv (z := z) (lo := lo) (hi := hi) (t := t) hi9 hl (ht.2.2 i hl).2).1 h
    rw [if_neg (nle L i rfl rfl hl (by omega)), gd_inb (by omega) (by decide), nI_clamp (by omega), (ht.2.2 i hl).1, e1, bd_s, if_neg one0, lt_r, e2, show (1 : Int32) = nI 1 from rfl, nI_add]
  · intro h
    by_cases hl : i < L
    · rw [if_neg (nle L i rfl rfl hl (by omega)), gd_inb (by omega) (by decide), nI_clamp (by omega), (ht.2.2 i hl).1, (in_dv (z := z) (lo := lo) (hi := hi) (t := t) hi9 hl (ht.2.2 i hl).2).2 hlh h, bd_s, if_pos rfl, if_pos h19, lt_r]
    · rw [if_pos (ple L i rfl rfl (by omega) (by omega)), in_m9 (by omega), bd_s, if_pos rfl, if_pos h19, lt_r]
/-- once there is a fault, a figure reads nothing -/
theorem r_figF {z lo : Nat} {hi : Int32} {μ : ST} (h19 : ¬ μ.1 0 19 = -9) (hlo : lo ≤ 9) : fX9_figure z μ (nI lo) hi = some (nI lo, pI μ 0 19 (μ.1 0 19)) := by
  unfold fX9_figure fX9_figure_35 fX9_figure_37 fX9_figure_71
  rw [if_neg h19, in_m9 hlo, bd_s, if_pos rfl, if_neg h19, lt_r]
theorem r_fresh {z L i : Nat} {μ : ST} {t K : Nat → Nat} (ht : MTx μ L t) (h18 : μ.1 0 18 = nI i) (h19 : μ.1 0 19 = -9) (hi40 : i ≤ L) (hK : ∀ j, j < 11 → μ.1 3 j = nI (K j) ∧ K j ≤ 9) : (dvN L t i ≤ 9 ∧ K (dvN L t i) = 0 → fX9_freshCell z μ = some (nI (dvN L t i), pI μ 0 18 (nI (i + 1)))) ∧ (¬ (dvN L t i ≤ 9 ∧ K (dvN L t i) = 0) → fX9_freshCell z μ = some (0, pI μ 0 19 (nI i))) := by
  have h40 := ht.2.1
  have hdv := dv_or L t i
  unfold fX9_freshCell fX9_freshCell_35 fX9_freshCell_37 fX9_freshCell_59 fX9_freshCell_80
  rw [if_pos h19, ht.1, h18]
  have z0 : (0 : Int64) = (nI 0).toInt64 := by decide
  have z9 : (9 : Int64) = (nI 9).toInt64 := by decide
  rw [z0, z9]
  constructor
  · intro h
    have hl : i < L := by omega
    obtain ⟨e1, e2⟩ := (in_dv (z := z) (lo := 0) (hi := 9) (t := t) (by decide) hl (ht.2.2 i hl).2).1 ⟨by omega, h.1⟩
    have hk := hK (dvN L t i) (by omega)
    rw [if_neg (nle L i rfl rfl hl (by omega)), gd_inb (by omega) (by decide), nI_clamp (by omega), (ht.2.2 i hl).1, e1, bd_s, if_neg one0, e2, gd_inb (by omega) (by decide), nI_clamp (by omega), hk.1, h.2, if_pos (by decide), lt_r, show (1 : Int32) = nI 1 from rfl, nI_add]
  · intro h
    by_cases hl : i < L
    · rw [if_neg (nle L i rfl rfl hl (by omega)), gd_inb (by omega) (by decide), nI_clamp (by omega), (ht.2.2 i hl).1]
      by_cases h9 : dvN L t i ≤ 9
      · obtain ⟨e1, e2⟩ := (in_dv (z := z) (lo := 0) (hi := 9) (t := t) (by decide) hl (ht.2.2 i hl).2).1 ⟨by omega, h9⟩
        have hk := hK (dvN L t i) (by omega)
        rw [e1, bd_s, if_neg one0, e2, gd_inb (by omega) (by decide), nI_clamp (by omega), hk.1, if_neg (nle (b := 0) (K (dvN L t i)) 0 rfl rfl (by omega) (by omega)), if_pos h19, lt_r]
      · rw [(in_dv (z := z) (lo := 0) (hi := 9) (t := t) (by decide) hl (ht.2.2 i hl).2).2 (by decide) (fun q => h9 q.2), bd_s, if_pos rfl, if_pos h19, lt_r]
    · rw [if_pos (ple L i rfl rfl (by omega) (by omega)), in_m9 (by omega), bd_s, if_pos rfl, if_pos h19, lt_r]

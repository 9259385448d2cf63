/-! ===== the text: write, wipe ===== -/
/-- what a change of text or of what was read of it leaves as it is -/
def TxF (σ σ' μ μ' : ST) : Prop := (∀ q, q ≠ 1 → q ≠ 2 → σ'.1 q = σ.1 q) ∧ σ'.2 = σ.2 ∧ (∀ q, q ≠ 0 → q ≠ 2 → q ≠ 3 → q ≠ 6 → μ'.1 q = μ.1 q) ∧ (∀ j, j ≠ 12 → j ≠ 13 → j ≠ 17 → j ≠ 18 → j ≠ 19 → μ'.1 0 j = μ.1 0 j) ∧ μ'.2 = μ.2
theorem Rel.tx {σ σ' μ μ' : ST} (h : Rel σ μ) (hf : TxF σ σ' μ μ') (hx : ∃ L t, RX σ' μ' L t) : Rel σ' μ' := by
  obtain ⟨T, P, sec, L, t, c, n, A, B, hT, hs, ht, hn, ha, hb, hd⟩ := h
  obtain ⟨f1, f2, f3, f4, f5⟩ := hf
  obtain ⟨L', t', hx⟩ := hx
  have hn8 : n ≤ 8 := by have := ha.n8 hn.2.2 hT.2.2; omega
  refine ⟨T, P, sec, L', t', c, n, A, B, ⟨hT.1.eq (f1 3 (by decide) (by decide)) (f1 4 (by decide) (by decide)), hT.2.1.eq (fun j hj => f4 j (by omega) (by omega) (by omega) (by omega) (by omega)) (f3 1 (by decide) (by decide) (by decide) (by decide)), hT.2.2⟩, hs.eq (f1 3 (by decide) (by decide)) (fun j h1 h2 => f4 j (by omega) (by omega) (by omega) (by omega) (by omega)), hx, ⟨hn.1.eq (f1 5 (by decide) (by decide)) (by rw [f2]) (f1 7 (by decide) (by decide)) (f1 8 (by decide) (by decide)), hn.2.1.cp (fun j _ => by rw [f5]) (fun j _ => by rw [f3 5 (by decide) (by decide) (by decide) (by decide)]), hn.2.2⟩, ⟨by rw [f1 0 (by decide) (by decide)]; exact ha.1, by rw [f4 21 (by decide) (by decide) (by decide) (by decide) (by decide)]; exact ha.2.1, ha.2.2.1, fun k hk => ?_⟩, ⟨by rw [f1 0 (by decide) (by decide)]; exact hb.1, fun s hs2 => ?_⟩, ?_⟩
  · obtain ⟨g1, g2, g3, g4⟩ := ha.2.2.2 k hk
    exact ⟨g1.eq (f1 _ (by omega) (by omega)) (by rw [f2]) (f1 _ (by omega) (by omega)) (f1 _ (by omega) (by omega)), g2.cp (fun j _ => by rw [f5]) (fun j _ => by rw [f3 9 (by decide) (by decide) (by decide) (by decide)]), g3, g4⟩
  · obtain ⟨g1, g2⟩ := hb.2 s hs2
    refine ⟨by rw [f3 10 (by decide) (by decide) (by decide) (by decide)]; exact g1, fun d hd2 => ?_⟩
    obtain ⟨k1, k2, k3⟩ := g2 d hd2
    exact ⟨k1.eq (f1 _ (by omega) (by omega)) (by rw [f2]) (f1 _ (by omega) (by omega)) (f1 _ (by omega) (by omega)), k2.cp (fun j _ => by rw [f5]) (fun j _ => by rw [f3 12 (by decide) (by decide) (by decide) (by decide)]), k3⟩
  · show σ'.2 79 0 = μ'.2 0 25
    rw [f2, f5]
    exact hd
theorem op_wipe {z : Nat} {σ μ : ST} (h : Rel σ μ) : ∃ r σ' μ', fX8_wipe z σ = some (r, σ') ∧ fX9_wipe z μ = some (r, μ') ∧ Rel σ' μ' := by
  obtain ⟨L, t, x1, x2, x3, x4⟩ : ∃ L t, RX σ μ L t := by
    obtain ⟨_, _, _, L, t, _, _, _, _, _, _, ht, _⟩ := h
    exact ⟨L, t, ht⟩
  refine ⟨nI L, pI σ 1 1 0, pI μ 0 17 0, ?_, ?_, h.tx ⟨fun q h1 _ => pI_n h1, rfl, fun q h0 _ _ _ => pI_n h0, fun j _ _ h17 _ _ => pI_nj h17, rfl⟩ ⟨0, fun _ => 0, pI_at, pI_at, by decide, fun j hj => by omega⟩⟩
  · unfold fX8_wipe fX6_clear
    rw [lt_r, bd_s, x1]
  · unfold fX9_wipe
    rw [lt_r, x2]
theorem op_write {z : Nat} {σ μ : ST} (h : Rel σ μ) (v1 : Int32) : ∃ r σ' μ', fX8_write z σ v1 = some (r, σ') ∧ fX9_write z μ v1 = some (r, μ') ∧ Rel σ' μ' := by
  obtain ⟨L, t, ht⟩ : ∃ L t, RX σ μ L t := by
    obtain ⟨_, _, _, L, t, _, _, _, _, _, _, ht, _⟩ := h
    exact ⟨L, t, ht⟩
  obtain ⟨x1, x2, x3, x4⟩ := ht
  have one : ¬ (1 : Int32) = 0 := by decide
  unfold fX8_write fX9_write fX8_write_37
  rcases isW (z := z) v1 (a' := 0) (b' := 255) 0 255 rfl rfl (by decide) (by decide) with e | ⟨v, -, hv, rfl, e⟩
  · have e9 : fX9_in z v1.toInt64 0 255 = some 0 := by rw [show fX9_in z v1.toInt64 0 255 = fX8_isWithin z v1 0 255 from in_eq (a := 0) (b := 255)]; exact e
    rw [e, e9, bd_s, bd_s, if_pos rfl, if_pos rfl]
    exact ⟨_, _, _, rfl, rfl, h⟩
  · have e9 : fX9_in z (nI v).toInt64 0 255 = some 1 := by rw [show fX9_in z (nI v).toInt64 0 255 = fX8_isWithin z (nI v) 0 255 from in_eq (a := 0) (b := 255)]; exact e
    rw [e, e9, bd_s, bd_s, if_neg one, if_neg one]
    unfold fX6_isFull fX6_isFull_17
    rw [x1, x2]
    by_cases h40 : L = 40
    · rw [if_neg (nlt (b := 40) L 40 rfl rfl (by omega) (by omega)), gd_z1, bd_s, if_neg one, if_pos (peq (b := 40) L 40 rfl rfl h40)]
      exact ⟨_, _, _, rfl, rfl, h⟩
    · unfold fX6_add fX6_add_39
      rw [if_pos (plt (b := 40) L 40 rfl rfl (by omega) (by decide)), gd_z0, bd_s, if_pos rfl, x1, if_neg (nI_pos (by omega)), if_neg (nle (a := 40) 40 L rfl rfl (by omega) (by decide)), gd_inb (by omega) (by decide), nI_clamp (by omega), lt_r, lt_r, bd_s, if_neg (neq (b := 40) L 40 rfl rfl h40 (by omega) (by decide)), gd_inb (by omega) (by decide), lt_r, lt_r]
      have a1 : (pI σ 2 L (nI v)).1 1 1 = nI L := by rw [pI_n (by decide)]; exact x1
      have a2 : (pI μ 6 L (nI v)).1 0 17 = nI L := by rw [pI_n (by decide)]; exact x2
      rw [a1, a2, pI_at, pI_at]
      refine ⟨_, _, _, rfl, rfl, h.tx ⟨fun q h1 h2 => by rw [pI_n h1, pI_n h2], rfl, fun q h0 _ _ h6 => by rw [pI_n h0, pI_n h6], fun j _ _ h17 _ _ => by rw [pI_nj h17, pI_n (by decide)], rfl⟩ ⟨L + 1, fun j => if j = L then v else t j, by rw [pI_at, nI_1], by rw [pI_at, nI_1], by omega, fun j hj => ?_⟩⟩
      have b1 : (pI (pI σ 2 L (nI v)) 1 1 (nI L + 1)).1 2 j = (pI σ 2 L (nI v)).1 2 j := by rw [pI_n (by decide)]
      have b2 : (pI (pI μ 6 L (nI v)) 0 17 (nI L + 1)).1 6 j = (pI μ 6 L (nI v)).1 6 j := by rw [pI_n (by decide)]
      show (pI (pI σ 2 L (nI v)) 1 1 (nI L + 1)).1 2 j = nI (if j = L then v else t j) ∧ (pI (pI μ 6 L (nI v)) 0 17 (nI L + 1)).1 6 j = nI (if j = L then v else t j) ∧ (if j = L then v else t j) ≤ 255
      rw [b1, b2]
      by_cases hjL : j = L
      · subst hjL
        rw [pI_at, pI_at, if_pos rfl]
        exact ⟨rfl, rfl, hv⟩
      · rw [pI_nj hjL, pI_nj hjL, if_neg hjL]
        exact x4 j (by omega)

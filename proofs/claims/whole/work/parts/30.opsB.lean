/-! ===== undo, keep, again ===== -/
/-- another scene now, no more acts than before -/
theorem Rel.now {σ σ' μ μ' : ST} {T P : Nat → Nat} {sec : Option (Nat × Nat)} {L : Nat} {t : Nat → Nat} {c c' : Sc} {n n' : Nat} {A : Nat → Sc} {B : Nat → Option Sc} (hT : RT σ μ T P) (hs : RS σ μ sec) (ht : RX σ μ L t) (hn : RN σ μ T c) (ha : RA σ μ T c n A) (hb : RB σ μ T B) (hd : RD σ μ)
    (hx : ∀ q, q ≠ 0 → ¬ (5 ≤ q ∧ q ≤ 8) → σ'.1 q = σ.1 q ∧ σ'.2 q = σ.2 q) (hx0 : σ'.1 0 8 = σ.1 0 8)
    (m1 : ∀ q, q ≠ 0 → q ≠ 5 → μ'.1 q = μ.1 q) (m2 : ∀ j, j ≠ 21 → μ'.1 0 j = μ.1 0 j) (m4 : ∀ q, q ≠ 4 → μ'.2 q = μ.2 q)
    (hc : RN σ' μ' T c') (e1 : σ'.1 0 9 = nI n') (e2 : μ'.1 0 21 = nI n') (hle : n' ≤ n) (hsum : n' ≤ c'.2 1 + c'.2 2) : Rel σ' μ' := by
  obtain ⟨h1, h2, h3⟩ := hT
  have hg := ha.n8 hn.2.2 h3
  obtain ⟨a1, a2, a3, a4⟩ := ha
  obtain ⟨b1, b2⟩ := hb
  refine ⟨T, P, sec, L, t, c', n', A, B, ⟨h1.eq (hx 3 (by decide) (by omega)).1 (hx 4 (by decide) (by omega)).1, h2.eq (fun j hj => m2 j (by omega)) (m1 1 (by decide) (by decide)), h3⟩, hs.eq (hx 3 (by decide) (by omega)).1 (fun j _ _ => m2 j (by omega)), ht.eq (by rw [(hx 1 (by decide) (by omega)).1]) (hx 2 (by decide) (by omega)).1 (m2 17 (by decide)) (m1 6 (by decide) (by decide)), hc, ⟨e1, e2, hsum, fun k hk => ?_⟩, ⟨by rw [hx0]; exact b1, fun s hs2 => ?_⟩, ?_⟩
  · obtain ⟨g1, g2, g3, g4⟩ := a4 k (by omega)
    exact ⟨g1.eq (hx _ (by omega) (by omega)).1 (hx _ (by omega) (by omega)).2 (hx _ (by omega) (by omega)).1 (hx _ (by omega) (by omega)).1, g2.cp (fun j hj => by rw [m4 8 (by decide)]) (fun j hj => by rw [m1 9 (by decide) (by decide)]), g3, g4⟩
  · obtain ⟨g1, g2⟩ := b2 s hs2
    refine ⟨by rw [m1 10 (by decide) (by decide)]; exact g1, fun d hd => ?_⟩
    obtain ⟨k1, k2, k3⟩ := g2 d hd
    exact ⟨k1.eq (hx _ (by omega) (by omega)).1 (hx _ (by omega) (by omega)).2 (hx _ (by omega) (by omega)).1 (hx _ (by omega) (by omega)).1, k2.cp (fun j _ => by rw [m4 11 (by decide)]) (fun j _ => by rw [m1 12 (by decide) (by decide)]), k3⟩
  · unfold RD at *
    rw [(hx 79 (by decide) (by omega)).2, m4 0 (by decide)]
    exact hd
theorem s9_undo {z : Nat} {S : ST} {m : Nat} (hm : S.1 0 21 = nI m) (hle : m ≤ 8) (hz : 13 ≤ z) : fX9_undo_22 z z S 0 = some (nI m, regI (regL S 4 0 11 (fun j => S.2 8 (11 * m + j))) 5 0 9 (fun j => S.1 9 (9 * m + j))) := by
  have l56 : ∀ Q : ST, Q.1 = S.1 → ∀ r i, i ≤ 9 → 9 < i + r → fX9_undo_56 z r (regI Q 5 0 i (fun j => S.1 9 (9 * m + j))) (nI i) = some (nI m, regI Q 5 0 9 (fun j => S.1 9 (9 * m + j))) := by
    intro Q hQ r
    induction r with
    | zero => intro i h1 h2; omega
    | succ r ih =>
      intro i h1 h2
      have e0 : ∀ i, (regI Q 5 0 i (fun j => S.1 9 (9 * m + j))).1 0 21 = nI m := fun i => by rw [regI_ne (by decide), hQ, hm]
      have e9 : ∀ i, (regI Q 5 0 i (fun j => S.1 9 (9 * m + j))).1 9 = S.1 9 := fun i => by rw [regI_ne (by decide), hQ]
      unfold fX9_undo_56
      by_cases hi : i = 9
      · subst hi
        rw [if_pos (ple (a := 9) 9 9 rfl rfl (Nat.le_refl _) (by decide)), e0]
      · rw [if_neg (nle (a := 9) 9 i rfl rfl (by omega) (by decide)), e0, ix9b, gd_inb (by omega) (by decide), gd_inb (by omega) (by decide), nI_clamp (by omega), nI_clamp (by omega), lt_r, e9, nI_1]
        have hs := regI_s0 (σ := Q) (a := 5) (n := i) (F := fun j => S.1 9 (9 * m + j))
        rw [hs]
        exact ih (i + 1) (by omega) (by omega)
  have l22 : ∀ r i, i ≤ 11 → 11 < i + r → fX9_undo_22 z r (regL S 4 0 i (fun j => S.2 8 (11 * m + j))) (nI i) = some (nI m, regI (regL S 4 0 11 (fun j => S.2 8 (11 * m + j))) 5 0 9 (fun j => S.1 9 (9 * m + j))) := by
    intro r
    induction r with
    | zero => intro i h1 h2; omega
    | succ r ih =>
      intro i h1 h2
      unfold fX9_undo_22
      by_cases hi : i = 11
      · subst hi
        rw [if_pos (ple (a := 11) 11 11 rfl rfl (Nat.le_refl _) (by decide))]
        have := l56 (regL S 4 0 11 (fun j => S.2 8 (11 * m + j))) rfl z 0 (by omega) (by omega)
        rw [regI_0] at this
        exact this
      · rw [if_neg (nle (a := 11) 11 i rfl rfl (by omega) (by decide)), regL_1, hm, ix9, gd_inb (by omega) (by decide), gd_inb (by omega) (by decide), nI_clamp (by omega), nI_clamp (by omega), lt_r, regL_ne (by decide), nI_1]
        have hs := regL_s0 (σ := S) (a := 4) (n := i) (F := fun j => S.2 8 (11 * m + j))
        rw [hs]
        exact ih (i + 1) (by omega) (by omega)
  have := l22 z 0 (by omega) (by omega)
  rw [regL_0] at this
  exact this
theorem op_undo {z : Nat} {σ μ : ST} (hz : 30000 ≤ z) (h : Rel σ μ) : ∃ r σ' μ', fX8_undo z σ = some (r, σ') ∧ fX9_undo z μ = some (r, μ') ∧ Rel σ' μ' := by
  obtain ⟨T, P, sec, L, t, c, n, A, B, hT, hs, ht, hn, ha, hb, hd⟩ := id h
  have hg := ha.n8 hn.2.2 hT.2.2
  unfold fX8_undo fX9_undo
  rw [ha.1, ha.2.1]
  by_cases h0 : n = 0
  · subst h0
    rw [if_neg (show ¬ (0 : Int32) < nI 0 by decide), if_pos (show nI 0 = 0 from rfl)]
    exact ⟨_, _, _, rfl, rfl, h⟩
  · obtain ⟨m, rfl⟩ : ∃ m, n = m + 1 := ⟨n - 1, by omega⟩
    have e1 : nI (m + 1) - (1 : Int32) = nI m := nI_pred m
    obtain ⟨s1, s2, s3, s4⟩ := ha.2.2.2 m (by omega)
    have ek : 13 + 1 + 1 + 4 * m = 15 + 4 * m := by omega
    have hr : rl (13 + 1) = 8 := rfl
    have sx : SX (pI σ 0 9 (nI m)) (13 + 1 + 1 + 4 * m) (A m) := by
      rw [ek]
      exact s1.eq (pI_n (by omega)) rfl (pI_n (by omega)) (pI_n (by omega))
    obtain ⟨σ2, g1, g2, g3⟩ := a_give (z := z) (k := 13) (i := m) rfl (by rw [hr]; omega) (by rw [hr]; exact Nat.le_refl _) (by rw [ek]; exact k_acts m (by omega)) (by omega) sx (by omega)
    have z0 : σ2.1 0 = (pI σ 0 9 (nI m)).1 0 := (g3 0 (by decide) (by decide) (by decide) (by decide)).1
    have eu := s9_undo (z := z) (S := pI μ 0 21 (nI m)) (m := m) pI_at (by omega) (by omega)
    refine ⟨nI m, σ2, _, ?_, (by rw [if_neg (neq (b := 0) (m + 1) 0 rfl rfl (by omega) (by omega) (by decide)), e1, lt_r]; exact eu), ?_⟩
    · rw [if_pos (plt (a := 0) 0 (m + 1) rfl rfl (by omega) (by omega)), e1, lt_r, pI_at, g1, bd_s, z0, pI_at]
    · refine Rel.now (c' := A m) (n' := m) hT hs ht hn ha hb hd (fun q q0 q5 => ?_) ?_ (fun q q0 q5 => ?_) (fun j hj => ?_) (fun q q4 => ?_) ⟨g2, ?_, s3⟩ ?_ ?_ (by omega) s4
      · have k := g3 q (by omega) (by omega) (by omega) (by omega)
        exact ⟨k.1.trans (pI_n q0), k.2⟩
      · rw [z0, pI_nj (by decide)]
      · rw [regI_ne q5, regL_1, pI_n q0]
      · rw [regI_ne (by decide), regL_1, pI_nj hj]
      · rw [regI_2, regL_ne q4, pI_2]
      · refine s2.cp (fun j hj => ?_) (fun j hj => ?_)
        · rw [regI_2, regL_in (by omega) (by omega), Nat.zero_add, Nat.sub_zero, pI_2]
        · rw [regI_in (by omega) (by omega), Nat.zero_add, Nat.sub_zero, pI_n (by decide)]
      · rw [z0, pI_at]
      · rw [regI_ne (by decide), regL_1, pI_at]
theorem s9_again {z : Nat} {S : ST} {s : Nat} (hle : s ≤ 1) (hz : 13 ≤ z) : fX9_again_26 z (nI s) z S 0 = some ((regI (regL S 4 0 11 (fun j => S.2 11 (11 * s + j))) 5 0 9 (fun j => S.1 12 (9 * s + j))).1 5 1, pI (regI (regL S 4 0 11 (fun j => S.2 11 (11 * s + j))) 5 0 9 (fun j => S.1 12 (9 * s + j))) 0 21 0) := by
  have l56 : ∀ Q : ST, Q.1 = S.1 → ∀ r i, i ≤ 9 → 9 < i + r → fX9_again_57 z (nI s) r (regI Q 5 0 i (fun j => S.1 12 (9 * s + j))) (nI i) = some ((regI Q 5 0 9 (fun j => S.1 12 (9 * s + j))).1 5 1, pI (regI Q 5 0 9 (fun j => S.1 12 (9 * s + j))) 0 21 0) := by
    intro Q hQ r
    induction r with
    | zero => intro i h1 h2; omega
    | succ r ih =>
      intro i h1 h2
      have e9 : ∀ i, (regI Q 5 0 i (fun j => S.1 12 (9 * s + j))).1 12 = S.1 12 := fun i => by rw [regI_ne (by decide), hQ]
      unfold fX9_again_57
      by_cases hi : i = 9
      · subst hi
        rw [if_pos (ple (a := 9) 9 9 rfl rfl (Nat.le_refl _) (by decide)), lt_r, show inb (1 : Int32) 9 = true from rfl, gd_t, show (1 : Int32).toNatClampNeg = 1 from rfl, pI_n (by decide)]
      · rw [if_neg (nle (a := 9) 9 i rfl rfl (by omega) (by decide)), ix9b, gd_inb (by omega) (by decide), gd_inb (by omega) (by decide), nI_clamp (by omega), nI_clamp (by omega), lt_r, e9, nI_1]
        have hs := regI_s0 (σ := Q) (a := 5) (n := i) (F := fun j => S.1 12 (9 * s + j))
        rw [hs]
        exact ih (i + 1) (by omega) (by omega)
  have l22 : ∀ r i, i ≤ 11 → 11 < i + r → fX9_again_26 z (nI s) r (regL S 4 0 i (fun j => S.2 11 (11 * s + j))) (nI i) = some ((regI (regL S 4 0 11 (fun j => S.2 11 (11 * s + j))) 5 0 9 (fun j => S.1 12 (9 * s + j))).1 5 1, pI (regI (regL S 4 0 11 (fun j => S.2 11 (11 * s + j))) 5 0 9 (fun j => S.1 12 (9 * s + j))) 0 21 0) := by
    intro r
    induction r with
    | zero => intro i h1 h2; omega
    | succ r ih =>
      intro i h1 h2
      unfold fX9_again_26
      by_cases hi : i = 11
      · subst hi
        rw [if_pos (ple (a := 11) 11 11 rfl rfl (Nat.le_refl _) (by decide))]
        have := l56 (regL S 4 0 11 (fun j => S.2 11 (11 * s + j))) rfl z 0 (by omega) (by omega)
        rw [regI_0] at this
        exact this
      · rw [if_neg (nle (a := 11) 11 i rfl rfl (by omega) (by decide)), ix9, gd_inb (by omega) (by decide), gd_inb (by omega) (by decide), nI_clamp (by omega), nI_clamp (by omega), lt_r, regL_ne (by decide), nI_1]
        have hs := regL_s0 (σ := S) (a := 4) (n := i) (F := fun j => S.2 11 (11 * s + j))
        rw [hs]
        exact ih (i + 1) (by omega) (by omega)
  have := l22 z 0 (by omega) (by omega)
  rw [regL_0] at this
  exact this
theorem bits_at (B : Nat → Option Sc) (s : Nat) (hs : s ≤ 1) : ((nI (bitB (B 0) + 2 * bitB (B 1)) >>> (nI s &&& 31)) &&& (1 : Int32)) = nI (bitB (B s)) := by
  have : s = 0 ∨ s = 1 := by omega
  rcases this with rfl | rfl <;> cases B 0 <;> cases B 1 <;> first | (simp only [bitB]; decide) | (simp [bitB]; done) | (simp [bitB]; decide)
theorem op_again {z : Nat} {σ μ : ST} (hz : 30000 ≤ z) (h : Rel σ μ) (x : Int32) : ∃ r σ' μ', fX8_again z σ x = some (r, σ') ∧ fX9_again z μ x = some (r, μ') ∧ Rel σ' μ' := by
  obtain ⟨T, P, sec, L, t, c, n, A, B, hT, hs, ht, hn, ha, hb, hd⟩ := id h
  unfold fX8_again fX9_again
  rw [show fX9_in z x.toInt64 0 1 = fX8_isWithin z x 0 1 from in_eq (a := 0) (b := 1)]
  rcases isW (z := z) x (a' := 0) (b' := 1) 0 1 rfl rfl (by decide) (by decide) with e | ⟨s, -, hs1, rfl, e⟩
  · rw [e, bd_s, bd_s, if_pos rfl, if_pos rfl]
    exact ⟨_, _, _, rfl, rfl, h⟩
  · have one : ¬ (1 : Int32) = 0 := by decide
    obtain ⟨b1, b2⟩ := hb.2 s (by omega)
    rw [e, bd_s, bd_s, if_neg one, if_neg one, hb.1, bits_at B s hs1, gd_inb (by omega) (by decide), nI_clamp (by omega), b1]
    cases hB : B s with
    | none =>
      rw [show bitB none = 0 from rfl, if_pos (show nI 0 = 0 from rfl), if_pos (show nI 0 = 0 from rfl)]
      exact ⟨_, _, _, rfl, rfl, h⟩
    | some d =>
      obtain ⟨k1, k2, k3⟩ := b2 d hB
      have ek : 47 + 1 + 1 + 4 * s = 49 + 4 * s := by omega
      have hr : rl (47 + 1) = 2 := rfl
      obtain ⟨σ2, g1, g2, g3⟩ := a_give (z := z) (k := 47) (i := s) rfl (by rw [hr]; omega) (by rw [hr]; decide) (by rw [ek]; exact k_slots s (by omega)) (by omega) (by rw [ek]; exact k1) (by omega)
      have ea := s9_again (z := z) (S := μ) (s := s) hs1 (by omega)
      have z0 : σ2.1 0 = σ.1 0 := (g3 0 (by decide) (by decide) (by decide) (by decide)).1
      have n1 : ¬ nI (bitB (some d)) = 0 := show ¬ nI 1 = 0 by decide
      have st : (regI (regL μ 4 0 11 (fun j => μ.2 11 (11 * s + j))) 5 0 9 (fun j => μ.1 12 (9 * s + j))).1 5 1 = nI (d.2 1) := by
        rw [regI_in (by decide) (by decide)]
        exact k2.2.2.1
      rw [st] at ea
      refine ⟨nI (d.2 1), pI σ2 0 9 0, _, ?_, (by rw [if_neg n1]; exact ea), ?_⟩
      · rw [if_neg n1, g1, bd_s, lt_r, pI_n (by decide), g2.2.2.1]
      · refine Rel.now (c' := d) (n' := 0) hT hs ht hn ha hb hd (fun q q0 q5 => ?_) ?_ (fun q q0 q5 => ?_) (fun j hj => ?_) (fun q q4 => ?_) ⟨g2.eq (pI_n (by decide)) rfl (pI_n (by decide)) (pI_n (by decide)), ?_, k3⟩ ?_ ?_ (by omega) (by omega)
        · have k := g3 q (by omega) (by omega) (by omega) (by omega)
          exact ⟨(pI_n q0).trans k.1, k.2⟩
        · rw [pI_nj (by decide), z0]
        · rw [pI_n q0, regI_ne q5, regL_1]
        · rw [pI_nj hj, regI_ne (by decide), regL_1]
        · rw [pI_2, regI_2, regL_ne q4]
        · refine k2.cp (fun j hj => ?_) (fun j hj => ?_)
          · rw [pI_2, regI_2, regL_in (by omega) (by omega), Nat.zero_add, Nat.sub_zero]
          · rw [pI_n (by decide), regI_in (by omega) (by omega), Nat.zero_add, Nat.sub_zero]
        · exact pI_at
        · exact pI_at
theorem s9_keep {z : Nat} {S : ST} {s : Nat} (hle : s ≤ 1) (hz : 13 ≤ z) : fX9_keep_21 z (nI s) z S 0 = some (S.1 5 1, regI (regL S 11 (11 * s) 11 (S.2 4)) 12 (9 * s) 9 (S.1 5)) := by
  have l56 : ∀ Q : ST, Q.1 = S.1 → ∀ r i, i ≤ 9 → 9 < i + r → fX9_keep_52 z (nI s) r (regI Q 12 (9 * s) i (S.1 5)) (nI i) = some (S.1 5 1, regI Q 12 (9 * s) 9 (S.1 5)) := by
    intro Q hQ r
    induction r with
    | zero => intro i h1 h2; omega
    | succ r ih =>
      intro i h1 h2
      have e5 : ∀ i, (regI Q 12 (9 * s) i (S.1 5)).1 5 = S.1 5 := fun i => by rw [regI_ne (by decide), hQ]
      unfold fX9_keep_52
      by_cases hi : i = 9
      · subst hi
        rw [if_pos (ple (a := 9) 9 9 rfl rfl (Nat.le_refl _) (by decide)), show inb (1 : Int32) 9 = true from rfl, gd_t, show (1 : Int32).toNatClampNeg = 1 from rfl, e5]
      · rw [if_neg (nle (a := 9) 9 i rfl rfl (by omega) (by decide)), ix9b, gd_inb (by omega) (by decide), gd_inb (by omega) (by decide), nI_clamp (by omega), nI_clamp (by omega), lt_r, e5, regI_s, nI_1]
        exact ih (i + 1) (by omega) (by omega)
  have l22 : ∀ r i, i ≤ 11 → 11 < i + r → fX9_keep_21 z (nI s) r (regL S 11 (11 * s) i (S.2 4)) (nI i) = some (S.1 5 1, regI (regL S 11 (11 * s) 11 (S.2 4)) 12 (9 * s) 9 (S.1 5)) := by
    intro r
    induction r with
    | zero => intro i h1 h2; omega
    | succ r ih =>
      intro i h1 h2
      unfold fX9_keep_21
      by_cases hi : i = 11
      · subst hi
        rw [if_pos (ple (a := 11) 11 11 rfl rfl (Nat.le_refl _) (by decide))]
        have := l56 (regL S 11 (11 * s) 11 (S.2 4)) rfl z 0 (by omega) (by omega)
        rw [regI_0] at this
        exact this
      · rw [if_neg (nle (a := 11) 11 i rfl rfl (by omega) (by decide)), ix9, gd_inb (by omega) (by decide), gd_inb (by omega) (by decide), nI_clamp (by omega), nI_clamp (by omega), lt_r, regL_ne (by decide), regL_s, nI_1]
        exact ih (i + 1) (by omega) (by omega)
  have := l22 z 0 (by omega) (by omega)
  rw [regL_0] at this
  exact this
theorem bits_set (B : Nat → Option Sc) (s : Nat) (hs : s ≤ 1) (c : Sc) : (nI (bitB (B 0) + 2 * bitB (B 1)) ||| ((1 : Int32) <<< (nI s &&& 31))) = nI (bitB (if 0 = s then some c else B 0) + 2 * bitB (if 1 = s then some c else B 1)) := by
  have : s = 0 ∨ s = 1 := by omega
  rcases this with rfl | rfl <;> cases B 0 <;> cases B 1 <;> first | (simp only [bitB]; decide) | (simp [bitB]; done) | (simp [bitB]; decide)
theorem op_keep {z : Nat} {σ μ : ST} (hz : 30000 ≤ z) (h : Rel σ μ) (x : Int32) : ∃ r σ' μ', fX8_keep z σ x = some (r, σ') ∧ fX9_keep z μ x = some (r, μ') ∧ Rel σ' μ' := by
  obtain ⟨T, P, sec, L, t, c, n, A, B, hT, hs, ht, hn, ha, hb, hd⟩ := id h
  have hg := ha.n8 hn.2.2 hT.2.2
  unfold fX8_keep fX9_keep
  rw [show fX9_in z x.toInt64 0 1 = fX8_isWithin z x 0 1 from in_eq (a := 0) (b := 1)]
  rcases isW (z := z) x (a' := 0) (b' := 1) 0 1 rfl rfl (by decide) (by decide) with e | ⟨s, -, hs1, rfl, e⟩
  · rw [e, bd_s, bd_s, if_pos rfl, if_pos rfl]
    exact ⟨_, _, _, rfl, rfl, h⟩
  · have one : ¬ (1 : Int32) = 0 := by decide
    have ek : 47 + 1 + 1 + 4 * s = 49 + 4 * s := by omega
    have hr : rl (47 + 1) = 2 := rfl
    obtain ⟨σ2, g1, g2, g3⟩ := a_put (z := z) (σ := σ) (k := 47) (i := s) rfl (by rw [hr]; omega) (by rw [hr]; decide) (by rw [ek]; exact k_slots s (by omega)) (by omega) hn.1 (by omega)
    rw [ek] at g2 g3
    have z0 : σ2.1 0 = σ.1 0 := (g3 0 (by omega) (by omega) (by omega) (by omega)).1
    have z5 : σ2.1 5 = σ.1 5 := (g3 5 (by omega) (by omega) (by omega) (by omega)).1
    have ek2 := s9_keep (z := z) (S := pI μ 10 s 1) (s := s) hs1 (by omega)
    have m1 : (pI μ 10 s 1).1 5 1 = nI (c.2 1) := by rw [pI_n (by decide)]; exact hn.2.1.2.2.1
    rw [m1] at ek2
    have hx : ∀ q, q ≠ 0 → ¬ (49 + 4 * s ≤ q ∧ q ≤ 49 + 4 * s + 3) → (pI σ2 0 8 (nI (bitB (if 0 = s then some c else B 0) + 2 * bitB (if 1 = s then some c else B 1)))).1 q = σ.1 q ∧ (pI σ2 0 8 (nI (bitB (if 0 = s then some c else B 0) + 2 * bitB (if 1 = s then some c else B 1)))).2 q = σ.2 q := fun q q0 q1 => by
      have k := g3 q (by omega) (by omega) (by omega) (by omega)
      exact ⟨(pI_n q0).trans k.1, k.2⟩
    refine ⟨nI (c.2 1), pI σ2 0 8 (nI (bitB (if 0 = s then some c else B 0) + 2 * bitB (if 1 = s then some c else B 1))), _, ?_, (by rw [e, bd_s, if_neg one, gd_inb (by omega) (by decide), nI_clamp (by omega), show zok 1 = true from rfl, gd_t, lt_r]; exact ek2), T, P, sec, L, t, c, n, A, fun q => if q = s then some c else B q, ⟨hT.1.eq (hx 3 (by decide) (by omega)).1 (hx 4 (by decide) (by omega)).1, hT.2.1.eq (fun j hj => ?_) ?_, hT.2.2⟩, hs.eq (hx 3 (by decide) (by omega)).1 (fun j _ _ => ?_), ht.eq (by rw [(hx 1 (by decide) (by omega)).1]) (hx 2 (by decide) (by omega)).1 ?_ ?_, ⟨hn.1.eq (hx 5 (by decide) (by omega)).1 (hx 6 (by decide) (by omega)).2 (hx 7 (by decide) (by omega)).1 (hx 8 (by decide) (by omega)).1, hn.2.1.cp (fun j hj => ?_) (fun j hj => ?_), hn.2.2⟩, ⟨?_, ?_, ha.2.2.1, fun k hk => ?_⟩, ⟨?_, fun q hq => ⟨?_, fun d hd2 => ?_⟩⟩, ?_⟩
    · rw [e, bd_s, if_neg one, g1, bd_s, lt_r, pI_n (by decide), z5, hn.1.2.2.1, z0, hb.1, bits_set B s hs1 c]
    · rw [regI_ne (by decide), regL_1, pI_n (by decide)]
    · rw [regI_ne (by decide), regL_1, pI_n (by decide)]
    · rw [regI_ne (by decide), regL_1, pI_n (by decide)]
    · rw [regI_ne (by decide), regL_1, pI_n (by decide)]
    · rw [regI_ne (by decide), regL_1, pI_n (by decide)]
    · rw [regI_2, regL_ne (by decide), pI_2]
    · rw [regI_ne (by decide), regL_1, pI_n (by decide)]
    · rw [pI_nj (by decide), z0]; exact ha.1
    · rw [regI_ne (by decide), regL_1, pI_n (by decide)]; exact ha.2.1
    · obtain ⟨k1, k2, k3, k4⟩ := ha.2.2.2 k hk
      exact ⟨k1.eq (hx _ (by omega) (by omega)).1 (hx _ (by omega) (by omega)).2 (hx _ (by omega) (by omega)).1 (hx _ (by omega) (by omega)).1, k2.cp (fun j hj => by rw [regI_2, regL_ne (by decide), pI_2]) (fun j hj => by rw [regI_ne (by decide), regL_1, pI_n (by decide)]), k3, k4⟩
    · rw [pI_at]
    · obtain ⟨b1, b2⟩ := hb.2 q hq
      rw [regI_ne (by decide), regL_1]
      by_cases hqs : q = s
      · subst hqs
        rw [pI_at]
        simp only [if_true]
        rfl
      · rw [pI_nj hqs, b1]
        simp only [hqs, if_false]
    · obtain ⟨b1, b2⟩ := hb.2 q hq
      by_cases hqs : q = s
      · subst hqs
        simp only [if_true] at hd2
        cases hd2
        refine ⟨g2.eq (pI_n (by omega)) rfl (pI_n (by omega)) (pI_n (by omega)), hn.2.1.cp (fun j hj => ?_) (fun j hj => ?_), hn.2.2⟩
        · rw [regI_2, regL_in (by omega) (by omega), Nat.add_sub_cancel_left, Nat.zero_add, pI_2]
        · rw [regI_in (by omega) (by omega), Nat.add_sub_cancel_left, Nat.zero_add, pI_n (by decide)]
      · simp only [hqs, if_false] at hd2
        obtain ⟨k1, k2, k3⟩ := b2 d hd2
        exact ⟨k1.eq (hx _ (by omega) (by omega)).1 (hx _ (by omega) (by omega)).2 (hx _ (by omega) (by omega)).1 (hx _ (by omega) (by omega)).1, k2.cp (fun j hj => by rw [regI_2, regL_out (by omega), pI_2]) (fun j hj => by rw [regI_out (by omega), regL_1, pI_n (by decide)]), k3⟩
    · unfold RD at *
      rw [(hx 79 (by decide) (by omega)).2, regI_2, regL_ne (by decide), pI_2]
      exact hd

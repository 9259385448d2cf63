/-! ===== the reference's best ===== -/
theorem s9_row {z n r : Nat} (hn1 : 1 ≤ n) (hn : n ≤ 4) (hr : r < 10 ^ n) (hz : 11 ≤ z) : (okR n r → fX9_isRow z (nI n) (nI r) = some 1) ∧ (¬ okR n r → fX9_isRow z (nI n) (nI r) = some 0) := by
  have hp := ten_pos n
  have hp2 := ten_le (n := n) (by omega)
  have one : ¬ (1 : Int32) = 0 := by decide
  have in1 : fX9_in z (nI n).toInt64 1 4 = some 1 := by
    rw [show fX9_in z (nI n).toInt64 1 4 = fX8_isWithin z (nI n) 1 4 from in_eq (a := 1) (b := 4), show (1 : Int32) = nI 1 from rfl, show (4 : Int32) = nI 4 from rfl, s_isWithinN (by omega) (by decide) (by decide), if_pos ⟨hn1, hn⟩]
    rfl
  have in2 : fX9_in z (nI r).toInt64 0 (nI (10 ^ n - 1)).toInt64 = some 1 := by
    rw [show fX9_in z (nI r).toInt64 0 (nI (10 ^ n - 1)).toInt64 = fX8_isWithin z (nI r) (nI 0) (nI (10 ^ n - 1)) from in_eq (a := 0), s_isWithinN (by omega) (by decide) (by omega), if_pos ⟨Nat.zero_le _, by omega⟩]
  have c9 : ∀ m i, i ≤ n → n < i + m → ((∀ k, k < n → i ≤ k → r / 10 ^ k % 10 ≤ 3) → fX9_isRow_36 z (nI n) (nI r) m 1 (nI i) = some 1) ∧ ((¬ ∀ k, k < n → i ≤ k → r / 10 ^ k % 10 ≤ 3) → fX9_isRow_36 z (nI n) (nI r) m 1 (nI i) = some 0) := by
    intro m
    induction m with
    | zero => intro i h1 h2; omega
    | succ m ih =>
      intro i h1 h2
      by_cases hi : i = n
      · subst hi
        refine ⟨fun _ => ?_, fun q => absurd (fun k h1 h2 => by omega) q⟩
        unfold fX9_isRow_36 fX9_isRow_70
        rw [if_pos (ple i i rfl rfl (Nat.le_refl _) (by omega))]; rfl
      · have hd : r / 10 ^ i % 10 < 10 := Nat.mod_lt _ (by decide)
        have st : fX9_isRow_36 z (nI n) (nI r) (m + 1) 1 (nI i) = if 4 ≤ r / 10 ^ i % 10 then some 0 else fX9_isRow_36 z (nI n) (nI r) m 1 (nI (i + 1)) := by
          conv => lhs; unfold fX9_isRow_36
          unfold fX9_isRow_63
          rw [if_neg (nle n i rfl rfl (by omega) (by omega)), if_neg one, s9_tenTo (by omega) (by omega), bd_s, nz_ten (by omega), gd_t, show nz (10 : Int32) = true from rfl, gd_t, fig9 (by omega) (by omega), nI_1]
          by_cases h3 : 4 ≤ r / 10 ^ i % 10
          · rw [if_pos h3, if_pos (ple (a := 4) 4 (r / 10 ^ i % 10) rfl rfl h3 (by omega))]
            obtain ⟨m', rfl⟩ : ∃ m', m = m' + 1 := ⟨m - 1, by omega⟩
            unfold fX9_isRow_36 fX9_isRow_70
            by_cases h : nI n ≤ nI (i + 1)
            · rw [if_pos h]; rfl
            · rw [if_neg h]; rfl
          · rw [if_neg h3, if_neg (nle (a := 4) 4 (r / 10 ^ i % 10) rfl rfl (by omega) (by decide))]
        obtain ⟨g1, g2⟩ := ih (i + 1) (by omega) (by omega)
        rw [st]
        by_cases h3 : 4 ≤ r / 10 ^ i % 10
        · rw [if_pos h3]
          refine ⟨fun q => ?_, fun _ => rfl⟩
          have := q i (by omega) (Nat.le_refl _)
          omega
        · rw [if_neg h3]
          refine ⟨fun q => g1 (fun k k1 k2 => q k k1 (by omega)), fun q => g2 (fun g => q (fun k k1 k2 => ?_))⟩
          by_cases hk : k = i
          · rw [hk]; omega
          · exact g k k1 (by omega)
  have e9 : fX9_isRow z (nI n) (nI r) = fX9_isRow_36 z (nI n) (nI r) z 1 (nI 0) := by
    unfold fX9_isRow
    rw [in1, bd_s, if_neg one, s9_tenTo (by omega) hz, bd_s, show (10 ^ n : Nat) = 10 ^ n from rfl]
    have : nI (10 ^ n) - (1 : Int32) = nI (10 ^ n - 1) := by rw [show (1 : Int32) = nI 1 from rfl, pk_sub (by omega)]
    rw [this, in2, bd_s, if_neg one]
    rfl
  obtain ⟨g1, g2⟩ := c9 z 0 (by omega) (by omega)
  rw [e9]
  have eq : (∀ k, k < n → 0 ≤ k → r / 10 ^ k % 10 ≤ 3) ↔ okR n r := by
    constructor
    · intro h k hk
      exact h (n - 1 - k) (by omega) (Nat.zero_le _)
    · intro h k hk _
      have := h (n - 1 - k) (by omega)
      unfold dgN at this
      rw [show n - 1 - (n - 1 - k) = k from by omega] at this
      exact this
  exact ⟨fun h => g1 (eq.mpr h), fun h => g2 (fun g => h (eq.mp g))⟩
/-- the reference's numbers hold a best -/
def BM (Q : ST) (v : Int64) (b : Bs) : Prop := match b with
  | none => v = -1
  | some q => v = lN q.1 ∧ Q.1 0 24 = nI q.2 ∧ q.1 < 2 ^ 63
theorem s9_bestBy {z : Nat} {σ μ : ST} {T P : Nat → Nat} {c : Sc} {m mode : Nat} (hT : RT σ μ T P) (hn : RN σ μ T c) (hm : m ≤ 3) (hmode : mode ≤ 2) (hst : c.2 1 + (m + 1) ≤ T 5) (hz : 30000 ≤ z) : ∃ v μ', fX9_bestBy z μ (nI (m + 1)) (nI mode) = some (v, μ') ∧ BM μ' v (bbS T c (m + 1) mode 0 (10 ^ (m + 1)) none) ∧ DcM μ μ' := by
  have hi := hT.2.2
  have hN : 10 ^ (m + 1) ≤ 10000 := Nat.le_trans (Nat.pow_le_pow_right (by decide) (show m + 1 ≤ 4 by omega)) (by decide)
  have hall := all_le hn.2.2 hi hst
  have one : ¬ (1 : Int32) = 0 := by decide
  have loop : ∀ k f (Q : ST) (v : Int64), f ≤ 10 ^ (m + 1) → 10 ^ (m + 1) < f + k → DcM μ Q → BM Q v (bbS T c (m + 1) mode 0 f none) → ∃ v' μ', fX9_bestBy_12 z (nI (m + 1)) (nI mode) k Q v (nI f) = some (v', μ') ∧ BM μ' v' (bbS T c (m + 1) mode 0 (10 ^ (m + 1)) none) ∧ DcM μ μ' := by
    intro k
    induction k with
    | zero => intro f Q v h1 h2; omega
    | succ k ih =>
      intro f Q v h1 h2 hd hb
      unfold fX9_bestBy_12
      rw [s9_tenTo (by omega) (by omega), bd_s]
      by_cases hf : f = 10 ^ (m + 1)
      · subst hf
        rw [if_pos (ple (10 ^ (m + 1)) (10 ^ (m + 1)) rfl rfl (Nat.le_refl _) (by omega))]
        exact ⟨v, Q, rfl, hb, hd⟩
      · have hf2 : f < 10 ^ (m + 1) := by omega
        have hpm := ten_pos m
        have hpm2 := ten_le (n := m) (by omega)
        -- no offer
        have skip : ¬ myR (m + 1) mode f → ∃ v' μ', fX9_bestBy_73 z (fX9_bestBy_12 z (nI (m + 1)) (nI mode) k) Q (nI (m + 1)) (nI mode) v (nI f) = some (v', μ') ∧ BM μ' v' (bbS T c (m + 1) mode 0 (10 ^ (m + 1)) none) ∧ DcM μ μ' := by
          intro hno
          have eb : bbS T c (m + 1) mode 0 (f + 1) none = bbS T c (m + 1) mode 0 f none := by
            show stB T c (m + 1) mode _ (0 + f) = _
            rw [Nat.zero_add]
            exact if_neg hno
          have hle : (-1 : Int64) ≤ v := by
            cases hbb : bbS T c (m + 1) mode 0 f none with
            | none => rw [hbb] at hb; rw [show v = -1 from hb]; decide
            | some q =>
              rw [hbb] at hb
              obtain ⟨g1, g2, g3⟩ : v = lN q.1 ∧ Q.1 0 24 = nI q.2 ∧ q.1 < 2 ^ 63 := hb
              rw [g1, Int64.le_iff_toInt_le, pk_lT g3]
              have : (-1 : Int64).toInt = -1 := rfl
              rw [this]
              omega
          unfold fX9_bestBy_73 fX9_bestBy_74 fX9_bestBy_94 fX9_bestBy_113 fX9_bestBy_129
          rw [if_pos rfl, if_pos hle, lt_r, if_pos hle, nI_1]
          refine ih (f + 1) _ v (by omega) (by omega) (hd.tr ⟨fun q hq => pI_n hq, fun j hj => pI_nj hj, fun q _ _ => rfl, fun j _ => rfl⟩) ?_
          rw [eb]
          cases hbb : bbS T c (m + 1) mode 0 f none with
          | none => rw [hbb] at hb; exact hb
          | some q =>
            rw [hbb] at hb
            obtain ⟨g1, g2, g3⟩ : v = lN q.1 ∧ Q.1 0 24 = nI q.2 ∧ q.1 < 2 ^ 63 := hb
            exact ⟨g1, by rw [pI_at]; exact g2, g3⟩
        -- an offer
        have offer : myR (m + 1) mode f → ∃ v' μ', fX9_bestBy_69 z (fX9_bestBy_12 z (nI (m + 1)) (nI mode) k) Q (nI (m + 1)) (nI mode) v (nI f) = some (v', μ') ∧ BM μ' v' (bbS T c (m + 1) mode 0 (10 ^ (m + 1)) none) ∧ DcM μ μ' := by
          intro hyes
          have eb : bbS T c (m + 1) mode 0 (f + 1) none = ofN (bbS T c (m + 1) mode 0 f none) (vlK T (dgN (m + 1) f) c (m + 1), f) := by
            show stB T c (m + 1) mode _ (0 + f) = _
            rw [Nat.zero_add]
            exact if_pos hyes
          obtain ⟨Q2, e2, d2, d3⟩ := s9_foundBy (z := z) (n := m + 1) (r := f) (DcX.rf.rt hd hT) (DcX.rf.rn hd hn) (by omega) (by omega) hst (by omega)
          have hv := vlK_le (fg := dgN (m + 1) f) hn.2.2 hi (m + 1) hst
          have hv2 : (m + 1) * (sumN c.1 11 * 100 ^ (m + 1)) ≤ 4 * 9900000000000000 := Nat.mul_le_mul (by omega) hall
          unfold fX9_bestBy_69 fX9_bestBy_74 fX9_bestBy_94 fX9_bestBy_113 fX9_bestBy_129
          rw [if_neg one, e2, bd_s, nI_1, lt_r, lt_r]
          have dd := hd.tr d2
          have sv : ∀ x : Int32, DcM μ (pI Q2 0 24 x) := fun x => dd.tr ⟨fun q hq => pI_n hq, fun j hj => pI_nj hj, fun q _ _ => rfl, fun j _ => rfl⟩
          cases hbb : bbS T c (m + 1) mode 0 f none with
          | none =>
            rw [hbb] at hb
            have hv1 : v = -1 := hb
            have hnl : ¬ lN (vlK T (dgN (m + 1) f) c (m + 1)) ≤ v := by
              intro q
              rw [hv1, Int64.le_iff_toInt_le, pk_lT (by omega)] at q
              have : (-1 : Int64).toInt = -1 := rfl
              rw [this] at q
              omega
            rw [if_neg hnl, if_neg hnl]
            refine ih (f + 1) _ _ (by omega) (by omega) (sv _) ?_
            rw [eb, hbb]
            exact ⟨rfl, pI_at, by omega⟩
          | some q =>
            rw [hbb] at hb
            obtain ⟨g1, g2, g3⟩ : v = lN q.1 ∧ Q.1 0 24 = nI q.2 ∧ q.1 < 2 ^ 63 := hb
            have q24 : Q2.1 0 24 = nI q.2 := by rw [d3]; exact g2
            by_cases hcmp : vlK T (dgN (m + 1) f) c (m + 1) ≤ q.1
            · have hl : lN (vlK T (dgN (m + 1) f) c (m + 1)) ≤ v := by rw [g1]; exact pleL (vlK T (dgN (m + 1) f) c (m + 1)) q.1 rfl rfl hcmp g3
              rw [if_pos hl, if_pos hl]
              refine ih (f + 1) _ _ (by omega) (by omega) (sv _) ?_
              rw [eb, hbb]
              unfold ofN
              simp only
              rw [if_pos hcmp]
              exact ⟨g1, by rw [pI_at]; exact q24, g3⟩
            · have hl : ¬ lN (vlK T (dgN (m + 1) f) c (m + 1)) ≤ v := by rw [g1]; exact nleL (vlK T (dgN (m + 1) f) c (m + 1)) q.1 rfl rfl (by omega) (by omega)
              rw [if_neg hl, if_neg hl]
              refine ih (f + 1) _ _ (by omega) (by omega) (sv _) ?_
              rw [eb, hbb]
              unfold ofN
              simp only
              rw [if_neg hcmp]
              exact ⟨rfl, pI_at, by omega⟩
        have hfig : f / 10 ^ m = dgN (m + 1) f 0 := by
          unfold dgN
          rw [show m + 1 - 1 - 0 = m from by omega]
          have : f / 10 ^ m < 10 := by
            rw [Nat.div_lt_iff_lt_mul hpm]
            rw [Nat.pow_succ] at hf2
            omega
          exact (Nat.mod_eq_of_lt this).symm
        have hd10 := dgN_lt (m + 1) f 0
        obtain ⟨r1, r2⟩ := s9_row (z := z) (n := m + 1) (r := f) (by omega) (by omega) hf2 (by omega)
        have e39 : ∀ t0 : Nat, (t0 = if dgN (m + 1) f 0 = 3 then 1 else 0) → ∃ v' μ', fX9_bestBy_39 z (fX9_bestBy_12 z (nI (m + 1)) (nI mode) k) Q (nI (m + 1)) (nI mode) v (nI f) (nI t0) = some (v', μ') ∧ BM μ' v' (bbS T c (m + 1) mode 0 (10 ^ (m + 1)) none) ∧ DcM μ μ' := by
          intro t0 ht0
          unfold fX9_bestBy_39
          by_cases hok : okR (m + 1) f
          · rw [r1 hok, bd_s, if_neg one]
            by_cases m0 : mode = 0
            · rw [if_pos (peq (b := 0) mode 0 rfl rfl m0)]
              exact offer ⟨hok, Or.inl m0⟩
            · rw [if_neg (neq (b := 0) mode 0 rfl rfl m0 (by omega) (by decide))]
              unfold fX9_bestBy_64
              by_cases m1 : mode = 1
              · rw [if_pos (peq (b := 1) mode 1 rfl rfl m1)]
                by_cases h3 : dgN (m + 1) f 0 = 3
                · rw [if_pos h3] at ht0
                  rw [if_pos (show (1 : Int32) = nI t0 by rw [ht0]; rfl)]
                  exact offer ⟨hok, Or.inr (Or.inl ⟨m1, h3⟩)⟩
                · rw [if_neg h3] at ht0
                  rw [if_neg (show ¬ (1 : Int32) = nI t0 by rw [ht0]; decide)]
                  exact skip (fun q => by have := q.2; omega)
              · rw [if_neg (neq (b := 1) mode 1 rfl rfl m1 (by omega) (by decide))]
                by_cases h3 : dgN (m + 1) f 0 = 3
                · rw [if_pos h3] at ht0
                  rw [if_neg (show ¬ (0 : Int32) = nI t0 by rw [ht0]; decide)]
                  exact skip (fun q => by have := q.2; omega)
                · rw [if_neg h3] at ht0
                  rw [if_pos (show (0 : Int32) = nI t0 by rw [ht0]; rfl)]
                  exact offer ⟨hok, Or.inr (Or.inr ⟨by omega, h3⟩)⟩
          · rw [r2 hok, bd_s, if_pos rfl]
            exact skip (fun q => hok q.1)
        rw [if_neg (nle (10 ^ (m + 1)) f rfl rfl hf2 (by omega)), show nI (m + 1) - (1 : Int32) = nI m from nI_pred m, s9_tenTo (by omega) (by omega), bd_s, nz_ten (by omega), gd_t, pk_div (by omega) hpm (by omega), hfig]
        by_cases h3 : dgN (m + 1) f 0 = 3
        · rw [if_pos (peq (b := 3) (dgN (m + 1) f 0) 3 rfl rfl h3)]
          exact e39 1 (by rw [if_pos h3])
        · rw [if_neg (neq (b := 3) (dgN (m + 1) f 0) 3 rfl rfl h3 (by omega) (by decide))]
          exact e39 0 (by rw [if_neg h3])
  unfold fX9_bestBy
  rw [lt_r]
  exact loop z 0 _ (-1) (Nat.zero_le _) (by omega) ⟨fun q hq => pI_n hq, fun j hj => pI_nj hj, fun q _ _ => rfl, fun j _ => rfl⟩ rfl

/-! ===== by, judge ===== -/
theorem s_isLeft {z : Nat} {σ μ : ST} {T P : Nat → Nat} {c : Sc} {n : Nat} (hT : RT σ μ T P) (hn : RN σ μ T c) (hn10 : n ≤ 10) (hz : 13 ≤ z) : fX8_isLeft z σ (nI n) = some (if 0 < sumN c.1 11 ∧ c.2 1 + n ≤ T 5 then 1 else 0) ∧ fX9_canLook z μ (nI n) = some (if 0 < sumN c.1 11 ∧ c.2 1 + n ≤ T 5 then 1 else 0) := by
  have hle := hn.2.2.le2 hT.2.2
  have h5 := hT.2.2.2.2.2.2.2.2.1
  have h1 := hn.2.2.2.1
  have m1 : μ.1 5 1 = nI (c.2 1) := hn.2.1.2.2.1
  constructor
  · unfold fX8_isLeft fX8_isLeft_35 fX8_isLeft_36
    rw [s_together rfl (by omega) hn.1.1, bd_s, hT.1.2.2.2.2.2.1, hn.1.2.2.1, nI_add]
    by_cases h0 : sumN c.1 11 = 0
    · rw [h0, if_pos (show lN 0 ≤ 0 by decide), if_neg (by omega)]; rfl
    · rw [if_neg (nleL (b := 0) (sumN c.1 11) 0 rfl rfl (by omega) (by omega))]
      by_cases h2 : T 5 < c.2 1 + n
      · rw [if_pos (plt (T 5) (c.2 1 + n) rfl rfl h2 (by omega)), if_neg (by omega)]; rfl
      · rw [if_neg (nlt (T 5) (c.2 1 + n) rfl rfl (by omega) (by omega)), if_pos (by omega)]; rfl
  · unfold fX9_canLook fX9_canLook_29 fX9_canLook_30
    rw [show (0 : Int32) = nI 0 from rfl, s9_sumOf hn.lm (by decide) (by omega), bd_s, hT.2.1.2.2.2.2.2.1, show inb (1 : Int32) 9 = true from rfl, gd_t, show (1 : Int32).toNatClampNeg = 1 from rfl, m1, nI_add]
    by_cases h0 : sumN c.1 11 = 0
    · rw [h0, if_pos (show lN 0 ≤ 0 by decide), if_neg (by omega)]; rfl
    · rw [if_neg (nleL (b := 0) (sumN c.1 11) 0 rfl rfl (by omega) (by omega))]
      by_cases h2 : T 5 < c.2 1 + n
      · rw [if_pos (plt (T 5) (c.2 1 + n) rfl rfl h2 (by omega)), if_neg (by omega)]; rfl
      · rw [if_neg (nlt (T 5) (c.2 1 + n) rfl rfl (by omega) (by omega)), if_pos (by omega)]; rfl
theorem s_foundBy {z : Nat} {σ μ : ST} {T P : Nat → Nat} {c : Sc} {n r : Nat} (hT : RT σ μ T P) (hn : RN σ μ T c) (hr : r < 2 ^ 31) (hn8 : n ≤ 8) (hst : c.2 1 + n ≤ T 5) (hz : 13 ≤ z) : ∃ σ', fX8_foundBy z σ (nI n) (nI r) = some (lN (vlK T (dgN n r) c n), σ') ∧ DcX σ σ' := by
  have h5 := hT.2.2.2.2.2.2.2.2.1
  have loop : ∀ m k (S : ST), k ≤ n → n < k + m → SX S 9 (scK T (dgN n r) c k) → TX S T P → DcX σ S → ∃ σ', fX8_foundBy_16 z (nI n) (nI r) m S (lN (vlK T (dgN n r) c k)) (nI k) = some (lN (vlK T (dgN n r) c n), σ') ∧ DcX σ σ' := by
    intro m
    induction m with
    | zero => intro k S h1 h2; omega
    | succ m ih =>
      intro k S h1 h2 hs ht hd
      unfold fX8_foundBy_16
      by_cases hk : k = n
      · subst hk
        rw [if_pos (ple k k rfl rfl (Nat.le_refl _) (by omega))]
        exact ⟨S, rfl, hd⟩
      · obtain ⟨k1, k2, k3⟩ := scK_ok (fg := dgN n r) hn.2.2 hT.2.2 k (by omega)
        have hd10 := dgN_lt n r k
        obtain ⟨S2, a1, a2, a3⟩ := a_act (z := z) (k := 9) (f := dgN n r k) rfl hs ht hT.2.2 k1.1 (by omega) (by omega) (by omega)
        rw [if_neg (nle n k rfl rfl (by omega) (by omega)), s_figureOf hn8 (by omega) hr (by omega), bd_s, s_foundNow rfl hs ht hT.2.2 k1.1 (by omega), bd_s, a1, bd_s, show (100 : Int64) = lN 100 from rfl, show (10 : Int64) = lN 10 from rfl, lN_mul, lN_mul, lN_add, nI_1]
        exact ih (k + 1) S2 (by omega) (by omega) a2 (a3.tx rfl ht) (hd.tr (a3.dc ⟨rfl, rfl, rfl, rfl⟩))
  obtain ⟨S, e, s1, f1⟩ := a_copy (z := z) (k := 9) (k2 := 5) rfl rfl (by decide) hn.1 (by omega)
  unfold fX8_foundBy
  rw [e, bd_s]
  exact loop z 0 S (by omega) (by omega) s1 (f1.tx rfl hT.1) (f1.dc ⟨rfl, rfl, rfl, rfl⟩)
theorem s9_lay {z : Nat} {μ : ST} (hz : 13 ≤ z) : fX9_lay z μ 0 1 = some (regL μ 4 11 11 (μ.2 4)) := by
  have loop : ∀ m i, i ≤ 11 → 11 < i + m → fX9_lay_2 z 0 1 m (regL μ 4 11 i (μ.2 4)) (nI i) = some (regL μ 4 11 11 (μ.2 4)) := by
    intro m
    induction m with
    | zero => intro i h1 h2; omega
    | succ m ih =>
      intro i h1 h2
      unfold fX9_lay_2
      by_cases hi : i = 11
      · subst hi
        rw [if_pos (ple (a := 11) 11 11 rfl rfl (Nat.le_refl _) (by decide))]
      · have e0 : (11 : Int32) * 0 + nI i = nI i := by rw [show (11 : Int32) * 0 = nI 0 from rfl, nI_add, Nat.zero_add]
        have e1 : (11 : Int32) * 1 + nI i = nI (11 + i) := by rw [show (11 : Int32) * 1 = nI 11 from rfl, nI_add]
        rw [if_neg (nle (a := 11) 11 i rfl rfl (by omega) (by decide)), e0, e1, gd_inb (by omega) (by decide), gd_inb (by omega) (by decide), nI_clamp (by omega), nI_clamp (by omega), lt_r, regL_out (Or.inl (by omega)), regL_s, nI_1]
        exact ih (i + 1) (by omega) (by omega)
  have := loop z 0 (by omega) (by omega)
  rw [regL_0] at this
  exact this
theorem mvN_3 {c f : Nat} (h : 3 ≤ f) : mvN c f = c := by unfold mvN; rw [if_neg (by omega), if_neg (by omega)]
/-- level 1 holds what now's weights are; nothing that anybody asks for is another -/
theorem a9_lay {z : Nat} {μ : ST} {w : Nat → Nat} (hl : LM μ 0 w) (hz : 13 ≤ z) : ∃ μ', fX9_lay z μ 0 1 = some μ' ∧ LM μ' 1 w ∧ DcM μ μ' ∧ μ'.1 = μ.1 := by
  refine ⟨_, s9_lay hz, fun j hj => ?_, ⟨fun q _ => by rw [regL_1], fun j _ => by rw [regL_1], fun q h4 _ => regL_ne h4, fun j hj => regL_out (Or.inl hj)⟩, rfl⟩
  have := hl j hj
  rw [Nat.mul_zero, Nat.zero_add] at this
  rw [regL_in (by omega) (by omega), Nat.mul_one, Nat.add_sub_cancel_left, this]
/-- one look of a row, in the reference -/
theorem a9_step {z : Nat} {S : ST} {T P : Nat → Nat} {c : Sc} {st : Nat} (ht : TM S T P) (hi : TI T P) (hl : LM S 1 c.1) (hc : c.2 0 ≤ 9) (f : Nat) (hst : c.2 1 = st) (hst2 : st + 1 ≤ T 5) (hz : 13 ≤ z) : ∃ S1 S2, fX9_lookAt z S 1 (nI (plN c f)) = some (lN (fnN T c f), S1) ∧ fX9_drift z S1 1 (nI st) = some S2 ∧ S1.1 = S.1 ∧ S2.1 = S.1 ∧ LM S2 1 (acN T c f).1 ∧ FrL S S2 1 := by
  obtain ⟨S1, e1, l1, f1⟩ := a9_lookAt (z := z) (lv := 1) (p := plN c f) hl (by decide) ht hi (plN_le hc) (by omega)
  obtain ⟨S2, e2, l2, f2⟩ := a9_drift (z := z) (st := st) l1 (by decide) (f1.tm ht) hi hst2 (by omega)
  refine ⟨S1, S2, e1, e2, f1.1, f2.1.trans f1.1, fun j hj => ?_, f1.tr f2⟩
  rw [l2 j hj, ← hst]
  rfl
theorem s9_foundBy {z : Nat} {σ μ : ST} {T P : Nat → Nat} {c : Sc} {n r : Nat} (hT : RT σ μ T P) (hn : RN σ μ T c) (hr : r < 2 ^ 31) (hn8 : n ≤ 8) (hst : c.2 1 + n ≤ T 5) (hz : 13 ≤ z) : ∃ μ', fX9_foundBy z μ (nI n) (nI r) = some (lN (vlK T (dgN n r) c n), μ') ∧ DcM μ μ' ∧ μ'.1 = μ.1 := by
  have h5 := hT.2.2.2.2.2.2.2.2.1
  have m51 : μ.1 5 1 = nI (c.2 1) := hn.2.1.2.2.1
  have m50 : μ.1 5 0 = nI (c.2 0) := hn.2.1.2.1
  have q1 : (1 : Int32).toNatClampNeg = 1 := rfl
  have b1 : inb (1 : Int32) 9 = true := rfl
  have loop : ∀ m k (S : ST), k ≤ n → n < k + m → LM S 1 (scK T (dgN n r) c k).1 → S.1 = μ.1 → DcM μ S → ∃ μ', fX9_foundBy_19 z (nI n) (nI r) m S (nI ((scK T (dgN n r) c k).2 0)) (lN (vlK T (dgN n r) c k)) (nI k) = some (lN (vlK T (dgN n r) c n), μ') ∧ DcM μ μ' ∧ μ'.1 = μ.1 := by
    intro m
    induction m with
    | zero => intro k S h1 h2; omega
    | succ m ih =>
      intro k S h1 h2 hl hS hd
      unfold fX9_foundBy_19
      by_cases hk : k = n
      · subst hk
        rw [if_pos (ple k k rfl rfl (Nat.le_refl _) (by omega))]
        exact ⟨S, rfl, hd, hS⟩
      · obtain ⟨k1, k2, k3⟩ := scK_ok (fg := dgN n r) hn.2.2 hT.2.2 k (by omega)
        have hd10 := dgN_lt n r k
        have ht : TM S T P := by
          unfold TM
          rw [hS]
          exact hT.2.1
        obtain ⟨S1, S2, a1, a2, a3, a4, a5, a6⟩ := a9_step (z := z) (c := scK T (dgN n r) c k) (st := c.2 1 + k) ht hT.2.2 hl k1.1 (dgN n r k) k2 (by omega) (by omega)
        have fin : fX9_foundBy_81 z (fX9_foundBy_19 z (nI n) (nI r) m) S (nI n) (nI r) (nI (mvN ((scK T (dgN n r) c k).2 0) (dgN n r k))) (nI k) (nI (plN (scK T (dgN n r) c k) (dgN n r k))) 1 10 (100 * lN (vlK T (dgN n r) c k)) = fX9_foundBy_19 z (nI n) (nI r) m S2 (nI ((scK T (dgN n r) c (k + 1)).2 0)) (lN (vlK T (dgN n r) c (k + 1))) (nI (k + 1)) := by
          unfold fX9_foundBy_81
          have s51 : S1.1 5 1 = nI (c.2 1) := by rw [a3, hS]; exact m51
          rw [a1, bd_s, b1, gd_t, q1, s51, nI_add, a2, bd_s, show (100 : Int64) = lN 100 from rfl, show (10 : Int64) = lN 10 from rfl, lN_mul, lN_mul, lN_add, nI_1]
          have ev : 100 * vlK T (dgN n r) c k + 10 * fnN T (scK T (dgN n r) c k) (dgN n r k) = vlK T (dgN n r) c (k + 1) := by
            show _ = vlK T (dgN n r) c k * 100 + fnN T (scK T (dgN n r) c k) (dgN n r k) * 10
            omega
          rw [ev]
          rfl
        have e57 : ∀ sh : Int32, sh = nI (mvN ((scK T (dgN n r) c k).2 0) (dgN n r k)) → fX9_foundBy_57 z (fX9_foundBy_19 z (nI n) (nI r) m) S (nI n) (nI r) (lN (vlK T (dgN n r) c k)) (nI k) (nI (dgN n r k)) sh = fX9_foundBy_19 z (nI n) (nI r) m S2 (nI ((scK T (dgN n r) c (k + 1)).2 0)) (lN (vlK T (dgN n r) c (k + 1))) (nI (k + 1)) := by
          intro sh hsh
          subst hsh
          rw [← fin]
          unfold fX9_foundBy_57
          by_cases h3 : dgN n r k = 3
          · rw [if_pos (peq (b := 3) (dgN n r k) 3 rfl rfl h3)]
            have : plN (scK T (dgN n r) c k) (dgN n r k) = 10 := by unfold plN; rw [if_pos h3]
            rw [this]; rfl
          · rw [if_neg (neq (b := 3) (dgN n r k) 3 rfl rfl h3 (by omega) (by decide))]
            have : plN (scK T (dgN n r) c k) (dgN n r k) = mvN ((scK T (dgN n r) c k).2 0) (dgN n r k) := by unfold plN; rw [if_neg h3]
            rw [this]
        have next := ih (k + 1) S2 (by omega) (by omega) a5 (a4.trans hS) (hd.tr (a6.dc (by decide)))
        rw [if_neg (nle n k rfl rfl (by omega) (by omega)), show (1 : Int32) = nI 1 from rfl, pk_sub (by omega), pk_sub (by omega), s9_tenTo (by omega) (by omega), bd_s, nz_ten (by omega), gd_t, show nz (10 : Int32) = true from rfl, gd_t, fig9 (by omega) hr, show r / 10 ^ (n - 1 - k) % 10 = dgN n r k from rfl]
        by_cases h3 : dgN n r k = 3
        · rw [if_pos (peq (b := 3) (dgN n r k) 3 rfl rfl h3), e57 _ (by rw [mvN_3 (by omega)])]
          exact next
        · rw [if_neg (neq (b := 3) (dgN n r k) 3 rfl rfl h3 (by omega) (by decide)), s9_to k1.1 (by omega), bd_s, e57 _ rfl]
          exact next
  obtain ⟨S, e, l1, d1, s1⟩ := a9_lay (z := z) hn.lm hz
  unfold fX9_foundBy
  rw [e, bd_s, show inb (0 : Int32) 9 = true from rfl, gd_t, show (0 : Int32).toNatClampNeg = 0 from rfl, s1, m50]
  exact loop z 0 S (by omega) (by omega) l1 s1 d1
theorem s9_allTimes {z : Nat} {μ : ST} {w : Nat → Nat} {n b : Nat} (hl : LM μ 0 w) (hn : n ≤ 8) (hb : b < 2 ^ 31) (hz : 13 ≤ z) : fX9_allTimes z μ (nI n) (nI b) = some (lN (sumN w 11 * b ^ n)) := by
  have loop : ∀ m i, i ≤ n → n < i + m → fX9_allTimes_9 z μ (nI n) (nI b) m (lN (sumN w 11 * b ^ i)) (nI i) = some (lN (sumN w 11 * b ^ n)) := by
    intro m
    induction m with
    | zero => intro i h1 h2; omega
    | succ m ih =>
      intro i h1 h2
      unfold fX9_allTimes_9
      by_cases hi : i = n
      · subst hi
        rw [if_pos (ple i i rfl rfl (Nat.le_refl _) (by omega))]
      · rw [if_neg (nle n i rfl rfl (by omega) (by omega)), nI_l hb, lN_mul, Nat.mul_assoc, ← Nat.pow_succ, nI_1]
        exact ih (i + 1) (by omega) (by omega)
  unfold fX9_allTimes
  rw [show (0 : Int32) = nI 0 from rfl, s9_sumOf hl (by decide) (by omega), bd_s]
  have := loop z 0 (by omega) (by omega)
  rw [Nat.pow_zero, Nat.mul_one] at this
  exact this
theorem DcX.rn {σ σ' μ μ' : ST} {T : Nat → Nat} {c : Sc} (hx : DcX σ σ') (hm : DcM μ μ') (h : RN σ μ T c) : RN σ' μ' T c := ⟨h.1.dc hx rfl rfl rfl rfl, h.2.1.cp (fun j hj => by rw [Nat.zero_add]; exact hm.2.2.2 j hj) (fun j _ => by rw [hm.1 5 (by decide)]), h.2.2⟩
theorem DcX.rt {σ σ' μ μ' : ST} {T P : Nat → Nat} (hx : DcX σ σ') (hm : DcM μ μ') (h : RT σ μ T P) : RT σ' μ' T P := ⟨h.1.eq (hx 3 rfl).1 (hx 4 rfl).1, h.2.1.eq (fun j hj => hm.2.1 j (by omega)) (hm.1 1 (by decide)), h.2.2⟩
theorem op_by {z : Nat} {σ μ : ST} (hz : 30000 ≤ z) (h : Rel σ μ) (v1 v2 v : Int32) : ∃ r σ' μ', fX8_by z σ v1 v2 v = some (r, σ') ∧ fX9_by z μ v1 v2 v = some (r, μ') ∧ Rel σ' μ' := by
  obtain ⟨T, P, sec, L, t, c, n, A, B, hT, hs, ht, hn, ha, hb, hd⟩ := id h
  have one : ¬ (1 : Int32) = 0 := by decide
  unfold fX8_by fX9_by fX8_by_17 fX9_by_43
  rcases isW (z := z) v1 (a' := 1) (b' := 4) 1 4 rfl rfl (by decide) (by decide) with e | ⟨n, hn1, hn4, rfl, e⟩
  · have e9 : fX9_in z v1.toInt64 1 4 = some 0 := by rw [show fX9_in z v1.toInt64 1 4 = fX8_isWithin z v1 1 4 from in_eq (a := 1) (b := 4)]; exact e
    rw [e, bd_s, if_pos rfl, s9_isRow_out e9 (by omega), bd_s, if_pos rfl]
    exact ⟨_, _, _, rfl, rfl, h⟩
  · rw [e, bd_s, if_neg one]
    rcases s_isRow (z := z) hn1 hn4 v2 (by omega) with ⟨e1, e2⟩ | ⟨r, rfl, hr, hdig, e1, e2⟩
    · rw [e1, e2, bd_s, bd_s, if_pos rfl, if_pos rfl]
      exact ⟨_, _, _, rfl, rfl, h⟩
    · have ht10 := ten_le (n := n) (by omega)
      obtain ⟨l1, l2⟩ := s_isLeft (z := z) (n := n) hT hn (by omega) (by omega)
      rw [e1, e2, bd_s, bd_s, if_neg one, if_neg one, l1, l2, bd_s, bd_s]
      by_cases hl : 0 < sumN c.1 11 ∧ c.2 1 + n ≤ T 5
      · rw [if_pos hl, if_neg one, if_neg one]
        obtain ⟨σ1, f1, d1⟩ := s_foundBy (z := z) hT hn (show r < 2 ^ 31 by omega) (show n ≤ 8 by omega) hl.2 (by omega)
        obtain ⟨μ1, f2, d2, -⟩ := s9_foundBy (z := z) hT hn (show r < 2 ^ 31 by omega) (show n ≤ 8 by omega) hl.2 (by omega)
        have rn1 := d1.rn d2 hn
        have hall := all_le hn.2.2 hT.2.2 hl.2
        have hv := vlK_le (fg := dgN n r) hn.2.2 hT.2.2 n hl.2
        have hv2 : n * (sumN c.1 11 * 100 ^ n) ≤ 4 * 9900000000000000 := Nat.mul_le_mul hn4 hall
        have hpos : 0 < sumN c.1 11 * 100 ^ n := Nat.mul_pos hl.1 (Nat.pow_pos (by decide))
        obtain ⟨x, p1, p2⟩ := part_ex (z := z) (v := v) (x := lN (vlK T (dgN n r) c n)) (a := vlK T (dgN n r) c n) (b := sumN c.1 11 * 100 ^ n) (Or.inl rfl) (by omega) hpos (by omega) hz
        refine ⟨x, σ1, μ1, ?_, ?_, h.dc d1 d2⟩
        · rw [f1, bd_s, s_together rfl (by omega) rn1.1.1, bd_s, show (100 : Int64) = lN 100 from rfl, s_power (by omega) (by omega), bd_s, lN_mul, p1, bd_s]
        · rw [f2, bd_s, show (100 : Int32) = nI 100 from rfl, s9_allTimes rn1.lm (by omega) (by decide) (by omega), bd_s, p2, bd_s]
      · rw [if_neg hl, if_pos rfl, if_pos rfl]
        exact ⟨_, _, _, rfl, rfl, h⟩

/-! ===== the reference's two, withSecond ===== -/
def wvN (T : Nat → Nat) (q : Nat) : Nat → Sc → Nat → Nat → Nat → Nat
  | 0, _, _, v, _ => v
  | m + 1, c, s, v, w => wvN T q m (a2N T (p2N q c s (w / 4 % 3)) c (w % 4)) (s2N q c s (w / 4 % 3)) (v * 1000 + f2N T (p2N q c s (w / 4 % 3)) c (w % 4) * 10) (w / 12)
theorem rv_wv {T : Nat → Nat} {q : Nat} : ∀ (n : Nat) (c : Sc) (s v x : Nat), rvN T q n c s v x ↔ ∃ w, w < 12 ^ n ∧ wvN T q n c s v w = x
  | 0, c, s, v, x => ⟨fun h => ⟨0, by decide, h.symm⟩, fun ⟨_, _, h⟩ => h.symm⟩
  | n + 1, c, s, v, x => by
    constructor
    · rintro ⟨f, g, hf, hg, h⟩
      obtain ⟨w, hw, e⟩ := (rv_wv n _ _ _ _).mp h
      refine ⟨f + 4 * g + 12 * w, by rw [Nat.pow_succ]; omega, ?_⟩
      unfold wvN
      rw [show (f + 4 * g + 12 * w) % 4 = f from by omega, show (f + 4 * g + 12 * w) / 4 % 3 = g from by omega, show (f + 4 * g + 12 * w) / 12 = w from by omega]
      exact e
    · rintro ⟨w, hw, e⟩
      unfold wvN at e
      refine ⟨w % 4, w / 4 % 3, by omega, by omega, (rv_wv n _ _ _ _).mpr ⟨w / 12, ?_, e⟩⟩
      rw [Nat.pow_succ] at hw
      omega
theorem two9_step {z : Nat} {S : ST} {T P : Nat → Nat} {c : Sc} {p : Int32} (ht : TM S T P) (hi : TI T P) (hl : LM S 1 c.1) (hc : c.2 0 ≤ 9) (f : Nat) (hst : c.2 1 + 1 ≤ T 5) (hz : 13 ≤ z) : ∃ S2 S3, fX9_lookTwice z S 1 (nI (plN c f)) p = some (lN (f2N T p c f), S2) ∧ fX9_drift z S2 1 (nI (c.2 1)) = some S3 ∧ S2.1 = S.1 ∧ S3.1 = S.1 ∧ LM S3 1 (a2N T p c f).1 ∧ FrL S S3 1 := by
  obtain ⟨S1, e1, l1, f1⟩ := a9_lookAt (z := z) (lv := 1) (p := plN c f) hl (by decide) ht hi (plN_le hc) (by omega)
  have e2 := s9_lookAt (z := z) (lv := 1) (p := p) l1 (by decide) (f1.tm ht) hi (by omega)
  have l2 : LM (regL S1 4 (11 * 1) 11 (fun j => lN ((fun j => c.1 j * (if j = plN c f then 10 - chN T (plN c f) else 10)) j * (10 - lsN T p j)))) 1 (l2N T p c f).1 := fun j hj => by
    rw [regL_in (Nat.le_add_right _ _) (by omega), Nat.add_sub_cancel_left]
    rfl
  have f2 : FrL S1 (regL S1 4 (11 * 1) 11 (fun j => lN ((fun j => c.1 j * (if j = plN c f then 10 - chN T (plN c f) else 10)) j * (10 - lsN T p j)))) 1 := ⟨rfl, fun q h4 _ => regL_ne h4, fun j hj => regL_out hj⟩
  obtain ⟨S3, e3, l3, f3⟩ := a9_drift (z := z) (st := c.2 1) l2 (by decide) (f2.tm (f1.tm ht)) hi hst (by omega)
  refine ⟨_, S3, ?_, e3, f2.1.trans f1.1, f3.1.trans (f2.1.trans f1.1), fun j hj => ?_, (f1.tr f2).tr f3⟩
  · unfold fX9_lookTwice
    rw [show (1 : Int32) = nI 1 from rfl, e1, bd_s, e2, bd_s, show (10 : Int64) = lN 10 from rfl, lN_mul, lN_add]
    rfl
  · rw [l3 j hj]
    rfl
theorem s9_two {z : Nat} {σ μ : ST} {T P : Nat → Nat} {c : Sc} {n q s : Nat} (hT : RT σ μ T P) (hn : RN σ μ T c) (hn2 : n ≤ 2) (hst : c.2 1 + n ≤ T 5) (hs : s ≤ 9) (hq : q ≤ 6) (h6 : μ.1 0 6 = nI s) (h7 : μ.1 0 7 = nI q) (hz : 13 ≤ z) {w : Nat} (hw : w < 2 ^ 31) : ∃ μ', fX9_foundByTwo z μ (nI n) (nI w) = some (lN (wvN T q n c s 0 w), μ') ∧ DcM μ μ' ∧ μ'.1 = μ.1 := by
  have hi := hT.2.2
  have h5 := hi.2.2.2.2.2.2.1
  have m51 : μ.1 5 1 = nI (c.2 1) := hn.2.1.2.2.1
  have m50 : μ.1 5 0 = nI (c.2 0) := hn.2.1.2.1
  have q1 : (1 : Int32).toNatClampNeg = 1 := rfl
  have b1 : inb (1 : Int32) 9 = true := rfl
  have one : ¬ (1 : Int32) = 0 := by decide
  have loop : ∀ m k (S : ST) (d : Sc) (s v w : Nat), k ≤ n → n < k + m → LM S 1 d.1 → S.1 = μ.1 → DcM μ S → d.2 0 ≤ 9 → d.2 1 = c.2 1 + k → s ≤ 9 → w < 2 ^ 31 → ∃ μ', fX9_foundByTwo_28 z (nI n) m S (nI (d.2 0)) (nI s) (lN v) (nI w) (nI k) = some (lN (wvN T q (n - k) d s v w), μ') ∧ DcM μ μ' ∧ μ'.1 = μ.1 := by
    intro m
    induction m with
    | zero => intro k S d s v w h1 h2; omega
    | succ m ih =>
      intro k S d s v w h1 h2 hl hS hd h0 hk1 hs hw
      unfold fX9_foundByTwo_28
      by_cases hk : k = n
      · subst hk
        rw [if_pos (ple k k rfl rfl (Nat.le_refl _) (by omega)), Nat.sub_self]
        exact ⟨S, rfl, hd, hS⟩
      · obtain ⟨nk, hnk⟩ : ∃ nk, n - k = nk + 1 := ⟨n - k - 1, by omega⟩
        have hnk2 : n - (k + 1) = nk := by omega
        have ht : TM S T P := by
          unfold TM
          rw [hS]
          exact hT.2.1
        have hf3 : w % 4 ≤ 3 := by omega
        have hg2 : w / 4 % 3 ≤ 2 := by omega
        generalize hf : w % 4 = f at *
        generalize hg : w / 4 % 3 = g at *
        have hmv := mvN_le (f := g) hs
        have hs2 : s2N q d s g ≤ 9 := by unfold s2N; split <;> omega
        obtain ⟨S2, S3, a1, a2, a3, a4, a5, a6⟩ := two9_step (z := z) (p := p2N q d s g) ht hi hl h0 f (by omega) (by omega)
        obtain ⟨μ', n1, n2, n3⟩ := ih (k + 1) S3 (a2N T (p2N q d s g) d f) (s2N q d s g) (v * 1000 + f2N T (p2N q d s g) d f * 10) (w / 12) (by omega) (by omega) a5 (a4.trans hS) (hd.tr (a6.dc (by decide))) (mvN_le h0) (by show d.2 1 + 1 = _; omega) hs2 (by omega)
        refine ⟨μ', ?_, n2, n3⟩
        have ev : wvN T q (nk + 1) d s v w = wvN T q nk (a2N T (p2N q d s g) d f) (s2N q d s g) (v * 1000 + f2N T (p2N q d s g) d f * 10) (w / 12) := by
          show wvN T q nk (a2N T (p2N q d s (w / 4 % 3)) d (w % 4)) (s2N q d s (w / 4 % 3)) (v * 1000 + f2N T (p2N q d s (w / 4 % 3)) d (w % 4) * 10) (w / 12) = _
          rw [hf, hg]
        rw [hnk, ev, ← hnk2, ← n1]
        have e149 : fX9_foundByTwo_149 z (fX9_foundByTwo_28 z (nI n) m) S (nI n) (nI (mvN (d.2 0) f)) (nI (s2N q d s g)) (nI (w / 12)) (nI k) (p2N q d s g) (nI (plN d f)) 1 10 (1000 * lN v) = fX9_foundByTwo_28 z (nI n) m S3 (nI ((a2N T (p2N q d s g) d f).2 0)) (nI (s2N q d s g)) (lN (v * 1000 + f2N T (p2N q d s g) d f * 10)) (nI (w / 12)) (nI (k + 1)) := by
          unfold fX9_foundByTwo_149
          rw [a1, bd_s, b1, gd_t, q1, a3, hS, m51, nI_add, ← hk1, a2, bd_s, nI_1, show (1000 : Int64) = lN 1000 from rfl, show (10 : Int64) = lN 10 from rfl, lN_mul, lN_mul, lN_add, Nat.mul_comm 1000 v, Nat.mul_comm 10]
          rfl
        have e112 : ∀ v11 : Int32, ((d.2 1 < q ∧ v11 = 0) ∨ (¬ d.2 1 < q ∧ v11 = 1)) → fX9_foundByTwo_112 z (fX9_foundByTwo_28 z (nI n) m) S (nI n) (nI (mvN (d.2 0) f)) (lN v) (nI (w / 12)) (nI k) (nI f) v11 (nI (s2N q d s g)) = fX9_foundByTwo_28 z (nI n) m S3 (nI ((a2N T (p2N q d s g) d f).2 0)) (nI (s2N q d s g)) (lN (v * 1000 + f2N T (p2N q d s g) d f * 10)) (nI (w / 12)) (nI (k + 1)) := by
          intro v11 hv
          have e137 : ∀ pl : Int32, pl = nI (plN d f) → fX9_foundByTwo_137 z (fX9_foundByTwo_28 z (nI n) m) S (nI n) (nI (mvN (d.2 0) f)) (nI (s2N q d s g)) (nI (w / 12)) (nI k) v11 pl 1 10 (1000 * lN v) = fX9_foundByTwo_28 z (nI n) m S3 (nI ((a2N T (p2N q d s g) d f).2 0)) (nI (s2N q d s g)) (lN (v * 1000 + f2N T (p2N q d s g) d f * 10)) (nI (w / 12)) (nI (k + 1)) := by
            intro pl hpl
            unfold fX9_foundByTwo_137
            rw [hpl, ← e149]
            rcases hv with ⟨w1, w2⟩ | ⟨w1, w2⟩
            · rw [if_pos w2, show p2N q d s g = -9 from by unfold p2N; rw [if_pos w1]]
            · rw [if_neg (by rw [w2]; decide), show p2N q d s g = nI (s2N q d s g) from by unfold p2N s2N; rw [if_neg w1, if_neg w1]]
          unfold fX9_foundByTwo_112
          by_cases h3 : f = 3
          · rw [if_pos (peq (b := 3) f 3 rfl rfl h3)]
            exact e137 _ (by unfold plN; rw [if_pos h3]; rfl)
          · rw [if_neg (neq (b := 3) f 3 rfl rfl h3 (by omega) (by decide))]
            exact e137 _ (by unfold plN; rw [if_neg h3])
        have e76 : ∀ v11 : Int32, ((d.2 1 < q ∧ v11 = 0) ∨ (¬ d.2 1 < q ∧ v11 = 1)) → fX9_foundByTwo_76 z (fX9_foundByTwo_28 z (nI n) m) S (nI n) (nI (d.2 0)) (nI s) (lN v) (nI (w / 12)) (nI k) (nI f) (nI g) v11 = fX9_foundByTwo_28 z (nI n) m S3 (nI ((a2N T (p2N q d s g) d f).2 0)) (nI (s2N q d s g)) (lN (v * 1000 + f2N T (p2N q d s g) d f * 10)) (nI (w / 12)) (nI (k + 1)) := by
          intro v11 hv
          have e94 : fX9_foundByTwo_94 z (fX9_foundByTwo_28 z (nI n) m) S (nI n) (nI s) (lN v) (nI (w / 12)) (nI k) (nI f) (nI g) v11 (nI (mvN (d.2 0) f)) = fX9_foundByTwo_28 z (nI n) m S3 (nI ((a2N T (p2N q d s g) d f).2 0)) (nI (s2N q d s g)) (lN (v * 1000 + f2N T (p2N q d s g) d f * 10)) (nI (w / 12)) (nI (k + 1)) := by
            unfold fX9_foundByTwo_94
            rcases hv with ⟨w1, w2⟩ | ⟨w1, w2⟩
            · rw [if_pos w2, ← e112 v11 (Or.inl ⟨w1, w2⟩)]
              rw [show s2N q d s g = s from by unfold s2N; rw [if_pos w1]]
            · rw [if_neg (by rw [w2]; decide), s9_to hs (by omega), bd_s, ← e112 v11 (Or.inr ⟨w1, w2⟩)]
              rw [show s2N q d s g = mvN s g from by unfold s2N; rw [if_neg w1]]
          unfold fX9_foundByTwo_76
          by_cases h3 : f = 3
          · rw [if_pos (peq (b := 3) f 3 rfl rfl h3), ← e94, mvN_3 (by omega)]
          · rw [if_neg (neq (b := 3) f 3 rfl rfl h3 (by omega) (by decide)), s9_to h0 (by omega), bd_s, e94]
        rw [if_neg (nle n k rfl rfl (by omega) (by omega)), show nz (4 : Int32) = true from rfl, gd_t, gd_t, show nz (3 : Int32) = true from rfl, gd_t, show nz (12 : Int32) = true from rfl, gd_t, b1, gd_t, q1, hS, m51, h7, nI_add, ← hk1, show (4 : Int32) = nI 4 from rfl, show (3 : Int32) = nI 3 from rfl, show (12 : Int32) = nI 12 from rfl, pk_rem (d := 4) hw (by decide) (by decide), pk_div (d := 12) hw (by decide) (by decide), pk_div (d := 4) hw (by decide) (by decide), pk_rem (a := w / 4) (d := 3) (by omega) (by decide) (by decide), hf, hg]
        by_cases hc : d.2 1 < q
        · rw [if_pos (plt (d.2 1) q rfl rfl hc (by omega))]
          exact e76 0 (Or.inl ⟨hc, rfl⟩)
        · rw [if_neg (nlt (d.2 1) q rfl rfl (by omega) (by omega))]
          exact e76 1 (Or.inr ⟨hc, rfl⟩)
  obtain ⟨S, e, l1, d1, s1⟩ := a9_lay (z := z) hn.lm hz
  unfold fX9_foundByTwo
  rw [e, bd_s, show inb (0 : Int32) 9 = true from rfl, gd_t, show (0 : Int32).toNatClampNeg = 0 from rfl, s1, m50, h6]
  exact loop z 0 S c s 0 w (by omega) (by omega) l1 s1 d1 hn.2.2.1 rfl hs hw

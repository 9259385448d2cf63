/-! ===== judge ===== -/
theorem op_judge {z : Nat} {σ μ : ST} (hz : 30000 ≤ z) (h : Rel σ μ) (v1 v2 : Int32) : ∃ r σ' μ', fX8_judge z σ v1 v2 = some (r, σ') ∧ fX9_judge z μ v1 v2 = some (r, μ') ∧ Rel σ' μ' := by
  obtain ⟨T, P, sec, L, t, c, n, A, B, hT, hs, ht, hn, ha, hb, hd⟩ := id h
  have h5 := hT.2.2.2.2.2.2.2.2.1
  have one : ¬ (1 : Int32) = 0 := by decide
  have m51 : μ.1 5 1 = nI (c.2 1) := hn.2.1.2.2.1
  have m50 : μ.1 5 0 = nI (c.2 0) := hn.2.1.2.1
  have q1 : (1 : Int32).toNatClampNeg = 1 := rfl
  have b1 : inb (1 : Int32) 9 = true := rfl
  unfold fX8_judge fX9_judge fX8_judge_27 fX9_judge_28
  rw [show fX9_in z v1.toInt64 1 8 = fX8_isWithin z v1 1 8 from in_eq (a := 1) (b := 8)]
  rcases isW (z := z) v1 (a' := 1) (b' := 8) 1 8 rfl rfl (by decide) (by decide) with e | ⟨n, hn1, hn8, rfl, e⟩
  · rw [e, bd_s, bd_s, if_pos rfl, if_pos rfl]
    exact ⟨_, _, _, rfl, rfl, h⟩
  · have hp := ten_pos n
    have hp2 := ten_le hn8
    rw [e, bd_s, bd_s, if_neg one, if_neg one, s9_tenTo (by omega) (by omega), bd_s, show (1 : Int32) = nI 1 from rfl, pk_sub (by omega), show fX9_in z v2.toInt64 0 (nI (10 ^ n - 1)).toInt64 = fX8_isWithin z v2 0 (nI (10 ^ n - 1)) from in_eq (a := 0)]
    rcases isW (z := z) v2 (a' := 0) (b' := nI (10 ^ n - 1)) 0 (10 ^ n - 1) rfl rfl (by decide) (by omega) with e2 | ⟨r, -, hr, rfl, e2⟩
    · rw [e2, bd_s, if_pos rfl]
      by_cases h0 : v2 < 0
      · rw [if_pos h0]
        exact ⟨_, _, _, rfl, rfl, h⟩
      · obtain ⟨r, hr, rfl⟩ := nI_of h0
        rw [if_neg h0, show (10 : Int64) = lN 10 from rfl, s_power hn8 (by omega), bd_s, nI_l hr]
        by_cases hlt : r < 10 ^ n
        · rw [show (0 : Int32) = nI 0 from rfl, s_isWithinN hr (by decide) (by omega), if_pos ⟨Nat.zero_le _, by omega⟩] at e2
          cases e2
        · rw [if_neg (nltL r (10 ^ n) rfl rfl (by omega) (by omega))]
          exact ⟨_, _, _, rfl, rfl, h⟩
    · have loop : ∀ m k (S Q : ST), k ≤ n → n < k + m → c.2 1 + k ≤ T 5 → SX S 9 (scK T (dgN n r) c k) → TX S T P → DcX σ S → LM Q 1 (scK T (dgN n r) c k).1 → Q.1 = μ.1 → DcM μ Q → ∃ x S' Q', fX8_judge_43 z (nI n) (nI r) m S (nI k) = some (x, S') ∧ fX9_judge_47 z (nI n) (nI r) m Q (nI ((scK T (dgN n r) c k).2 0)) (nI k) = some (x, Q') ∧ DcX σ S' ∧ DcM μ Q' := by
        intro m
        induction m with
        | zero => intro k S Q h1 h2; omega
        | succ m ih =>
          intro k S Q h1 h2 hst hs ht hd hl hQ hdq
          unfold fX8_judge_43 fX9_judge_47 fX8_judge_100 fX9_judge_91
          by_cases hk : k = n
          · subst hk
            rw [if_pos (ple k k rfl rfl (Nat.le_refl _) (by omega)), if_pos (ple k k rfl rfl (Nat.le_refl _) (by omega))]
            exact ⟨_, _, _, rfl, rfl, hd, hdq⟩
          · obtain ⟨k1, k2, k3⟩ := scK_ok (fg := dgN n r) hn.2.2 hT.2.2 k hst
            have hd10 := dgN_lt n r k
            have htq : TM Q T P := by
              unfold TM
              rw [hQ]
              exact hT.2.1
            rw [if_neg (nle n k rfl rfl (by omega) (by omega)), if_neg (nle n k rfl rfl (by omega) (by omega)), s_figureOf hn8 (by omega) (by omega) (by omega), bd_s, show (1 : Int32) = nI 1 from rfl, pk_sub (by omega), pk_sub (by omega), s9_tenTo (by omega) (by omega), bd_s, nz_ten (by omega), gd_t, show nz (10 : Int32) = true from rfl, gd_t, fig9 (by omega) (by omega), show r / 10 ^ (n - 1 - k) % 10 = dgN n r k from rfl]
            by_cases h3 : 3 < dgN n r k
            · rw [if_pos (plt (a := 3) 3 (dgN n r k) rfl rfl h3 (by omega)), if_pos (plt (a := 3) 3 (dgN n r k) rfl rfl h3 (by omega))]
              exact ⟨_, _, _, rfl, rfl, hd, hdq⟩
            · have i1 : inb (nI 1) 9 = true := rfl
              have c1 : (nI 1).toNatClampNeg = 1 := rfl
              rw [if_neg (nlt (a := 3) 3 (dgN n r k) rfl rfl (by omega) (by decide)), if_neg (nlt (a := 3) 3 (dgN n r k) rfl rfl (by omega) (by decide)), ht.2.2.2.2.2.1, hs.2.2.1, k2, i1, gd_t, c1, htq.2.2.2.2.2.1, hQ, m51, nI_add (c.2 1) k]
              by_cases hlast : T 5 ≤ c.2 1 + k
              · rw [if_pos (ple (T 5) (c.2 1 + k) rfl rfl hlast (by omega)), if_neg (nlt (c.2 1 + k) (T 5) rfl rfl hlast (by omega))]
                exact ⟨_, _, _, rfl, rfl, hd, hdq⟩
              · have hpl := plN_le (f := dgN n r k) k1.1
                have hw := k1.w hT.2.2 (show plN (scK T (dgN n r) c k) (dgN n r k) < 11 by omega)
                rw [if_neg (nle (T 5) (c.2 1 + k) rfl rfl (by omega) (by omega)), if_pos (plt (c.2 1 + k) (T 5) rfl rfl (by omega) (by omega)), s_placeBy rfl hs k1.1 (by omega), bd_s, s_of rfl (by omega), bd_s, hs.1 _ (by omega)]
                -- the reference's side, once the place is known
                have e123 : ∀ sh : Int32, sh = nI (mvN ((scK T (dgN n r) c k).2 0) (dgN n r k)) → fX9_judge_110 z (fX9_judge_47 z (nI n) (nI r) m) Q (nI n) (nI r) (nI k) (nI (dgN n r k)) sh = fX9_judge_123 z (fX9_judge_47 z (nI n) (nI r) m) Q (nI n) (nI r) (nI (mvN ((scK T (dgN n r) c k).2 0) (dgN n r k))) (nI k) (nI (plN (scK T (dgN n r) c k) (dgN n r k))) := by
                  intro sh hsh
                  subst hsh
                  unfold fX9_judge_110
                  by_cases h3 : dgN n r k = 3
                  · rw [if_pos (peq (b := 3) (dgN n r k) 3 rfl rfl h3)]
                    have : plN (scK T (dgN n r) c k) (dgN n r k) = 10 := by unfold plN; rw [if_pos h3]
                    rw [this]; rfl
                  · rw [if_neg (neq (b := 3) (dgN n r k) 3 rfl rfl h3 (by omega) (by decide))]
                    have : plN (scK T (dgN n r) c k) (dgN n r k) = mvN ((scK T (dgN n r) c k).2 0) (dgN n r k) := by unfold plN; rw [if_neg h3]
                    rw [this]
                have eref : (if nI (dgN n r k) = (3 : Int32) then fX9_judge_110 z (fX9_judge_47 z (nI n) (nI r) m) Q (nI n) (nI r) (nI k) (nI (dgN n r k)) (nI ((scK T (dgN n r) c k).2 0)) else bd (fX9_to z (nI ((scK T (dgN n r) c k).2 0)) (nI (dgN n r k))) (fun u36 => fX9_judge_110 z (fX9_judge_47 z (nI n) (nI r) m) Q (nI n) (nI r) (nI k) (nI (dgN n r k)) u36)) = fX9_judge_123 z (fX9_judge_47 z (nI n) (nI r) m) Q (nI n) (nI r) (nI (mvN ((scK T (dgN n r) c k).2 0) (dgN n r k))) (nI k) (nI (plN (scK T (dgN n r) c k) (dgN n r k))) := by
                  by_cases h3 : dgN n r k = 3
                  · rw [if_pos (peq (b := 3) (dgN n r k) 3 rfl rfl h3), e123 _ (by rw [mvN_3 (by omega)])]
                  · rw [if_neg (neq (b := 3) (dgN n r k) 3 rfl rfl h3 (by omega) (by decide)), s9_to k1.1 (by omega), bd_s, e123 _ rfl]
                have eref2 := hl (plN (scK T (dgN n r) c k) (dgN n r k)) (by omega)
                rw [Nat.mul_one] at eref2
                rw [eref]
                unfold fX9_judge_123
                rw [show (11 : Int32) = nI 11 from rfl, nI_add 11 (plN (scK T (dgN n r) c k) (dgN n r k)), gd_inb (by omega) (by decide), nI_clamp (by omega), eref2]
                by_cases h0 : (scK T (dgN n r) c k).1 (plN (scK T (dgN n r) c k) (dgN n r k)) = 0
                · rw [h0, if_pos (show lN 0 = 0 from rfl), if_pos (show lN 0 = 0 from rfl)]
                  exact ⟨_, _, _, rfl, rfl, hd, hdq⟩
                · obtain ⟨S2, a1, a2, a3⟩ := a_act (z := z) (k := 9) (f := dgN n r k) rfl hs ht hT.2.2 k1.1 (by omega) (by omega) (by omega)
                  obtain ⟨Q1, Q2, g1, g2, g3, g4, g5, g6⟩ := a9_step (z := z) (c := scK T (dgN n r) c k) (st := c.2 1 + k) htq hT.2.2 hl k1.1 (dgN n r k) k2 (by omega) (by omega)
                  have s51 : Q1.1 5 1 = nI (c.2 1) := by rw [g3, hQ]; exact m51
                  have hne := neqL (b := 0) ((scK T (dgN n r) c k).1 (plN (scK T (dgN n r) c k) (dgN n r k))) 0 rfl rfl h0 (by omega) (by decide)
                  rw [if_neg hne, if_neg hne, a1, bd_s, g1, bd_s, b1, gd_t, q1, s51, nI_add (c.2 1) k, g2, bd_s, nI_1, nI_add k 1]
                  exact ih (k + 1) S2 Q2 (by omega) (by omega) (by omega) a2 (a3.tx rfl ht) (hd.tr (a3.dc ⟨rfl, rfl, rfl, rfl⟩)) g5 (g4.trans hQ) (hdq.tr (g6.dc (by decide)))
      obtain ⟨S, f1, s1, f2⟩ := a_copy (z := z) (k := 9) (k2 := 5) rfl rfl (by decide) hn.1 (by omega)
      obtain ⟨Q, g1, l1, d1, s2⟩ := a9_lay (z := z) hn.lm (by omega)
      obtain ⟨x, S', Q', r1, r2, r3, r4⟩ := loop z 0 S Q (by omega) (by omega) hn.2.2.2.1 s1 (f2.tx rfl hT.1) (f2.dc ⟨rfl, rfl, rfl, rfl⟩) l1 s2 d1
      refine ⟨x, S', Q', ?_, ?_, h.dc r3 r4⟩
      · rw [if_neg (nI_pos (by omega)), show (10 : Int64) = lN 10 from rfl, s_power hn8 (by omega), bd_s, nI_l (by omega), if_pos (pltL r (10 ^ n) rfl rfl (by omega) (by omega)), f1, bd_s]
        exact r1
      · rw [e2, bd_s, if_neg one, show fX9_lay z μ 0 (nI 1) = _ from g1, bd_s, show inb (0 : Int32) 9 = true from rfl, gd_t, show (0 : Int32).toNatClampNeg = 0 from rfl, s2, m50]
        exact r2

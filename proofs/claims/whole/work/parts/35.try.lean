/-! ===== Ahead.tryAll ===== -/
def BX (σ : ST) (k : Nat) (b : Bs) : Prop := match b with
  | none => σ.2 k 0 = -1
  | some q => σ.2 k 0 = lN q.1 ∧ σ.1 k 1 = nI q.2 ∧ q.1 < 2 ^ 63
theorem BX.eq {σ σ' : ST} {k : Nat} {b : Bs} (h : BX σ k b) (e : σ'.1 k = σ.1 k ∧ σ'.2 k = σ.2 k) : BX σ' k b := by
  cases b with
  | none => show σ'.2 k 0 = -1; rw [e.2]; exact h
  | some q => show σ'.2 k 0 = lN q.1 ∧ σ'.1 k 1 = nI q.2 ∧ q.1 < 2 ^ 63; rw [e.1, e.2]; exact h
theorem s_offer {z : Nat} {σ : ST} {k v r : Nat} {b : Bs} (hk : kX k = 1) (hb : BX σ k b) (hv : v < 2 ^ 63) : ∃ σ', fX1_offer z σ k (lN v) (nI r) = some σ' ∧ BX σ' k (ofN b (v, r)) ∧ ∀ q, q ≠ k → σ'.1 q = σ.1 q ∧ σ'.2 q = σ.2 q := by
  unfold fX1_offer fX1_offer_19
  rw [gd_k hk]
  have put : ∃ σ', lt (pL σ k 0 (lN v)) (fun s22 => lt (pI s22 k 1 (nI r)) (fun s23 => some s23)) = some σ' ∧ BX σ' k (some (v, r)) ∧ ∀ q, q ≠ k → σ'.1 q = σ.1 q ∧ σ'.2 q = σ.2 q := by
    refine ⟨_, rfl, ⟨?_, ?_, hv⟩, fun q hq => ⟨?_, ?_⟩⟩
    · rw [pI_2, pL_at]
    · rw [pI_at]
    · rw [pI_n hq, pL_2]
    · rw [pI_2, pL_n hq]
  cases b with
  | none =>
    have h : σ.2 k 0 = -1 := hb
    rw [h, if_neg]
    · exact put
    · intro q
      rw [Int64.le_iff_toInt_le, pk_lT hv] at q
      have : (-1 : Int64).toInt = -1 := rfl
      rw [this] at q
      omega
  | some p =>
    obtain ⟨h1, h2, h3⟩ : σ.2 k 0 = lN p.1 ∧ σ.1 k 1 = nI p.2 ∧ p.1 < 2 ^ 63 := hb
    rw [h1]
    unfold ofN
    simp only
    by_cases h : v ≤ p.1
    · rw [if_pos (pleL v p.1 rfl rfl h h3), if_pos h]
      exact ⟨σ, rfl, ⟨h1, h2, h3⟩, fun q _ => ⟨rfl, rfl⟩⟩
    · rw [if_neg (nleL v p.1 rfl rfl (by omega) hv), if_neg h]
      exact put
def FrT (S S' : ST) (d kb : Nat) : Prop := ∀ q, q ≠ kb → (q < 60 + 4 * (d + 1) ∨ 76 ≤ q) → S'.1 q = S.1 q ∧ S'.2 q = S.2 q
theorem k_depth : ∀ d, d < 4 → kX (60 + 4 * d) = 3 := by decide
theorem k_best : ∀ k, k < 79 → 76 ≤ k → kX k = 1 := by decide
theorem s_try {z n kb : Nat} {T P : Nat → Nat} (hi : TI T P) (hz : 30000 ≤ z) (hn4 : n ≤ 4) (hkb : 76 ≤ kb) (hkb2 : kb < 79) : ∀ (m d f row found df X : Nat) (b : Bs) (S : ST) (c : Sc), d + 1 + m = n → m < df → SX S (60 + 4 * d) c → CI T c → c.2 1 + (m + 1) ≤ T 5 → TX S T P → S.1 57 4 = nI n → f ≤ 3 → BX S kb b → sumN c.1 11 ≤ X → found ≤ d * X → X * 100 ^ (m + 1) ≤ 9900000000000000 → ∃ S', fX0_tryLook_r z df S (nI d) (nI f) (nI row) (lN found) kb = some S' ∧ BX S' kb ((enN T m (acN T c f) (row * 10 + f) (found * 100 + fnN T c f * 10)).foldl ofN b) ∧ FrT S S' d kb := by
  have hr4 : rl (58 + 1) = 4 := rfl
  have hk1 := k_best kb hkb2 hkb
  intro m
  induction m with
  | zero =>
    intro d f row found df X b S c hd hdf hs hc hst ht h57 hf hb hX hfd hB
    obtain ⟨df', rfl⟩ : ∃ df', df = df' + 1 := ⟨df - 1, by omega⟩
    have h3 := k_depth d (by omega)
    have ek : 58 + 1 + 1 + 4 * d = 60 + 4 * d := by omega
    have hfn := fnN_le (f := f) hc hi
    rw [show X * 100 ^ (0 + 1) = X * 100 from rfl] at hB
    have hd3 : d * X ≤ 3 * X := Nat.mul_le_mul_right _ (by omega)
    obtain ⟨S', e1, e2, e3⟩ := s_offer (z := z) (v := found * 100 + fnN T c f * 10) (r := row * 10 + f) hk1 hb (by omega)
    refine ⟨S', ?_, e2, fun q q1 _ => e3 q q1⟩
    show fX0_tryLook z (fX0_tryLook_r z df') S (nI d) (nI f) (nI row) (lN found) kb = some S'
    unfold fX0_tryLook
    rw [gd_k hk1, s_at (k := 58) rfl (by rw [hr4]; omega) (by rw [hr4]; decide), bd_s, nl_s, ek, gd_k h3, h57, if_pos (plt d n rfl rfl (by omega) (by omega)), s_foundNow h3 hs ht hi hc.1 (by omega), bd_s, show (1 : Int32) = nI 1 from rfl, nI_add, if_pos (by rw [show d + 1 = n from by omega]), show (100 : Int64) = lN 100 from rfl, show (10 : Int64) = lN 10 from rfl, show (10 : Int32) = nI 10 from rfl, lN_mul, lN_mul, lN_add, pk_mul, nI_add, e1, bd_s]
  | succ m ih =>
    intro d f row found df X b S c hd hdf hs hc hst ht h57 hf hb hX hfd hB
    obtain ⟨df', rfl⟩ : ∃ df', df = df' + 1 := ⟨df - 1, by omega⟩
    have h5 := hi.2.2.2.2.2.2.1
    have h3 := k_depth d (by omega)
    have h3b := k_depth (d + 1) (by omega)
    have ek : 58 + 1 + 1 + 4 * d = 60 + 4 * d := by omega
    have ek2 : 58 + 1 + 1 + 4 * (d + 1) = 60 + 4 * (d + 1) := by omega
    have hfn := fnN_le (f := f) hc hi
    obtain ⟨S1, a1, a2, a3⟩ := a_copy (z := z) (k := 60 + 4 * (d + 1)) (k2 := 60 + 4 * d) h3b h3 (by omega) hs (by omega)
    obtain ⟨S2, b1, b2, b3⟩ := a_act (z := z) (k := 60 + 4 * (d + 1)) (f := f) h3b a2 (a3.tx h3b ht) hi hc.1 (by omega) (by omega) (by omega)
    have f2 := a3.tr b3
    have hc' := hc.act (f := f) hi (by omega)
    have hX' : sumN (acN T c f).1 11 ≤ X * 100 := by
      have e1 := sum_lk (T := T) (c := c) (f := f)
      have e2 := sum_ps (T := T) (w := (lkN T c f).1) (d := decide (T 5 ≤ (lkN T c f).2 1 + 1)) hi
      show sumN (psN T (decide (T 5 ≤ (lkN T c f).2 1 + 1)) (lkN T c f).1) 11 ≤ _
      omega
    have hf' : found * 100 + fnN T c f * 10 ≤ (d + 1) * (X * 100) := by
      have e5 : (d + 1) * (X * 100) = d * X * 100 + X * 100 := by rw [Nat.add_mul, Nat.one_mul, Nat.mul_assoc]
      rw [e5]
      omega
    have hB' : X * 100 * 100 ^ (m + 1) ≤ 9900000000000000 := by
      rw [Nat.pow_succ] at hB
      rw [Nat.mul_assoc, Nat.mul_comm 100]
      exact hB
    have st1 : (acN T c f).2 1 = c.2 1 + 1 := rfl
    -- one further look
    have go : ∀ (g : Nat) (b : Bs) (Q : ST), g ≤ 3 → SX Q (60 + 4 * (d + 1)) (acN T c f) → TX Q T P → Q.1 57 4 = nI n → BX Q kb b → ∃ Q', fX0_tryLook_r z df' Q (nI (d + 1)) (nI g) (nI (row * 10 + f)) (lN (found * 100 + fnN T c f * 10)) kb = some Q' ∧ BX Q' kb ((enN T m (acN T (acN T c f) g) ((row * 10 + f) * 10 + g) ((found * 100 + fnN T c f * 10) * 100 + fnN T (acN T c f) g * 10)).foldl ofN b) ∧ FrT Q Q' (d + 1) kb ∧ SX Q' (60 + 4 * (d + 1)) (acN T c f) ∧ TX Q' T P ∧ Q'.1 57 4 = nI n := by
      intro g b Q hg hq htq h57q hbq
      obtain ⟨Q', e1, e2, e3⟩ := ih (d + 1) g (row * 10 + f) (found * 100 + fnN T c f * 10) df' (X * 100) b Q (acN T c f) (by omega) (by omega) hq hc' (by omega) htq h57q hg hbq hX' hf' hB'
      refine ⟨Q', e1, e2, e3, hq.eq (e3 _ (by omega) (by omega)).1 (e3 _ (by omega) (by omega)).2 (e3 _ (by omega) (by omega)).1 (e3 _ (by omega) (by omega)).1, htq.eq (e3 3 (by omega) (by omega)).1 (e3 4 (by omega) (by omega)).1, ?_⟩
      rw [(e3 57 (by omega) (by omega)).1]; exact h57q
    have tx2 := f2.tx h3b ht
    have s57 : S2.1 57 4 = nI n := by rw [(f2 57 (by omega) (by omega) (by omega) (by omega)).1]; exact h57
    have bx2 : BX S2 kb b := hb.eq (f2 kb (by omega) (by omega) (by omega) (by omega))
    obtain ⟨Q0, p0, p1, p2, p3, p4, p5⟩ := go 0 b S2 (by decide) b2 tx2 s57 bx2
    obtain ⟨Q1, q0, q1, q2, q3, q4, q5⟩ := go 1 _ Q0 (by decide) p3 p4 p5 p1
    obtain ⟨Q2, r0, r1, r2, r3, r4, r5⟩ := go 2 _ Q1 (by decide) q3 q4 q5 q1
    obtain ⟨Q3, t0, t1, t2, t3, t4, t5⟩ := go 3 _ Q2 (by decide) r3 r4 r5 r1
    refine ⟨Q3, ?_, ?_, fun q g1 g2 => ?_⟩
    · show fX0_tryLook z (fX0_tryLook_r z df') S (nI d) (nI f) (nI row) (lN found) kb = some Q3
      unfold fX0_tryLook
      have hne : ¬ nI (d + 1) = nI n := fun q => by have := (nI_eq (by omega) (by omega)).mp q; omega
      rw [gd_k hk1, s_at (k := 58) rfl (by rw [hr4]; omega) (by rw [hr4]; decide), bd_s, nl_s, ek, gd_k h3, h57, if_pos (plt d n rfl rfl (by omega) (by omega)), s_foundNow h3 hs ht hi hc.1 (by omega), bd_s, show (1 : Int32) = nI 1 from rfl, nI_add, if_neg hne, s_at (k := 58) (i := d + 1) rfl (by rw [hr4]; omega) (by rw [hr4]; decide), bd_s, nl_s, ek2, gd_k h3b, a1, bd_s, b1, bd_s, show (100 : Int64) = lN 100 from rfl, show (10 : Int64) = lN 10 from rfl, show (10 : Int32) = nI 10 from rfl, lN_mul, lN_mul, lN_add, pk_mul, nI_add]
      obtain ⟨z', hz'⟩ : ∃ z', z = z' + 5 := ⟨z - 5, by omega⟩
      have stp : ∀ r (g : Nat) (Q : ST), g ≤ 3 → fX0_tryLook_108 z (fX0_tryLook_r z df') (nI d) kb (nI (row * 10 + f)) (lN (found * 100 + fnN T c f * 10)) (r + 1) Q (nI g) = bd (fX0_tryLook_r z df' Q (nI (d + 1)) (nI g) (nI (row * 10 + f)) (lN (found * 100 + fnN T c f * 10)) kb) (fun u32 => fX0_tryLook_108 z (fX0_tryLook_r z df') (nI d) kb (nI (row * 10 + f)) (lN (found * 100 + fnN T c f * 10)) r u32 (nI (g + 1))) := by
        intro r g Q hg
        conv => lhs; unfold fX0_tryLook_108
        rw [if_neg (nlt (a := 3) 3 g rfl rfl hg (by decide)), show (1 : Int32) = nI 1 from rfl, nI_add, nI_add]
      have e5 : fX0_tryLook_108 z (fX0_tryLook_r z df') (nI d) kb (nI (row * 10 + f)) (lN (found * 100 + fnN T c f * 10)) (z' + 5) S2 (nI 0) = some Q3 := by
        rw [stp (z' + 4) 0 S2 (by decide), p0, bd_s, stp (z' + 3) 1 Q0 (by decide), q0, bd_s, stp (z' + 2) 2 Q1 (by decide), r0, bd_s, stp (z' + 1) 3 Q2 (by decide), t0, bd_s]
        unfold fX0_tryLook_108
        rw [if_pos (plt (a := 3) 3 (3 + 1) rfl rfl (by decide) (by decide))]
      rw [← hz'] at e5
      exact e5
    · rw [show enN T (m + 1) (acN T c f) (row * 10 + f) (found * 100 + fnN T c f * 10) = enN T m (acN T (acN T c f) 0) ((row * 10 + f) * 10 + 0) ((found * 100 + fnN T c f * 10) * 100 + fnN T (acN T c f) 0 * 10) ++ (enN T m (acN T (acN T c f) 1) ((row * 10 + f) * 10 + 1) ((found * 100 + fnN T c f * 10) * 100 + fnN T (acN T c f) 1 * 10) ++ (enN T m (acN T (acN T c f) 2) ((row * 10 + f) * 10 + 2) ((found * 100 + fnN T c f * 10) * 100 + fnN T (acN T c f) 2 * 10) ++ enN T m (acN T (acN T c f) 3) ((row * 10 + f) * 10 + 3) ((found * 100 + fnN T c f * 10) * 100 + fnN T (acN T c f) 3 * 10))) from rfl]
      rw [List.foldl_append, List.foldl_append, List.foldl_append]
      exact t1
    · have k1 := f2 q (by omega) (by omega) (by omega) (by omega)
      have k2 := p2 q g1 (by omega)
      have k3 := q2 q g1 (by omega)
      have k4 := r2 q g1 (by omega)
      have k5 := t2 q g1 (by omega)
      exact ⟨k5.1.trans (k4.1.trans (k3.1.trans (k2.1.trans k1.1))), k5.2.trans (k4.2.trans (k3.2.trans (k2.2.trans k1.2)))⟩
theorem s_clear {z : Nat} {σ : ST} {k : Nat} (hk : kX k = 1) : ∃ σ', fX1_clear z σ k = some σ' ∧ BX σ' k none ∧ ∀ q, q ≠ k → σ'.1 q = σ.1 q ∧ σ'.2 q = σ.2 q := by
  unfold fX1_clear
  rw [gd_k hk]
  refine ⟨_, rfl, ?_, fun q hq => ⟨?_, ?_⟩⟩
  · show (pI (pL σ k 0 (-1)) k 1 0).2 k 0 = -1
    rw [pI_2, pL_at]
  · rw [pI_n hq, pL_2]
  · rw [pI_2, pL_n hq]
/-- the best of those that begin in the sea -/
def seaB (T : Nat → Nat) (c : Sc) (m : Nat) : Bs := (hdN T c m 2).foldl ofN ((hdN T c m 1).foldl ofN ((hdN T c m 0).foldl ofN none))
def aboB (T : Nat → Nat) (c : Sc) (m : Nat) : Bs := (hdN T c m 3).foldl ofN none
theorem s_tryAll {z : Nat} {σ μ : ST} {T P : Nat → Nat} {c : Sc} {m : Nat} (hT : RT σ μ T P) (hn : RN σ μ T c) (hm : m ≤ 3) (hst : c.2 1 + (m + 1) ≤ T 5) (hz : 30000 ≤ z) : ∃ σ', fX0_tryAll z σ 5 (nI (m + 1)) = some σ' ∧ BX σ' 76 (seaB T c m) ∧ BX σ' 77 (aboB T c m) ∧ DcX σ σ' := by
  have hi := hT.2.2
  have hr4 : rl (58 + 1) = 4 := rfl
  have hall := all_le hn.2.2 hi hst
  obtain ⟨σ2, c1, c2, c3⟩ := s_clear (z := z) (σ := pI σ 57 4 (nI (m + 1))) (k := 76) rfl
  obtain ⟨σ3, d1, d2, d3⟩ := s_clear (z := z) (σ := σ2) (k := 77) rfl
  have sx3 : SX σ3 5 c := hn.1.eq ((d3 5 (by decide)).1.trans ((c3 5 (by decide)).1.trans (pI_n (by decide)))) ((d3 6 (by decide)).2.trans ((c3 6 (by decide)).2.trans rfl)) ((d3 7 (by decide)).1.trans ((c3 7 (by decide)).1.trans (pI_n (by decide)))) ((d3 8 (by decide)).1.trans ((c3 8 (by decide)).1.trans (pI_n (by decide))))
  obtain ⟨σ4, e1, e2, e3⟩ := a_put (z := z) (σ := σ3) (k := 58) (i := 0) rfl (by rw [hr4]; decide) (by rw [hr4]; decide) (by decide) (by decide) sx3 (by omega)
  have fr4 : ∀ q, q ≠ 57 → q ≠ 76 → q ≠ 77 → ¬ (60 ≤ q ∧ q ≤ 63) → σ4.1 q = σ.1 q ∧ σ4.2 q = σ.2 q := fun q h1 h2 h3 h4 => by
    have k1 := e3 q (by omega) (by omega) (by omega) (by omega)
    have k2 := d3 q h3
    have k3 := c3 q h2
    exact ⟨k1.1.trans (k2.1.trans (k3.1.trans (pI_n h1))), k1.2.trans (k2.2.trans (k3.2.trans rfl))⟩
  have tx4 : TX σ4 T P := hT.1.eq (fr4 3 (by decide) (by decide) (by decide) (by decide)).1 (fr4 4 (by decide) (by decide) (by decide) (by decide)).1
  have s57 : σ4.1 57 4 = nI (m + 1) := by
    rw [(e3 57 (by decide) (by decide) (by decide) (by decide)).1, (d3 57 (by decide)).1, (c3 57 (by decide)).1, pI_at]
  have b76 : BX σ4 76 none := (c2.eq (d3 76 (by decide))).eq (e3 76 (by decide) (by decide) (by decide) (by decide))
  have b77 : BX σ4 77 none := d2.eq (e3 77 (by decide) (by decide) (by decide) (by decide))
  have sx4 : SX σ4 60 c := e2
  have go : ∀ (kb g : Nat) (b : Bs) (Q : ST), (kb = 76 ∨ kb = 77) → g ≤ 3 → SX Q 60 c → TX Q T P → Q.1 57 4 = nI (m + 1) → BX Q kb b → ∃ Q', fX0_tryLook_r z 9 Q 0 (nI g) 0 0 kb = some Q' ∧ BX Q' kb ((hdN T c m g).foldl ofN b) ∧ FrT Q Q' 0 kb ∧ SX Q' 60 c ∧ TX Q' T P ∧ Q'.1 57 4 = nI (m + 1) := by
    intro kb g b Q hkb hg hq htq h57 hb
    obtain ⟨Q', g1, g2, g3⟩ := s_try (z := z) (n := m + 1) (kb := kb) hi hz (by omega) (by omega) (by omega) m 0 g 0 0 9 (sumN c.1 11) b Q c (by omega) (by omega) hq hn.2.2 hst htq h57 hg hb (Nat.le_refl _) (Nat.zero_le _) hall
    refine ⟨Q', g1, ?_, g3, hq.eq (g3 _ (by omega) (by omega)).1 (g3 _ (by omega) (by omega)).2 (g3 _ (by omega) (by omega)).1 (g3 _ (by omega) (by omega)).1, htq.eq (g3 3 (by omega) (by omega)).1 (g3 4 (by omega) (by omega)).1, ?_⟩
    · unfold hdN
      simp only [Nat.zero_mul, Nat.zero_add] at g2
      exact g2
    · rw [(g3 57 (by omega) (by omega)).1]; exact h57
  obtain ⟨Q0, p0, p1, p2, p3, p4, p5⟩ := go 76 0 none σ4 (Or.inl rfl) (by decide) sx4 tx4 s57 b76
  obtain ⟨Q1, q0, q1, q2, q3, q4, q5⟩ := go 76 1 _ Q0 (Or.inl rfl) (by decide) p3 p4 p5 p1
  obtain ⟨Q2, r0, r1, r2, r3, r4, r5⟩ := go 76 2 _ Q1 (Or.inl rfl) (by decide) q3 q4 q5 q1
  have b77b : BX Q2 77 none := ((b77.eq (p2 77 (by decide) (by decide))).eq (q2 77 (by decide) (by decide))).eq (r2 77 (by decide) (by decide))
  obtain ⟨Q3, t0, t1, t2, t3, t4, t5⟩ := go 77 3 none Q2 (Or.inr rfl) (by decide) r3 r4 r5 b77b
  refine ⟨Q3, ?_, r1.eq (t2 76 (by decide) (by decide)), t1, fun q hq => ?_⟩
  · unfold fX0_tryAll
    obtain ⟨z', hz'⟩ : ∃ z', z = z' + 5 := ⟨z - 5, by omega⟩
    have stp : ∀ r (g : Nat) (Q : ST), g ≤ 3 → fX0_tryAll_31 z (r + 1) Q (nI g) = bd (fX0_tryLook_r z 9 Q 0 (nI g) 0 0 (if g = 3 then 77 else 76)) (fun u27 => fX0_tryAll_31 z r u27 (nI (g + 1))) := by
      intro r g Q hg
      conv => lhs; unfold fX0_tryAll_31
      unfold fX0_tryAll_61
      rw [if_neg (nlt (a := 3) 3 g rfl rfl hg (by decide)), nI_1]
      by_cases h3 : g = 3
      · rw [if_pos (peq (b := 3) g 3 rfl rfl h3), if_pos h3]
      · rw [if_neg (neq (b := 3) g 3 rfl rfl h3 (by omega) (by decide)), if_neg h3]
    have e5 : fX0_tryAll_31 z (z' + 5) σ4 (nI 0) = some Q3 := by
      rw [stp (z' + 4) 0 σ4 (by decide), if_neg (by decide), p0, bd_s, stp (z' + 3) 1 Q0 (by decide), if_neg (by decide), q0, bd_s, stp (z' + 2) 2 Q1 (by decide), if_neg (by decide), r0, bd_s, stp (z' + 1) 3 Q2 (by decide), if_pos rfl, t0, bd_s]
      unfold fX0_tryAll_31
      rw [if_pos (plt (a := 3) 3 (3 + 1) rfl rfl (by decide) (by decide))]
    rw [← hz'] at e5
    rw [gd_k (show kX 5 = 3 from rfl), lt_r, c1, bd_s, d1, bd_s, show (0 : Int32) = nI 0 from rfl, e1, bd_s]
    exact e5
  · have hq2 : ¬ ((9 ≤ q ∧ q ≤ 12) ∨ (57 ≤ q ∧ q ≤ 78)) := of_decide_eq_false hq
    have k1 := fr4 q (by omega) (by omega) (by omega) (by omega)
    have k2 := p2 q (by omega) (by omega)
    have k3 := q2 q (by omega) (by omega)
    have k4 := r2 q (by omega) (by omega)
    have k5 := t2 q (by omega) (by omega)
    exact ⟨k5.1.trans (k4.1.trans (k3.1.trans (k2.1.trans k1.1))), k5.2.trans (k4.2.trans (k3.2.trans (k2.2.trans k1.2)))⟩

/-! ===== the class's trying for two ===== -/
theorem two_all {z n q d m s v : Nat} {T P : Nat → Nat} {c : Sc} {self : ST → Int32 → Int32 → Int64 → Option ST} (hi : TI T P) (hz : 30000 ≤ z) (hn2 : n ≤ 2) (hd : d < n) (hc : c.2 0 ≤ 9) (hc1 : c.2 1 ≤ 6) (hs : s ≤ 9) (hq : q ≤ 6)
    (hfin : ∀ (p : Int32) (f s' : Nat) (b : Bs) (Q S3 : ST) (K : ST → Option ST), f ≤ 3 → s' ≤ 9 → I2 Q d n q T P c b → SX S3 (60 + 4 * (d + 1)) (l2N T p c f) → FrS Q S3 (60 + 4 * (d + 1)) → ∃ Q' b', (if nI d + (1 : Int32) = S3.1 57 4 then bd (fX1_offer z S3 78 (lN (v * 1000 + f2N T p c f * 10)) (0 : Int32)) K else bd (fX4_pass z S3 (60 + 4 * (d + 1))) (fun u38 => bd (self u38 (nI d + (1 : Int32)) (nI s') (lN (v * 1000 + f2N T p c f * 10))) K)) = K Q' ∧ BX Q' 78 b' ∧ Up b b' (rvN T q m (a2N T p c f) s' (v * 1000 + f2N T p c f * 10)) ∧ FrT Q Q' d 78)
    {b : Bs} {S : ST} (h : I2 S d n q T P c b) : ∃ S' b', fX0_tryBoth z self S (nI d) (nI s) (lN v) = some S' ∧ BX S' 78 b' ∧ Up b b' (rvN T q (m + 1) c s v) ∧ FrT S S' d 78 := by
  have hr4 : rl (58 + 1) = 4 := rfl
  have one : ¬ (1 : Int32) = 0 := by decide
  have h3 := k_depth d (by omega)
  have h3b := k_depth (d + 1) (by omega)
  have ek : 58 + 1 + 1 + 4 * d = 60 + 4 * d := by omega
  have ek2 : 58 + 1 + 1 + 4 * (d + 1) = 60 + 4 * (d + 1) := by omega
  have go : ∀ (f g : Nat) (b : Bs) (Q : ST) (r63 r72 : ST → Int32 → Option ST) (v8 t0 : Int32), f ≤ 3 → g ≤ 2 → ((c.2 1 < q ∧ v8 = 0 ∧ g = 0) ∨ (¬ c.2 1 < q ∧ v8 = 1)) → ¬ t0 < nI g → I2 Q d n q T P c b → ∃ Q' b', fX0_tryBoth_84 z self r63 r72 Q (nI d) (nI s) (lN v) (60 + 4 * d) (60 + 4 * (d + 1)) v8 (nI f) (nI g) t0 (nI g) = r72 Q' (nI (g + 1)) ∧ BX Q' 78 b' ∧ Up b b' (rvN T q m (a2N T (p2N q c s g) c f) (s2N q c s g) (v * 1000 + f2N T (p2N q c s g) c f * 10)) ∧ FrT Q Q' d 78 := by
    intro f g b Q r63 r72 v8 t0 hf hg hsw hlt hQ
    have hm := mvN_le (f := g) hs
    have hp : nI 10 ≠ p2N q c s g := by
      unfold p2N
      by_cases hw : c.2 1 < q
      · rw [if_pos hw]; decide
      · rw [if_neg hw]
        intro e
        have := (nI_eq (by omega) (by omega)).mp e
        omega
    have hs2 : nI (mvN s g) = nI (s2N q c s g) ∧ s2N q c s g ≤ 9 := by
      unfold s2N
      by_cases hw : c.2 1 < q
      · rw [if_pos hw]
        have hg0 : g = 0 := by omega
        subst hg0
        exact ⟨rfl, hs⟩
      · rw [if_neg hw]
        exact ⟨rfl, hm⟩
    obtain ⟨S1, S2, S3, a1, a2, a3, a4, a5⟩ := a_two (z := z) (f := f) h3b h3 (by omega) hQ.1 hQ.2.1 hi hc (by omega) hp (by omega)
    obtain ⟨Q', b', f1, f2, f3, f4⟩ := hfin (p2N q c s g) f (s2N q c s g) b Q S3 (fun u => r72 u (nI g + 1)) hf hs2.2 hQ a4 a5
    refine ⟨Q', b', ?_, f2, f3, f4⟩
    have sx6 : SX S3 (60 + 4 * d) c := a5.sx h3b h3 (by omega) hQ.1
    have fs := f2_sum (p := p2N q c s g) (f := f) hi hc
    have e124 : fX0_tryBoth_124 z self r63 r72 S2 (nI d) (nI s) (lN v) (60 + 4 * d) (60 + 4 * (d + 1)) v8 (nI f) (nI g) (nI (s2N q c s g)) (p2N q c s g) = r72 Q' (nI (g + 1)) := by
      unfold fX0_tryBoth_124 fX0_tryBoth_203
      rw [a3, bd_s, s_together h3 (by omega) sx6.1, bd_s, s_together h3b (by omega) a4.1, bd_s, show (1000 : Int64) = lN 1000 from rfl, show (100 : Int64) = lN 100 from rfl, show (10 : Int64) = lN 10 from rfl, lN_mul, lN_mul, lN_sub (by omega), lN_mul, lN_add, show sumN c.1 11 * 100 - sumN (l2N T (p2N q c s g) c f).1 11 = f2N T (p2N q c s g) c f from by omega]
      rw [← nI_1 g]
      exact f1
    unfold fX0_tryBoth_84
    rw [if_neg hlt, s_moved hs (by omega), bd_s, a1, bd_s, a2, bd_s, hs2.1]
    rcases hsw with ⟨w1, w2, w3⟩ | ⟨w1, w2⟩
    · rw [if_pos w2]
      rw [show p2N q c s g = -9 from by unfold p2N; rw [if_pos w1]] at e124
      exact e124
    · rw [if_neg (by rw [w2]; decide)]
      rw [show p2N q c s g = nI (s2N q c s g) from by unfold p2N s2N; rw [if_neg w1, if_neg w1]] at e124
      exact e124
  obtain ⟨y, rfl⟩ : ∃ y, z = y + 5 := ⟨z - 5, by omega⟩
  have row : ∀ (f : Nat) (b : Bs) (Q : ST) (r63 : ST → Int32 → Option ST) (v8 : Int32), f ≤ 3 → ((c.2 1 < q ∧ v8 = 0) ∨ (¬ c.2 1 < q ∧ v8 = 1)) → I2 Q d n q T P c b → ∃ Q' b', fX0_tryBoth_72 (y + 5) self r63 (nI d) (nI s) (lN v) (60 + 4 * d) (60 + 4 * (d + 1)) v8 (nI f) (y + 5) Q 0 = r63 Q' (nI (f + 1)) ∧ BX Q' 78 b' ∧ Up b b' (fun x => ∃ g, g ≤ 2 ∧ rvN T q m (a2N T (p2N q c s g) c f) (s2N q c s g) (v * 1000 + f2N T (p2N q c s g) c f * 10) x) ∧ FrT Q Q' d 78 := by
    intro f b Q r63 v8 hf hsw hQ
    rcases hsw with ⟨w1, w2⟩ | ⟨w1, w2⟩
    · obtain ⟨Q0, b0, e0, x0, u0, r0⟩ := go f 0 b Q r63 (fX0_tryBoth_72 (y + 5) self r63 (nI d) (nI s) (lN v) (60 + 4 * d) (60 + 4 * (d + 1)) v8 (nI f) (y + 4)) v8 0 hf (by decide) (Or.inl ⟨w1, w2, rfl⟩) (by decide) hQ
      refine ⟨Q0, b0, ?_, x0, u0.cg (fun x => ⟨fun k => ⟨0, by decide, k⟩, fun k => ?_⟩), r0⟩
      · conv => lhs; unfold fX0_tryBoth_72
        rw [if_pos w2]
        refine Eq.trans e0 ?_
        conv => lhs; unfold fX0_tryBoth_72
        rw [if_pos w2]
        unfold fX0_tryBoth_84
        rw [if_pos (by decide), nI_1]
      · obtain ⟨g, k1, k2⟩ := k
        unfold p2N s2N at k2 ⊢
        rw [if_pos w1, if_pos w1] at *
        exact k2
    · have stp : ∀ (r g : Nat) (Q : ST), fX0_tryBoth_72 (y + 5) self r63 (nI d) (nI s) (lN v) (60 + 4 * d) (60 + 4 * (d + 1)) v8 (nI f) (r + 1) Q (nI g) = fX0_tryBoth_84 (y + 5) self r63 (fX0_tryBoth_72 (y + 5) self r63 (nI d) (nI s) (lN v) (60 + 4 * d) (60 + 4 * (d + 1)) v8 (nI f) r) Q (nI d) (nI s) (lN v) (60 + 4 * d) (60 + 4 * (d + 1)) v8 (nI f) (nI g) 2 (nI g) := by
        intro r g Q
        conv => lhs; unfold fX0_tryBoth_72
        rw [if_neg (by rw [w2]; decide)]
      obtain ⟨Q0, b0, e0, x0, u0, r0⟩ := go f 0 b Q r63 (fX0_tryBoth_72 (y + 5) self r63 (nI d) (nI s) (lN v) (60 + 4 * d) (60 + 4 * (d + 1)) v8 (nI f) (y + 4)) v8 2 hf (by decide) (Or.inr ⟨w1, w2⟩) (by decide) hQ
      have i0 := hQ.fr (by omega) r0 x0
      obtain ⟨Q1, b1, e1, x1, u1, r1⟩ := go f 1 b0 Q0 r63 (fX0_tryBoth_72 (y + 5) self r63 (nI d) (nI s) (lN v) (60 + 4 * d) (60 + 4 * (d + 1)) v8 (nI f) (y + 3)) v8 2 hf (by decide) (Or.inr ⟨w1, w2⟩) (by decide) i0
      have i1 := i0.fr (by omega) r1 x1
      obtain ⟨Q2, b2, e2, x2, u2, r2⟩ := go f 2 b1 Q1 r63 (fX0_tryBoth_72 (y + 5) self r63 (nI d) (nI s) (lN v) (60 + 4 * d) (60 + 4 * (d + 1)) v8 (nI f) (y + 2)) v8 2 hf (by decide) (Or.inr ⟨w1, w2⟩) (by decide) i1
      refine ⟨Q2, b2, ?_, x2, ((u0.tr u1).tr u2).cg (fun x => ⟨fun k => ?_, fun k => ?_⟩), (r0.tr r1).tr r2⟩
      · rw [show (0 : Int32) = nI 0 from rfl, stp (y + 4) 0, e0, stp (y + 3) (0 + 1), e1, stp (y + 2) (1 + 1), e2, stp (y + 1) (2 + 1)]
        unfold fX0_tryBoth_84
        rw [if_pos (by decide), nI_1]
      · rcases k with (k | k) | k
        · exact ⟨0, by decide, k⟩
        · exact ⟨1, by decide, k⟩
        · exact ⟨2, by decide, k⟩
      · obtain ⟨g, k1, k2⟩ := k
        have : g = 0 ∨ g = 1 ∨ g = 2 := by omega
        rcases this with rfl | rfl | rfl
        · exact Or.inl (Or.inl k2)
        · exact Or.inl (Or.inr k2)
        · exact Or.inr k2
  have all : ∀ v8 : Int32, ((c.2 1 < q ∧ v8 = 0) ∨ (¬ c.2 1 < q ∧ v8 = 1)) → ∃ S' b', fX0_tryBoth_63 (y + 5) self (nI d) (nI s) (lN v) (60 + 4 * d) (60 + 4 * (d + 1)) v8 (y + 5) S 0 = some S' ∧ BX S' 78 b' ∧ Up b b' (rvN T q (m + 1) c s v) ∧ FrT S S' d 78 := by
    intro v8 hsw
    have stp : ∀ (r f : Nat) (Q : ST), f ≤ 3 → fX0_tryBoth_63 (y + 5) self (nI d) (nI s) (lN v) (60 + 4 * d) (60 + 4 * (d + 1)) v8 (r + 1) Q (nI f) = fX0_tryBoth_72 (y + 5) self (fX0_tryBoth_63 (y + 5) self (nI d) (nI s) (lN v) (60 + 4 * d) (60 + 4 * (d + 1)) v8 r) (nI d) (nI s) (lN v) (60 + 4 * d) (60 + 4 * (d + 1)) v8 (nI f) (y + 5) Q 0 := by
      intro r f Q hf
      conv => lhs; unfold fX0_tryBoth_63
      rw [if_neg (nlt (a := 3) 3 f rfl rfl hf (by decide))]
    obtain ⟨Q0, b0, e0, x0, u0, r0⟩ := row 0 b S (fX0_tryBoth_63 (y + 5) self (nI d) (nI s) (lN v) (60 + 4 * d) (60 + 4 * (d + 1)) v8 (y + 4)) v8 (by decide) hsw h
    have i0 := h.fr (by omega) r0 x0
    obtain ⟨Q1, b1, e1, x1, u1, r1⟩ := row 1 b0 Q0 (fX0_tryBoth_63 (y + 5) self (nI d) (nI s) (lN v) (60 + 4 * d) (60 + 4 * (d + 1)) v8 (y + 3)) v8 (by decide) hsw i0
    have i1 := i0.fr (by omega) r1 x1
    obtain ⟨Q2, b2, e2, x2, u2, r2⟩ := row 2 b1 Q1 (fX0_tryBoth_63 (y + 5) self (nI d) (nI s) (lN v) (60 + 4 * d) (60 + 4 * (d + 1)) v8 (y + 2)) v8 (by decide) hsw i1
    have i2 := i1.fr (by omega) r2 x2
    obtain ⟨Q3, b3, e3, x3, u3, r3⟩ := row 3 b2 Q2 (fX0_tryBoth_63 (y + 5) self (nI d) (nI s) (lN v) (60 + 4 * d) (60 + 4 * (d + 1)) v8 (y + 1)) v8 (by decide) hsw i2
    refine ⟨Q3, b3, ?_, x3, (((u0.tr u1).tr u2).tr u3).cg (fun x => ⟨fun k => ?_, fun k => ?_⟩), ((r0.tr r1).tr r2).tr r3⟩
    · rw [show fX0_tryBoth_63 (y + 5) self (nI d) (nI s) (lN v) (60 + 4 * d) (60 + 4 * (d + 1)) v8 (y + 5) S 0 = fX0_tryBoth_63 (y + 5) self (nI d) (nI s) (lN v) (60 + 4 * d) (60 + 4 * (d + 1)) v8 (y + 4 + 1) S (nI 0) from rfl, stp (y + 4) 0 _ (by decide), e0, stp (y + 3) (0 + 1) _ (by decide), e1, stp (y + 2) (1 + 1) _ (by decide), e2, stp (y + 1) (2 + 1) _ (by decide), e3]
      unfold fX0_tryBoth_63
      rw [if_pos (by decide)]
    · rcases k with ((⟨g, k1, k2⟩ | ⟨g, k1, k2⟩) | ⟨g, k1, k2⟩) | ⟨g, k1, k2⟩
      · exact ⟨0, g, by decide, k1, k2⟩
      · exact ⟨1, g, by decide, k1, k2⟩
      · exact ⟨2, g, by decide, k1, k2⟩
      · exact ⟨3, g, by decide, k1, k2⟩
    · obtain ⟨f, g, k0, k1, k2⟩ := k
      have : f = 0 ∨ f = 1 ∨ f = 2 ∨ f = 3 := by omega
      rcases this with rfl | rfl | rfl | rfl
      · exact Or.inl (Or.inl (Or.inl ⟨g, k1, k2⟩))
      · exact Or.inl (Or.inl (Or.inr ⟨g, k1, k2⟩))
      · exact Or.inl (Or.inr ⟨g, k1, k2⟩)
      · exact Or.inr ⟨g, k1, k2⟩
  unfold fX0_tryBoth fX0_tryBoth_58
  rw [s_at (k := 58) rfl (by rw [hr4]; omega) (by rw [hr4]; decide), bd_s, nI_1, s_at (k := 58) (i := d + 1) rfl (by rw [hr4]; omega) (by rw [hr4]; decide), bd_s, nl_s, ek, gd_k h3, nl_s, ek2, gd_k h3b, h.2.2.1, if_pos (plt d n rfl rfl hd (by omega)), h.2.2.2.1, h.1.2.2.1]
  by_cases hw : c.2 1 < q
  · rw [if_pos (plt (c.2 1) q rfl rfl hw (by omega))]
    exact all 0 (Or.inl ⟨hw, rfl⟩)
  · rw [if_neg (nlt (c.2 1) q rfl rfl (by omega) (by omega))]
    exact all 1 (Or.inr ⟨hw, rfl⟩)
theorem s_two {z n q : Nat} {T P : Nat → Nat} (hi : TI T P) (hz : 30000 ≤ z) (hn2 : n ≤ 2) (hq : q ≤ 6) : ∀ (m d s v df X : Nat) (b : Bs) (S : ST) (c : Sc), d + 1 + m = n → m < df → I2 S d n q T P c b → c.2 0 ≤ 9 → s ≤ 9 → c.2 1 + (m + 1) ≤ T 5 → sumN c.1 11 ≤ X → v ≤ d * X → X * 1000 ^ (m + 1) ≤ 990000000000000000 → ∃ S' b', fX0_tryBoth_r z df S (nI d) (nI s) (lN v) = some S' ∧ BX S' 78 b' ∧ Up b b' (rvN T q (m + 1) c s v) ∧ FrT S S' d 78 := by
  have h5 := hi.2.2.2.2.2.2.1
  intro m
  induction m with
  | zero =>
    intro d s v df X b S c hd hdf h hc hs hst hX hv hB
    obtain ⟨df', rfl⟩ : ∃ df', df = df' + 1 := ⟨df - 1, by omega⟩
    refine two_all hi hz hn2 (by omega) hc (by omega) hs hq ?_ h
    intro p f s' b Q S3 K hf hs' hQ hS3 fr
    have fs := f2_sum (p := p) (f := f) hi hc
    rw [show X * 1000 ^ (0 + 1) = X * 1000 from rfl] at hB
    have hd3 : d * X ≤ 1 * X := Nat.mul_le_mul_right _ (by omega)
    have b3 : BX S3 78 b := hQ.2.2.2.2.eq (fr 78 (by omega) (by omega) (by omega) (by omega))
    obtain ⟨Q', o1, o2, o3⟩ := s_offer (z := z) (v := v * 1000 + f2N T p c f * 10) (r := 0) (show kX 78 = 1 from rfl) b3 (by omega)
    refine ⟨Q', _, ?_, o2, Up.of, fun q g1 g2 => ?_⟩
    · rw [(fr 57 (by omega) (by omega) (by omega) (by omega)).1, hQ.2.2.1, nI_1, if_pos (by rw [show d + 1 = n from by omega]), show (0 : Int32) = nI 0 from rfl, o1, bd_s]
    · have k1 := fr q (by omega) (by omega) (by omega) (by omega)
      have k2 := o3 q g1
      exact ⟨k2.1.trans k1.1, k2.2.trans k1.2⟩
  | succ m ih =>
    intro d s v df X b S c hd hdf h hc hs hst hX hv hB
    obtain ⟨df', rfl⟩ : ∃ df', df = df' + 1 := ⟨df - 1, by omega⟩
    refine two_all hi hz hn2 (by omega) hc (by omega) hs hq ?_ h
    intro p f s' b Q S3 K hf hs' hQ hS3 fr
    have h3b := k_depth (d + 1) (by omega)
    have fs := f2_sum (p := p) (f := f) hi hc
    have b3 : BX S3 78 b := hQ.2.2.2.2.eq (fr 78 (by omega) (by omega) (by omega) (by omega))
    have st1 : (l2N T p c f).2 1 = c.2 1 := rfl
    obtain ⟨S4, e1, e2, e3⟩ := a_pass (z := z) h3b hS3 (fr.tx h3b hQ.2.1) hi (by omega) (by omega)
    have f4 := fr.tr e3
    have g57 := (f4 57 (by omega) (by omega) (by omega) (by omega)).1
    have g3 := (f4 3 (by omega) (by omega) (by omega) (by omega)).1
    have i4 : I2 S4 (d + 1) n q T P (a2N T p c f) b := ⟨e2, f4.tx h3b hQ.2.1, by rw [g57]; exact hQ.2.2.1, by rw [g3]; exact hQ.2.2.2.1, hQ.2.2.2.2.eq (f4 78 (by omega) (by omega) (by omega) (by omega))⟩
    have s1 := sum_l2 (T := T) (p := p) (c := c) (f := f)
    have s2 : sumN (a2N T p c f).1 11 ≤ sumN (l2N T p c f).1 11 * 10 := sum_ps hi
    have e5 : (d + 1) * (X * 1000) = d * X * 1000 + X * 1000 := by rw [Nat.add_mul, Nat.one_mul, Nat.mul_assoc]
    have hB' : X * 1000 * 1000 ^ (m + 1) ≤ 990000000000000000 := by
      rw [Nat.pow_succ] at hB
      rw [Nat.mul_assoc, Nat.mul_comm 1000]
      exact hB
    have st2 : (a2N T p c f).2 1 = c.2 1 + 1 := rfl
    have st0 : (a2N T p c f).2 0 = mvN (c.2 0) f := rfl
    have hmv := mvN_le (f := f) hc
    obtain ⟨Q', b', o1, o2, o3, o4⟩ := ih (d + 1) s' (v * 1000 + f2N T p c f * 10) df' (X * 1000) b S4 (a2N T p c f) (by omega) (by omega) i4 (by omega) hs' (by omega) (by omega) (by rw [e5]; omega) hB'
    refine ⟨Q', b', ?_, o2, o3, fun q g1 g2 => ?_⟩
    · have hne : ¬ nI (d + 1) = nI n := fun q => by have := (nI_eq (by omega) (by omega)).mp q; omega
      rw [(fr 57 (by omega) (by omega) (by omega) (by omega)).1, hQ.2.2.1, nI_1, if_neg hne, e1, bd_s, o1, bd_s]
    · have k1 := f4 q (by omega) (by omega) (by omega) (by omega)
      have k2 := o4 q g1 (by omega)
      exact ⟨k2.1.trans k1.1, k2.2.trans k1.2⟩

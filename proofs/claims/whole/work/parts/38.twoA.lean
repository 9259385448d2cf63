/-! ===== two of them look ===== -/
/-- where the second is after a step, and where it looks -/
def s2N (q : Nat) (c : Sc) (s g : Nat) : Nat := if c.2 1 < q then s else mvN s g
def p2N (q : Nat) (c : Sc) (s g : Nat) : Int32 := if c.2 1 < q then -9 else nI (mvN s g)
def l2N (T : Nat → Nat) (p : Int32) (c : Sc) (f : Nat) : Sc := (fun j => (lkN T c f).1 j * (10 - lsN T p j), (lkN T c f).2)
def a2N (T : Nat → Nat) (p : Int32) (c : Sc) (f : Nat) : Sc := paN T (l2N T p c f)
def f2N (T : Nat → Nat) (p : Int32) (c : Sc) (f : Nat) : Nat := 10 * fnN T c f + sumN (fun j => (lkN T c f).1 j * lsN T p j) 11
theorem lk_ls {T : Nat → Nat} {c : Sc} {f j : Nat} (hc : c.2 0 ≤ 9) (hj : j < 11) : (lkN T c f).1 j = c.1 j * (10 - lsN T (nI (plN c f)) j) := by
  have hp := plN_le (f := f) hc
  rw [lsN_n (by omega) (by omega)]
  show c.1 j * (if j = plN c f then 10 - chN T (plN c f) else 10) = _
  by_cases h : j = plN c f
  · rw [if_pos h, if_pos h, h]
  · rw [if_neg h, if_neg h]
theorem f2_sum {T P : Nat → Nat} {p : Int32} {c : Sc} {f : Nat} (hi : TI T P) (hc : c.2 0 ≤ 9) : sumN (l2N T p c f).1 11 + f2N T p c f = sumN c.1 11 * 100 := by
  have hp := plN_le (f := f) hc
  have e1 : fnN T c f = sumN (fun j => c.1 j * lsN T (nI (plN c f)) j) 11 := by
    unfold fnN
    rw [← sum_one (w := c.1) (v := chN T) (show plN c f < 11 by omega)]
    exact sumN_congr (fun j hj => by rw [lsN_n (by omega) (by omega)])
  have e2 : 10 * fnN T c f = sumN (fun j => c.1 j * lsN T (nI (plN c f)) j * 10) 11 := by rw [sumN_mul, e1, Nat.mul_comm]
  unfold f2N
  rw [e2, ← sumN_mul, ← sumN_add, ← sumN_add]
  refine sumN_congr (fun j hj => ?_)
  show (lkN T c f).1 j * (10 - lsN T p j) + (c.1 j * lsN T (nI (plN c f)) j * 10 + (lkN T c f).1 j * lsN T p j) = c.1 j * 100
  rw [lk_ls hc hj]
  have h1 := lsN_le hi p j
  have h2 := lsN_le hi (nI (plN c f)) j
  generalize lsN T p j = a at *
  generalize lsN T (nI (plN c f)) j = b at *
  generalize c.1 j = w at *
  have e3 : w * (10 - b) * (10 - a) + w * (10 - b) * a = w * (10 - b) * 10 := by rw [← Nat.mul_add]; congr 1; omega
  have e4 : w * (10 - b) + w * b = w * 10 := by rw [← Nat.mul_add]; congr 1; omega
  omega
/-- what some way of n steps comes to -/
def rvN (T : Nat → Nat) (q : Nat) : Nat → Sc → Nat → Nat → Nat → Prop
  | 0, _, _, v, x => x = v
  | n + 1, c, s, v, x => ∃ f g, f ≤ 3 ∧ g ≤ 2 ∧ rvN T q n (a2N T (p2N q c s g) c f) (s2N q c s g) (v * 1000 + f2N T (p2N q c s g) c f * 10) x
/-- a best goes up by what is offered -/
def Up (b b' : Bs) (R : Nat → Prop) : Prop := (∀ p, b = some p → ∃ p', b' = some p' ∧ p.1 ≤ p'.1) ∧ (∀ x, R x → ∃ p', b' = some p' ∧ x ≤ p'.1) ∧ ∀ p', b' = some p' → (∃ p, b = some p ∧ p.1 = p'.1) ∨ R p'.1
theorem Up.rf {b : Bs} : Up b b (fun _ => False) := ⟨fun p h => ⟨p, h, Nat.le_refl _⟩, fun _ h => h.elim, fun p h => Or.inl ⟨p, h, rfl⟩⟩
theorem Up.tr {a b d : Bs} {R S : Nat → Prop} (h1 : Up a b R) (h2 : Up b d S) : Up a d (fun x => R x ∨ S x) := by
  refine ⟨fun p hp => ?_, fun x hx => ?_, fun p hp => ?_⟩
  · obtain ⟨p1, e1, l1⟩ := h1.1 p hp
    obtain ⟨p2, e2, l2⟩ := h2.1 p1 e1
    exact ⟨p2, e2, Nat.le_trans l1 l2⟩
  · rcases hx with hx | hx
    · obtain ⟨p1, e1, l1⟩ := h1.2.1 x hx
      obtain ⟨p2, e2, l2⟩ := h2.1 p1 e1
      exact ⟨p2, e2, Nat.le_trans l1 l2⟩
    · exact h2.2.1 x hx
  · rcases h2.2.2 p hp with ⟨p1, e1, l1⟩ | h
    · rcases h1.2.2 p1 e1 with ⟨p0, e0, l0⟩ | h
      · exact Or.inl ⟨p0, e0, l0.trans l1⟩
      · exact Or.inr (Or.inl (l1 ▸ h))
    · exact Or.inr (Or.inr h)
theorem Up.cg {a b : Bs} {R S : Nat → Prop} (h : Up a b R) (e : ∀ x, R x ↔ S x) : Up a b S := ⟨h.1, fun x hx => h.2.1 x ((e x).mpr hx), fun p hp => (h.2.2 p hp).imp id (fun g => (e _).mp g)⟩
theorem Up.of {b : Bs} {v r : Nat} : Up b (ofN b (v, r)) (fun x => x = v) := by
  cases b with
  | none => exact ⟨fun p h => (by cases h), fun x h => ⟨(v, r), rfl, by rw [h]; exact Nat.le_refl _⟩, fun p h => Or.inr (by rw [← Option.some.inj h])⟩
  | some q =>
    unfold ofN
    simp only
    by_cases h : v ≤ q.1
    · rw [if_pos h]
      exact ⟨fun p hp => ⟨p, hp, Nat.le_refl _⟩, fun x hx => ⟨q, rfl, by omega⟩, fun p hp => Or.inl ⟨p, hp, rfl⟩⟩
    · rw [if_neg h]
      exact ⟨fun p hp => ⟨(v, r), rfl, by rw [← Option.some.inj hp]; show q.1 ≤ v; omega⟩, fun x hx => ⟨(v, r), rfl, by rw [hx]; exact Nat.le_refl _⟩, fun p h => Or.inr (by rw [← Option.some.inj h])⟩
theorem sum_l2 {T : Nat → Nat} {p : Int32} {c : Sc} {f : Nat} : sumN (l2N T p c f).1 11 ≤ sumN c.1 11 * 100 := by
  have h1 := sum_lk (T := T) (c := c) (f := f)
  have h2 : sumN (l2N T p c f).1 11 ≤ sumN (fun j => (lkN T c f).1 j * 10) 11 := sumN_le (fun j _ => Nat.mul_le_mul_left _ (Nat.sub_le _ _))
  rw [sumN_mul] at h2
  omega
/-- what holds all the while -/
def I2 (Q : ST) (d n q : Nat) (T P : Nat → Nat) (c : Sc) (b : Bs) : Prop := SX Q (60 + 4 * d) c ∧ TX Q T P ∧ Q.1 57 4 = nI n ∧ Q.1 3 7 = nI q ∧ BX Q 78 b
theorem I2.fr {Q Q' : ST} {d n q : Nat} {T P : Nat → Nat} {c : Sc} {b b' : Bs} (h : I2 Q d n q T P c b) (hd : d < 4) (f : FrT Q Q' d 78) (hb : BX Q' 78 b') : I2 Q' d n q T P c b' := by
  obtain ⟨h1, h2, h3, h4, -⟩ := h
  refine ⟨h1.eq (f _ (by omega) (by omega)).1 (f _ (by omega) (by omega)).2 (f _ (by omega) (by omega)).1 (f _ (by omega) (by omega)).1, h2.eq (f 3 (by omega) (by omega)).1 (f 4 (by omega) (by omega)).1, ?_, ?_, hb⟩
  · rw [(f 57 (by omega) (by omega)).1]; exact h3
  · rw [(f 3 (by omega) (by omega)).1]; exact h4
theorem FrT.rf {S : ST} {d kb : Nat} : FrT S S d kb := fun _ _ _ => ⟨rfl, rfl⟩
theorem FrT.tr {a b c : ST} {d kb : Nat} (h1 : FrT a b d kb) (h2 : FrT b c d kb) : FrT a c d kb := fun q h g => ⟨(h2 q h g).1.trans (h1 q h g).1, (h2 q h g).2.trans (h1 q h g).2⟩
/-- the scene behind both looks -/
theorem a_two {z : Nat} {S : ST} {k k2 f : Nat} {c : Sc} {T P : Nat → Nat} {p : Int32} (hk : kX k = 3) (hk2 : kX k2 = 3) (hn : k ≠ k2) (hs : SX S k2 c) (ht : TX S T P) (hi : TI T P) (hc : c.2 0 ≤ 9) (hf : f < 2 ^ 31) (hp : nI 10 ≠ p) (hz : 13 ≤ z) : ∃ S1 S2 S3, fX4_copy z S k k2 = some S1 ∧ fX4_lookBy z S1 k (nI f) = some S2 ∧ fX4_lessen z S2 k p ((10 : Int32) - (S2.1 3 2)) = some S3 ∧ SX S3 k (l2N T p c f) ∧ FrS S S3 k := by
  obtain ⟨S1, a1, a2, a3⟩ := a_copy (z := z) hk hk2 hn hs (by omega)
  obtain ⟨S2, b1, b2, b3⟩ := s_lookBy (z := z) hk a2 (a3.tx hk ht) hi hc hf (by omega)
  have t2 : S2.1 3 2 = nI (T 2) := (b3.tx hk (a3.tx hk ht)).2.2.1
  have hT2 := hi.2.2.2.1
  have k1 := kSX4_1 hk
  have k2' := kSX4_2 hk
  have k3 := kSX4_3 hk
  refine ⟨S1, S2, _, a1, b1, s_lessen hk (by omega), ⟨fun j hj => ?_, b2.2.1, b2.2.2.1, b2.2.2.2.1, b2.2.2.2.2⟩, (a3.tr b3).tr (FrS.of (fun q q0 q1 q2 q3 => ⟨rfl, regL_ne q1⟩))⟩
  rw [regL_in (Nat.zero_le _) (by omega), Nat.sub_zero, b2.1 j hj, t2, show (10 : Int32) = nI 10 from rfl, pk_sub (by omega), nI_l (by omega)]
  show lN ((lkN T c f).1 j) * (if nI j = p then lN (10 - T 2) else 10) = lN ((lkN T c f).1 j * (10 - lsN T p j))
  unfold lsN
  by_cases h : nI j = p
  · have h10 : j ≠ 10 := fun e => hp (by rw [← h, e])
    rw [if_pos h, if_pos h, lN_mul]
    unfold chN
    rw [if_neg h10]
  · rw [if_neg h, if_neg h, show (10 : Int64) = lN 10 from rfl, lN_mul]

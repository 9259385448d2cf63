/-! ===== how the class's cells and the reference's go together ===== -/
/-- a scene as the reference has it: weights at wa from wo, numbers at na from no -/
def RM (μ : ST) (wa wo na no : Nat) (c : Sc) : Prop := (∀ j, j < 11 → μ.2 wa (wo + j) = lN (c.1 j)) ∧ μ.1 na no = nI (c.2 0) ∧ μ.1 na (no + 1) = nI (c.2 1) ∧ μ.1 na (no + 2) = nI (c.2 2) ∧ ∀ w, w < 2 → w < c.2 2 → μ.1 na (no + 3 + 3 * w) = nI (c.2 (3 + 2 * w)) ∧ μ.1 na (no + 4 + 3 * w) = nI (c.2 (4 + 2 * w))
/-- what holds of every scene -/
def CI (T : Nat → Nat) (c : Sc) : Prop := c.2 0 ≤ 9 ∧ c.2 1 ≤ T 5 ∧ c.2 2 ≤ 2 ∧ (∀ w, w < 2 → w < c.2 2 → c.2 (3 + 2 * w) ≤ c.2 (4 + 2 * w) ∧ c.2 (4 + 2 * w) ≤ 9) ∧ sumN c.1 11 ≤ 99 * 10 ^ c.2 2 * 100 ^ c.2 1
def RT (σ μ : ST) (T P : Nat → Nat) : Prop := TX σ T P ∧ TM μ T P ∧ TI T P
def RS (σ μ : ST) (sec : Option (Nat × Nat)) : Prop := match sec with
  | none => σ.1 3 6 = -9 ∧ μ.1 0 8 = 0
  | some q => σ.1 3 6 = nI q.1 ∧ σ.1 3 7 = nI q.2 ∧ q.1 ≤ 9 ∧ q.2 ≤ 6 ∧ μ.1 0 8 = 1 ∧ μ.1 0 6 = nI q.1 ∧ μ.1 0 7 = nI q.2
def RX (σ μ : ST) (L : Nat) (t : Nat → Nat) : Prop := σ.1 1 1 = nI L ∧ μ.1 0 17 = nI L ∧ L ≤ 40 ∧ ∀ j, j < L → σ.1 2 j = nI (t j) ∧ μ.1 6 j = nI (t j) ∧ t j ≤ 255
def RN (σ μ : ST) (T : Nat → Nat) (c : Sc) : Prop := SX σ 5 c ∧ RM μ 4 0 5 0 c ∧ CI T c
def RA (σ μ : ST) (T : Nat → Nat) (c : Sc) (n : Nat) (A : Nat → Sc) : Prop := σ.1 0 9 = nI n ∧ μ.1 0 21 = nI n ∧ n ≤ c.2 1 + c.2 2 ∧ ∀ k, k < n → SX σ (15 + 4 * k) (A k) ∧ RM μ 8 (11 * k) 9 (9 * k) (A k) ∧ CI T (A k) ∧ k ≤ (A k).2 1 + (A k).2 2
def bitB (b : Option Sc) : Nat := match b with
  | none => 0
  | some _ => 1
def RB (σ μ : ST) (T : Nat → Nat) (B : Nat → Option Sc) : Prop := σ.1 0 8 = nI (bitB (B 0) + 2 * bitB (B 1)) ∧ ∀ s, s < 2 → μ.1 10 s = nI (bitB (B s)) ∧ ∀ d, B s = some d → SX σ (49 + 4 * s) d ∧ RM μ 11 (11 * s) 12 (9 * s) d ∧ CI T d
def RD (σ μ : ST) : Prop := σ.2 79 0 = μ.2 0 25
def Rel (σ μ : ST) : Prop := ∃ (T P : Nat → Nat) (sec : Option (Nat × Nat)) (L : Nat) (t : Nat → Nat) (c : Sc) (n : Nat) (A : Nat → Sc) (B : Nat → Option Sc), RT σ μ T P ∧ RS σ μ sec ∧ RX σ μ L t ∧ RN σ μ T c ∧ RA σ μ T c n A ∧ RB σ μ T B ∧ RD σ μ
/-! what may be another without anybody's noticing -/
def dcq (q : Nat) : Bool := decide ((9 ≤ q ∧ q ≤ 12) ∨ (57 ≤ q ∧ q ≤ 78))
def DcX (σ σ' : ST) : Prop := ∀ q, dcq q = false → σ'.1 q = σ.1 q ∧ σ'.2 q = σ.2 q
def DcM (μ μ' : ST) : Prop := (∀ q, q ≠ 0 → μ'.1 q = μ.1 q) ∧ (∀ j, j ≠ 24 → μ'.1 0 j = μ.1 0 j) ∧ (∀ q, q ≠ 4 → q ≠ 7 → μ'.2 q = μ.2 q) ∧ ∀ j, j < 11 → μ'.2 4 j = μ.2 4 j
theorem DcX.rf {σ : ST} : DcX σ σ := fun _ _ => ⟨rfl, rfl⟩
theorem DcX.tr {a b c : ST} (h1 : DcX a b) (h2 : DcX b c) : DcX a c := fun q h => ⟨(h2 q h).1.trans (h1 q h).1, (h2 q h).2.trans (h1 q h).2⟩
theorem DcM.rf {μ : ST} : DcM μ μ := ⟨fun _ _ => rfl, fun _ _ => rfl, fun _ _ _ => rfl, fun _ _ => rfl⟩
theorem DcM.tr {a b c : ST} (h1 : DcM a b) (h2 : DcM b c) : DcM a c := ⟨fun q h => (h2.1 q h).trans (h1.1 q h), fun q h => (h2.2.1 q h).trans (h1.2.1 q h), fun q h g => (h2.2.2.1 q h g).trans (h1.2.2.1 q h g), fun q h => (h2.2.2.2 q h).trans (h1.2.2.2 q h)⟩
theorem FrS.dc {σ σ' : ST} {k : Nat} (h : FrS σ σ' k) (hd : dcq k = true ∧ dcq (k + 1) = true ∧ dcq (k + 2) = true ∧ dcq (k + 3) = true) : DcX σ σ' := fun q hq => h q (fun e => by rw [e, hd.1] at hq; cases hq) (fun e => by rw [e, hd.2.1] at hq; cases hq) (fun e => by rw [e, hd.2.2.1] at hq; cases hq) (fun e => by rw [e, hd.2.2.2] at hq; cases hq)
theorem FrL.dc {μ μ' : ST} {lv : Nat} (h : FrL μ μ' lv) (hl : 1 ≤ lv) : DcM μ μ' := ⟨fun q _ => by rw [h.1], fun j _ => by rw [h.1], h.2.1, fun j hj => h.2.2 j (by omega)⟩
theorem SX.eq {σ σ' : ST} {k : Nat} {c : Sc} (h : SX σ k c) (e0 : σ'.1 k = σ.1 k) (e1 : σ'.2 (k + 1) = σ.2 (k + 1)) (e2 : σ'.1 (k + 2) = σ.1 (k + 2)) (e3 : σ'.1 (k + 3) = σ.1 (k + 3)) : SX σ' k c := by
  unfold SX at *
  rw [e0, e1, e2, e3]
  exact h
theorem SX.dc {σ σ' : ST} {k : Nat} {c : Sc} (h : SX σ k c) (hd : DcX σ σ') (h0 : dcq k = false) (h1 : dcq (k + 1) = false) (h2 : dcq (k + 2) = false) (h3 : dcq (k + 3) = false) : SX σ' k c := h.eq (hd k h0).1 (hd _ h1).2 (hd _ h2).1 (hd _ h3).1
theorem RM.eq {μ μ' : ST} {wa wo na no : Nat} {c : Sc} (h : RM μ wa wo na no c) (e1 : ∀ j, j < 11 → μ'.2 wa (wo + j) = μ.2 wa (wo + j)) (e2 : ∀ j, j < 9 → μ'.1 na (no + j) = μ.1 na (no + j)) : RM μ' wa wo na no c := by
  refine ⟨fun j hj => (e1 j hj).trans (h.1 j hj), (e2 0 (by omega)).trans h.2.1, (e2 1 (by omega)).trans h.2.2.1, (e2 2 (by omega)).trans h.2.2.2.1, fun w h1 h2 => ?_⟩
  have g := h.2.2.2.2 w h1 h2
  refine ⟨?_, ?_⟩
  · have := e2 (3 + 3 * w) (by omega)
    rw [← Nat.add_assoc] at this
    exact this.trans g.1
  · have := e2 (4 + 3 * w) (by omega)
    rw [← Nat.add_assoc] at this
    exact this.trans g.2
theorem dcq_f {q : Nat} (h : ¬ ((9 ≤ q ∧ q ≤ 12) ∨ (57 ≤ q ∧ q ≤ 78))) : dcq q = false := decide_eq_false h
theorem TX.eq {σ σ' : ST} {T P : Nat → Nat} (h : TX σ T P) (e3 : σ'.1 3 = σ.1 3) (e4 : σ'.1 4 = σ.1 4) : TX σ' T P := by
  unfold TX at *
  rw [e3, e4]
  exact h
theorem TM.eq {μ μ' : ST} {T P : Nat → Nat} (h : TM μ T P) (e0 : ∀ j, j ≤ 5 → μ'.1 0 j = μ.1 0 j) (e1 : μ'.1 1 = μ.1 1) : TM μ' T P := by
  unfold TM at *
  rw [e0 0 (by omega), e0 1 (by omega), e0 2 (by omega), e0 3 (by omega), e0 4 (by omega), e0 5 (by omega), e1]
  exact h
theorem RS.eq {σ σ' μ μ' : ST} {sec : Option (Nat × Nat)} (h : RS σ μ sec) (e3 : σ'.1 3 = σ.1 3) (e0 : ∀ j, 6 ≤ j → j ≤ 8 → μ'.1 0 j = μ.1 0 j) : RS σ' μ' sec := by
  unfold RS at *
  cases sec with
  | none => exact ⟨by rw [e3]; exact h.1, by rw [e0 8 (by omega) (by omega)]; exact h.2⟩
  | some q =>
    simp only at h ⊢
    rw [e3, e0 8 (by omega) (by omega), e0 6 (by omega) (by omega), e0 7 (by omega) (by omega)]
    exact h
theorem RX.eq {σ σ' μ μ' : ST} {L : Nat} {t : Nat → Nat} (h : RX σ μ L t) (e1 : σ'.1 1 1 = σ.1 1 1) (e2 : σ'.1 2 = σ.1 2) (e0 : μ'.1 0 17 = μ.1 0 17) (e6 : μ'.1 6 = μ.1 6) : RX σ' μ' L t := by
  unfold RX at *
  rw [e1, e2, e0, e6]
  exact h
theorem Rel.dc {σ σ' μ μ' : ST} (h : Rel σ μ) (hx : DcX σ σ') (hm : DcM μ μ') : Rel σ' μ' := by
  obtain ⟨T, P, sec, L, t, c, n, A, B, ⟨h1, h2, h3⟩, hs, ht, ⟨n1, n2, n3⟩, ⟨a1, a2, a3, a4⟩, ⟨b1, b2⟩, hd⟩ := h
  have hn : n ≤ 8 := by
    have := n3.2.1; have := n3.2.2.1; have := h3.2.2.2.2.2.2.1
    omega
  refine ⟨T, P, sec, L, t, c, n, A, B, ⟨h1.eq (hx 3 rfl).1 (hx 4 rfl).1, h2.eq (fun j hj => hm.2.1 j (by omega)) (hm.1 1 (by decide)), h3⟩, hs.eq (hx 3 rfl).1 (fun j _ _ => hm.2.1 j (by omega)), ht.eq (by rw [(hx 1 rfl).1]) (hx 2 rfl).1 (hm.2.1 17 (by decide)) (hm.1 6 (by decide)), ⟨n1.dc hx rfl rfl rfl rfl, n2.eq (fun j hj => by rw [Nat.zero_add]; exact hm.2.2.2 j hj) (fun j _ => by rw [hm.1 5 (by decide)]), n3⟩, ⟨by rw [(hx 0 rfl).1]; exact a1, (hm.2.1 21 (by decide)).trans a2, a3, fun k hk => ?_⟩, ⟨by rw [(hx 0 rfl).1]; exact b1, fun s hs => ?_⟩, ?_⟩
  · obtain ⟨g1, g2, g3, g4⟩ := a4 k hk
    exact ⟨g1.dc hx (dcq_f (by omega)) (dcq_f (by omega)) (dcq_f (by omega)) (dcq_f (by omega)), g2.eq (fun j _ => by rw [hm.2.2.1 8 (by decide) (by decide)]) (fun j _ => by rw [hm.1 9 (by decide)]), g3, g4⟩
  · obtain ⟨g1, g2⟩ := b2 s hs
    refine ⟨by rw [hm.1 10 (by decide)]; exact g1, fun d hd => ?_⟩
    obtain ⟨k1, k2, k3⟩ := g2 d hd
    exact ⟨k1.dc hx (dcq_f (by omega)) (dcq_f (by omega)) (dcq_f (by omega)) (dcq_f (by omega)), k2.eq (fun j _ => by rw [hm.2.2.1 11 (by decide) (by decide)]) (fun j _ => by rw [hm.1 12 (by decide)]), k3⟩
  · unfold RD at *
    rw [(hx 79 rfl).2, hm.2.2.1 0 (by decide) (by decide)]
    exact hd
/-- a scene's weights stay far from the ends of long -/
theorem CI.le {T P : Nat → Nat} {c : Sc} (h : CI T c) (hi : TI T P) : sumN c.1 11 ≤ 9900 * 100 ^ c.2 1 := by
  refine Nat.le_trans h.2.2.2.2 (Nat.mul_le_mul_right _ ?_)
  have : (10 : Nat) ^ c.2 2 ≤ 10 ^ 2 := Nat.pow_le_pow_right (by decide) h.2.2.1
  omega
theorem CI.le2 {T P : Nat → Nat} {c : Sc} (h : CI T c) (hi : TI T P) : sumN c.1 11 ≤ 9900000000000000 := by
  refine Nat.le_trans (h.le hi) ?_
  have h6 : c.2 1 ≤ 6 := Nat.le_trans h.2.1 hi.2.2.2.2.2.2.1
  have : (100 : Nat) ^ c.2 1 ≤ 100 ^ 6 := Nat.pow_le_pow_right (by decide) h6
  omega
theorem CI.w {T P : Nat → Nat} {c : Sc} (h : CI T c) (hi : TI T P) {j : Nat} (hj : j < 11) : c.1 j ≤ 9900000000000000 := Nat.le_trans (sumN_mem hj) (h.le2 hi)

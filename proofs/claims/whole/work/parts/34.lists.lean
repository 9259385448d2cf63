/-! ===== the best of all rows ===== -/
abbrev Bs : Type := Option (Nat × Nat)
/-- a chance and its row are offered -/
def ofN (b : Bs) (q : Nat × Nat) : Bs := match b with
  | none => some q
  | some p => if q.1 ≤ p.1 then some p else some q
/-- all rows of m looks more, in their order -/
def enN (T : Nat → Nat) : Nat → Sc → Nat → Nat → List (Nat × Nat)
  | 0, _, row, found => [(found, row)]
  | m + 1, c, row, found => enN T m (acN T c 0) (row * 10) (found * 100 + fnN T c 0 * 10) ++ (enN T m (acN T c 1) (row * 10 + 1) (found * 100 + fnN T c 1 * 10) ++ (enN T m (acN T c 2) (row * 10 + 2) (found * 100 + fnN T c 2 * 10) ++ enN T m (acN T c 3) (row * 10 + 3) (found * 100 + fnN T c 3 * 10)))
theorem scK_congr {T fg fg2 : Nat → Nat} {c : Sc} : ∀ k, (∀ j, j < k → fg j = fg2 j) → scK T fg c k = scK T fg2 c k ∧ vlK T fg c k = vlK T fg2 c k
  | 0, _ => ⟨rfl, rfl⟩
  | k + 1, h => by
    obtain ⟨h1, h2⟩ := scK_congr (T := T) (fg := fg) (fg2 := fg2) (c := c) k (fun j hj => h j (by omega))
    have h3 := h k (by omega)
    unfold scK vlK
    rw [h1, h2, h3]
    exact ⟨rfl, rfl⟩
/-- the figures of a longer row -/
theorem dg_snoc {l p d : Nat} (hd : d < 10) : (∀ j, j < l → dgN (l + 1) (p * 10 + d) j = dgN l p j) ∧ dgN (l + 1) (p * 10 + d) l = d := by
  constructor
  · intro j hj
    unfold dgN
    have e : l + 1 - 1 - j = (l - 1 - j) + 1 := by omega
    rw [e, Nat.pow_succ, Nat.mul_comm (10 ^ (l - 1 - j)) 10, ← Nat.div_div_eq_div_mul]
    have : (p * 10 + d) / 10 = p := by omega
    rw [this]
  · unfold dgN
    have e : l + 1 - 1 - l = 0 := by omega
    rw [e, Nat.pow_zero, Nat.div_one]
    omega
theorem sc_snoc {T : Nat → Nat} {c : Sc} {l p d : Nat} (hd : d < 10) : scK T (dgN (l + 1) (p * 10 + d)) c (l + 1) = acN T (scK T (dgN l p) c l) d ∧ vlK T (dgN (l + 1) (p * 10 + d)) c (l + 1) = vlK T (dgN l p) c l * 100 + fnN T (scK T (dgN l p) c l) d * 10 := by
  obtain ⟨h1, h2⟩ := dg_snoc (l := l) (p := p) hd
  obtain ⟨g1, g2⟩ := scK_congr (T := T) (c := c) l h1
  constructor
  · show acN T (scK T (dgN (l + 1) (p * 10 + d)) c l) (dgN (l + 1) (p * 10 + d) l) = _
    rw [g1, h2]
  · show vlK T (dgN (l + 1) (p * 10 + d)) c l * 100 + fnN T (scK T (dgN (l + 1) (p * 10 + d)) c l) (dgN (l + 1) (p * 10 + d) l) * 10 = _
    rw [g1, g2, h2]
/-- the figures of a row ahead of its last m -/
theorem dg_div {n m f k : Nat} (hk : k < n) : dgN (n + m) f k = dgN n (f / 10 ^ m) k := by
  unfold dgN
  have e : n + m - 1 - k = m + (n - 1 - k) := by omega
  rw [e, Nat.pow_add, ← Nat.div_div_eq_div_mul]
def okR (n f : Nat) : Prop := ∀ k, k < n → dgN n f k ≤ 3
/-- what the reference does at f: mode 0 any, 1 those that begin ABOARD, 2 those that don't -/
def myR (n mode f : Nat) : Prop := okR n f ∧ (mode = 0 ∨ (mode = 1 ∧ dgN n f 0 = 3) ∨ (mode = 2 ∧ dgN n f 0 ≠ 3))
noncomputable def stB (T : Nat → Nat) (c : Sc) (n mode : Nat) (b : Bs) (f : Nat) : Bs := @ite _ (myR n mode f) (Classical.propDecidable _) (ofN b (vlK T (dgN n f) c n, f)) b
noncomputable def bbS (T : Nat → Nat) (c : Sc) (n mode lo : Nat) : Nat → Bs → Bs
  | 0, b => b
  | i + 1, b => stB T c n mode (bbS T c n mode lo i b) (lo + i)
theorem bbS_add {T : Nat → Nat} {c : Sc} {n mode lo : Nat} : ∀ (i j : Nat) (b : Bs), bbS T c n mode lo (i + j) b = bbS T c n mode (lo + i) j (bbS T c n mode lo i b)
  | i, 0, b => rfl
  | i, j + 1, b => by
    show stB T c n mode (bbS T c n mode lo (i + j) b) (lo + (i + j)) = stB T c n mode (bbS T c n mode (lo + i) j (bbS T c n mode lo i b)) (lo + i + j)
    rw [bbS_add i j b, Nat.add_assoc]
theorem bbS_none {T : Nat → Nat} {c : Sc} {n mode lo : Nat} : ∀ (i : Nat) (b : Bs), (∀ f, lo ≤ f → f < lo + i → ¬ myR n mode f) → bbS T c n mode lo i b = b
  | 0, _, _ => rfl
  | i + 1, b, h => by
    show stB T c n mode (bbS T c n mode lo i b) (lo + i) = b
    rw [bbS_none i b (fun f h1 h2 => h f h1 (by omega))]
    unfold stB
    exact if_neg (h (lo + i) (by omega) (by omega))
/-- ten blocks -/
theorem bbS_ten {T : Nat → Nat} {c : Sc} {n mode lo s : Nat} (b : Bs) : bbS T c n mode lo (10 * s) b = bbS T c n mode (lo + 9 * s) s (bbS T c n mode (lo + 8 * s) s (bbS T c n mode (lo + 7 * s) s (bbS T c n mode (lo + 6 * s) s (bbS T c n mode (lo + 5 * s) s (bbS T c n mode (lo + 4 * s) s (bbS T c n mode (lo + 3 * s) s (bbS T c n mode (lo + 2 * s) s (bbS T c n mode (lo + 1 * s) s (bbS T c n mode lo s b))))))))) := by
  have e : ∀ k, bbS T c n mode lo ((k + 1) * s) b = bbS T c n mode (lo + k * s) s (bbS T c n mode lo (k * s) b) := fun k => by
    rw [Nat.add_mul, Nat.one_mul, bbS_add]
  rw [e 9, e 8, e 7, e 6, e 5, e 4, e 3, e 2, e 1, e 0, Nat.zero_mul, Nat.add_zero]
  rfl
/-- a block of rows with one beginning -/
theorem block {T : Nat → Nat} {c : Sc} {mode : Nat} : ∀ (m l p : Nat) (b : Bs), 1 ≤ l → p < 10 ^ l → okR l p → (mode = 0 ∨ (mode = 1 ∧ dgN l p 0 = 3) ∨ (mode = 2 ∧ dgN l p 0 ≠ 3)) → bbS T c (l + m) mode (p * 10 ^ m) (10 ^ m) b = (enN T m (scK T (dgN l p) c l) p (vlK T (dgN l p) c l)).foldl ofN b
  | 0, l, p, b, hl, hp, hok, hm => by
    show stB T c l mode b (p * 1 + 0) = ofN b (vlK T (dgN l p) c l, p)
    rw [Nat.mul_one, Nat.add_zero]
    unfold stB
    exact if_pos ⟨hok, hm⟩
  | m + 1, l, p, b, hl, hp, hok, hm => by
    have hpos := ten_pos m
    have sub : ∀ d b, d ≤ 3 → bbS T c (l + (m + 1)) mode ((p * 10 + d) * 10 ^ m) (10 ^ m) b = (enN T m (acN T (scK T (dgN l p) c l) d) (p * 10 + d) (vlK T (dgN l p) c l * 100 + fnN T (scK T (dgN l p) c l) d * 10)).foldl ofN b := by
      intro d b hd
      obtain ⟨g1, g2⟩ := dg_snoc (l := l) (p := p) (d := d) (by omega)
      obtain ⟨s1, s2⟩ := sc_snoc (T := T) (c := c) (l := l) (p := p) (d := d) (by omega)
      have := block (T := T) (c := c) (mode := mode) m (l + 1) (p * 10 + d) b (by omega) (by rw [Nat.pow_succ]; omega) (fun k hk => by
        by_cases hkl : k = l
        · rw [hkl, g2]; exact hd
        · rw [g1 k (by omega)]; exact hok k (by omega)) (by rw [g1 0 (by omega)]; exact hm)
      rw [s1, s2] at this
      rw [show l + (m + 1) = l + 1 + m from by omega]
      exact this
    have bad : ∀ d b, 4 ≤ d → d < 10 → bbS T c (l + (m + 1)) mode ((p * 10 + d) * 10 ^ m) (10 ^ m) b = b := by
      intro d b h4 h10
      refine bbS_none _ _ (fun f f1 f2 hmy => ?_)
      have e : f / 10 ^ m = p * 10 + d := by
        rw [Nat.div_eq_iff hpos]
        exact ⟨f1, by omega⟩
      have g := hmy.1 l (by omega)
      rw [show l + (m + 1) = l + 1 + m from by omega, dg_div (by omega), e, (dg_snoc (l := l) (p := p) h10).2] at g
      omega
    have hs : ∀ d, p * 10 ^ (m + 1) + d * 10 ^ m = (p * 10 + d) * 10 ^ m := fun d => by rw [Nat.pow_succ, Nat.add_mul, Nat.mul_comm (10 ^ m) 10, Nat.mul_assoc]
    have h0 : p * 10 ^ (m + 1) = (p * 10 + 0) * 10 ^ m := by
      have := hs 0
      rw [Nat.zero_mul, Nat.add_zero] at this
      exact this
    rw [show (10 : Nat) ^ (m + 1) = 10 * 10 ^ m from by rw [Nat.pow_succ, Nat.mul_comm]] at hs h0 ⊢
    rw [bbS_ten, hs 9, hs 8, hs 7, hs 6, hs 5, hs 4, hs 3, hs 2, hs 1, h0, bad 9 _ (by decide) (by decide), bad 8 _ (by decide) (by decide), bad 7 _ (by decide) (by decide), bad 6 _ (by decide) (by decide), bad 5 _ (by decide) (by decide), bad 4 _ (by decide) (by decide), sub 3 _ (by decide), sub 2 _ (by decide), sub 1 _ (by decide), sub 0 _ (by decide)]
    rw [show enN T (m + 1) (scK T (dgN l p) c l) p (vlK T (dgN l p) c l) = enN T m (acN T (scK T (dgN l p) c l) 0) (p * 10 + 0) (vlK T (dgN l p) c l * 100 + fnN T (scK T (dgN l p) c l) 0 * 10) ++ (enN T m (acN T (scK T (dgN l p) c l) 1) (p * 10 + 1) (vlK T (dgN l p) c l * 100 + fnN T (scK T (dgN l p) c l) 1 * 10) ++ (enN T m (acN T (scK T (dgN l p) c l) 2) (p * 10 + 2) (vlK T (dgN l p) c l * 100 + fnN T (scK T (dgN l p) c l) 2 * 10) ++ enN T m (acN T (scK T (dgN l p) c l) 3) (p * 10 + 3) (vlK T (dgN l p) c l * 100 + fnN T (scK T (dgN l p) c l) 3 * 10))) from rfl]
    rw [List.foldl_append, List.foldl_append, List.foldl_append]
/-- the rows that begin with d -/
def hdN (T : Nat → Nat) (c : Sc) (m d : Nat) : List (Nat × Nat) := enN T m (acN T c d) d (fnN T c d * 10)
theorem block1 {T : Nat → Nat} {c : Sc} {mode m d : Nat} (b : Bs) (hd : d ≤ 3) (hm : mode = 0 ∨ (mode = 1 ∧ d = 3) ∨ (mode = 2 ∧ d ≠ 3)) : bbS T c (m + 1) mode (d * 10 ^ m) (10 ^ m) b = (hdN T c m d).foldl ofN b := by
  have e0 : dgN 1 d 0 = d := by
    unfold dgN
    have : 1 - 1 - 0 = 0 := rfl
    rw [this, Nat.pow_zero, Nat.div_one]
    omega
  have := block (T := T) (c := c) (mode := mode) m 1 d b (Nat.le_refl _) (by omega) (fun k hk => by
    have : k = 0 := by omega
    rw [this, e0]; exact hd) (by rw [e0]; exact hm)
  rw [show m + 1 = 1 + m from by omega, this]
  have s1 : scK T (dgN 1 d) c 1 = acN T c d := by
    show acN T c (dgN 1 d 0) = _
    rw [e0]
  have s2 : vlK T (dgN 1 d) c 1 = fnN T c d * 10 := by
    show 0 * 100 + fnN T c (dgN 1 d 0) * 10 = _
    rw [e0]; omega
  rw [s1, s2]
  rfl
theorem block1n {T : Nat → Nat} {c : Sc} {mode m d : Nat} (b : Bs) (hd : d < 10) (hm : 4 ≤ d ∨ (mode = 1 ∧ d ≠ 3) ∨ (mode = 2 ∧ d = 3)) : bbS T c (m + 1) mode (d * 10 ^ m) (10 ^ m) b = b := by
  have hpos := ten_pos m
  refine bbS_none _ _ (fun f f1 f2 hmy => ?_)
  have e : f / 10 ^ m = d := by
    rw [Nat.div_eq_iff hpos]
    constructor
    · exact f1
    · omega
  have g0 : dgN (m + 1) f 0 = d := by
    rw [show m + 1 = 1 + m from by omega, dg_div (by omega), e]
    unfold dgN
    have : 1 - 1 - 0 = 0 := rfl
    rw [this, Nat.pow_zero, Nat.div_one]
    omega
  have g := hmy.1 0 (by omega)
  have g2 := hmy.2
  rw [g0] at g g2
  omega
theorem bb_all {T : Nat → Nat} {c : Sc} {m : Nat} (b : Bs) : bbS T c (m + 1) 0 0 (10 ^ (m + 1)) b = (hdN T c m 3).foldl ofN ((hdN T c m 2).foldl ofN ((hdN T c m 1).foldl ofN ((hdN T c m 0).foldl ofN b))) := by
  rw [show (10 : Nat) ^ (m + 1) = 10 * 10 ^ m from by rw [Nat.pow_succ, Nat.mul_comm], bbS_ten]
  simp only [Nat.zero_add]
  have h0 := block1 (T := T) (c := c) (mode := 0) (m := m) (d := 0) b (by decide) (Or.inl rfl)
  rw [Nat.zero_mul] at h0
  rw [block1n (d := 9) _ (by decide) (by omega), block1n (d := 8) _ (by decide) (by omega), block1n (d := 7) _ (by decide) (by omega), block1n (d := 6) _ (by decide) (by omega), block1n (d := 5) _ (by decide) (by omega), block1n (d := 4) _ (by decide) (by omega), block1 (d := 3) _ (by decide) (Or.inl rfl), block1 (d := 2) _ (by decide) (Or.inl rfl), block1 (d := 1) _ (by decide) (Or.inl rfl), h0]
theorem bb_ab {T : Nat → Nat} {c : Sc} {m : Nat} (b : Bs) : bbS T c (m + 1) 1 0 (10 ^ (m + 1)) b = (hdN T c m 3).foldl ofN b := by
  rw [show (10 : Nat) ^ (m + 1) = 10 * 10 ^ m from by rw [Nat.pow_succ, Nat.mul_comm], bbS_ten]
  simp only [Nat.zero_add]
  have h0 := block1n (T := T) (c := c) (mode := 1) (m := m) (d := 0) b (by decide) (by omega)
  rw [Nat.zero_mul] at h0
  rw [block1n (d := 9) _ (by decide) (by omega), block1n (d := 8) _ (by decide) (by omega), block1n (d := 7) _ (by decide) (by omega), block1n (d := 6) _ (by decide) (by omega), block1n (d := 5) _ (by decide) (by omega), block1n (d := 4) _ (by decide) (by omega), block1 (d := 3) _ (by decide) (by omega), block1n (d := 2) _ (by decide) (by omega), block1n (d := 1) _ (by decide) (by omega), h0]
theorem bb_sea {T : Nat → Nat} {c : Sc} {m : Nat} (b : Bs) : bbS T c (m + 1) 2 0 (10 ^ (m + 1)) b = (hdN T c m 2).foldl ofN ((hdN T c m 1).foldl ofN ((hdN T c m 0).foldl ofN b)) := by
  rw [show (10 : Nat) ^ (m + 1) = 10 * 10 ^ m from by rw [Nat.pow_succ, Nat.mul_comm], bbS_ten]
  simp only [Nat.zero_add]
  have h0 := block1 (T := T) (c := c) (mode := 2) (m := m) (d := 0) b (by decide) (by omega)
  rw [Nat.zero_mul] at h0
  rw [block1n (d := 9) _ (by decide) (by omega), block1n (d := 8) _ (by decide) (by omega), block1n (d := 7) _ (by decide) (by omega), block1n (d := 6) _ (by decide) (by omega), block1n (d := 5) _ (by decide) (by omega), block1n (d := 4) _ (by decide) (by omega), block1n (d := 3) _ (by decide) (by omega), block1 (d := 2) _ (by decide) (by omega), block1 (d := 1) _ (by decide) (by omega), h0]
/-- a fold goes on from a best as from nothing, held against it -/
def mgN (a b : Bs) : Bs := match b with
  | none => a
  | some q => ofN a q
theorem of_of {a : Bs} {p q : Nat × Nat} : ofN (ofN a p) q = mgN a (ofN (some p) q) := by
  cases a with
  | none =>
    show ofN (some p) q = mgN none (ofN (some p) q)
    unfold ofN
    simp only
    split <;> rfl
  | some r =>
    unfold mgN ofN
    simp only
    by_cases h1 : p.1 ≤ r.1 <;> by_cases h2 : q.1 ≤ p.1 <;> by_cases h3 : q.1 ≤ r.1 <;> simp [h1, h2, h3] <;> omega
theorem fold_mg {L : List (Nat × Nat)} : ∀ {a b : Bs}, L.foldl ofN (mgN a b) = mgN a (L.foldl ofN b) := by
  induction L with
  | nil => intro a b; rfl
  | cons q L ih =>
    intro a b
    rw [List.foldl_cons, List.foldl_cons]
    cases b with
    | none =>
      show L.foldl ofN (ofN a q) = _
      have := ih (a := a) (b := some q)
      exact this
    | some p =>
      show L.foldl ofN (ofN (ofN a p) q) = _
      rw [of_of]
      exact ih
theorem fold_start {L : List (Nat × Nat)} {a : Bs} : L.foldl ofN a = mgN a (L.foldl ofN none) := by
  have := fold_mg (L := L) (a := a) (b := none)
  exact this

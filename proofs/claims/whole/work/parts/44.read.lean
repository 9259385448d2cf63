/-! ===== reading the text: what it comes to ===== -/
/-- the bits of the cells that are still to be read -/
def MB (M : Int32) (K : Nat → Nat) : Prop := ∀ j, M.toBitVec.getLsbD j = decide (j < 10 ∧ K j = 0)
theorem MB_i : MB 1023 (fun _ => 0) := by
  intro j
  by_cases h : j < 32
  · have : ∀ j, j < 32 → (1023 : Int32).toBitVec.getLsbD j = decide (j < 10 ∧ (0 : Nat) = 0) := by decide
    exact this j h
  · rw [BitVec.getLsbD_of_ge _ _ (by omega), decide_eq_false (by omega)]
theorem MB_0 {M : Int32} {K : Nat → Nat} (h : MB M K) : M = 0 ↔ ∀ j, j < 10 → K j ≠ 0 := by
  constructor
  · intro e j hj hk
    have := h j
    rw [e, decide_eq_true ⟨hj, hk⟩] at this
    have e0 : (0 : Int32).toBitVec.getLsbD j = false := by simp
    rw [e0] at this
    cases this
  · intro g
    apply Int32.toBitVec_inj.mp
    apply BitVec.eq_of_getLsbD_eq
    intro j hj
    rw [h j, decide_eq_false (fun q => g j q.1 q.2)]
    simp
theorem bit_at (M : Int32) : ∀ c, c < 10 → (((M >>> (nI c &&& 31)) &&& (1 : Int32)) = 0 ↔ M.toBitVec.getLsbD c = false) := by
  intro c hc
  have e1 : ∀ c, c < 10 → ((nI c &&& 31).toBitVec.smod 32#32).toNat = c := by decide
  rw [← Int32.toBitVec_inj, Int32.toBitVec_and, Int32.toBitVec_shiftRight]
  have e2 : (M.toBitVec.sshiftRight' ((nI c &&& 31).toBitVec.smod 32#32)) = M.toBitVec.sshiftRight c := by
    unfold BitVec.sshiftRight'
    rw [e1 c hc]
  have e3 : (M.toBitVec.sshiftRight c)[0] = M.toBitVec.getLsbD c := by
    rw [← BitVec.getLsbD_eq_getElem, BitVec.getLsbD_sshiftRight]
    simp [show c < 32 by omega]
  rw [show (32 : BitVec 32) = 32#32 from rfl, e2, show (1 : Int32).toBitVec = 1#32 from rfl, show (0 : Int32).toBitVec = 0#32 from rfl]
  constructor
  · intro h
    have := congrArg (fun b => b.getLsbD 0) h
    simp at this
    rw [← e3]
    exact this
  · intro h
    apply BitVec.eq_of_getLsbD_eq
    intro j hj
    by_cases h0 : j = 0
    · subst h0
      simp
      rw [e3]
      exact h
    · simp [h0]
theorem MB_t {M : Int32} {K : Nat → Nat} {c : Nat} (h : MB M K) (hc : c < 10) : ((M >>> (nI c &&& 31)) &&& (1 : Int32)) = 0 ↔ K c ≠ 0 := by
  rw [bit_at M c hc, h c]
  by_cases hk : K c = 0
  · rw [decide_eq_true ⟨hc, hk⟩]
    exact ⟨fun q => (by cases q), fun q => absurd hk q⟩
  · rw [decide_eq_false (fun q => hk q.2)]
    exact ⟨fun _ => hk, fun _ => rfl⟩
theorem MB_c {M : Int32} {K : Nat → Nat} {c d : Nat} (h : MB M K) (hc : c < 10) (hd : d ≠ 0) : MB (M &&& (((1 : Int32) <<< (nI c &&& 31)) ^^^ (-1 : Int32))) (fun j => if j = c then d else K j) := by
  intro j
  have e1 : ∀ c, c < 10 → ∀ j, j < 32 → (((1 : Int32) <<< (nI c &&& 31)) ^^^ (-1 : Int32)).toBitVec.getLsbD j = decide (j ≠ c) := by decide
  by_cases hj : j < 32
  · rw [Int32.toBitVec_and, BitVec.getLsbD_and, h j, e1 c hc j hj]
    by_cases hjc : j = c
    · simp [hjc, hd]
    · simp [hjc]
  · rw [BitVec.getLsbD_of_ge _ _ (by omega), decide_eq_false (by omega)]

/-! X1_clear -/
def rX1_clear : Room := { frames := 0, cells := 0, slots := 0, locals := 0 }
theorem hdvX1_clear : yX1_clear.cls = RX1 ∧ yX1_clear.cls ≠ "java/lang/invoke/MethodHandle" ∧ yX1_clear.cls ≠ "java/lang/invoke/VarHandle" ∧ (parseMethodDescriptor yX1_clear.desc).map (fun d => d.parameters.length) = some 0 := by decide +kernel
theorem kcX1_clear_7 : Cond.constantLong RX1 7 (-1 : Int64) ∈ wsX1_clear := by decide +kernel
theorem inX1_clear_X1 : ∀ w ∈ u_ws RX1 TX1 2, w ∈ wsX1_clear := by decide +kernel
theorem lkX1_clear_9 : Cond.fieldLink RX1 9 (TX1 0).1 (TX1 0).2.1 (TX1 0).2.2.1 ∈ wsX1_clear := by decide +kernel
theorem lkX1_clear_15 : Cond.fieldLink RX1 15 (TX1 1).1 (TX1 1).2.1 (TX1 1).2.2.1 ∈ wsX1_clear := by decide +kernel
def fX1_clear (z : Nat) (σ : ST) (k0 : Nat) : Option ST := gd (kX k0 == 1) (lt (pL σ k0 0 (-1 : Int64)) (fun s21 => lt (pI s21 k0 1 (0 : Int32)) (fun s22 => some s22)))
section
variable {p : Program} {l : Launch} {e : Env} {s : State} {m : MethodId} {args : Array Value} {below : List Frame} {meth : Method} {c : Code} {G : GT}
set_option maxHeartbeats 4000000 in
set_option maxRecDepth 100000 in
theorem wX1_clear (C0 : Cx p s m args meth c cX1_clear RX1 1 none wsX1_clear) (G0 : Gx G s) (hJ : gJ 80 G) (z : Nat) (σ : ST) (k0 : Nat) (res : ST) (h : fX1_clear z σ k0 = some res)  {H : Heap} {locs : List Loc} {ls : Array Slot} (hW : Wd cellX 80 G s.heap σ H locs) (hl : lv_has ls 1 [(0, .ref (aD G k0))]) : W p l e rX1_clear s m args below meth c H locs 0 0 (MQ below (XQv cellX 80 G res) args s 0 0 (gA 80 G)) (F0 m 0 ls []) := by
  unfold fX1_clear at h
  obtain ⟨hk_k0, h⟩ := gd_some h
  have hk_k0 : kX k0 = 1 := eq_of_beq hk_k0
  refine lv_aload_n C0.1 C0.2.1 dX1_clear_0 rfl (lv_at hl 0 rfl) ?_
  refine lv_ldc2 (v := (-1 : Int64)) C0.1 C0.2.1 C0.2.2.2.2.1 (C0.2.2.2.1 _ kcX1_clear_7) dX1_clear_1 ?_
  refine x_putL (v := (-1 : Int64)) C0 G0 hJ hW (cX_X1 hk_k0) (kX_lt hk_k0 (by decide)) rfl 0 (by decide) inX1_clear_X1 lkX1_clear_9 tyX1 tyX1_ok nmX1 rfl rfl rfl (Nat.le_of_ble_eq_true rfl) (hu_X1_0 hk_k0) dX1_clear_4 (fun H locs hW => ?_)
  obtain ⟨s21, es21, h⟩ := lt_some h
  rw [es21] at hW
  refine lv_aload_n C0.1 C0.2.1 dX1_clear_7 rfl (lv_at hl 0 rfl) ?_
  refine lv_iconst (v := (0 : Int32)) C0.1 C0.2.1 dX1_clear_8 (by decide) ?_
  refine x_putI (v := (0 : Int32)) C0 G0 hJ hW (cX_X1 hk_k0) (kX_lt hk_k0 (by decide)) rfl 1 (by decide) inX1_clear_X1 lkX1_clear_15 tyX1 tyX1_ok nmX1 rfl rfl rfl (Nat.le_of_ble_eq_true rfl) (hu_X1_1 hk_k0) dX1_clear_9 (fun H locs hW => ?_)
  obtain ⟨s22, es22, h⟩ := lt_some h
  rw [es22] at hW
  cases h
  exact x_vret C0 hW dX1_clear_12
theorem cX1_clear_met (l : Launch) {G : GT} (hJ : gJ 80 G) (z : Nat) (σ : ST) (k0 : Nat) (res : ST) (h : fX1_clear z σ k0 = some res) : Met l yX1_clear wsX1_clear rX1_clear (XPc cellX 80 G σ [.ref (aD G k0)]) (XQv cellX 80 G res) 0 0 (gA 80 G) :=
  x_met (ret := none) (maxL := 1) (by decide) rfl (Nat.le_of_ble_eq_true rfl) (fun p e s m args below meth c H locs ls C0 G0 hW hl => wX1_clear C0 G0 hJ z σ k0 res h hW hl)
end
/-! X5_at -/
def rX5_at : Room := { frames := 0, cells := 0, slots := 0, locals := 0 }
theorem hdvX5_at : yX5_at.cls = RX5 ∧ yX5_at.cls ≠ "java/lang/invoke/MethodHandle" ∧ yX5_at.cls ≠ "java/lang/invoke/VarHandle" ∧ (parseMethodDescriptor yX5_at.desc).map (fun d => d.parameters.length) = some 1 := by decide +kernel
theorem inX5_at_X5 : ∀ w ∈ u_ws RX5 TX5 1, w ∈ wsX5_at := by decide +kernel
theorem lkX5_at_15 : Cond.fieldLink RX5 15 (TX5 0).1 (TX5 0).2.1 (TX5 0).2.2.1 ∈ wsX5_at := by decide +kernel
def fX5_at_23 (z : Nat) (σ : ST) (s0 : Option Nat) : Option (Option Nat) := some s0
def fX5_at_22 (z : Nat) (σ : ST) : Option (Option Nat) := fX5_at_23 z σ none
def fX5_at (z : Nat) (σ : ST) (k0 : Nat) (v1 : Int32) : Option (Option Nat) := gd (kX k0 == 4) ((if v1 < 0 then fX5_at_22 z σ else (if (Int32.ofNat (rl (k0 + 1))) ≤ v1 then fX5_at_22 z σ else gd (inb v1 (rl (k0 + 1))) ( fX5_at_23 z σ (some ((k0 + 1) + 1 + 4 * (v1).toNatClampNeg))))))
section
variable {p : Program} {l : Launch} {e : Env} {s : State} {m : MethodId} {args : Array Value} {below : List Frame} {meth : Method} {c : Code} {G : GT}
set_option maxHeartbeats 4000000 in
set_option maxRecDepth 100000 in
theorem wX5_at_23 (C0 : Cx p s m args meth c cX5_at RX5 2 (some (.object "GoneOverboard$Scene")) wsX5_at) (G0 : Gx G s) (hJ : gJ 80 G) (z : Nat) (σ : ST) (s0 : Option Nat) (res : (Option Nat)) (h : fX5_at_23 z σ s0 = some res)  {H : Heap} {locs : List Loc} {ls : Array Slot} (hW : Wd cellX 80 G s.heap σ H locs) (hl : lv_has ls 2 []) : W p l e rX5_at s m args below meth c H locs 0 0 (MQ below (XQr cellX 80 G res σ) args s 0 0 (gA 80 G)) (F0 m 23 ls [va_rf ((s0).map (aD G))]) := by
  unfold fX5_at_23 at h
  cases h
  exact x_rret C0 hW (r := s0) rfl dX5_at_23
set_option maxHeartbeats 4000000 in
set_option maxRecDepth 100000 in
theorem wX5_at_22 (C0 : Cx p s m args meth c cX5_at RX5 2 (some (.object "GoneOverboard$Scene")) wsX5_at) (G0 : Gx G s) (hJ : gJ 80 G) (z : Nat) (σ : ST) (res : (Option Nat)) (h : fX5_at_22 z σ = some res)  {H : Heap} {locs : List Loc} {ls : Array Slot} (hW : Wd cellX 80 G s.heap σ H locs) (hl : lv_has ls 2 []) : W p l e rX5_at s m args below meth c H locs 0 0 (MQ below (XQr cellX 80 G res σ) args s 0 0 (gA 80 G)) (F0 m 22 ls []) := by
  unfold fX5_at_22 at h
  refine lv_null C0.1 C0.2.1 dX5_at_22 ?_
  exact wX5_at_23 C0 G0 hJ z σ none _ h hW (lv_sub hl [] rfl)
set_option maxHeartbeats 4000000 in
set_option maxRecDepth 100000 in
theorem wX5_at (C0 : Cx p s m args meth c cX5_at RX5 2 (some (.object "GoneOverboard$Scene")) wsX5_at) (G0 : Gx G s) (hJ : gJ 80 G) (z : Nat) (σ : ST) (k0 : Nat) (v1 : Int32) (res : (Option Nat)) (h : fX5_at z σ k0 v1 = some res)  {H : Heap} {locs : List Loc} {ls : Array Slot} (hW : Wd cellX 80 G s.heap σ H locs) (hl : lv_has ls 2 [(0, .ref (aD G k0)), (1, .int v1)]) : W p l e rX5_at s m args below meth c H locs 0 0 (MQ below (XQr cellX 80 G res σ) args s 0 0 (gA 80 G)) (F0 m 0 ls []) := by
  unfold fX5_at at h
  obtain ⟨hk_k0, h⟩ := gd_some h
  have hk_k0 : kX k0 = 4 := eq_of_beq hk_k0
  refine lv_iload_n C0.1 C0.2.1 dX5_at_0 rfl (lv_at hl 1 rfl) ?_
  refine lv_if_lt (tgt := 22) C0.1 C0.2.1 dX5_at_1 (by decide) (fun c21 => ?_) (fun c21 => ?_)
  · rw [if_pos c21] at h
    exact wX5_at_22 C0 G0 hJ z σ _ h hW (lv_sub hl [] rfl)
  · rw [if_neg c21] at h
    refine lv_iload_n C0.1 C0.2.1 dX5_at_4 rfl (lv_at hl 1 rfl) ?_
    refine lv_aload_n C0.1 C0.2.1 dX5_at_5 rfl (lv_at hl 0 rfl) ?_
    refine x_get (v := .ref (aD G (k0 + 1))) C0 G0 hW (cX_X5 hk_k0) (kX_lt hk_k0 (by decide)) rfl 0 (by decide) inX5_at_X5 lkX5_at_15 rfl dX5_at_6 ?_
    refine x_alen (v := (Int32.ofNat (rl (k0 + 1)))) C0 G0 hW 3 (cX_R (kSX5_1 hk_k0)) (kX_lt (kSX5_1 hk_k0) (by decide)) rfl rfl dX5_at_9 ?_
    refine lv_icmp_ge (tgt := 22) C0.1 C0.2.1 dX5_at_10 (by decide) (fun c22 => ?_) (fun c22 => ?_)
    · rw [if_pos c22] at h
      exact wX5_at_22 C0 G0 hJ z σ _ h hW (lv_sub hl [] rfl)
    · rw [if_neg c22] at h
      refine lv_aload_n C0.1 C0.2.1 dX5_at_13 rfl (lv_at hl 0 rfl) ?_
      refine x_get (v := .ref (aD G (k0 + 1))) C0 G0 hW (cX_X5 hk_k0) (kX_lt hk_k0 (by decide)) rfl 0 (by decide) inX5_at_X5 lkX5_at_15 rfl dX5_at_14 ?_
      refine lv_iload_n C0.1 C0.2.1 dX5_at_17 rfl (lv_at hl 1 rfl) ?_
      obtain ⟨g23, h⟩ := gd_some h
      refine x_rald C0 G0 hW (cX_R (kSX5_1 hk_k0)) (kX_lt (kSX5_1 hk_k0) (by decide)) g23 dX5_at_18 (v := .ref (aD G ((k0 + 1) + 1 + 4 * (v1).toNatClampNeg))) rfl ?_
      refine lv_goto (tgt := 23) C0.1 C0.2.1 dX5_at_19 (by decide) ?_
      exact wX5_at_23 C0 G0 hJ z σ (some ((k0 + 1) + 1 + 4 * (v1).toNatClampNeg)) _ h hW (lv_sub hl [] rfl)
theorem cX5_at_met (l : Launch) {G : GT} (hJ : gJ 80 G) (z : Nat) (σ : ST) (k0 : Nat) (v1 : Int32) (res : (Option Nat)) (h : fX5_at z σ k0 v1 = some res) : Met l yX5_at wsX5_at rX5_at (XPc cellX 80 G σ [.ref (aD G k0), .int v1]) (XQr cellX 80 G res σ) 0 0 (gA 80 G) :=
  x_met (ret := (some (.object "GoneOverboard$Scene"))) (maxL := 2) (by decide) rfl (Nat.le_of_ble_eq_true rfl) (fun p e s m args below meth c H locs ls C0 G0 hW hl => wX5_at C0 G0 hJ z σ k0 v1 res h hW hl)
end
/-! X4_of -/
def rX4_of : Room := { frames := 0, cells := 0, slots := 0, locals := 0 }
theorem hdvX4_of : yX4_of.cls = RX4 ∧ yX4_of.cls ≠ "java/lang/invoke/MethodHandle" ∧ yX4_of.cls ≠ "java/lang/invoke/VarHandle" ∧ (parseMethodDescriptor yX4_of.desc).map (fun d => d.parameters.length) = some 1 := by decide +kernel
theorem inX4_of_X4 : ∀ w ∈ u_ws RX4 TX4 6, w ∈ wsX4_of := by decide +kernel
theorem lkX4_of_9 : Cond.fieldLink RX4 9 (TX4 0).1 (TX4 0).2.1 (TX4 0).2.2.1 ∈ wsX4_of := by decide +kernel
def fX4_of_23 (z : Nat) (σ : ST) (t0 : Int64) : Option Int64 := some t0
def fX4_of_22 (z : Nat) (σ : ST) : Option Int64 := fX4_of_23 z σ (0 : Int64)
def fX4_of (z : Nat) (σ : ST) (k0 : Nat) (v1 : Int32) : Option Int64 := gd (kX k0 == 3) ((if v1 < 0 then fX4_of_22 z σ else (if (11 : Int32) ≤ v1 then fX4_of_22 z σ else gd (inb v1 11) ( fX4_of_23 z σ (σ.2 (k0 + 1) (v1).toNatClampNeg)))))
section
variable {p : Program} {l : Launch} {e : Env} {s : State} {m : MethodId} {args : Array Value} {below : List Frame} {meth : Method} {c : Code} {G : GT}
set_option maxHeartbeats 4000000 in
set_option maxRecDepth 100000 in
theorem wX4_of_23 (C0 : Cx p s m args meth c cX4_of RX4 2 (some .long) wsX4_of) (G0 : Gx G s) (hJ : gJ 80 G) (z : Nat) (σ : ST) (t0 : Int64) (res : Int64) (h : fX4_of_23 z σ t0 = some res)  {H : Heap} {locs : List Loc} {ls : Array Slot} (hW : Wd cellX 80 G s.heap σ H locs) (hl : lv_has ls 2 []) : W p l e rX4_of s m args below meth c H locs 0 0 (MQ below (XQl cellX 80 G res σ) args s 0 0 (gA 80 G)) (F0 m 23 ls [.long t0]) := by
  unfold fX4_of_23 at h
  cases h
  exact x_lret C0 hW dX4_of_23
set_option maxHeartbeats 4000000 in
set_option maxRecDepth 100000 in
theorem wX4_of_22 (C0 : Cx p s m args meth c cX4_of RX4 2 (some .long) wsX4_of) (G0 : Gx G s) (hJ : gJ 80 G) (z : Nat) (σ : ST) (res : Int64) (h : fX4_of_22 z σ = some res)  {H : Heap} {locs : List Loc} {ls : Array Slot} (hW : Wd cellX 80 G s.heap σ H locs) (hl : lv_has ls 2 []) : W p l e rX4_of s m args below meth c H locs 0 0 (MQ below (XQl cellX 80 G res σ) args s 0 0 (gA 80 G)) (F0 m 22 ls []) := by
  unfold fX4_of_22 at h
  refine lv_lconst (v := (0 : Int64)) C0.1 C0.2.1 dX4_of_22 (by decide) ?_
  exact wX4_of_23 C0 G0 hJ z σ (0 : Int64) _ h hW (lv_sub hl [] rfl)
set_option maxHeartbeats 4000000 in
set_option maxRecDepth 100000 in
theorem wX4_of (C0 : Cx p s m args meth c cX4_of RX4 2 (some .long) wsX4_of) (G0 : Gx G s) (hJ : gJ 80 G) (z : Nat) (σ : ST) (k0 : Nat) (v1 : Int32) (res : Int64) (h : fX4_of z σ k0 v1 = some res)  {H : Heap} {locs : List Loc} {ls : Array Slot} (hW : Wd cellX 80 G s.heap σ H locs) (hl : lv_has ls 2 [(0, .ref (aD G k0)), (1, .int v1)]) : W p l e rX4_of s m args below meth c H locs 0 0 (MQ below (XQl cellX 80 G res σ) args s 0 0 (gA 80 G)) (F0 m 0 ls []) := by
  unfold fX4_of at h
  obtain ⟨hk_k0, h⟩ := gd_some h
  have hk_k0 : kX k0 = 3 := eq_of_beq hk_k0
  refine lv_iload_n C0.1 C0.2.1 dX4_of_0 rfl (lv_at hl 1 rfl) ?_
  refine lv_if_lt (tgt := 22) C0.1 C0.2.1 dX4_of_1 (by decide) (fun c21 => ?_) (fun c21 => ?_)
  · rw [if_pos c21] at h
    exact wX4_of_22 C0 G0 hJ z σ _ h hW (lv_sub hl [] rfl)
  · rw [if_neg c21] at h
    refine lv_iload_n C0.1 C0.2.1 dX4_of_4 rfl (lv_at hl 1 rfl) ?_
    refine lv_aload_n C0.1 C0.2.1 dX4_of_5 rfl (lv_at hl 0 rfl) ?_
    refine x_get (v := .ref (aD G (k0 + 1))) C0 G0 hW (cX_X4 hk_k0) (kX_lt hk_k0 (by decide)) rfl 0 (by decide) inX4_of_X4 lkX4_of_9 rfl dX4_of_6 ?_
    refine x_alen (v := (11 : Int32)) C0 G0 hW 1 (cX_J11 (kSX4_1 hk_k0)) (kX_lt (kSX4_1 hk_k0) (by decide)) rfl rfl dX4_of_9 ?_
    refine lv_icmp_ge (tgt := 22) C0.1 C0.2.1 dX4_of_10 (by decide) (fun c22 => ?_) (fun c22 => ?_)
    · rw [if_pos c22] at h
      exact wX4_of_22 C0 G0 hJ z σ _ h hW (lv_sub hl [] rfl)
    · rw [if_neg c22] at h
      refine lv_aload_n C0.1 C0.2.1 dX4_of_13 rfl (lv_at hl 0 rfl) ?_
      refine x_get (v := .ref (aD G (k0 + 1))) C0 G0 hW (cX_X4 hk_k0) (kX_lt hk_k0 (by decide)) rfl 0 (by decide) inX4_of_X4 lkX4_of_9 rfl dX4_of_14 ?_
      refine lv_iload_n C0.1 C0.2.1 dX4_of_17 rfl (lv_at hl 1 rfl) ?_
      obtain ⟨g23, h⟩ := gd_some h
      refine x_lald C0 G0 hW (cX_J11 (kSX4_1 hk_k0)) (kX_lt (kSX4_1 hk_k0) (by decide)) g23 dX4_of_18 ?_
      refine lv_goto (tgt := 23) C0.1 C0.2.1 dX4_of_19 (by decide) ?_
      exact wX4_of_23 C0 G0 hJ z σ (σ.2 (k0 + 1) (v1).toNatClampNeg) _ h hW (lv_sub hl [] rfl)
theorem cX4_of_met (l : Launch) {G : GT} (hJ : gJ 80 G) (z : Nat) (σ : ST) (k0 : Nat) (v1 : Int32) (res : Int64) (h : fX4_of z σ k0 v1 = some res) : Met l yX4_of wsX4_of rX4_of (XPc cellX 80 G σ [.ref (aD G k0), .int v1]) (XQl cellX 80 G res σ) 0 0 (gA 80 G) :=
  x_met (ret := (some .long)) (maxL := 2) (by decide) rfl (Nat.le_of_ble_eq_true rfl) (fun p e s m args below meth c H locs ls C0 G0 hW hl => wX4_of C0 G0 hJ z σ k0 v1 res h hW hl)
end
/-! X4_lowOf -/
def rX4_lowOf : Room := { frames := 0, cells := 0, slots := 0, locals := 0 }
theorem hdvX4_lowOf : yX4_lowOf.cls = RX4 ∧ yX4_lowOf.cls ≠ "java/lang/invoke/MethodHandle" ∧ yX4_lowOf.cls ≠ "java/lang/invoke/VarHandle" ∧ (parseMethodDescriptor yX4_lowOf.desc).map (fun d => d.parameters.length) = some 1 := by decide +kernel
theorem inX4_lowOf_X4 : ∀ w ∈ u_ws RX4 TX4 6, w ∈ wsX4_lowOf := by decide +kernel
theorem lkX4_lowOf_15 : Cond.fieldLink RX4 15 (TX4 1).1 (TX4 1).2.1 (TX4 1).2.2.1 ∈ wsX4_lowOf := by decide +kernel
def fX4_lowOf_23 (z : Nat) (σ : ST) (t0 : Int32) : Option Int32 := some t0
def fX4_lowOf_22 (z : Nat) (σ : ST) : Option Int32 := fX4_lowOf_23 z σ (0 : Int32)
def fX4_lowOf (z : Nat) (σ : ST) (k0 : Nat) (v1 : Int32) : Option Int32 := gd (kX k0 == 3) ((if v1 < 0 then fX4_lowOf_22 z σ else (if (2 : Int32) ≤ v1 then fX4_lowOf_22 z σ else gd (inb v1 2) ( fX4_lowOf_23 z σ (σ.1 (k0 + 2) (v1).toNatClampNeg)))))
section
variable {p : Program} {l : Launch} {e : Env} {s : State} {m : MethodId} {args : Array Value} {below : List Frame} {meth : Method} {c : Code} {G : GT}
set_option maxHeartbeats 4000000 in
set_option maxRecDepth 100000 in
theorem wX4_lowOf_23 (C0 : Cx p s m args meth c cX4_lowOf RX4 2 (some .int) wsX4_lowOf) (G0 : Gx G s) (hJ : gJ 80 G) (z : Nat) (σ : ST) (t0 : Int32) (res : Int32) (h : fX4_lowOf_23 z σ t0 = some res)  {H : Heap} {locs : List Loc} {ls : Array Slot} (hW : Wd cellX 80 G s.heap σ H locs) (hl : lv_has ls 2 []) : W p l e rX4_lowOf s m args below meth c H locs 0 0 (MQ below (XQi cellX 80 G res σ) args s 0 0 (gA 80 G)) (F0 m 23 ls [.int t0]) := by
  unfold fX4_lowOf_23 at h
  cases h
  exact x_iret C0 hW dX4_lowOf_23
set_option maxHeartbeats 4000000 in
set_option maxRecDepth 100000 in
theorem wX4_lowOf_22 (C0 : Cx p s m args meth c cX4_lowOf RX4 2 (some .int) wsX4_lowOf) (G0 : Gx G s) (hJ : gJ 80 G) (z : Nat) (σ : ST) (res : Int32) (h : fX4_lowOf_22 z σ = some res)  {H : Heap} {locs : List Loc} {ls : Array Slot} (hW : Wd cellX 80 G s.heap σ H locs) (hl : lv_has ls 2 []) : W p l e rX4_lowOf s m args below meth c H locs 0 0 (MQ below (XQi cellX 80 G res σ) args s 0 0 (gA 80 G)) (F0 m 22 ls []) := by
  unfold fX4_lowOf_22 at h
  refine lv_iconst (v := (0 : Int32)) C0.1 C0.2.1 dX4_lowOf_22 (by decide) ?_
  exact wX4_lowOf_23 C0 G0 hJ z σ (0 : Int32) _ h hW (lv_sub hl [] rfl)
set_option maxHeartbeats 4000000 in
set_option maxRecDepth 100000 in
theorem wX4_lowOf (C0 : Cx p s m args meth c cX4_lowOf RX4 2 (some .int) wsX4_lowOf) (G0 : Gx G s) (hJ : gJ 80 G) (z : Nat) (σ : ST) (k0 : Nat) (v1 : Int32) (res : Int32) (h : fX4_lowOf z σ k0 v1 = some res)  {H : Heap} {locs : List Loc} {ls : Array Slot} (hW : Wd cellX 80 G s.heap σ H locs) (hl : lv_has ls 2 [(0, .ref (aD G k0)), (1, .int v1)]) : W p l e rX4_lowOf s m args below meth c H locs 0 0 (MQ below (XQi cellX 80 G res σ) args s 0 0 (gA 80 G)) (F0 m 0 ls []) := by
  unfold fX4_lowOf at h
  obtain ⟨hk_k0, h⟩ := gd_some h
  have hk_k0 : kX k0 = 3 := eq_of_beq hk_k0
  refine lv_iload_n C0.1 C0.2.1 dX4_lowOf_0 rfl (lv_at hl 1 rfl) ?_
  refine lv_if_lt (tgt := 22) C0.1 C0.2.1 dX4_lowOf_1 (by decide) (fun c21 => ?_) (fun c21 => ?_)
  · rw [if_pos c21] at h
    exact wX4_lowOf_22 C0 G0 hJ z σ _ h hW (lv_sub hl [] rfl)
  · rw [if_neg c21] at h
    refine lv_iload_n C0.1 C0.2.1 dX4_lowOf_4 rfl (lv_at hl 1 rfl) ?_
    refine lv_aload_n C0.1 C0.2.1 dX4_lowOf_5 rfl (lv_at hl 0 rfl) ?_
    refine x_get (v := .ref (aD G (k0 + 2))) C0 G0 hW (cX_X4 hk_k0) (kX_lt hk_k0 (by decide)) rfl 1 (by decide) inX4_lowOf_X4 lkX4_lowOf_15 rfl dX4_lowOf_6 ?_
    refine x_alen (v := (2 : Int32)) C0 G0 hW 0 (cX_I2 (kSX4_2 hk_k0)) (kX_lt (kSX4_2 hk_k0) (by decide)) rfl rfl dX4_lowOf_9 ?_
    refine lv_icmp_ge (tgt := 22) C0.1 C0.2.1 dX4_lowOf_10 (by decide) (fun c22 => ?_) (fun c22 => ?_)
    · rw [if_pos c22] at h
      exact wX4_lowOf_22 C0 G0 hJ z σ _ h hW (lv_sub hl [] rfl)
    · rw [if_neg c22] at h
      refine lv_aload_n C0.1 C0.2.1 dX4_lowOf_13 rfl (lv_at hl 0 rfl) ?_
      refine x_get (v := .ref (aD G (k0 + 2))) C0 G0 hW (cX_X4 hk_k0) (kX_lt hk_k0 (by decide)) rfl 1 (by decide) inX4_lowOf_X4 lkX4_lowOf_15 rfl dX4_lowOf_14 ?_
      refine lv_iload_n C0.1 C0.2.1 dX4_lowOf_17 rfl (lv_at hl 1 rfl) ?_
      obtain ⟨g23, h⟩ := gd_some h
      refine x_iald C0 G0 hW (cX_I2 (kSX4_2 hk_k0)) (kX_lt (kSX4_2 hk_k0) (by decide)) g23 dX4_lowOf_18 ?_
      refine lv_goto (tgt := 23) C0.1 C0.2.1 dX4_lowOf_19 (by decide) ?_
      exact wX4_lowOf_23 C0 G0 hJ z σ (σ.1 (k0 + 2) (v1).toNatClampNeg) _ h hW (lv_sub hl [] rfl)
theorem cX4_lowOf_met (l : Launch) {G : GT} (hJ : gJ 80 G) (z : Nat) (σ : ST) (k0 : Nat) (v1 : Int32) (res : Int32) (h : fX4_lowOf z σ k0 v1 = some res) : Met l yX4_lowOf wsX4_lowOf rX4_lowOf (XPc cellX 80 G σ [.ref (aD G k0), .int v1]) (XQi cellX 80 G res σ) 0 0 (gA 80 G) :=
  x_met (ret := (some .int)) (maxL := 2) (by decide) rfl (Nat.le_of_ble_eq_true rfl) (fun p e s m args below meth c H locs ls C0 G0 hW hl => wX4_lowOf C0 G0 hJ z σ k0 v1 res h hW hl)
end
/-! X4_highOf -/
def rX4_highOf : Room := { frames := 0, cells := 0, slots := 0, locals := 0 }
theorem hdvX4_highOf : yX4_highOf.cls = RX4 ∧ yX4_highOf.cls ≠ "java/lang/invoke/MethodHandle" ∧ yX4_highOf.cls ≠ "java/lang/invoke/VarHandle" ∧ (parseMethodDescriptor yX4_highOf.desc).map (fun d => d.parameters.length) = some 1 := by decide +kernel
theorem inX4_highOf_X4 : ∀ w ∈ u_ws RX4 TX4 6, w ∈ wsX4_highOf := by decide +kernel
theorem lkX4_highOf_19 : Cond.fieldLink RX4 19 (TX4 2).1 (TX4 2).2.1 (TX4 2).2.2.1 ∈ wsX4_highOf := by decide +kernel
def fX4_highOf_23 (z : Nat) (σ : ST) (t0 : Int32) : Option Int32 := some t0
def fX4_highOf_22 (z : Nat) (σ : ST) : Option Int32 := fX4_highOf_23 z σ (0 : Int32)
def fX4_highOf (z : Nat) (σ : ST) (k0 : Nat) (v1 : Int32) : Option Int32 := gd (kX k0 == 3) ((if v1 < 0 then fX4_highOf_22 z σ else (if (2 : Int32) ≤ v1 then fX4_highOf_22 z σ else gd (inb v1 2) ( fX4_highOf_23 z σ (σ.1 (k0 + 3) (v1).toNatClampNeg)))))
section
variable {p : Program} {l : Launch} {e : Env} {s : State} {m : MethodId} {args : Array Value} {below : List Frame} {meth : Method} {c : Code} {G : GT}
set_option maxHeartbeats 4000000 in
set_option maxRecDepth 100000 in
theorem wX4_highOf_23 (C0 : Cx p s m args meth c cX4_highOf RX4 2 (some .int) wsX4_highOf) (G0 : Gx G s) (hJ : gJ 80 G) (z : Nat) (σ : ST) (t0 : Int32) (res : Int32) (h : fX4_highOf_23 z σ t0 = some res)  {H : Heap} {locs : List Loc} {ls : Array Slot} (hW : Wd cellX 80 G s.heap σ H locs) (hl : lv_has ls 2 []) : W p l e rX4_highOf s m args below meth c H locs 0 0 (MQ below (XQi cellX 80 G res σ) args s 0 0 (gA 80 G)) (F0 m 23 ls [.int t0]) := by
  unfold fX4_highOf_23 at h
  cases h
  exact x_iret C0 hW dX4_highOf_23
set_option maxHeartbeats 4000000 in
set_option maxRecDepth 100000 in
theorem wX4_highOf_22 (C0 : Cx p s m args meth c cX4_highOf RX4 2 (some .int) wsX4_highOf) (G0 : Gx G s) (hJ : gJ 80 G) (z : Nat) (σ : ST) (res : Int32) (h : fX4_highOf_22 z σ = some res)  {H : Heap} {locs : List Loc} {ls : Array Slot} (hW : Wd cellX 80 G s.heap σ H locs) (hl : lv_has ls 2 []) : W p l e rX4_highOf s m args below meth c H locs 0 0 (MQ below (XQi cellX 80 G res σ) args s 0 0 (gA 80 G)) (F0 m 22 ls []) := by
  unfold fX4_highOf_22 at h
  refine lv_iconst (v := (0 : Int32)) C0.1 C0.2.1 dX4_highOf_22 (by decide) ?_
  exact wX4_highOf_23 C0 G0 hJ z σ (0 : Int32) _ h hW (lv_sub hl [] rfl)
set_option maxHeartbeats 4000000 in
set_option maxRecDepth 100000 in
theorem wX4_highOf (C0 : Cx p s m args meth c cX4_highOf RX4 2 (some .int) wsX4_highOf) (G0 : Gx G s) (hJ : gJ 80 G) (z : Nat) (σ : ST) (k0 : Nat) (v1 : Int32) (res : Int32) (h : fX4_highOf z σ k0 v1 = some res)  {H : Heap} {locs : List Loc} {ls : Array Slot} (hW : Wd cellX 80 G s.heap σ H locs) (hl : lv_has ls 2 [(0, .ref (aD G k0)), (1, .int v1)]) : W p l e rX4_highOf s m args below meth c H locs 0 0 (MQ below (XQi cellX 80 G res σ) args s 0 0 (gA 80 G)) (F0 m 0 ls []) := by
  unfold fX4_highOf at h
  obtain ⟨hk_k0, h⟩ := gd_some h
  have hk_k0 : kX k0 = 3 := eq_of_beq hk_k0
  refine lv_iload_n C0.1 C0.2.1 dX4_highOf_0 rfl (lv_at hl 1 rfl) ?_
  refine lv_if_lt (tgt := 22) C0.1 C0.2.1 dX4_highOf_1 (by decide) (fun c21 => ?_) (fun c21 => ?_)
  · rw [if_pos c21] at h
    exact wX4_highOf_22 C0 G0 hJ z σ _ h hW (lv_sub hl [] rfl)
  · rw [if_neg c21] at h
    refine lv_iload_n C0.1 C0.2.1 dX4_highOf_4 rfl (lv_at hl 1 rfl) ?_
    refine lv_aload_n C0.1 C0.2.1 dX4_highOf_5 rfl (lv_at hl 0 rfl) ?_
    refine x_get (v := .ref (aD G (k0 + 3))) C0 G0 hW (cX_X4 hk_k0) (kX_lt hk_k0 (by decide)) rfl 2 (by decide) inX4_highOf_X4 lkX4_highOf_19 rfl dX4_highOf_6 ?_
    refine x_alen (v := (2 : Int32)) C0 G0 hW 0 (cX_I2 (kSX4_3 hk_k0)) (kX_lt (kSX4_3 hk_k0) (by decide)) rfl rfl dX4_highOf_9 ?_
    refine lv_icmp_ge (tgt := 22) C0.1 C0.2.1 dX4_highOf_10 (by decide) (fun c22 => ?_) (fun c22 => ?_)
    · rw [if_pos c22] at h
      exact wX4_highOf_22 C0 G0 hJ z σ _ h hW (lv_sub hl [] rfl)
    · rw [if_neg c22] at h
      refine lv_aload_n C0.1 C0.2.1 dX4_highOf_13 rfl (lv_at hl 0 rfl) ?_
      refine x_get (v := .ref (aD G (k0 + 3))) C0 G0 hW (cX_X4 hk_k0) (kX_lt hk_k0 (by decide)) rfl 2 (by decide) inX4_highOf_X4 lkX4_highOf_19 rfl dX4_highOf_14 ?_
      refine lv_iload_n C0.1 C0.2.1 dX4_highOf_17 rfl (lv_at hl 1 rfl) ?_
      obtain ⟨g23, h⟩ := gd_some h
      refine x_iald C0 G0 hW (cX_I2 (kSX4_3 hk_k0)) (kX_lt (kSX4_3 hk_k0) (by decide)) g23 dX4_highOf_18 ?_
      refine lv_goto (tgt := 23) C0.1 C0.2.1 dX4_highOf_19 (by decide) ?_
      exact wX4_highOf_23 C0 G0 hJ z σ (σ.1 (k0 + 3) (v1).toNatClampNeg) _ h hW (lv_sub hl [] rfl)
theorem cX4_highOf_met (l : Launch) {G : GT} (hJ : gJ 80 G) (z : Nat) (σ : ST) (k0 : Nat) (v1 : Int32) (res : Int32) (h : fX4_highOf z σ k0 v1 = some res) : Met l yX4_highOf wsX4_highOf rX4_highOf (XPc cellX 80 G σ [.ref (aD G k0), .int v1]) (XQi cellX 80 G res σ) 0 0 (gA 80 G) :=
  x_met (ret := (some .int)) (maxL := 2) (by decide) rfl (Nat.le_of_ble_eq_true rfl) (fun p e s m args below meth c H locs ls C0 G0 hW hl => wX4_highOf C0 G0 hJ z σ k0 v1 res h hW hl)
end
/-! X4_copy -/
def rX4_copy : Room := { frames := 1, cells := 0, slots := 0, locals := 21 }
theorem hdvX4_copy : yX4_copy.cls = RX4 ∧ yX4_copy.cls ≠ "java/lang/invoke/MethodHandle" ∧ yX4_copy.cls ≠ "java/lang/invoke/VarHandle" ∧ (parseMethodDescriptor yX4_copy.desc).map (fun d => d.parameters.length) = some 1 := by decide +kernel
theorem inX4_copy_X4 : ∀ w ∈ u_ws RX4 TX4 6, w ∈ wsX4_copy := by decide +kernel
theorem lkX4_copy_9 : Cond.fieldLink RX4 9 (TX4 0).1 (TX4 0).2.1 (TX4 0).2.2.1 ∈ wsX4_copy := by decide +kernel
theorem lkX4_copy_15 : Cond.fieldLink RX4 15 (TX4 1).1 (TX4 1).2.1 (TX4 1).2.2.1 ∈ wsX4_copy := by decide +kernel
theorem lkX4_copy_19 : Cond.fieldLink RX4 19 (TX4 2).1 (TX4 2).2.1 (TX4 2).2.2.1 ∈ wsX4_copy := by decide +kernel
theorem lkX4_copy_32 : Cond.fieldLink RX4 32 (TX4 3).1 (TX4 3).2.1 (TX4 3).2.2.1 ∈ wsX4_copy := by decide +kernel
theorem lkX4_copy_35 : Cond.fieldLink RX4 35 (TX4 4).1 (TX4 4).2.1 (TX4 4).2.2.1 ∈ wsX4_copy := by decide +kernel
theorem lkX4_copy_38 : Cond.fieldLink RX4 38 (TX4 5).1 (TX4 5).2.1 (TX4 5).2.2.1 ∈ wsX4_copy := by decide +kernel
def fX4_copy_76 (z : Nat) (σ : ST) (k0 : Nat) (k1 : Nat) : Option ST := lt (pI σ k0 3 (σ.1 k1 3)) (fun s33 => lt (pI s33 k0 4 (s33.1 k1 4)) (fun s34 => lt (pI s34 k0 5 (s34.1 k1 5)) (fun s35 => some s35)))
def fX4_copy_30 (z : Nat) (k0 : Nat) (k1 : Nat) : Nat → ST → Int32 → Option ST
  | 0 => fun _ _ => none
  | n + 1 => fun σ v2 => (if (2 : Int32) ≤ v2 then fX4_copy_76 z σ k0 k1 else (if (2 : Int32) ≤ v2 then fX4_copy_76 z σ k0 k1 else bd (fX4_lowOf z σ k1 v2) (fun u27 => gd (inb v2 2) ( lt (pI σ (k0 + 2) (v2).toNatClampNeg u27) (fun s29 => bd (fX4_highOf z s29 k1 v2) (fun u30 => gd (inb v2 2) ( lt (pI s29 (k0 + 3) (v2).toNatClampNeg u30) (fun s32 => (fX4_copy_30 z k0 k1 n) s32 (v2 + 1)))))))))
def fX4_copy_2 (z : Nat) (k0 : Nat) (k1 : Nat) : Nat → ST → Int32 → Option ST
  | 0 => fun _ _ => none
  | n + 1 => fun σ v2 => (if (11 : Int32) ≤ v2 then fX4_copy_30 z k0 k1 z σ (0 : Int32) else bd (fX4_of z σ k1 v2) (fun u22 => gd (inb v2 11) ( lt (pL σ (k0 + 1) (v2).toNatClampNeg u22) (fun s24 => (fX4_copy_2 z k0 k1 n) s24 (v2 + 1)))))
def fX4_copy (z : Nat) (σ : ST) (k0 : Nat) (k1 : Nat) : Option ST := gd (kX k0 == 3) (gd (kX k1 == 3) (fX4_copy_2 z k0 k1 z σ (0 : Int32)))
section
variable {p : Program} {l : Launch} {e : Env} {s : State} {m : MethodId} {args : Array Value} {below : List Frame} {meth : Method} {c : Code} {G : GT}
set_option maxHeartbeats 4000000 in
set_option maxRecDepth 100000 in
theorem wX4_copy_76 (C0 : Cx p s m args meth c cX4_copy RX4 3 none wsX4_copy) (G0 : Gx G s) (hJ : gJ 80 G) (z : Nat) (σ : ST) (k0 : Nat) (k1 : Nat) (res : ST) (h : fX4_copy_76 z σ k0 k1 = some res) (hk_k0 : kX k0 = 3) (hk_k1 : kX k1 = 3) {H : Heap} {locs : List Loc} {ls : Array Slot} (hW : Wd cellX 80 G s.heap σ H locs) (hl : lv_has ls 3 [(0, .ref (aD G k0)), (1, .ref (aD G k1))]) : W p l e rX4_copy s m args below meth c H locs 0 0 (MQ below (XQv cellX 80 G res) args s 0 0 (gA 80 G)) (F0 m 76 ls []) := by
  unfold fX4_copy_76 at h
  refine lv_aload_n C0.1 C0.2.1 dX4_copy_76 rfl (lv_at hl 0 rfl) ?_
  refine lv_aload_n C0.1 C0.2.1 dX4_copy_77 rfl (lv_at hl 1 rfl) ?_
  refine x_get (v := .int (σ.1 k1 3)) C0 G0 hW (cX_X4 hk_k1) (kX_lt hk_k1 (by decide)) rfl 3 (by decide) inX4_copy_X4 lkX4_copy_32 rfl dX4_copy_78 ?_
  refine x_putI (v := (σ.1 k1 3)) C0 G0 hJ hW (cX_X4 hk_k0) (kX_lt hk_k0 (by decide)) rfl 3 (by decide) inX4_copy_X4 lkX4_copy_32 tyX4 tyX4_ok nmX4 rfl rfl rfl (Nat.le_of_ble_eq_true rfl) (hu_X4_3 hk_k0) dX4_copy_81 (fun H locs hW => ?_)
  obtain ⟨s33, es33, h⟩ := lt_some h
  rw [es33] at hW
  refine lv_aload_n C0.1 C0.2.1 dX4_copy_84 rfl (lv_at hl 0 rfl) ?_
  refine lv_aload_n C0.1 C0.2.1 dX4_copy_85 rfl (lv_at hl 1 rfl) ?_
  refine x_get (v := .int (s33.1 k1 4)) C0 G0 hW (cX_X4 hk_k1) (kX_lt hk_k1 (by decide)) rfl 4 (by decide) inX4_copy_X4 lkX4_copy_35 rfl dX4_copy_86 ?_
  refine x_putI (v := (s33.1 k1 4)) C0 G0 hJ hW (cX_X4 hk_k0) (kX_lt hk_k0 (by decide)) rfl 4 (by decide) inX4_copy_X4 lkX4_copy_35 tyX4 tyX4_ok nmX4 rfl rfl rfl (Nat.le_of_ble_eq_true rfl) (hu_X4_4 hk_k0) dX4_copy_89 (fun H locs hW => ?_)
  obtain ⟨s34, es34, h⟩ := lt_some h
  rw [es34] at hW
  refine lv_aload_n C0.1 C0.2.1 dX4_copy_92 rfl (lv_at hl 0 rfl) ?_
  refine lv_aload_n C0.1 C0.2.1 dX4_copy_93 rfl (lv_at hl 1 rfl) ?_
  refine x_get (v := .int (s34.1 k1 5)) C0 G0 hW (cX_X4 hk_k1) (kX_lt hk_k1 (by decide)) rfl 5 (by decide) inX4_copy_X4 lkX4_copy_38 rfl dX4_copy_94 ?_
  refine x_putI (v := (s34.1 k1 5)) C0 G0 hJ hW (cX_X4 hk_k0) (kX_lt hk_k0 (by decide)) rfl 5 (by decide) inX4_copy_X4 lkX4_copy_38 tyX4 tyX4_ok nmX4 rfl rfl rfl (Nat.le_of_ble_eq_true rfl) (hu_X4_5 hk_k0) dX4_copy_97 (fun H locs hW => ?_)
  obtain ⟨s35, es35, h⟩ := lt_some h
  rw [es35] at hW
  cases h
  exact x_vret C0 hW dX4_copy_100
set_option maxHeartbeats 4000000 in
set_option maxRecDepth 100000 in
theorem wX4_copy_30 (C0 : Cx p s m args meth c cX4_copy RX4 3 none wsX4_copy) (G0 : Gx G s) (hJ : gJ 80 G) (z : Nat) (k0 : Nat) (k1 : Nat) (n : Nat) (σ : ST) (v2 : Int32) (res : ST) (h : fX4_copy_30 z k0 k1 n σ v2 = some res) (hk_k0 : kX k0 = 3) (hk_k1 : kX k1 = 3) {H : Heap} {locs : List Loc} {ls : Array Slot} (hW : Wd cellX 80 G s.heap σ H locs) (hl : lv_has ls 3 [(0, .ref (aD G k0)), (1, .ref (aD G k1)), (2, .int v2)]) : W p l e rX4_copy s m args below meth c H locs 0 0 (MQ below (XQv cellX 80 G res) args s 0 0 (gA 80 G)) (F0 m 30 ls []) := by
  induction n generalizing σ v2 H locs ls with
  | zero => cases h
  | succ n ih =>
    have hr30 : ∀ (σ : ST) (v2 : Int32), fX4_copy_30 z k0 k1 n σ v2 = some res → ∀ (H : Heap) (locs : List Loc) (ls : Array Slot), Wd cellX 80 G s.heap σ H locs → lv_has ls 3 [(0, .ref (aD G k0)), (1, .ref (aD G k1)), (2, .int v2)] → W p l e rX4_copy s m args below meth c H locs 0 0 (MQ below (XQv cellX 80 G res) args s 0 0 (gA 80 G)) (F0 m 30 ls []) := fun σ v2 h H locs ls hW hl => ih σ v2 h hW hl
    clear ih
    unfold fX4_copy_30 at h
    refine lv_iload_n C0.1 C0.2.1 dX4_copy_30 rfl (lv_at hl 2 rfl) ?_
    refine lv_aload_n C0.1 C0.2.1 dX4_copy_31 rfl (lv_at hl 0 rfl) ?_
    refine x_get (v := .ref (aD G (k0 + 2))) C0 G0 hW (cX_X4 hk_k0) (kX_lt hk_k0 (by decide)) rfl 1 (by decide) inX4_copy_X4 lkX4_copy_15 rfl dX4_copy_32 ?_
    refine x_alen (v := (2 : Int32)) C0 G0 hW 0 (cX_I2 (kSX4_2 hk_k0)) (kX_lt (kSX4_2 hk_k0) (by decide)) rfl rfl dX4_copy_35 ?_
    refine lv_icmp_ge (tgt := 76) C0.1 C0.2.1 dX4_copy_36 (by decide) (fun c25 => ?_) (fun c25 => ?_)
    · rw [if_pos c25] at h
      exact wX4_copy_76 C0 G0 hJ z σ k0 k1 _ h hk_k0 hk_k1 hW (lv_sub hl [0, 1] rfl)
    · rw [if_neg c25] at h
      refine lv_iload_n C0.1 C0.2.1 dX4_copy_39 rfl (lv_at hl 2 rfl) ?_
      refine lv_aload_n C0.1 C0.2.1 dX4_copy_40 rfl (lv_at hl 0 rfl) ?_
      refine x_get (v := .ref (aD G (k0 + 3))) C0 G0 hW (cX_X4 hk_k0) (kX_lt hk_k0 (by decide)) rfl 2 (by decide) inX4_copy_X4 lkX4_copy_19 rfl dX4_copy_41 ?_
      refine x_alen (v := (2 : Int32)) C0 G0 hW 0 (cX_I2 (kSX4_3 hk_k0)) (kX_lt (kSX4_3 hk_k0) (by decide)) rfl rfl dX4_copy_44 ?_
      refine lv_icmp_ge (tgt := 76) C0.1 C0.2.1 dX4_copy_45 (by decide) (fun c26 => ?_) (fun c26 => ?_)
      · rw [if_pos c26] at h
        exact wX4_copy_76 C0 G0 hJ z σ k0 k1 _ h hk_k0 hk_k1 hW (lv_sub hl [0, 1] rfl)
      · rw [if_neg c26] at h
        refine lv_aload_n C0.1 C0.2.1 dX4_copy_48 rfl (lv_at hl 0 rfl) ?_
        refine x_get (v := .ref (aD G (k0 + 2))) C0 G0 hW (cX_X4 hk_k0) (kX_lt hk_k0 (by decide)) rfl 1 (by decide) inX4_copy_X4 lkX4_copy_15 rfl dX4_copy_49 ?_
        refine lv_iload_n C0.1 C0.2.1 dX4_copy_52 rfl (lv_at hl 2 rfl) ?_
        refine lv_aload_n C0.1 C0.2.1 dX4_copy_53 rfl (lv_at hl 1 rfl) ?_
        refine lv_iload_n C0.1 C0.2.1 dX4_copy_54 rfl (lv_at hl 2 rfl) ?_
        obtain ⟨u27, hu27, h⟩ := bd_some h
        refine x_ki (r := u27) (x_runV (As := [.int v2]) (rest := [.int v2, .ref (aD G (k0 + 2))]) C0 G0 hW (cX4_lowOf_met l hJ z σ k1 v2 _ hu27) (cwV 1 C0.2.2.2.1 gX4_copy_X4_lowOf rfl rfl rfl hdvX4_lowOf ⟨Nat.le_of_ble_eq_true rfl, Nat.le_of_ble_eq_true rfl⟩) (cX_X4 hk_k1) (kX_lt hk_k1 (by decide)) rfl rfl rfl hl (Nat.le_of_ble_eq_true rfl) dX4_copy_55 ⟨Nat.le_refl 0, Nat.le_refl 0⟩) hW (fun H locs hW => ?_)
        obtain ⟨g28, h⟩ := gd_some h
        refine x_iast C0 G0 hJ hW (fun f g => (cX_I2 (kSX4_2 hk_k0))) (kX_lt (kSX4_2 hk_k0) (by decide)) g28 dX4_copy_58 (fun H locs hW => ?_)
        obtain ⟨s29, es29, h⟩ := lt_some h
        rw [es29] at hW
        refine lv_aload_n C0.1 C0.2.1 dX4_copy_59 rfl (lv_at hl 0 rfl) ?_
        refine x_get (v := .ref (aD G (k0 + 3))) C0 G0 hW (cX_X4 hk_k0) (kX_lt hk_k0 (by decide)) rfl 2 (by decide) inX4_copy_X4 lkX4_copy_19 rfl dX4_copy_60 ?_
        refine lv_iload_n C0.1 C0.2.1 dX4_copy_63 rfl (lv_at hl 2 rfl) ?_
        refine lv_aload_n C0.1 C0.2.1 dX4_copy_64 rfl (lv_at hl 1 rfl) ?_
        refine lv_iload_n C0.1 C0.2.1 dX4_copy_65 rfl (lv_at hl 2 rfl) ?_
        obtain ⟨u30, hu30, h⟩ := bd_some h
        refine x_ki (r := u30) (x_runV (As := [.int v2]) (rest := [.int v2, .ref (aD G (k0 + 3))]) C0 G0 hW (cX4_highOf_met l hJ z s29 k1 v2 _ hu30) (cwV 1 C0.2.2.2.1 gX4_copy_X4_highOf rfl rfl rfl hdvX4_highOf ⟨Nat.le_of_ble_eq_true rfl, Nat.le_of_ble_eq_true rfl⟩) (cX_X4 hk_k1) (kX_lt hk_k1 (by decide)) rfl rfl rfl hl (Nat.le_of_ble_eq_true rfl) dX4_copy_66 ⟨Nat.le_refl 0, Nat.le_refl 0⟩) hW (fun H locs hW => ?_)
        obtain ⟨g31, h⟩ := gd_some h
        refine x_iast C0 G0 hJ hW (fun f g => (cX_I2 (kSX4_3 hk_k0))) (kX_lt (kSX4_3 hk_k0) (by decide)) g31 dX4_copy_69 (fun H locs hW => ?_)
        obtain ⟨s32, es32, h⟩ := lt_some h
        rw [es32] at hW
        refine lv_iinc (v := (v2 + 1)) (lv' := [(2, .int (v2 + 1)), (0, .ref (aD G k0)), (1, .ref (aD G k1))]) C0.1 C0.2.1 dX4_copy_70 hl (k := 2) rfl rfl (by decide) rfl (fun ls hl => ?_)
        refine lv_goto (tgt := 30) C0.1 C0.2.1 dX4_copy_73 (by decide) ?_
        exact hr30 s32 (v2 + 1) h _ _ _ hW (lv_sub hl [1, 2, 0] rfl)
set_option maxHeartbeats 4000000 in
set_option maxRecDepth 100000 in
theorem wX4_copy_2 (C0 : Cx p s m args meth c cX4_copy RX4 3 none wsX4_copy) (G0 : Gx G s) (hJ : gJ 80 G) (z : Nat) (k0 : Nat) (k1 : Nat) (n : Nat) (σ : ST) (v2 : Int32) (res : ST) (h : fX4_copy_2 z k0 k1 n σ v2 = some res) (hk_k0 : kX k0 = 3) (hk_k1 : kX k1 = 3) {H : Heap} {locs : List Loc} {ls : Array Slot} (hW : Wd cellX 80 G s.heap σ H locs) (hl : lv_has ls 3 [(0, .ref (aD G k0)), (1, .ref (aD G k1)), (2, .int v2)]) : W p l e rX4_copy s m args below meth c H locs 0 0 (MQ below (XQv cellX 80 G res) args s 0 0 (gA 80 G)) (F0 m 2 ls []) := by
  induction n generalizing σ v2 H locs ls with
  | zero => cases h
  | succ n ih =>
    have hr2 : ∀ (σ : ST) (v2 : Int32), fX4_copy_2 z k0 k1 n σ v2 = some res → ∀ (H : Heap) (locs : List Loc) (ls : Array Slot), Wd cellX 80 G s.heap σ H locs → lv_has ls 3 [(0, .ref (aD G k0)), (1, .ref (aD G k1)), (2, .int v2)] → W p l e rX4_copy s m args below meth c H locs 0 0 (MQ below (XQv cellX 80 G res) args s 0 0 (gA 80 G)) (F0 m 2 ls []) := fun σ v2 h H locs ls hW hl => ih σ v2 h hW hl
    clear ih
    unfold fX4_copy_2 at h
    refine lv_iload_n C0.1 C0.2.1 dX4_copy_2 rfl (lv_at hl 2 rfl) ?_
    refine lv_aload_n C0.1 C0.2.1 dX4_copy_3 rfl (lv_at hl 0 rfl) ?_
    refine x_get (v := .ref (aD G (k0 + 1))) C0 G0 hW (cX_X4 hk_k0) (kX_lt hk_k0 (by decide)) rfl 0 (by decide) inX4_copy_X4 lkX4_copy_9 rfl dX4_copy_4 ?_
    refine x_alen (v := (11 : Int32)) C0 G0 hW 1 (cX_J11 (kSX4_1 hk_k0)) (kX_lt (kSX4_1 hk_k0) (by decide)) rfl rfl dX4_copy_7 ?_
    refine lv_icmp_ge (tgt := 28) C0.1 C0.2.1 dX4_copy_8 (by decide) (fun c21 => ?_) (fun c21 => ?_)
    · rw [if_pos c21] at h
      refine lv_iconst (v := (0 : Int32)) C0.1 C0.2.1 dX4_copy_28 (by decide) ?_
      refine lv_istore_n (lv' := [(2, .int (0 : Int32)), (0, .ref (aD G k0)), (1, .ref (aD G k1))]) C0.1 C0.2.1 dX4_copy_29 rfl hl (by decide) rfl (fun ls hl => ?_)
      exact wX4_copy_30 C0 G0 hJ z k0 k1 z σ (0 : Int32) _ h hk_k0 hk_k1 hW (lv_sub hl [1, 2, 0] rfl)
    · rw [if_neg c21] at h
      refine lv_aload_n C0.1 C0.2.1 dX4_copy_11 rfl (lv_at hl 0 rfl) ?_
      refine x_get (v := .ref (aD G (k0 + 1))) C0 G0 hW (cX_X4 hk_k0) (kX_lt hk_k0 (by decide)) rfl 0 (by decide) inX4_copy_X4 lkX4_copy_9 rfl dX4_copy_12 ?_
      refine lv_iload_n C0.1 C0.2.1 dX4_copy_15 rfl (lv_at hl 2 rfl) ?_
      refine lv_aload_n C0.1 C0.2.1 dX4_copy_16 rfl (lv_at hl 1 rfl) ?_
      refine lv_iload_n C0.1 C0.2.1 dX4_copy_17 rfl (lv_at hl 2 rfl) ?_
      obtain ⟨u22, hu22, h⟩ := bd_some h
      refine x_kl (r := u22) (x_runV (As := [.int v2]) (rest := [.int v2, .ref (aD G (k0 + 1))]) C0 G0 hW (cX4_of_met l hJ z σ k1 v2 _ hu22) (cwV 1 C0.2.2.2.1 gX4_copy_X4_of rfl rfl rfl hdvX4_of ⟨Nat.le_of_ble_eq_true rfl, Nat.le_of_ble_eq_true rfl⟩) (cX_X4 hk_k1) (kX_lt hk_k1 (by decide)) rfl rfl rfl hl (Nat.le_of_ble_eq_true rfl) dX4_copy_18 ⟨Nat.le_refl 0, Nat.le_refl 0⟩) hW (fun H locs hW => ?_)
      obtain ⟨g23, h⟩ := gd_some h
      refine x_last C0 G0 hJ hW (fun f g => (cX_J11 (kSX4_1 hk_k0))) (kX_lt (kSX4_1 hk_k0) (by decide)) g23 dX4_copy_21 (fun H locs hW => ?_)
      obtain ⟨s24, es24, h⟩ := lt_some h
      rw [es24] at hW
      refine lv_iinc (v := (v2 + 1)) (lv' := [(2, .int (v2 + 1)), (0, .ref (aD G k0)), (1, .ref (aD G k1))]) C0.1 C0.2.1 dX4_copy_22 hl (k := 2) rfl rfl (by decide) rfl (fun ls hl => ?_)
      refine lv_goto (tgt := 2) C0.1 C0.2.1 dX4_copy_25 (by decide) ?_
      exact hr2 s24 (v2 + 1) h _ _ _ hW (lv_sub hl [1, 2, 0] rfl)
set_option maxHeartbeats 4000000 in
set_option maxRecDepth 100000 in
theorem wX4_copy (C0 : Cx p s m args meth c cX4_copy RX4 3 none wsX4_copy) (G0 : Gx G s) (hJ : gJ 80 G) (z : Nat) (σ : ST) (k0 : Nat) (k1 : Nat) (res : ST) (h : fX4_copy z σ k0 k1 = some res)  {H : Heap} {locs : List Loc} {ls : Array Slot} (hW : Wd cellX 80 G s.heap σ H locs) (hl : lv_has ls 3 [(0, .ref (aD G k0)), (1, .ref (aD G k1))]) : W p l e rX4_copy s m args below meth c H locs 0 0 (MQ below (XQv cellX 80 G res) args s 0 0 (gA 80 G)) (F0 m 0 ls []) := by
  unfold fX4_copy at h
  obtain ⟨hk_k0, h⟩ := gd_some h
  have hk_k0 : kX k0 = 3 := eq_of_beq hk_k0
  obtain ⟨hk_k1, h⟩ := gd_some h
  have hk_k1 : kX k1 = 3 := eq_of_beq hk_k1
  refine lv_iconst (v := (0 : Int32)) C0.1 C0.2.1 dX4_copy_0 (by decide) ?_
  refine lv_istore_n (lv' := [(2, .int (0 : Int32)), (0, .ref (aD G k0)), (1, .ref (aD G k1))]) C0.1 C0.2.1 dX4_copy_1 rfl hl (by decide) rfl (fun ls hl => ?_)
  exact wX4_copy_2 C0 G0 hJ z k0 k1 z σ (0 : Int32) _ h hk_k0 hk_k1 hW (lv_sub hl [1, 2, 0] rfl)
theorem cX4_copy_met (l : Launch) {G : GT} (hJ : gJ 80 G) (z : Nat) (σ : ST) (k0 : Nat) (k1 : Nat) (res : ST) (h : fX4_copy z σ k0 k1 = some res) : Met l yX4_copy wsX4_copy rX4_copy (XPc cellX 80 G σ [.ref (aD G k0), .ref (aD G k1)]) (XQv cellX 80 G res) 0 0 (gA 80 G) :=
  x_met (ret := none) (maxL := 3) (by decide) rfl (Nat.le_of_ble_eq_true rfl) (fun p e s m args below meth c H locs ls C0 G0 hW hl => wX4_copy C0 G0 hJ z σ k0 k1 res h hW hl)
end
/-! X5_put -/
def rX5_put : Room := { frames := 2, cells := 0, slots := 0, locals := 43 }
theorem hdvX5_put : yX5_put.cls = RX5 ∧ yX5_put.cls ≠ "java/lang/invoke/MethodHandle" ∧ yX5_put.cls ≠ "java/lang/invoke/VarHandle" ∧ (parseMethodDescriptor yX5_put.desc).map (fun d => d.parameters.length) = some 2 := by decide +kernel
def fX5_put_15 (z : Nat) (σ : ST) : Option ST := some σ
def fX5_put (z : Nat) (σ : ST) (k0 : Nat) (v1 : Int32) (k2 : Nat) : Option ST := gd (kX k0 == 4) (gd (kX k2 == 3) (bd (fX5_at z σ k0 v1) (fun u21 => nl (u21) (fX5_put_15 z σ) (fun k22 => gd (kX k22 == 3) (bd (fX4_copy z σ k22 k2) (fun u23 => fX5_put_15 z u23))))))
section
variable {p : Program} {l : Launch} {e : Env} {s : State} {m : MethodId} {args : Array Value} {below : List Frame} {meth : Method} {c : Code} {G : GT}
set_option maxHeartbeats 4000000 in
set_option maxRecDepth 100000 in
theorem wX5_put_15 (C0 : Cx p s m args meth c cX5_put RX5 4 none wsX5_put) (G0 : Gx G s) (hJ : gJ 80 G) (z : Nat) (σ : ST) (res : ST) (h : fX5_put_15 z σ = some res)  {H : Heap} {locs : List Loc} {ls : Array Slot} (hW : Wd cellX 80 G s.heap σ H locs) (hl : lv_has ls 4 []) : W p l e rX5_put s m args below meth c H locs 0 0 (MQ below (XQv cellX 80 G res) args s 0 0 (gA 80 G)) (F0 m 15 ls []) := by
  unfold fX5_put_15 at h
  cases h
  exact x_vret C0 hW dX5_put_15
set_option maxHeartbeats 4000000 in
set_option maxRecDepth 100000 in
theorem wX5_put (C0 : Cx p s m args meth c cX5_put RX5 4 none wsX5_put) (G0 : Gx G s) (hJ : gJ 80 G) (z : Nat) (σ : ST) (k0 : Nat) (v1 : Int32) (k2 : Nat) (res : ST) (h : fX5_put z σ k0 v1 k2 = some res)  {H : Heap} {locs : List Loc} {ls : Array Slot} (hW : Wd cellX 80 G s.heap σ H locs) (hl : lv_has ls 4 [(0, .ref (aD G k0)), (1, .int v1), (2, .ref (aD G k2))]) : W p l e rX5_put s m args below meth c H locs 0 0 (MQ below (XQv cellX 80 G res) args s 0 0 (gA 80 G)) (F0 m 0 ls []) := by
  unfold fX5_put at h
  obtain ⟨hk_k0, h⟩ := gd_some h
  have hk_k0 : kX k0 = 4 := eq_of_beq hk_k0
  obtain ⟨hk_k2, h⟩ := gd_some h
  have hk_k2 : kX k2 = 3 := eq_of_beq hk_k2
  refine lv_aload_n C0.1 C0.2.1 dX5_put_0 rfl (lv_at hl 0 rfl) ?_
  refine lv_iload_n C0.1 C0.2.1 dX5_put_1 rfl (lv_at hl 1 rfl) ?_
  obtain ⟨u21, hu21, h⟩ := bd_some h
  refine x_kr (r := u21) (x_runV (As := [.int v1]) (rest := []) C0 G0 hW (cX5_at_met l hJ z σ k0 v1 _ hu21) (cwV 1 C0.2.2.2.1 gX5_put_X5_at rfl rfl rfl hdvX5_at ⟨Nat.le_of_ble_eq_true rfl, Nat.le_of_ble_eq_true rfl⟩) (cX_X5 hk_k0) (kX_lt hk_k0 (by decide)) rfl rfl rfl hl (Nat.le_of_ble_eq_true rfl) dX5_put_2 ⟨Nat.le_refl 0, Nat.le_refl 0⟩) hW (fun H locs hW => ?_)
  refine x_astore_n (lv' := [(3, va_rf ((u21).map (aD G))), (0, .ref (aD G k0)), (1, .int v1), (2, .ref (aD G k2))]) C0 dX5_put_5 rfl hl (by decide) rfl (fun ls hl => ?_)
  refine x_aload_n C0 dX5_put_6 rfl (lv_at hl 0 rfl) ?_
  refine x_ifnull (tgt := 15) C0 dX5_put_7 (by decide) (fun hn => ?_) (fun k22 hn => ?_)
  · subst hn
    have hl := lv_sub (l' := [(0, .ref (aD G k0)), (1, .int v1), (2, .ref (aD G k2))]) hl [1, 2, 3] rfl
    replace h := nl_none h
    exact wX5_put_15 C0 G0 hJ z σ _ h hW (lv_sub hl [] rfl)
  · subst hn
    have hl : lv_has ls 4 [(3, .ref (aD G k22)), (0, .ref (aD G k0)), (1, .int v1), (2, .ref (aD G k2))] := hl
    replace h := nl_k h
    obtain ⟨hk_k22, h⟩ := gd_some h
    have hk_k22 : kX k22 = 3 := eq_of_beq hk_k22
    refine lv_aload_n C0.1 C0.2.1 dX5_put_10 rfl (lv_at hl 0 rfl) ?_
    refine lv_aload_n C0.1 C0.2.1 dX5_put_11 rfl (lv_at hl 3 rfl) ?_
    obtain ⟨u23, hu23, h⟩ := bd_some h
    refine x_kv (x_runV (As := [.ref (aD G k2)]) (rest := []) C0 G0 hW (cX4_copy_met l hJ z σ k22 k2 _ hu23) (cwV 1 C0.2.2.2.1 gX5_put_X4_copy rfl rfl rfl hdvX4_copy ⟨Nat.le_of_ble_eq_true rfl, Nat.le_of_ble_eq_true rfl⟩) (cX_X4 hk_k22) (kX_lt hk_k22 (by decide)) rfl rfl rfl hl (Nat.le_of_ble_eq_true rfl) dX5_put_12 ⟨Nat.le_refl 0, Nat.le_refl 0⟩) hW (fun H locs hW => ?_)
    exact wX5_put_15 C0 G0 hJ z u23 _ h hW (lv_sub hl [] rfl)
theorem cX5_put_met (l : Launch) {G : GT} (hJ : gJ 80 G) (z : Nat) (σ : ST) (k0 : Nat) (v1 : Int32) (k2 : Nat) (res : ST) (h : fX5_put z σ k0 v1 k2 = some res) : Met l yX5_put wsX5_put rX5_put (XPc cellX 80 G σ [.ref (aD G k0), .int v1, .ref (aD G k2)]) (XQv cellX 80 G res) 0 0 (gA 80 G) :=
  x_met (ret := none) (maxL := 4) (by decide) rfl (Nat.le_of_ble_eq_true rfl) (fun p e s m args below meth c H locs ls C0 G0 hW hl => wX5_put C0 G0 hJ z σ k0 v1 k2 res h hW hl)
end
/-! X8_moved -/
def rX8_moved : Room := { frames := 1, cells := 0, slots := 0, locals := 21 }
theorem hdsX8_moved : yX8_moved.cls ≠ "java/lang/invoke/MethodHandle" ∧ yX8_moved.cls ≠ "java/lang/invoke/VarHandle" ∧ (parseMethodDescriptor yX8_moved.desc).map (fun d => d.parameters.length) = some 2 := by decide +kernel
theorem jlX8_moved_199 : Cond.methodLink RX8 199 Lib.Math.max.name ∈ wsX8_moved := by decide +kernel
theorem jsX8_moved_199 : Cond.static Lib.Math.max.name ∈ wsX8_moved := by decide +kernel
theorem jiX8_moved : Cond.initialized "java/lang/Math" ∈ wsX8_moved := by decide +kernel
theorem jcX8_moved_199 : Cond.code Lib.Math.max.name Lib.Math.max.code 2 (some .int) ∈ wsX8_moved := by decide +kernel
theorem jlX8_moved_205 : Cond.methodLink RX8 205 Lib.Math.min.name ∈ wsX8_moved := by decide +kernel
theorem jsX8_moved_205 : Cond.static Lib.Math.min.name ∈ wsX8_moved := by decide +kernel
theorem jcX8_moved_205 : Cond.code Lib.Math.min.name Lib.Math.min.code 2 (some .int) ∈ wsX8_moved := by decide +kernel
def fX8_moved_30 (z : Nat) (t0 : Int32) : Option Int32 := some t0
def fX8_moved (z : Nat) (v0 : Int32) (v1 : Int32) : Option Int32 := (if v1 = (1 : Int32) then some (if (9 : Int32) < (v0 + (1 : Int32)) then (9 : Int32) else (v0 + (1 : Int32))) else (if v1 = (2 : Int32) then fX8_moved_30 z (if (v0 - (1 : Int32)) < (0 : Int32) then (0 : Int32) else (v0 - (1 : Int32))) else fX8_moved_30 z v0))
section
variable {p : Program} {l : Launch} {e : Env} {s : State} {m : MethodId} {args : Array Value} {below : List Frame} {meth : Method} {c : Code} {G : GT}
set_option maxHeartbeats 4000000 in
set_option maxRecDepth 100000 in
theorem wX8_moved_30 (C0 : Cx p s m args meth c cX8_moved RX8 2 (some .int) wsX8_moved) {σ : ST} (G0 : Gx G s) (hJ : gJ 80 G) (z : Nat) (t0 : Int32) (res : Int32) (h : fX8_moved_30 z t0 = some res)  {H : Heap} {locs : List Loc} {ls : Array Slot} (hW : Wd cellX 80 G s.heap σ H locs) (hl : lv_has ls 2 []) : W p l e rX8_moved s m args below meth c H locs 0 0 (MQ below (XQi cellX 80 G res σ) args s 0 0 (gA 80 G)) (F0 m 30 ls [.int t0]) := by
  unfold fX8_moved_30 at h
  cases h
  exact x_iret C0 hW dX8_moved_30
set_option maxHeartbeats 4000000 in
set_option maxRecDepth 100000 in
theorem wX8_moved (C0 : Cx p s m args meth c cX8_moved RX8 2 (some .int) wsX8_moved) {σ : ST} (G0 : Gx G s) (hJ : gJ 80 G) (z : Nat) (v0 : Int32) (v1 : Int32) (res : Int32) (h : fX8_moved z v0 v1 = some res)  {H : Heap} {locs : List Loc} {ls : Array Slot} (hW : Wd cellX 80 G s.heap σ H locs) (hl : lv_has ls 2 [(0, .int v0), (1, .int v1)]) : W p l e rX8_moved s m args below meth c H locs 0 0 (MQ below (XQi cellX 80 G res σ) args s 0 0 (gA 80 G)) (F0 m 0 ls []) := by
  unfold fX8_moved at h
  refine lv_iload_n C0.1 C0.2.1 dX8_moved_0 rfl (lv_at hl 1 rfl) ?_
  refine lv_iconst (v := (1 : Int32)) C0.1 C0.2.1 dX8_moved_1 (by decide) ?_
  refine lv_icmp_ne (tgt := 14) C0.1 C0.2.1 dX8_moved_2 (by decide) (fun c21 => ?_) (fun c21 => ?_)
  · rw [if_neg c21] at h
    refine lv_iload_n C0.1 C0.2.1 dX8_moved_14 rfl (lv_at hl 1 rfl) ?_
    refine lv_iconst (v := (2 : Int32)) C0.1 C0.2.1 dX8_moved_15 (by decide) ?_
    refine lv_icmp_ne (tgt := 29) C0.1 C0.2.1 dX8_moved_16 (by decide) (fun c22 => ?_) (fun c22 => ?_)
    · rw [if_neg c22] at h
      refine lv_iload_n C0.1 C0.2.1 dX8_moved_29 rfl (lv_at hl 0 rfl) ?_
      exact wX8_moved_30 C0 G0 hJ z v0 _ h hW (lv_sub hl [] rfl)
    · rw [if_pos c22] at h
      refine lv_iload_n C0.1 C0.2.1 dX8_moved_19 rfl (lv_at hl 0 rfl) ?_
      refine lv_iconst (v := (1 : Int32)) C0.1 C0.2.1 dX8_moved_20 (by decide) ?_
      refine lv_isub C0.1 C0.2.1 dX8_moved_21 ?_
      refine lv_iconst (v := (0 : Int32)) C0.1 C0.2.1 dX8_moved_22 (by decide) ?_
      refine va_mmax C0.1 C0.2.1 (C0.2.2.2.2.2.1.trans hl.1.symm) C0.2.2.2.2.1 (C0.2.2.2.1 _ jlX8_moved_199) (C0.2.2.2.1 _ jsX8_moved_199) (C0.2.2.2.1 _ jiX8_moved) (C0.2.2.2.1 _ jcX8_moved_199) (Nat.le_of_ble_eq_true rfl) (Nat.le_of_ble_eq_true rfl) (Nat.le_refl 0) (Nat.le_refl 0) dX8_moved_23 ?_
      refine lv_goto (tgt := 30) C0.1 C0.2.1 dX8_moved_26 (by decide) ?_
      exact wX8_moved_30 C0 G0 hJ z (if (v0 - (1 : Int32)) < (0 : Int32) then (0 : Int32) else (v0 - (1 : Int32))) _ h hW (lv_sub hl [] rfl)
  · rw [if_pos c21] at h
    refine lv_iload_n C0.1 C0.2.1 dX8_moved_5 rfl (lv_at hl 0 rfl) ?_
    refine lv_iconst (v := (1 : Int32)) C0.1 C0.2.1 dX8_moved_6 (by decide) ?_
    refine lv_iadd C0.1 C0.2.1 dX8_moved_7 ?_
    refine lv_bipush (v := (9 : Int32)) C0.1 C0.2.1 dX8_moved_8 (by decide) ?_
    refine va_mmin C0.1 C0.2.1 (C0.2.2.2.2.2.1.trans hl.1.symm) C0.2.2.2.2.1 (C0.2.2.2.1 _ jlX8_moved_205) (C0.2.2.2.1 _ jsX8_moved_205) (C0.2.2.2.1 _ jiX8_moved) (C0.2.2.2.1 _ jcX8_moved_205) (Nat.le_of_ble_eq_true rfl) (Nat.le_of_ble_eq_true rfl) (Nat.le_refl 0) (Nat.le_refl 0) dX8_moved_10 ?_
    cases h
    exact x_iret C0 hW dX8_moved_13
theorem cX8_moved_met (l : Launch) {G : GT} (hJ : gJ 80 G) (z : Nat) (σ : ST) (v0 : Int32) (v1 : Int32) (res : Int32) (h : fX8_moved z v0 v1 = some res) : Met l yX8_moved wsX8_moved rX8_moved (XPc cellX 80 G σ [.int v0, .int v1]) (XQi cellX 80 G res σ) 0 0 (gA 80 G) :=
  x_met (ret := (some .int)) (maxL := 2) (by decide) rfl (Nat.le_of_ble_eq_true rfl) (fun p e s m args below meth c H locs ls C0 G0 hW hl => wX8_moved C0 G0 hJ z v0 v1 res h hW hl)
end
/-! X4_placeBy -/
def rX4_placeBy : Room := { frames := 2, cells := 0, slots := 0, locals := 42 }
theorem hdvX4_placeBy : yX4_placeBy.cls = RX4 ∧ yX4_placeBy.cls ≠ "java/lang/invoke/MethodHandle" ∧ yX4_placeBy.cls ≠ "java/lang/invoke/VarHandle" ∧ (parseMethodDescriptor yX4_placeBy.desc).map (fun d => d.parameters.length) = some 1 := by decide +kernel
theorem inX4_placeBy_X4 : ∀ w ∈ u_ws RX4 TX4 6, w ∈ wsX4_placeBy := by decide +kernel
theorem lkX4_placeBy_32 : Cond.fieldLink RX4 32 (TX4 3).1 (TX4 3).2.1 (TX4 3).2.2.1 ∈ wsX4_placeBy := by decide +kernel
theorem siX4_placeBy_X8_moved : Cond.initialized yX8_moved.cls ∈ wsX4_placeBy := by decide +kernel
theorem ssX4_placeBy_X8_moved : Cond.static yX8_moved ∈ wsX4_placeBy := by decide +kernel
def fX4_placeBy_18 (z : Nat) (σ : ST) (t0 : Int32) : Option Int32 := some t0
def fX4_placeBy (z : Nat) (σ : ST) (k0 : Nat) (v1 : Int32) : Option Int32 := gd (kX k0 == 3) ((if v1 = (3 : Int32) then fX4_placeBy_18 z σ (10 : Int32) else bd (fX8_moved z (σ.1 k0 3) v1) (fun u22 => fX4_placeBy_18 z σ u22)))
section
variable {p : Program} {l : Launch} {e : Env} {s : State} {m : MethodId} {args : Array Value} {below : List Frame} {meth : Method} {c : Code} {G : GT}
set_option maxHeartbeats 4000000 in
set_option maxRecDepth 100000 in
theorem wX4_placeBy_18 (C0 : Cx p s m args meth c cX4_placeBy RX4 2 (some .int) wsX4_placeBy) (G0 : Gx G s) (hJ : gJ 80 G) (z : Nat) (σ : ST) (t0 : Int32) (res : Int32) (h : fX4_placeBy_18 z σ t0 = some res)  {H : Heap} {locs : List Loc} {ls : Array Slot} (hW : Wd cellX 80 G s.heap σ H locs) (hl : lv_has ls 2 []) : W p l e rX4_placeBy s m args below meth c H locs 0 0 (MQ below (XQi cellX 80 G res σ) args s 0 0 (gA 80 G)) (F0 m 18 ls [.int t0]) := by
  unfold fX4_placeBy_18 at h
  cases h
  exact x_iret C0 hW dX4_placeBy_18
set_option maxHeartbeats 4000000 in
set_option maxRecDepth 100000 in
theorem wX4_placeBy (C0 : Cx p s m args meth c cX4_placeBy RX4 2 (some .int) wsX4_placeBy) (G0 : Gx G s) (hJ : gJ 80 G) (z : Nat) (σ : ST) (k0 : Nat) (v1 : Int32) (res : Int32) (h : fX4_placeBy z σ k0 v1 = some res)  {H : Heap} {locs : List Loc} {ls : Array Slot} (hW : Wd cellX 80 G s.heap σ H locs) (hl : lv_has ls 2 [(0, .ref (aD G k0)), (1, .int v1)]) : W p l e rX4_placeBy s m args below meth c H locs 0 0 (MQ below (XQi cellX 80 G res σ) args s 0 0 (gA 80 G)) (F0 m 0 ls []) := by
  unfold fX4_placeBy at h
  obtain ⟨hk_k0, h⟩ := gd_some h
  have hk_k0 : kX k0 = 3 := eq_of_beq hk_k0
  refine lv_iload_n C0.1 C0.2.1 dX4_placeBy_0 rfl (lv_at hl 1 rfl) ?_
  refine lv_iconst (v := (3 : Int32)) C0.1 C0.2.1 dX4_placeBy_1 (by decide) ?_
  refine lv_icmp_ne (tgt := 10) C0.1 C0.2.1 dX4_placeBy_2 (by decide) (fun c21 => ?_) (fun c21 => ?_)
  · rw [if_neg c21] at h
    refine lv_aload_n C0.1 C0.2.1 dX4_placeBy_10 rfl (lv_at hl 0 rfl) ?_
    refine x_get (v := .int (σ.1 k0 3)) C0 G0 hW (cX_X4 hk_k0) (kX_lt hk_k0 (by decide)) rfl 3 (by decide) inX4_placeBy_X4 lkX4_placeBy_32 rfl dX4_placeBy_11 ?_
    refine lv_iload_n C0.1 C0.2.1 dX4_placeBy_14 rfl (lv_at hl 1 rfl) ?_
    obtain ⟨u22, hu22, h⟩ := bd_some h
    refine x_ki (r := u22) (x_runSN (As := [.int (σ.1 k0 3), .int v1]) (rest := []) C0 G0 hW (cX8_moved_met l hJ z σ (σ.1 k0 3) v1 _ hu22) gX4_placeBy_X8_moved_n51 rfl rfl rfl (by decide +kernel) siX4_placeBy_X8_moved ssX4_placeBy_X8_moved hdsX8_moved ⟨Nat.le_of_ble_eq_true rfl, Nat.le_of_ble_eq_true rfl⟩ rfl rfl hl (Nat.le_of_ble_eq_true rfl) dX4_placeBy_15 ⟨Nat.le_refl 0, Nat.le_refl 0⟩) hW (fun H locs hW => ?_)
    exact wX4_placeBy_18 C0 G0 hJ z σ u22 _ h hW (lv_sub hl [] rfl)
  · rw [if_pos c21] at h
    refine lv_bipush (v := (10 : Int32)) C0.1 C0.2.1 dX4_placeBy_5 (by decide) ?_
    refine lv_goto (tgt := 18) C0.1 C0.2.1 dX4_placeBy_7 (by decide) ?_
    exact wX4_placeBy_18 C0 G0 hJ z σ (10 : Int32) _ h hW (lv_sub hl [] rfl)
theorem cX4_placeBy_met (l : Launch) {G : GT} (hJ : gJ 80 G) (z : Nat) (σ : ST) (k0 : Nat) (v1 : Int32) (res : Int32) (h : fX4_placeBy z σ k0 v1 = some res) : Met l yX4_placeBy wsX4_placeBy rX4_placeBy (XPc cellX 80 G σ [.ref (aD G k0), .int v1]) (XQi cellX 80 G res σ) 0 0 (gA 80 G) :=
  x_met (ret := (some .int)) (maxL := 2) (by decide) rfl (Nat.le_of_ble_eq_true rfl) (fun p e s m args below meth c H locs ls C0 G0 hW hl => wX4_placeBy C0 G0 hJ z σ k0 v1 res h hW hl)
end
/-! X7_chanceAt -/
def rX7_chanceAt : Room := { frames := 0, cells := 0, slots := 0, locals := 0 }
theorem hdvX7_chanceAt : yX7_chanceAt.cls = RX7 ∧ yX7_chanceAt.cls ≠ "java/lang/invoke/MethodHandle" ∧ yX7_chanceAt.cls ≠ "java/lang/invoke/VarHandle" ∧ (parseMethodDescriptor yX7_chanceAt.desc).map (fun d => d.parameters.length) = some 1 := by decide +kernel
theorem inX7_chanceAt_X7 : ∀ w ∈ u_ws RX7 TX7 9, w ∈ wsX7_chanceAt := by decide +kernel
theorem lkX7_chanceAt_34 : Cond.fieldLink RX7 34 (TX7 2).1 (TX7 2).2.1 (TX7 2).2.2.1 ∈ wsX7_chanceAt := by decide +kernel
theorem lkX7_chanceAt_37 : Cond.fieldLink RX7 37 (TX7 3).1 (TX7 3).2.1 (TX7 3).2.2.1 ∈ wsX7_chanceAt := by decide +kernel
def fX7_chanceAt_17 (z : Nat) (σ : ST) (t0 : Int32) : Option Int32 := some t0
def fX7_chanceAt (z : Nat) (σ : ST) (v1 : Int32) : Option Int32 := (if v1 = (10 : Int32) then fX7_chanceAt_17 z σ (σ.1 3 3) else fX7_chanceAt_17 z σ (σ.1 3 2))
section
variable {p : Program} {l : Launch} {e : Env} {s : State} {m : MethodId} {args : Array Value} {below : List Frame} {meth : Method} {c : Code} {G : GT}
set_option maxHeartbeats 4000000 in
set_option maxRecDepth 100000 in
theorem wX7_chanceAt_17 (C0 : Cx p s m args meth c cX7_chanceAt RX7 2 (some .int) wsX7_chanceAt) (G0 : Gx G s) (hJ : gJ 80 G) (z : Nat) (σ : ST) (t0 : Int32) (res : Int32) (h : fX7_chanceAt_17 z σ t0 = some res)  {H : Heap} {locs : List Loc} {ls : Array Slot} (hW : Wd cellX 80 G s.heap σ H locs) (hl : lv_has ls 2 []) : W p l e rX7_chanceAt s m args below meth c H locs 0 0 (MQ below (XQi cellX 80 G res σ) args s 0 0 (gA 80 G)) (F0 m 17 ls [.int t0]) := by
  unfold fX7_chanceAt_17 at h
  cases h
  exact x_iret C0 hW dX7_chanceAt_17
set_option maxHeartbeats 4000000 in
set_option maxRecDepth 100000 in
theorem wX7_chanceAt (C0 : Cx p s m args meth c cX7_chanceAt RX7 2 (some .int) wsX7_chanceAt) (G0 : Gx G s) (hJ : gJ 80 G) (z : Nat) (σ : ST) (v1 : Int32) (res : Int32) (h : fX7_chanceAt z σ v1 = some res)  {H : Heap} {locs : List Loc} {ls : Array Slot} (hW : Wd cellX 80 G s.heap σ H locs) (hl : lv_has ls 2 [(0, .ref (aD G 3)), (1, .int v1)]) : W p l e rX7_chanceAt s m args below meth c H locs 0 0 (MQ below (XQi cellX 80 G res σ) args s 0 0 (gA 80 G)) (F0 m 0 ls []) := by
  unfold fX7_chanceAt at h
  refine lv_iload_n C0.1 C0.2.1 dX7_chanceAt_0 rfl (lv_at hl 1 rfl) ?_
  refine lv_bipush (v := (10 : Int32)) C0.1 C0.2.1 dX7_chanceAt_1 (by decide) ?_
  refine lv_icmp_ne (tgt := 13) C0.1 C0.2.1 dX7_chanceAt_3 (by decide) (fun c21 => ?_) (fun c21 => ?_)
  · rw [if_neg c21] at h
    refine lv_aload_n C0.1 C0.2.1 dX7_chanceAt_13 rfl (lv_at hl 0 rfl) ?_
    refine x_get (v := .int (σ.1 3 2)) C0 G0 hW (cX_X7 rfl) (by decide) rfl 2 (by decide) inX7_chanceAt_X7 lkX7_chanceAt_34 rfl dX7_chanceAt_14 ?_
    exact wX7_chanceAt_17 C0 G0 hJ z σ (σ.1 3 2) _ h hW (lv_sub hl [] rfl)
  · rw [if_pos c21] at h
    refine lv_aload_n C0.1 C0.2.1 dX7_chanceAt_6 rfl (lv_at hl 0 rfl) ?_
    refine x_get (v := .int (σ.1 3 3)) C0 G0 hW (cX_X7 rfl) (by decide) rfl 3 (by decide) inX7_chanceAt_X7 lkX7_chanceAt_37 rfl dX7_chanceAt_7 ?_
    refine lv_goto (tgt := 17) C0.1 C0.2.1 dX7_chanceAt_10 (by decide) ?_
    exact wX7_chanceAt_17 C0 G0 hJ z σ (σ.1 3 3) _ h hW (lv_sub hl [] rfl)
theorem cX7_chanceAt_met (l : Launch) {G : GT} (hJ : gJ 80 G) (z : Nat) (σ : ST) (v1 : Int32) (res : Int32) (h : fX7_chanceAt z σ v1 = some res) : Met l yX7_chanceAt wsX7_chanceAt rX7_chanceAt (XPc cellX 80 G σ [.ref (aD G 3), .int v1]) (XQi cellX 80 G res σ) 0 0 (gA 80 G) :=
  x_met (ret := (some .int)) (maxL := 2) (by decide) rfl (Nat.le_of_ble_eq_true rfl) (fun p e s m args below meth c H locs ls C0 G0 hW hl => wX7_chanceAt C0 G0 hJ z σ v1 res h hW hl)
end
/-! X4_foundNow -/
def rX4_foundNow : Room := { frames := 3, cells := 0, slots := 0, locals := 63 }
theorem hdvX4_foundNow : yX4_foundNow.cls = RX4 ∧ yX4_foundNow.cls ≠ "java/lang/invoke/MethodHandle" ∧ yX4_foundNow.cls ≠ "java/lang/invoke/VarHandle" ∧ (parseMethodDescriptor yX4_foundNow.desc).map (fun d => d.parameters.length) = some 2 := by decide +kernel
def fX4_foundNow (z : Nat) (σ : ST) (k0 : Nat) (v2 : Int32) : Option Int64 := gd (kX k0 == 3) (bd (fX4_placeBy z σ k0 v2) (fun u21 => bd (fX4_of z σ k0 u21) (fun u22 => bd (fX7_chanceAt z σ u21) (fun u23 => some (u22 * ((u23).toInt64))))))
section
variable {p : Program} {l : Launch} {e : Env} {s : State} {m : MethodId} {args : Array Value} {below : List Frame} {meth : Method} {c : Code} {G : GT}
set_option maxHeartbeats 4000000 in
set_option maxRecDepth 100000 in
theorem wX4_foundNow (C0 : Cx p s m args meth c cX4_foundNow RX4 4 (some .long) wsX4_foundNow) (G0 : Gx G s) (hJ : gJ 80 G) (z : Nat) (σ : ST) (k0 : Nat) (v2 : Int32) (res : Int64) (h : fX4_foundNow z σ k0 v2 = some res)  {H : Heap} {locs : List Loc} {ls : Array Slot} (hW : Wd cellX 80 G s.heap σ H locs) (hl : lv_has ls 4 [(0, .ref (aD G k0)), (1, .ref (aD G 3)), (2, .int v2)]) : W p l e rX4_foundNow s m args below meth c H locs 0 0 (MQ below (XQl cellX 80 G res σ) args s 0 0 (gA 80 G)) (F0 m 0 ls []) := by
  unfold fX4_foundNow at h
  obtain ⟨hk_k0, h⟩ := gd_some h
  have hk_k0 : kX k0 = 3 := eq_of_beq hk_k0
  refine lv_aload_n C0.1 C0.2.1 dX4_foundNow_0 rfl (lv_at hl 0 rfl) ?_
  refine lv_iload_n C0.1 C0.2.1 dX4_foundNow_1 rfl (lv_at hl 2 rfl) ?_
  obtain ⟨u21, hu21, h⟩ := bd_some h
  refine x_ki (r := u21) (x_runV (As := [.int v2]) (rest := []) C0 G0 hW (cX4_placeBy_met l hJ z σ k0 v2 _ hu21) (cwV 1 C0.2.2.2.1 gX4_foundNow_X4_placeBy rfl rfl rfl hdvX4_placeBy ⟨Nat.le_of_ble_eq_true rfl, Nat.le_of_ble_eq_true rfl⟩) (cX_X4 hk_k0) (kX_lt hk_k0 (by decide)) rfl rfl rfl hl (Nat.le_of_ble_eq_true rfl) dX4_foundNow_2 ⟨Nat.le_refl 0, Nat.le_refl 0⟩) hW (fun H locs hW => ?_)
  refine lv_istore_n (lv' := [(3, .int u21), (0, .ref (aD G k0)), (1, .ref (aD G 3)), (2, .int v2)]) C0.1 C0.2.1 dX4_foundNow_5 rfl hl (by decide) rfl (fun ls hl => ?_)
  refine lv_aload_n C0.1 C0.2.1 dX4_foundNow_6 rfl (lv_at hl 1 rfl) ?_
  refine lv_iload_n C0.1 C0.2.1 dX4_foundNow_7 rfl (lv_at hl 0 rfl) ?_
  obtain ⟨u22, hu22, h⟩ := bd_some h
  refine x_kl (r := u22) (x_runV (As := [.int u21]) (rest := []) C0 G0 hW (cX4_of_met l hJ z σ k0 u21 _ hu22) (cwV 1 C0.2.2.2.1 gX4_foundNow_X4_of rfl rfl rfl hdvX4_of ⟨Nat.le_of_ble_eq_true rfl, Nat.le_of_ble_eq_true rfl⟩) (cX_X4 hk_k0) (kX_lt hk_k0 (by decide)) rfl rfl rfl hl (Nat.le_of_ble_eq_true rfl) dX4_foundNow_8 ⟨Nat.le_refl 0, Nat.le_refl 0⟩) hW (fun H locs hW => ?_)
  refine lv_aload_n C0.1 C0.2.1 dX4_foundNow_11 rfl (lv_at hl 2 rfl) ?_
  refine lv_iload_n C0.1 C0.2.1 dX4_foundNow_12 rfl (lv_at hl 0 rfl) ?_
  obtain ⟨u23, hu23, h⟩ := bd_some h
  refine x_ki (r := u23) (x_runV (As := [.int u21]) (rest := [.long u22]) C0 G0 hW (cX7_chanceAt_met l hJ z σ u21 _ hu23) (cwV 1 C0.2.2.2.1 gX4_foundNow_X7_chanceAt rfl rfl rfl hdvX7_chanceAt ⟨Nat.le_of_ble_eq_true rfl, Nat.le_of_ble_eq_true rfl⟩) (cX_X7 rfl) (by decide) rfl rfl rfl hl (Nat.le_of_ble_eq_true rfl) dX4_foundNow_13 ⟨Nat.le_refl 0, Nat.le_refl 0⟩) hW (fun H locs hW => ?_)
  refine lv_i2l (v := ((u23).toInt64)) C0.1 C0.2.1 dX4_foundNow_16 rfl ?_
  refine lv_lmul C0.1 C0.2.1 dX4_foundNow_17 ?_
  cases h
  exact x_lret C0 hW dX4_foundNow_18
theorem cX4_foundNow_met (l : Launch) {G : GT} (hJ : gJ 80 G) (z : Nat) (σ : ST) (k0 : Nat) (v2 : Int32) (res : Int64) (h : fX4_foundNow z σ k0 v2 = some res) : Met l yX4_foundNow wsX4_foundNow rX4_foundNow (XPc cellX 80 G σ [.ref (aD G k0), .ref (aD G 3), .int v2]) (XQl cellX 80 G res σ) 0 0 (gA 80 G) :=
  x_met (ret := (some .long)) (maxL := 4) (by decide) rfl (Nat.le_of_ble_eq_true rfl) (fun p e s m args below meth c H locs ls C0 G0 hW hl => wX4_foundNow C0 G0 hJ z σ k0 v2 res h hW hl)
end
/-! X1_offer -/
def rX1_offer : Room := { frames := 0, cells := 0, slots := 0, locals := 0 }
theorem hdvX1_offer : yX1_offer.cls = RX1 ∧ yX1_offer.cls ≠ "java/lang/invoke/MethodHandle" ∧ yX1_offer.cls ≠ "java/lang/invoke/VarHandle" ∧ (parseMethodDescriptor yX1_offer.desc).map (fun d => d.parameters.length) = some 2 := by decide +kernel
theorem inX1_offer_X1 : ∀ w ∈ u_ws RX1 TX1 2, w ∈ wsX1_offer := by decide +kernel
theorem lkX1_offer_9 : Cond.fieldLink RX1 9 (TX1 0).1 (TX1 0).2.1 (TX1 0).2.2.1 ∈ wsX1_offer := by decide +kernel
theorem lkX1_offer_15 : Cond.fieldLink RX1 15 (TX1 1).1 (TX1 1).2.1 (TX1 1).2.2.1 ∈ wsX1_offer := by decide +kernel
def fX1_offer_19 (z : Nat) (σ : ST) : Option ST := some σ
def fX1_offer (z : Nat) (σ : ST) (k0 : Nat) (v1 : Int64) (v3 : Int32) : Option ST := gd (kX k0 == 1) ((if v1 ≤ (σ.2 k0 0) then fX1_offer_19 z σ else lt (pL σ k0 0 v1) (fun s22 => lt (pI s22 k0 1 v3) (fun s23 => fX1_offer_19 z s23))))
section
variable {p : Program} {l : Launch} {e : Env} {s : State} {m : MethodId} {args : Array Value} {below : List Frame} {meth : Method} {c : Code} {G : GT}
set_option maxHeartbeats 4000000 in
set_option maxRecDepth 100000 in
theorem wX1_offer_19 (C0 : Cx p s m args meth c cX1_offer RX1 4 none wsX1_offer) (G0 : Gx G s) (hJ : gJ 80 G) (z : Nat) (σ : ST) (res : ST) (h : fX1_offer_19 z σ = some res)  {H : Heap} {locs : List Loc} {ls : Array Slot} (hW : Wd cellX 80 G s.heap σ H locs) (hl : lv_has ls 4 []) : W p l e rX1_offer s m args below meth c H locs 0 0 (MQ below (XQv cellX 80 G res) args s 0 0 (gA 80 G)) (F0 m 19 ls []) := by
  unfold fX1_offer_19 at h
  cases h
  exact x_vret C0 hW dX1_offer_19
set_option maxHeartbeats 4000000 in
set_option maxRecDepth 100000 in
theorem wX1_offer (C0 : Cx p s m args meth c cX1_offer RX1 4 none wsX1_offer) (G0 : Gx G s) (hJ : gJ 80 G) (z : Nat) (σ : ST) (k0 : Nat) (v1 : Int64) (v3 : Int32) (res : ST) (h : fX1_offer z σ k0 v1 v3 = some res)  {H : Heap} {locs : List Loc} {ls : Array Slot} (hW : Wd cellX 80 G s.heap σ H locs) (hl : lv_has ls 4 [(0, .ref (aD G k0)), (1, .long v1), (3, .int v3)]) : W p l e rX1_offer s m args below meth c H locs 0 0 (MQ below (XQv cellX 80 G res) args s 0 0 (gA 80 G)) (F0 m 0 ls []) := by
  unfold fX1_offer at h
  obtain ⟨hk_k0, h⟩ := gd_some h
  have hk_k0 : kX k0 = 1 := eq_of_beq hk_k0
  refine lv_lload_n C0.1 C0.2.1 dX1_offer_0 rfl (lv_at hl 1 rfl) ?_
  refine lv_aload_n C0.1 C0.2.1 dX1_offer_1 rfl (lv_at hl 0 rfl) ?_
  refine x_get (v := .long (σ.2 k0 0)) C0 G0 hW (cX_X1 hk_k0) (kX_lt hk_k0 (by decide)) rfl 0 (by decide) inX1_offer_X1 lkX1_offer_9 rfl dX1_offer_2 ?_
  refine x_lc_le (tgt := 19) C0 dX1_offer_5 dX1_offer_6 (by decide) (fun c21 => ?_) (fun c21 => ?_)
  · rw [if_pos c21] at h
    exact wX1_offer_19 C0 G0 hJ z σ _ h hW (lv_sub hl [] rfl)
  · rw [if_neg c21] at h
    refine lv_aload_n C0.1 C0.2.1 dX1_offer_9 rfl (lv_at hl 0 rfl) ?_
    refine lv_lload_n C0.1 C0.2.1 dX1_offer_10 rfl (lv_at hl 1 rfl) ?_
    refine x_putL (v := v1) C0 G0 hJ hW (cX_X1 hk_k0) (kX_lt hk_k0 (by decide)) rfl 0 (by decide) inX1_offer_X1 lkX1_offer_9 tyX1 tyX1_ok nmX1 rfl rfl rfl (Nat.le_of_ble_eq_true rfl) (hu_X1_0 hk_k0) dX1_offer_11 (fun H locs hW => ?_)
    obtain ⟨s22, es22, h⟩ := lt_some h
    rw [es22] at hW
    refine lv_aload_n C0.1 C0.2.1 dX1_offer_14 rfl (lv_at hl 0 rfl) ?_
    refine lv_iload_n C0.1 C0.2.1 dX1_offer_15 rfl (lv_at hl 2 rfl) ?_
    refine x_putI (v := v3) C0 G0 hJ hW (cX_X1 hk_k0) (kX_lt hk_k0 (by decide)) rfl 1 (by decide) inX1_offer_X1 lkX1_offer_15 tyX1 tyX1_ok nmX1 rfl rfl rfl (Nat.le_of_ble_eq_true rfl) (hu_X1_1 hk_k0) dX1_offer_16 (fun H locs hW => ?_)
    obtain ⟨s23, es23, h⟩ := lt_some h
    rw [es23] at hW
    exact wX1_offer_19 C0 G0 hJ z s23 _ h hW (lv_sub hl [] rfl)
theorem cX1_offer_met (l : Launch) {G : GT} (hJ : gJ 80 G) (z : Nat) (σ : ST) (k0 : Nat) (v1 : Int64) (v3 : Int32) (res : ST) (h : fX1_offer z σ k0 v1 v3 = some res) : Met l yX1_offer wsX1_offer rX1_offer (XPc cellX 80 G σ [.ref (aD G k0), .long v1, .int v3]) (XQv cellX 80 G res) 0 0 (gA 80 G) :=
  x_met (ret := none) (maxL := 4) (by decide) rfl (Nat.le_of_ble_eq_true rfl) (fun p e s m args below meth c H locs ls C0 G0 hW hl => wX1_offer C0 G0 hJ z σ k0 v1 v3 res h hW hl)
end
/-! X4_lessen -/
def rX4_lessen : Room := { frames := 0, cells := 0, slots := 0, locals := 0 }
theorem hdvX4_lessen : yX4_lessen.cls = RX4 ∧ yX4_lessen.cls ≠ "java/lang/invoke/MethodHandle" ∧ yX4_lessen.cls ≠ "java/lang/invoke/VarHandle" ∧ (parseMethodDescriptor yX4_lessen.desc).map (fun d => d.parameters.length) = some 2 := by decide +kernel
theorem inX4_lessen_X4 : ∀ w ∈ u_ws RX4 TX4 6, w ∈ wsX4_lessen := by decide +kernel
theorem lkX4_lessen_9 : Cond.fieldLink RX4 9 (TX4 0).1 (TX4 0).2.1 (TX4 0).2.2.1 ∈ wsX4_lessen := by decide +kernel
theorem kcX4_lessen_73 : Cond.constantLong RX4 73 (10 : Int64) ∈ wsX4_lessen := by decide +kernel
def fX4_lessen_31 (z : Nat) (r2 : ST → Int32 → Option ST) (σ : ST) (k0 : Nat) (v1 : Int32) (v2 : Int32) (v3 : Int32) (t0 : Int64) (t1 : Int64) (t2 : Int32) : Option ST := gd (inb t2 11) ( lt (pL σ (k0 + 1) (t2).toNatClampNeg (t1 * t0)) (fun s25 => r2 s25 (v3 + 1)))
def fX4_lessen_2 (z : Nat) (k0 : Nat) (v1 : Int32) (v2 : Int32) : Nat → ST → Int32 → Option ST
  | 0 => fun _ _ => none
  | n + 1 => fun σ v3 => (if (11 : Int32) ≤ v3 then some σ else gd (inb v3 11) ( (if v3 = v1 then fX4_lessen_31 z (fX4_lessen_2 z k0 v1 v2 n) σ k0 v1 v2 v3 ((v2).toInt64) (σ.2 (k0 + 1) (v3).toNatClampNeg) v3 else fX4_lessen_31 z (fX4_lessen_2 z k0 v1 v2 n) σ k0 v1 v2 v3 (10 : Int64) (σ.2 (k0 + 1) (v3).toNatClampNeg) v3)))
def fX4_lessen (z : Nat) (σ : ST) (k0 : Nat) (v1 : Int32) (v2 : Int32) : Option ST := gd (kX k0 == 3) (fX4_lessen_2 z k0 v1 v2 z σ (0 : Int32))
section
variable {p : Program} {l : Launch} {e : Env} {s : State} {m : MethodId} {args : Array Value} {below : List Frame} {meth : Method} {c : Code} {G : GT}
set_option maxHeartbeats 4000000 in
set_option maxRecDepth 100000 in
theorem wX4_lessen_31 (C0 : Cx p s m args meth c cX4_lessen RX4 4 none wsX4_lessen) (G0 : Gx G s) (hJ : gJ 80 G) (z : Nat) (r2 : ST → Int32 → Option ST) (σ : ST) (k0 : Nat) (v1 : Int32) (v2 : Int32) (v3 : Int32) (t0 : Int64) (t1 : Int64) (t2 : Int32) (res : ST) (h : fX4_lessen_31 z r2 σ k0 v1 v2 v3 t0 t1 t2 = some res) (hr2 : ∀ (σ : ST) (v3 : Int32), r2 σ v3 = some res → ∀ (H : Heap) (locs : List Loc) (ls : Array Slot), Wd cellX 80 G s.heap σ H locs → lv_has ls 4 [(0, .ref (aD G k0)), (1, .int v1), (2, .int v2), (3, .int v3)] → W p l e rX4_lessen s m args below meth c H locs 0 0 (MQ below (XQv cellX 80 G res) args s 0 0 (gA 80 G)) (F0 m 2 ls [])) (hk_k0 : kX k0 = 3) {H : Heap} {locs : List Loc} {ls : Array Slot} (hW : Wd cellX 80 G s.heap σ H locs) (hl : lv_has ls 4 [(0, .ref (aD G k0)), (1, .int v1), (2, .int v2), (3, .int v3)]) : W p l e rX4_lessen s m args below meth c H locs 0 0 (MQ below (XQv cellX 80 G res) args s 0 0 (gA 80 G)) (F0 m 31 ls [.long t0, .long t1, .int t2, .ref (aD G (k0 + 1))]) := by
  unfold fX4_lessen_31 at h
  refine lv_lmul C0.1 C0.2.1 dX4_lessen_31 ?_
  obtain ⟨g24, h⟩ := gd_some h
  refine x_last C0 G0 hJ hW (fun f g => (cX_J11 (kSX4_1 hk_k0))) (kX_lt (kSX4_1 hk_k0) (by decide)) g24 dX4_lessen_32 (fun H locs hW => ?_)
  obtain ⟨s25, es25, h⟩ := lt_some h
  rw [es25] at hW
  refine lv_iinc (v := (v3 + 1)) (lv' := [(3, .int (v3 + 1)), (0, .ref (aD G k0)), (1, .int v1), (2, .int v2)]) C0.1 C0.2.1 dX4_lessen_33 hl (k := 3) rfl rfl (by decide) rfl (fun ls hl => ?_)
  refine lv_goto (tgt := 2) C0.1 C0.2.1 dX4_lessen_36 (by decide) ?_
  exact hr2 s25 (v3 + 1) h _ _ _ hW (lv_sub hl [1, 2, 3, 0] rfl)
set_option maxHeartbeats 4000000 in
set_option maxRecDepth 100000 in
theorem wX4_lessen_2 (C0 : Cx p s m args meth c cX4_lessen RX4 4 none wsX4_lessen) (G0 : Gx G s) (hJ : gJ 80 G) (z : Nat) (k0 : Nat) (v1 : Int32) (v2 : Int32) (n : Nat) (σ : ST) (v3 : Int32) (res : ST) (h : fX4_lessen_2 z k0 v1 v2 n σ v3 = some res) (hk_k0 : kX k0 = 3) {H : Heap} {locs : List Loc} {ls : Array Slot} (hW : Wd cellX 80 G s.heap σ H locs) (hl : lv_has ls 4 [(0, .ref (aD G k0)), (1, .int v1), (2, .int v2), (3, .int v3)]) : W p l e rX4_lessen s m args below meth c H locs 0 0 (MQ below (XQv cellX 80 G res) args s 0 0 (gA 80 G)) (F0 m 2 ls []) := by
  induction n generalizing σ v3 H locs ls with
  | zero => cases h
  | succ n ih =>
    have hr2 : ∀ (σ : ST) (v3 : Int32), fX4_lessen_2 z k0 v1 v2 n σ v3 = some res → ∀ (H : Heap) (locs : List Loc) (ls : Array Slot), Wd cellX 80 G s.heap σ H locs → lv_has ls 4 [(0, .ref (aD G k0)), (1, .int v1), (2, .int v2), (3, .int v3)] → W p l e rX4_lessen s m args below meth c H locs 0 0 (MQ below (XQv cellX 80 G res) args s 0 0 (gA 80 G)) (F0 m 2 ls []) := fun σ v3 h H locs ls hW hl => ih σ v3 h hW hl
    clear ih
    unfold fX4_lessen_2 at h
    refine lv_iload_n C0.1 C0.2.1 dX4_lessen_2 rfl (lv_at hl 3 rfl) ?_
    refine lv_aload_n C0.1 C0.2.1 dX4_lessen_3 rfl (lv_at hl 0 rfl) ?_
    refine x_get (v := .ref (aD G (k0 + 1))) C0 G0 hW (cX_X4 hk_k0) (kX_lt hk_k0 (by decide)) rfl 0 (by decide) inX4_lessen_X4 lkX4_lessen_9 rfl dX4_lessen_4 ?_
    refine x_alen (v := (11 : Int32)) C0 G0 hW 1 (cX_J11 (kSX4_1 hk_k0)) (kX_lt (kSX4_1 hk_k0) (by decide)) rfl rfl dX4_lessen_7 ?_
    refine lv_icmp_ge (tgt := 39) C0.1 C0.2.1 dX4_lessen_8 (by decide) (fun c21 => ?_) (fun c21 => ?_)
    · rw [if_pos c21] at h
      cases h
      exact x_vret C0 hW dX4_lessen_39
    · rw [if_neg c21] at h
      refine lv_aload_n C0.1 C0.2.1 dX4_lessen_11 rfl (lv_at hl 0 rfl) ?_
      refine x_get (v := .ref (aD G (k0 + 1))) C0 G0 hW (cX_X4 hk_k0) (kX_lt hk_k0 (by decide)) rfl 0 (by decide) inX4_lessen_X4 lkX4_lessen_9 rfl dX4_lessen_12 ?_
      refine lv_iload_n C0.1 C0.2.1 dX4_lessen_15 rfl (lv_at hl 3 rfl) ?_
      refine lv_dup2_11 C0.1 C0.2.1 dX4_lessen_16 rfl rfl ?_
      obtain ⟨g22, h⟩ := gd_some h
      refine x_lald C0 G0 hW (cX_J11 (kSX4_1 hk_k0)) (kX_lt (kSX4_1 hk_k0) (by decide)) g22 dX4_lessen_17 ?_
      refine lv_iload_n C0.1 C0.2.1 dX4_lessen_18 rfl (lv_at hl 3 rfl) ?_
      refine lv_iload_n C0.1 C0.2.1 dX4_lessen_19 rfl (lv_at hl 1 rfl) ?_
      refine lv_icmp_ne (tgt := 28) C0.1 C0.2.1 dX4_lessen_20 (by decide) (fun c23 => ?_) (fun c23 => ?_)
      · rw [if_neg c23] at h
        refine lv_ldc2 (v := (10 : Int64)) C0.1 C0.2.1 C0.2.2.2.2.1 (C0.2.2.2.1 _ kcX4_lessen_73) dX4_lessen_28 ?_
        exact wX4_lessen_31 C0 G0 hJ z (fX4_lessen_2 z k0 v1 v2 n) σ k0 v1 v2 v3 (10 : Int64) (σ.2 (k0 + 1) (v3).toNatClampNeg) v3 _ h (by exact hr2) hk_k0 hW (lv_sub hl [0, 1, 2, 3] rfl)
      · rw [if_pos c23] at h
        refine lv_iload_n C0.1 C0.2.1 dX4_lessen_23 rfl (lv_at hl 2 rfl) ?_
        refine lv_i2l (v := ((v2).toInt64)) C0.1 C0.2.1 dX4_lessen_24 rfl ?_
        refine lv_goto (tgt := 31) C0.1 C0.2.1 dX4_lessen_25 (by decide) ?_
        exact wX4_lessen_31 C0 G0 hJ z (fX4_lessen_2 z k0 v1 v2 n) σ k0 v1 v2 v3 ((v2).toInt64) (σ.2 (k0 + 1) (v3).toNatClampNeg) v3 _ h (by exact hr2) hk_k0 hW (lv_sub hl [0, 1, 2, 3] rfl)
set_option maxHeartbeats 4000000 in
set_option maxRecDepth 100000 in
theorem wX4_lessen (C0 : Cx p s m args meth c cX4_lessen RX4 4 none wsX4_lessen) (G0 : Gx G s) (hJ : gJ 80 G) (z : Nat) (σ : ST) (k0 : Nat) (v1 : Int32) (v2 : Int32) (res : ST) (h : fX4_lessen z σ k0 v1 v2 = some res)  {H : Heap} {locs : List Loc} {ls : Array Slot} (hW : Wd cellX 80 G s.heap σ H locs) (hl : lv_has ls 4 [(0, .ref (aD G k0)), (1, .int v1), (2, .int v2)]) : W p l e rX4_lessen s m args below meth c H locs 0 0 (MQ below (XQv cellX 80 G res) args s 0 0 (gA 80 G)) (F0 m 0 ls []) := by
  unfold fX4_lessen at h
  obtain ⟨hk_k0, h⟩ := gd_some h
  have hk_k0 : kX k0 = 3 := eq_of_beq hk_k0
  refine lv_iconst (v := (0 : Int32)) C0.1 C0.2.1 dX4_lessen_0 (by decide) ?_
  refine lv_istore_n (lv' := [(3, .int (0 : Int32)), (0, .ref (aD G k0)), (1, .int v1), (2, .int v2)]) C0.1 C0.2.1 dX4_lessen_1 rfl hl (by decide) rfl (fun ls hl => ?_)
  exact wX4_lessen_2 C0 G0 hJ z k0 v1 v2 z σ (0 : Int32) _ h hk_k0 hW (lv_sub hl [1, 2, 3, 0] rfl)
theorem cX4_lessen_met (l : Launch) {G : GT} (hJ : gJ 80 G) (z : Nat) (σ : ST) (k0 : Nat) (v1 : Int32) (v2 : Int32) (res : ST) (h : fX4_lessen z σ k0 v1 v2 = some res) : Met l yX4_lessen wsX4_lessen rX4_lessen (XPc cellX 80 G σ [.ref (aD G k0), .int v1, .int v2]) (XQv cellX 80 G res) 0 0 (gA 80 G) :=
  x_met (ret := none) (maxL := 4) (by decide) rfl (Nat.le_of_ble_eq_true rfl) (fun p e s m args below meth c H locs ls C0 G0 hW hl => wX4_lessen C0 G0 hJ z σ k0 v1 v2 res h hW hl)
end
/-! X4_lookBy -/
def rX4_lookBy : Room := { frames := 3, cells := 0, slots := 0, locals := 63 }
theorem hdvX4_lookBy : yX4_lookBy.cls = RX4 ∧ yX4_lookBy.cls ≠ "java/lang/invoke/MethodHandle" ∧ yX4_lookBy.cls ≠ "java/lang/invoke/VarHandle" ∧ (parseMethodDescriptor yX4_lookBy.desc).map (fun d => d.parameters.length) = some 2 := by decide +kernel
theorem inX4_lookBy_X4 : ∀ w ∈ u_ws RX4 TX4 6, w ∈ wsX4_lookBy := by decide +kernel
theorem lkX4_lookBy_32 : Cond.fieldLink RX4 32 (TX4 3).1 (TX4 3).2.1 (TX4 3).2.2.1 ∈ wsX4_lookBy := by decide +kernel
theorem siX4_lookBy_X8_moved : Cond.initialized yX8_moved.cls ∈ wsX4_lookBy := by decide +kernel
theorem ssX4_lookBy_X8_moved : Cond.static yX8_moved ∈ wsX4_lookBy := by decide +kernel
def fX4_lookBy (z : Nat) (σ : ST) (k0 : Nat) (v2 : Int32) : Option ST := gd (kX k0 == 3) (bd (fX4_placeBy z σ k0 v2) (fun u21 => bd (fX8_moved z (σ.1 k0 3) v2) (fun u22 => lt (pI σ k0 3 u22) (fun s23 => bd (fX7_chanceAt z s23 u21) (fun u24 => bd (fX4_lessen z s23 k0 u21 ((10 : Int32) - u24)) (fun u25 => some u25))))))
section
variable {p : Program} {l : Launch} {e : Env} {s : State} {m : MethodId} {args : Array Value} {below : List Frame} {meth : Method} {c : Code} {G : GT}
set_option maxHeartbeats 4000000 in
set_option maxRecDepth 100000 in
theorem wX4_lookBy (C0 : Cx p s m args meth c cX4_lookBy RX4 4 none wsX4_lookBy) (G0 : Gx G s) (hJ : gJ 80 G) (z : Nat) (σ : ST) (k0 : Nat) (v2 : Int32) (res : ST) (h : fX4_lookBy z σ k0 v2 = some res)  {H : Heap} {locs : List Loc} {ls : Array Slot} (hW : Wd cellX 80 G s.heap σ H locs) (hl : lv_has ls 4 [(0, .ref (aD G k0)), (1, .ref (aD G 3)), (2, .int v2)]) : W p l e rX4_lookBy s m args below meth c H locs 0 0 (MQ below (XQv cellX 80 G res) args s 0 0 (gA 80 G)) (F0 m 0 ls []) := by
  unfold fX4_lookBy at h
  obtain ⟨hk_k0, h⟩ := gd_some h
  have hk_k0 : kX k0 = 3 := eq_of_beq hk_k0
  refine lv_aload_n C0.1 C0.2.1 dX4_lookBy_0 rfl (lv_at hl 0 rfl) ?_
  refine lv_iload_n C0.1 C0.2.1 dX4_lookBy_1 rfl (lv_at hl 2 rfl) ?_
  obtain ⟨u21, hu21, h⟩ := bd_some h
  refine x_ki (r := u21) (x_runV (As := [.int v2]) (rest := []) C0 G0 hW (cX4_placeBy_met l hJ z σ k0 v2 _ hu21) (cwV 1 C0.2.2.2.1 gX4_lookBy_X4_placeBy rfl rfl rfl hdvX4_placeBy ⟨Nat.le_of_ble_eq_true rfl, Nat.le_of_ble_eq_true rfl⟩) (cX_X4 hk_k0) (kX_lt hk_k0 (by decide)) rfl rfl rfl hl (Nat.le_of_ble_eq_true rfl) dX4_lookBy_2 ⟨Nat.le_refl 0, Nat.le_refl 0⟩) hW (fun H locs hW => ?_)
  refine lv_istore_n (lv' := [(3, .int u21), (0, .ref (aD G k0)), (1, .ref (aD G 3)), (2, .int v2)]) C0.1 C0.2.1 dX4_lookBy_5 rfl hl (by decide) rfl (fun ls hl => ?_)
  refine lv_aload_n C0.1 C0.2.1 dX4_lookBy_6 rfl (lv_at hl 1 rfl) ?_
  refine lv_aload_n C0.1 C0.2.1 dX4_lookBy_7 rfl (lv_at hl 1 rfl) ?_
  refine x_get (v := .int (σ.1 k0 3)) C0 G0 hW (cX_X4 hk_k0) (kX_lt hk_k0 (by decide)) rfl 3 (by decide) inX4_lookBy_X4 lkX4_lookBy_32 rfl dX4_lookBy_8 ?_
  refine lv_iload_n C0.1 C0.2.1 dX4_lookBy_11 rfl (lv_at hl 3 rfl) ?_
  obtain ⟨u22, hu22, h⟩ := bd_some h
  refine x_ki (r := u22) (x_runSN (As := [.int (σ.1 k0 3), .int v2]) (rest := [.ref (aD G k0)]) C0 G0 hW (cX8_moved_met l hJ z σ (σ.1 k0 3) v2 _ hu22) gX4_lookBy_X8_moved_n51 rfl rfl rfl (by decide +kernel) siX4_lookBy_X8_moved ssX4_lookBy_X8_moved hdsX8_moved ⟨Nat.le_of_ble_eq_true rfl, Nat.le_of_ble_eq_true rfl⟩ rfl rfl hl (Nat.le_of_ble_eq_true rfl) dX4_lookBy_12 ⟨Nat.le_refl 0, Nat.le_refl 0⟩) hW (fun H locs hW => ?_)
  refine x_putI (v := u22) C0 G0 hJ hW (cX_X4 hk_k0) (kX_lt hk_k0 (by decide)) rfl 3 (by decide) inX4_lookBy_X4 lkX4_lookBy_32 tyX4 tyX4_ok nmX4 rfl rfl rfl (Nat.le_of_ble_eq_true rfl) (hu_X4_3 hk_k0) dX4_lookBy_15 (fun H locs hW => ?_)
  obtain ⟨s23, es23, h⟩ := lt_some h
  rw [es23] at hW
  refine lv_aload_n C0.1 C0.2.1 dX4_lookBy_18 rfl (lv_at hl 1 rfl) ?_
  refine lv_iload_n C0.1 C0.2.1 dX4_lookBy_19 rfl (lv_at hl 0 rfl) ?_
  refine lv_bipush (v := (10 : Int32)) C0.1 C0.2.1 dX4_lookBy_20 (by decide) ?_
  refine lv_aload_n C0.1 C0.2.1 dX4_lookBy_22 rfl (lv_at hl 2 rfl) ?_
  refine lv_iload_n C0.1 C0.2.1 dX4_lookBy_23 rfl (lv_at hl 0 rfl) ?_
  obtain ⟨u24, hu24, h⟩ := bd_some h
  refine x_ki (r := u24) (x_runV (As := [.int u21]) (rest := [.int (10 : Int32), .int u21, .ref (aD G k0)]) C0 G0 hW (cX7_chanceAt_met l hJ z s23 u21 _ hu24) (cwV 1 C0.2.2.2.1 gX4_lookBy_X7_chanceAt rfl rfl rfl hdvX7_chanceAt ⟨Nat.le_of_ble_eq_true rfl, Nat.le_of_ble_eq_true rfl⟩) (cX_X7 rfl) (by decide) rfl rfl rfl hl (Nat.le_of_ble_eq_true rfl) dX4_lookBy_24 ⟨Nat.le_refl 0, Nat.le_refl 0⟩) hW (fun H locs hW => ?_)
  refine lv_isub C0.1 C0.2.1 dX4_lookBy_27 ?_
  obtain ⟨u25, hu25, h⟩ := bd_some h
  refine x_kv (x_runV (As := [.int u21, .int ((10 : Int32) - u24)]) (rest := []) C0 G0 hW (cX4_lessen_met l hJ z s23 k0 u21 ((10 : Int32) - u24) _ hu25) (cwV 2 C0.2.2.2.1 gX4_lookBy_X4_lessen rfl rfl rfl hdvX4_lessen ⟨Nat.le_of_ble_eq_true rfl, Nat.le_of_ble_eq_true rfl⟩) (cX_X4 hk_k0) (kX_lt hk_k0 (by decide)) rfl rfl rfl hl (Nat.le_of_ble_eq_true rfl) dX4_lookBy_28 ⟨Nat.le_refl 0, Nat.le_refl 0⟩) hW (fun H locs hW => ?_)
  cases h
  exact x_vret C0 hW dX4_lookBy_31
theorem cX4_lookBy_met (l : Launch) {G : GT} (hJ : gJ 80 G) (z : Nat) (σ : ST) (k0 : Nat) (v2 : Int32) (res : ST) (h : fX4_lookBy z σ k0 v2 = some res) : Met l yX4_lookBy wsX4_lookBy rX4_lookBy (XPc cellX 80 G σ [.ref (aD G k0), .ref (aD G 3), .int v2]) (XQv cellX 80 G res) 0 0 (gA 80 G) :=
  x_met (ret := none) (maxL := 4) (by decide) rfl (Nat.le_of_ble_eq_true rfl) (fun p e s m args below meth c H locs ls C0 G0 hW hl => wX4_lookBy C0 G0 hJ z σ k0 v2 res h hW hl)
end
/-! X4_pass -/
def rX4_pass : Room := { frames := 1, cells := 0, slots := 0, locals := 21 }
theorem hdvX4_pass : yX4_pass.cls = RX4 ∧ yX4_pass.cls ≠ "java/lang/invoke/MethodHandle" ∧ yX4_pass.cls ≠ "java/lang/invoke/VarHandle" ∧ (parseMethodDescriptor yX4_pass.desc).map (fun d => d.parameters.length) = some 1 := by decide +kernel
theorem inX4_pass_X4 : ∀ w ∈ u_ws RX4 TX4 6, w ∈ wsX4_pass := by decide +kernel
theorem lkX4_pass_35 : Cond.fieldLink RX4 35 (TX4 4).1 (TX4 4).2.1 (TX4 4).2.2.1 ∈ wsX4_pass := by decide +kernel
theorem lkX4_pass_9 : Cond.fieldLink RX4 9 (TX4 0).1 (TX4 0).2.1 (TX4 0).2.2.1 ∈ wsX4_pass := by decide +kernel
theorem kcX4_pass_73 : Cond.constantLong RX4 73 (10 : Int64) ∈ wsX4_pass := by decide +kernel
theorem inX4_pass_X7 : ∀ w ∈ u_ws RX7 TX7 9, w ∈ wsX4_pass := by decide +kernel
theorem nfX4_pass_75 : (RX4, 75, (TX7 0).1, (TX7 0).2.1, (TX7 0).2.2.1) ∈ nwF := by decide +kernel
theorem nfX4_pass_78 : (RX4, 78, (TX7 1).1, (TX7 1).2.1, (TX7 1).2.2.1) ∈ nwF := by decide +kernel
theorem nfX4_pass_81 : (RX4, 81, (TX7 5).1, (TX7 5).2.1, (TX7 5).2.2.1) ∈ nwF := by decide +kernel
def fX4_pass_183 (z : Nat) (σ : ST) : Option ST := some σ
def fX4_pass_160 (z : Nat) (σ : ST) (k0 : Nat) : Option ST := (if (11 : Int32) ≤ (10 : Int32) then fX4_pass_183 z σ else gd (inb (10 : Int32) 11) ( gd (inb (10 : Int32) 11) ( lt (pL σ (k0 + 1) ((10 : Int32)).toNatClampNeg ((σ.2 (k0 + 1) ((10 : Int32)).toNatClampNeg) * (10 : Int64))) (fun s30 => fX4_pass_183 z s30))))
def fX4_pass_150 (z : Nat) (r15 : ST → Int64 → Int32 → Option ST) (σ : ST) (k0 : Nat) (v4 : Int32) (v5 : Int64) (t0 : Int64) (t1 : Int32) : Option ST := gd (inb t1 11) ( lt (pL σ (k0 + 1) (t1).toNatClampNeg t0) (fun s35 => r15 s35 v5 (v4 + 1)))
def fX4_pass_106 (z : Nat) (r15 : ST → Int64 → Int32 → Option ST) (σ : ST) (k0 : Nat) (v2 : Int64) (v4 : Int32) (v5 : Int64) (v7 : Int64) (v9 : Int32) : Option ST := (if (σ.1 k0 4) < (σ.1 3 5) then fX4_pass_150 z r15 σ k0 v4 v5 (((v5 * ((v9).toInt64)) + (v2 * (((σ.1 3 0)).toInt64))) + (v7 * (((σ.1 3 1)).toInt64))) v4 else fX4_pass_150 z r15 σ k0 v4 v5 (0 : Int64) v4)
def fX4_pass_90 (z : Nat) (r15 : ST → Int64 → Int32 → Option ST) (σ : ST) (k0 : Nat) (v2 : Int64) (v4 : Int32) (v5 : Int64) (v7 : Int64) (v9 : Int32) : Option ST := (if v4 = (9 : Int32) then fX4_pass_106 z r15 σ k0 v2 v4 v5 v7 (v9 + (σ.1 3 0)) else fX4_pass_106 z r15 σ k0 v2 v4 v5 v7 v9)
def fX4_pass_60 (z : Nat) (r15 : ST → Int64 → Int32 → Option ST) (σ : ST) (k0 : Nat) (v2 : Int64) (v4 : Int32) (v5 : Int64) (t0 : Int64) : Option ST := (if v4 = 0 then fX4_pass_90 z r15 σ k0 v2 v4 v5 t0 ((((10 : Int32) - (σ.1 3 0)) - (σ.1 3 1)) + (σ.1 3 1)) else fX4_pass_90 z r15 σ k0 v2 v4 v5 t0 (((10 : Int32) - (σ.1 3 0)) - (σ.1 3 1)))
def fX4_pass_15 (z : Nat) (k0 : Nat) : Nat → ST → Int64 → Int32 → Option ST
  | 0 => fun _ _ _ => none
  | n + 1 => fun σ v2 v4 => (if (10 : Int32) ≤ v4 then fX4_pass_160 z σ k0 else (if (11 : Int32) ≤ v4 then fX4_pass_160 z σ k0 else gd (inb v4 11) ( (if (9 : Int32) ≤ v4 then fX4_pass_60 z (fX4_pass_15 z k0 n) σ k0 v2 v4 (σ.2 (k0 + 1) (v4).toNatClampNeg) (0 : Int64) else bd (fX4_of z σ k0 (v4 + (1 : Int32))) (fun u26 => fX4_pass_60 z (fX4_pass_15 z k0 n) σ k0 v2 v4 (σ.2 (k0 + 1) (v4).toNatClampNeg) u26)))))
def fX4_pass (z : Nat) (σ : ST) (k0 : Nat) : Option ST := gd (kX k0 == 3) (lt (pI σ k0 4 ((σ.1 k0 4) + (1 : Int32))) (fun s21 => fX4_pass_15 z k0 z s21 (0 : Int64) (0 : Int32)))
section
variable {p : Program} {l : Launch} {e : Env} {s : State} {m : MethodId} {args : Array Value} {below : List Frame} {meth : Method} {c : Code} {G : GT}
set_option maxHeartbeats 4000000 in
set_option maxRecDepth 100000 in
theorem wX4_pass_183 (C0 : Cx p s m args meth c cX4_pass RX4 10 none wsX4_pass) (G0 : Gx G s) (hJ : gJ 80 G) (z : Nat) (σ : ST) (res : ST) (h : fX4_pass_183 z σ = some res)  {H : Heap} {locs : List Loc} {ls : Array Slot} (hW : Wd cellX 80 G s.heap σ H locs) (hl : lv_has ls 10 []) : W p l e rX4_pass s m args below meth c H locs 0 0 (MQ below (XQv cellX 80 G res) args s 0 0 (gA 80 G)) (F0 m 183 ls []) := by
  unfold fX4_pass_183 at h
  cases h
  exact x_vret C0 hW dX4_pass_183
set_option maxHeartbeats 4000000 in
set_option maxRecDepth 100000 in
theorem wX4_pass_160 (C0 : Cx p s m args meth c cX4_pass RX4 10 none wsX4_pass) (G0 : Gx G s) (hJ : gJ 80 G) (z : Nat) (σ : ST) (k0 : Nat) (res : ST) (h : fX4_pass_160 z σ k0 = some res) (hk_k0 : kX k0 = 3) {H : Heap} {locs : List Loc} {ls : Array Slot} (hW : Wd cellX 80 G s.heap σ H locs) (hl : lv_has ls 10 [(0, .ref (aD G k0))]) : W p l e rX4_pass s m args below meth c H locs 0 0 (MQ below (XQv cellX 80 G res) args s 0 0 (gA 80 G)) (F0 m 160 ls []) := by
  unfold fX4_pass_160 at h
  refine lv_bipush (v := (10 : Int32)) C0.1 C0.2.1 dX4_pass_160 (by decide) ?_
  refine lv_aload_n C0.1 C0.2.1 dX4_pass_162 rfl (lv_at hl 0 rfl) ?_
  refine x_get (v := .ref (aD G (k0 + 1))) C0 G0 hW (cX_X4 hk_k0) (kX_lt hk_k0 (by decide)) rfl 0 (by decide) inX4_pass_X4 lkX4_pass_9 rfl dX4_pass_163 ?_
  refine x_alen (v := (11 : Int32)) C0 G0 hW 1 (cX_J11 (kSX4_1 hk_k0)) (kX_lt (kSX4_1 hk_k0) (by decide)) rfl rfl dX4_pass_166 ?_
  refine lv_icmp_ge (tgt := 183) C0.1 C0.2.1 dX4_pass_167 (by decide) (fun c27 => ?_) (fun c27 => ?_)
  · rw [if_pos c27] at h
    exact wX4_pass_183 C0 G0 hJ z σ _ h hW (lv_sub hl [] rfl)
  · rw [if_neg c27] at h
    refine lv_aload_n C0.1 C0.2.1 dX4_pass_170 rfl (lv_at hl 0 rfl) ?_
    refine x_get (v := .ref (aD G (k0 + 1))) C0 G0 hW (cX_X4 hk_k0) (kX_lt hk_k0 (by decide)) rfl 0 (by decide) inX4_pass_X4 lkX4_pass_9 rfl dX4_pass_171 ?_
    refine lv_bipush (v := (10 : Int32)) C0.1 C0.2.1 dX4_pass_174 (by decide) ?_
    refine lv_dup2_11 C0.1 C0.2.1 dX4_pass_176 rfl rfl ?_
    obtain ⟨g28, h⟩ := gd_some h
    refine x_lald C0 G0 hW (cX_J11 (kSX4_1 hk_k0)) (kX_lt (kSX4_1 hk_k0) (by decide)) g28 dX4_pass_177 ?_
    refine lv_ldc2 (v := (10 : Int64)) C0.1 C0.2.1 C0.2.2.2.2.1 (C0.2.2.2.1 _ kcX4_pass_73) dX4_pass_178 ?_
    refine lv_lmul C0.1 C0.2.1 dX4_pass_181 ?_
    obtain ⟨g29, h⟩ := gd_some h
    refine x_last C0 G0 hJ hW (fun f g => (cX_J11 (kSX4_1 hk_k0))) (kX_lt (kSX4_1 hk_k0) (by decide)) g29 dX4_pass_182 (fun H locs hW => ?_)
    obtain ⟨s30, es30, h⟩ := lt_some h
    rw [es30] at hW
    exact wX4_pass_183 C0 G0 hJ z s30 _ h hW (lv_sub hl [] rfl)
set_option maxHeartbeats 4000000 in
set_option maxRecDepth 100000 in
theorem wX4_pass_150 (C0 : Cx p s m args meth c cX4_pass RX4 10 none wsX4_pass) (G0 : Gx G s) (hJ : gJ 80 G) (z : Nat) (r15 : ST → Int64 → Int32 → Option ST) (σ : ST) (k0 : Nat) (v4 : Int32) (v5 : Int64) (t0 : Int64) (t1 : Int32) (res : ST) (h : fX4_pass_150 z r15 σ k0 v4 v5 t0 t1 = some res) (hr15 : ∀ (σ : ST) (v2 : Int64) (v4 : Int32), r15 σ v2 v4 = some res → ∀ (H : Heap) (locs : List Loc) (ls : Array Slot), Wd cellX 80 G s.heap σ H locs → lv_has ls 10 [(0, .ref (aD G k0)), (1, .ref (aD G 3)), (2, .long v2), (4, .int v4)] → W p l e rX4_pass s m args below meth c H locs 0 0 (MQ below (XQv cellX 80 G res) args s 0 0 (gA 80 G)) (F0 m 15 ls [])) (hk_k0 : kX k0 = 3) {H : Heap} {locs : List Loc} {ls : Array Slot} (hW : Wd cellX 80 G s.heap σ H locs) (hl : lv_has ls 10 [(0, .ref (aD G k0)), (1, .ref (aD G 3)), (4, .int v4), (5, .long v5)]) : W p l e rX4_pass s m args below meth c H locs 0 0 (MQ below (XQv cellX 80 G res) args s 0 0 (gA 80 G)) (F0 m 150 ls [.long t0, .int t1, .ref (aD G (k0 + 1))]) := by
  unfold fX4_pass_150 at h
  obtain ⟨g34, h⟩ := gd_some h
  refine x_last C0 G0 hJ hW (fun f g => (cX_J11 (kSX4_1 hk_k0))) (kX_lt (kSX4_1 hk_k0) (by decide)) g34 dX4_pass_150 (fun H locs hW => ?_)
  obtain ⟨s35, es35, h⟩ := lt_some h
  rw [es35] at hW
  refine lv_lload C0.1 C0.2.1 dX4_pass_151 (lv_at hl 3 rfl) ?_
  refine lv_lstore_n (lv' := [(2, .long v5), (0, .ref (aD G k0)), (1, .ref (aD G 3)), (4, .int v4), (5, .long v5)]) C0.1 C0.2.1 dX4_pass_153 rfl hl (by decide) rfl (fun ls hl => ?_)
  refine lv_iinc (v := (v4 + 1)) (lv' := [(4, .int (v4 + 1)), (2, .long v5), (0, .ref (aD G k0)), (1, .ref (aD G 3)), (5, .long v5)]) C0.1 C0.2.1 dX4_pass_154 hl (k := 3) rfl rfl (by decide) rfl (fun ls hl => ?_)
  refine lv_goto (tgt := 15) C0.1 C0.2.1 dX4_pass_157 (by decide) ?_
  exact hr15 s35 v5 (v4 + 1) h _ _ _ hW (lv_sub hl [2, 3, 1, 0] rfl)
set_option maxHeartbeats 4000000 in
set_option maxRecDepth 100000 in
theorem wX4_pass_106 (C0 : Cx p s m args meth c cX4_pass RX4 10 none wsX4_pass) (G0 : Gx G s) (hJ : gJ 80 G) (z : Nat) (r15 : ST → Int64 → Int32 → Option ST) (σ : ST) (k0 : Nat) (v2 : Int64) (v4 : Int32) (v5 : Int64) (v7 : Int64) (v9 : Int32) (res : ST) (h : fX4_pass_106 z r15 σ k0 v2 v4 v5 v7 v9 = some res) (hr15 : ∀ (σ : ST) (v2 : Int64) (v4 : Int32), r15 σ v2 v4 = some res → ∀ (H : Heap) (locs : List Loc) (ls : Array Slot), Wd cellX 80 G s.heap σ H locs → lv_has ls 10 [(0, .ref (aD G k0)), (1, .ref (aD G 3)), (2, .long v2), (4, .int v4)] → W p l e rX4_pass s m args below meth c H locs 0 0 (MQ below (XQv cellX 80 G res) args s 0 0 (gA 80 G)) (F0 m 15 ls [])) (hk_k0 : kX k0 = 3) {H : Heap} {locs : List Loc} {ls : Array Slot} (hW : Wd cellX 80 G s.heap σ H locs) (hl : lv_has ls 10 [(0, .ref (aD G k0)), (1, .ref (aD G 3)), (2, .long v2), (4, .int v4), (5, .long v5), (7, .long v7), (9, .int v9)]) : W p l e rX4_pass s m args below meth c H locs 0 0 (MQ below (XQv cellX 80 G res) args s 0 0 (gA 80 G)) (F0 m 106 ls []) := by
  unfold fX4_pass_106 at h
  refine lv_aload_n C0.1 C0.2.1 dX4_pass_106 rfl (lv_at hl 0 rfl) ?_
  refine x_get (v := .ref (aD G (k0 + 1))) C0 G0 hW (cX_X4 hk_k0) (kX_lt hk_k0 (by decide)) rfl 0 (by decide) inX4_pass_X4 lkX4_pass_9 rfl dX4_pass_107 ?_
  refine lv_iload C0.1 C0.2.1 dX4_pass_110 (lv_at hl 3 rfl) ?_
  refine lv_aload_n C0.1 C0.2.1 dX4_pass_112 rfl (lv_at hl 0 rfl) ?_
  refine x_get (v := .int (σ.1 k0 4)) C0 G0 hW (cX_X4 hk_k0) (kX_lt hk_k0 (by decide)) rfl 4 (by decide) inX4_pass_X4 lkX4_pass_35 rfl dX4_pass_113 ?_
  refine lv_aload_n C0.1 C0.2.1 dX4_pass_116 rfl (lv_at hl 1 rfl) ?_
  refine x_getN (v := .int (σ.1 3 5)) C0 G0 hW (cX_X7 rfl) (by decide) rfl 5 (by decide) inX4_pass_X7 nfX4_pass_81 rfl dX4_pass_117 ?_
  refine lv_icmp_lt (tgt := 127) C0.1 C0.2.1 dX4_pass_120 (by decide) (fun c33 => ?_) (fun c33 => ?_)
  · rw [if_pos c33] at h
    refine lv_lload C0.1 C0.2.1 dX4_pass_127 (lv_at hl 4 rfl) ?_
    refine lv_iload C0.1 C0.2.1 dX4_pass_129 (lv_at hl 6 rfl) ?_
    refine lv_i2l (v := ((v9).toInt64)) C0.1 C0.2.1 dX4_pass_131 rfl ?_
    refine lv_lmul C0.1 C0.2.1 dX4_pass_132 ?_
    refine lv_lload_n C0.1 C0.2.1 dX4_pass_133 rfl (lv_at hl 2 rfl) ?_
    refine lv_aload_n C0.1 C0.2.1 dX4_pass_134 rfl (lv_at hl 1 rfl) ?_
    refine x_getN (v := .int (σ.1 3 0)) C0 G0 hW (cX_X7 rfl) (by decide) rfl 0 (by decide) inX4_pass_X7 nfX4_pass_75 rfl dX4_pass_135 ?_
    refine lv_i2l (v := (((σ.1 3 0)).toInt64)) C0.1 C0.2.1 dX4_pass_138 rfl ?_
    refine lv_lmul C0.1 C0.2.1 dX4_pass_139 ?_
    refine lv_ladd C0.1 C0.2.1 dX4_pass_140 ?_
    refine lv_lload C0.1 C0.2.1 dX4_pass_141 (lv_at hl 5 rfl) ?_
    refine lv_aload_n C0.1 C0.2.1 dX4_pass_143 rfl (lv_at hl 1 rfl) ?_
    refine x_getN (v := .int (σ.1 3 1)) C0 G0 hW (cX_X7 rfl) (by decide) rfl 1 (by decide) inX4_pass_X7 nfX4_pass_78 rfl dX4_pass_144 ?_
    refine lv_i2l (v := (((σ.1 3 1)).toInt64)) C0.1 C0.2.1 dX4_pass_147 rfl ?_
    refine lv_lmul C0.1 C0.2.1 dX4_pass_148 ?_
    refine lv_ladd C0.1 C0.2.1 dX4_pass_149 ?_
    exact wX4_pass_150 C0 G0 hJ z r15 σ k0 v4 v5 (((v5 * ((v9).toInt64)) + (v2 * (((σ.1 3 0)).toInt64))) + (v7 * (((σ.1 3 1)).toInt64))) v4 _ h (by exact hr15) hk_k0 hW (lv_sub hl [0, 1, 3, 4] rfl)
  · rw [if_neg c33] at h
    refine lv_lconst (v := (0 : Int64)) C0.1 C0.2.1 dX4_pass_123 (by decide) ?_
    refine lv_goto (tgt := 150) C0.1 C0.2.1 dX4_pass_124 (by decide) ?_
    exact wX4_pass_150 C0 G0 hJ z r15 σ k0 v4 v5 (0 : Int64) v4 _ h (by exact hr15) hk_k0 hW (lv_sub hl [0, 1, 3, 4] rfl)
set_option maxHeartbeats 4000000 in
set_option maxRecDepth 100000 in
theorem wX4_pass_90 (C0 : Cx p s m args meth c cX4_pass RX4 10 none wsX4_pass) (G0 : Gx G s) (hJ : gJ 80 G) (z : Nat) (r15 : ST → Int64 → Int32 → Option ST) (σ : ST) (k0 : Nat) (v2 : Int64) (v4 : Int32) (v5 : Int64) (v7 : Int64) (v9 : Int32) (res : ST) (h : fX4_pass_90 z r15 σ k0 v2 v4 v5 v7 v9 = some res) (hr15 : ∀ (σ : ST) (v2 : Int64) (v4 : Int32), r15 σ v2 v4 = some res → ∀ (H : Heap) (locs : List Loc) (ls : Array Slot), Wd cellX 80 G s.heap σ H locs → lv_has ls 10 [(0, .ref (aD G k0)), (1, .ref (aD G 3)), (2, .long v2), (4, .int v4)] → W p l e rX4_pass s m args below meth c H locs 0 0 (MQ below (XQv cellX 80 G res) args s 0 0 (gA 80 G)) (F0 m 15 ls [])) (hk_k0 : kX k0 = 3) {H : Heap} {locs : List Loc} {ls : Array Slot} (hW : Wd cellX 80 G s.heap σ H locs) (hl : lv_has ls 10 [(0, .ref (aD G k0)), (1, .ref (aD G 3)), (2, .long v2), (4, .int v4), (5, .long v5), (7, .long v7), (9, .int v9)]) : W p l e rX4_pass s m args below meth c H locs 0 0 (MQ below (XQv cellX 80 G res) args s 0 0 (gA 80 G)) (F0 m 90 ls []) := by
  unfold fX4_pass_90 at h
  refine lv_iload C0.1 C0.2.1 dX4_pass_90 (lv_at hl 3 rfl) ?_
  refine lv_bipush (v := (9 : Int32)) C0.1 C0.2.1 dX4_pass_92 (by decide) ?_
  refine lv_icmp_ne (tgt := 106) C0.1 C0.2.1 dX4_pass_94 (by decide) (fun c32 => ?_) (fun c32 => ?_)
  · rw [if_neg c32] at h
    exact wX4_pass_106 C0 G0 hJ z r15 σ k0 v2 v4 v5 v7 v9 _ h (by exact hr15) hk_k0 hW (lv_sub hl [0, 1, 2, 3, 4, 5, 6] rfl)
  · rw [if_pos c32] at h
    refine lv_iload C0.1 C0.2.1 dX4_pass_97 (lv_at hl 6 rfl) ?_
    refine lv_aload_n C0.1 C0.2.1 dX4_pass_99 rfl (lv_at hl 1 rfl) ?_
    refine x_getN (v := .int (σ.1 3 0)) C0 G0 hW (cX_X7 rfl) (by decide) rfl 0 (by decide) inX4_pass_X7 nfX4_pass_75 rfl dX4_pass_100 ?_
    refine lv_iadd C0.1 C0.2.1 dX4_pass_103 ?_
    refine lv_istore (lv' := [(9, .int (v9 + (σ.1 3 0))), (0, .ref (aD G k0)), (1, .ref (aD G 3)), (2, .long v2), (4, .int v4), (5, .long v5), (7, .long v7)]) C0.1 C0.2.1 dX4_pass_104 hl (by decide) rfl (fun ls hl => ?_)
    exact wX4_pass_106 C0 G0 hJ z r15 σ k0 v2 v4 v5 v7 (v9 + (σ.1 3 0)) _ h (by exact hr15) hk_k0 hW (lv_sub hl [1, 2, 3, 4, 5, 6, 0] rfl)
set_option maxHeartbeats 4000000 in
set_option maxRecDepth 100000 in
theorem wX4_pass_60 (C0 : Cx p s m args meth c cX4_pass RX4 10 none wsX4_pass) (G0 : Gx G s) (hJ : gJ 80 G) (z : Nat) (r15 : ST → Int64 → Int32 → Option ST) (σ : ST) (k0 : Nat) (v2 : Int64) (v4 : Int32) (v5 : Int64) (t0 : Int64) (res : ST) (h : fX4_pass_60 z r15 σ k0 v2 v4 v5 t0 = some res) (hr15 : ∀ (σ : ST) (v2 : Int64) (v4 : Int32), r15 σ v2 v4 = some res → ∀ (H : Heap) (locs : List Loc) (ls : Array Slot), Wd cellX 80 G s.heap σ H locs → lv_has ls 10 [(0, .ref (aD G k0)), (1, .ref (aD G 3)), (2, .long v2), (4, .int v4)] → W p l e rX4_pass s m args below meth c H locs 0 0 (MQ below (XQv cellX 80 G res) args s 0 0 (gA 80 G)) (F0 m 15 ls [])) (hk_k0 : kX k0 = 3) {H : Heap} {locs : List Loc} {ls : Array Slot} (hW : Wd cellX 80 G s.heap σ H locs) (hl : lv_has ls 10 [(0, .ref (aD G k0)), (1, .ref (aD G 3)), (2, .long v2), (4, .int v4), (5, .long v5)]) : W p l e rX4_pass s m args below meth c H locs 0 0 (MQ below (XQv cellX 80 G res) args s 0 0 (gA 80 G)) (F0 m 60 ls [.long t0]) := by
  unfold fX4_pass_60 at h
  refine lv_lstore (lv' := [(7, .long t0), (0, .ref (aD G k0)), (1, .ref (aD G 3)), (2, .long v2), (4, .int v4), (5, .long v5)]) C0.1 C0.2.1 dX4_pass_60 hl (by decide) rfl (fun ls hl => ?_)
  refine lv_bipush (v := (10 : Int32)) C0.1 C0.2.1 dX4_pass_62 (by decide) ?_
  refine lv_aload_n C0.1 C0.2.1 dX4_pass_64 rfl (lv_at hl 2 rfl) ?_
  refine x_getN (v := .int (σ.1 3 0)) C0 G0 hW (cX_X7 rfl) (by decide) rfl 0 (by decide) inX4_pass_X7 nfX4_pass_75 rfl dX4_pass_65 ?_
  refine lv_isub C0.1 C0.2.1 dX4_pass_68 ?_
  refine lv_aload_n C0.1 C0.2.1 dX4_pass_69 rfl (lv_at hl 2 rfl) ?_
  refine x_getN (v := .int (σ.1 3 1)) C0 G0 hW (cX_X7 rfl) (by decide) rfl 1 (by decide) inX4_pass_X7 nfX4_pass_78 rfl dX4_pass_70 ?_
  refine lv_isub C0.1 C0.2.1 dX4_pass_73 ?_
  refine lv_istore (lv' := [(9, .int (((10 : Int32) - (σ.1 3 0)) - (σ.1 3 1))), (7, .long t0), (0, .ref (aD G k0)), (1, .ref (aD G 3)), (2, .long v2), (4, .int v4), (5, .long v5)]) C0.1 C0.2.1 dX4_pass_74 hl (by decide) rfl (fun ls hl => ?_)
  refine lv_iload C0.1 C0.2.1 dX4_pass_76 (lv_at hl 5 rfl) ?_
  refine lv_if_ne (tgt := 90) C0.1 C0.2.1 dX4_pass_78 (by decide) (fun c31 => ?_) (fun c31 => ?_)
  · rw [if_neg c31] at h
    exact wX4_pass_90 C0 G0 hJ z r15 σ k0 v2 v4 v5 t0 (((10 : Int32) - (σ.1 3 0)) - (σ.1 3 1)) _ h (by exact hr15) hk_k0 hW (lv_sub hl [2, 3, 4, 5, 6, 1, 0] rfl)
  · rw [if_pos c31] at h
    refine lv_iload C0.1 C0.2.1 dX4_pass_81 (lv_at hl 0 rfl) ?_
    refine lv_aload_n C0.1 C0.2.1 dX4_pass_83 rfl (lv_at hl 3 rfl) ?_
    refine x_getN (v := .int (σ.1 3 1)) C0 G0 hW (cX_X7 rfl) (by decide) rfl 1 (by decide) inX4_pass_X7 nfX4_pass_78 rfl dX4_pass_84 ?_
    refine lv_iadd C0.1 C0.2.1 dX4_pass_87 ?_
    refine lv_istore (lv' := [(9, .int ((((10 : Int32) - (σ.1 3 0)) - (σ.1 3 1)) + (σ.1 3 1))), (7, .long t0), (0, .ref (aD G k0)), (1, .ref (aD G 3)), (2, .long v2), (4, .int v4), (5, .long v5)]) C0.1 C0.2.1 dX4_pass_88 hl (by decide) rfl (fun ls hl => ?_)
    exact wX4_pass_90 C0 G0 hJ z r15 σ k0 v2 v4 v5 t0 ((((10 : Int32) - (σ.1 3 0)) - (σ.1 3 1)) + (σ.1 3 1)) _ h (by exact hr15) hk_k0 hW (lv_sub hl [2, 3, 4, 5, 6, 1, 0] rfl)
set_option maxHeartbeats 4000000 in
set_option maxRecDepth 100000 in
theorem wX4_pass_15 (C0 : Cx p s m args meth c cX4_pass RX4 10 none wsX4_pass) (G0 : Gx G s) (hJ : gJ 80 G) (z : Nat) (k0 : Nat) (n : Nat) (σ : ST) (v2 : Int64) (v4 : Int32) (res : ST) (h : fX4_pass_15 z k0 n σ v2 v4 = some res) (hk_k0 : kX k0 = 3) {H : Heap} {locs : List Loc} {ls : Array Slot} (hW : Wd cellX 80 G s.heap σ H locs) (hl : lv_has ls 10 [(0, .ref (aD G k0)), (1, .ref (aD G 3)), (2, .long v2), (4, .int v4)]) : W p l e rX4_pass s m args below meth c H locs 0 0 (MQ below (XQv cellX 80 G res) args s 0 0 (gA 80 G)) (F0 m 15 ls []) := by
  induction n generalizing σ v2 v4 H locs ls with
  | zero => cases h
  | succ n ih =>
    have hr15 : ∀ (σ : ST) (v2 : Int64) (v4 : Int32), fX4_pass_15 z k0 n σ v2 v4 = some res → ∀ (H : Heap) (locs : List Loc) (ls : Array Slot), Wd cellX 80 G s.heap σ H locs → lv_has ls 10 [(0, .ref (aD G k0)), (1, .ref (aD G 3)), (2, .long v2), (4, .int v4)] → W p l e rX4_pass s m args below meth c H locs 0 0 (MQ below (XQv cellX 80 G res) args s 0 0 (gA 80 G)) (F0 m 15 ls []) := fun σ v2 v4 h H locs ls hW hl => ih σ v2 v4 h hW hl
    clear ih
    unfold fX4_pass_15 at h
    refine lv_iload C0.1 C0.2.1 dX4_pass_15 (lv_at hl 3 rfl) ?_
    refine lv_bipush (v := (10 : Int32)) C0.1 C0.2.1 dX4_pass_17 (by decide) ?_
    refine lv_icmp_ge (tgt := 160) C0.1 C0.2.1 dX4_pass_19 (by decide) (fun c22 => ?_) (fun c22 => ?_)
    · rw [if_pos c22] at h
      exact wX4_pass_160 C0 G0 hJ z σ k0 _ h hk_k0 hW (lv_sub hl [0] rfl)
    · rw [if_neg c22] at h
      refine lv_iload C0.1 C0.2.1 dX4_pass_22 (lv_at hl 3 rfl) ?_
      refine lv_aload_n C0.1 C0.2.1 dX4_pass_24 rfl (lv_at hl 0 rfl) ?_
      refine x_get (v := .ref (aD G (k0 + 1))) C0 G0 hW (cX_X4 hk_k0) (kX_lt hk_k0 (by decide)) rfl 0 (by decide) inX4_pass_X4 lkX4_pass_9 rfl dX4_pass_25 ?_
      refine x_alen (v := (11 : Int32)) C0 G0 hW 1 (cX_J11 (kSX4_1 hk_k0)) (kX_lt (kSX4_1 hk_k0) (by decide)) rfl rfl dX4_pass_28 ?_
      refine lv_icmp_ge (tgt := 160) C0.1 C0.2.1 dX4_pass_29 (by decide) (fun c23 => ?_) (fun c23 => ?_)
      · rw [if_pos c23] at h
        exact wX4_pass_160 C0 G0 hJ z σ k0 _ h hk_k0 hW (lv_sub hl [0] rfl)
      · rw [if_neg c23] at h
        refine lv_aload_n C0.1 C0.2.1 dX4_pass_32 rfl (lv_at hl 0 rfl) ?_
        refine x_get (v := .ref (aD G (k0 + 1))) C0 G0 hW (cX_X4 hk_k0) (kX_lt hk_k0 (by decide)) rfl 0 (by decide) inX4_pass_X4 lkX4_pass_9 rfl dX4_pass_33 ?_
        refine lv_iload C0.1 C0.2.1 dX4_pass_36 (lv_at hl 3 rfl) ?_
        obtain ⟨g24, h⟩ := gd_some h
        refine x_lald C0 G0 hW (cX_J11 (kSX4_1 hk_k0)) (kX_lt (kSX4_1 hk_k0) (by decide)) g24 dX4_pass_38 ?_
        refine lv_lstore (lv' := [(5, .long (σ.2 (k0 + 1) (v4).toNatClampNeg)), (0, .ref (aD G k0)), (1, .ref (aD G 3)), (2, .long v2), (4, .int v4)]) C0.1 C0.2.1 dX4_pass_39 hl (by decide) rfl (fun ls hl => ?_)
        refine lv_iload C0.1 C0.2.1 dX4_pass_41 (lv_at hl 4 rfl) ?_
        refine lv_bipush (v := (9 : Int32)) C0.1 C0.2.1 dX4_pass_43 (by decide) ?_
        refine lv_icmp_ge (tgt := 59) C0.1 C0.2.1 dX4_pass_45 (by decide) (fun c25 => ?_) (fun c25 => ?_)
        · rw [if_pos c25] at h
          refine lv_lconst (v := (0 : Int64)) C0.1 C0.2.1 dX4_pass_59 (by decide) ?_
          exact wX4_pass_60 C0 G0 hJ z (fX4_pass_15 z k0 n) σ k0 v2 v4 (σ.2 (k0 + 1) (v4).toNatClampNeg) (0 : Int64) _ h (by exact hr15) hk_k0 hW (lv_sub hl [1, 2, 3, 4, 0] rfl)
        · rw [if_neg c25] at h
          refine lv_aload_n C0.1 C0.2.1 dX4_pass_48 rfl (lv_at hl 1 rfl) ?_
          refine lv_iload C0.1 C0.2.1 dX4_pass_49 (lv_at hl 4 rfl) ?_
          refine lv_iconst (v := (1 : Int32)) C0.1 C0.2.1 dX4_pass_51 (by decide) ?_
          refine lv_iadd C0.1 C0.2.1 dX4_pass_52 ?_
          obtain ⟨u26, hu26, h⟩ := bd_some h
          refine x_kl (r := u26) (x_runV (As := [.int (v4 + (1 : Int32))]) (rest := []) C0 G0 hW (cX4_of_met l hJ z σ k0 (v4 + (1 : Int32)) _ hu26) (cwV 1 C0.2.2.2.1 gX4_pass_X4_of rfl rfl rfl hdvX4_of ⟨Nat.le_of_ble_eq_true rfl, Nat.le_of_ble_eq_true rfl⟩) (cX_X4 hk_k0) (kX_lt hk_k0 (by decide)) rfl rfl rfl hl (Nat.le_of_ble_eq_true rfl) dX4_pass_53 ⟨Nat.le_refl 0, Nat.le_refl 0⟩) hW (fun H locs hW => ?_)
          refine lv_goto (tgt := 60) C0.1 C0.2.1 dX4_pass_56 (by decide) ?_
          exact wX4_pass_60 C0 G0 hJ z (fX4_pass_15 z k0 n) σ k0 v2 v4 (σ.2 (k0 + 1) (v4).toNatClampNeg) u26 _ h (by exact hr15) hk_k0 hW (lv_sub hl [1, 2, 3, 4, 0] rfl)
set_option maxHeartbeats 4000000 in
set_option maxRecDepth 100000 in
theorem wX4_pass (C0 : Cx p s m args meth c cX4_pass RX4 10 none wsX4_pass) (G0 : Gx G s) (hJ : gJ 80 G) (z : Nat) (σ : ST) (k0 : Nat) (res : ST) (h : fX4_pass z σ k0 = some res)  {H : Heap} {locs : List Loc} {ls : Array Slot} (hW : Wd cellX 80 G s.heap σ H locs) (hl : lv_has ls 10 [(0, .ref (aD G k0)), (1, .ref (aD G 3))]) : W p l e rX4_pass s m args below meth c H locs 0 0 (MQ below (XQv cellX 80 G res) args s 0 0 (gA 80 G)) (F0 m 0 ls []) := by
  unfold fX4_pass at h
  obtain ⟨hk_k0, h⟩ := gd_some h
  have hk_k0 : kX k0 = 3 := eq_of_beq hk_k0
  refine lv_aload_n C0.1 C0.2.1 dX4_pass_0 rfl (lv_at hl 0 rfl) ?_
  refine lv_dup C0.1 C0.2.1 dX4_pass_1 rfl ?_
  refine x_get (v := .int (σ.1 k0 4)) C0 G0 hW (cX_X4 hk_k0) (kX_lt hk_k0 (by decide)) rfl 4 (by decide) inX4_pass_X4 lkX4_pass_35 rfl dX4_pass_2 ?_
  refine lv_iconst (v := (1 : Int32)) C0.1 C0.2.1 dX4_pass_5 (by decide) ?_
  refine lv_iadd C0.1 C0.2.1 dX4_pass_6 ?_
  refine x_putI (v := ((σ.1 k0 4) + (1 : Int32))) C0 G0 hJ hW (cX_X4 hk_k0) (kX_lt hk_k0 (by decide)) rfl 4 (by decide) inX4_pass_X4 lkX4_pass_35 tyX4 tyX4_ok nmX4 rfl rfl rfl (Nat.le_of_ble_eq_true rfl) (hu_X4_4 hk_k0) dX4_pass_7 (fun H locs hW => ?_)
  obtain ⟨s21, es21, h⟩ := lt_some h
  rw [es21] at hW
  refine lv_lconst (v := (0 : Int64)) C0.1 C0.2.1 dX4_pass_10 (by decide) ?_
  refine lv_lstore_n (lv' := [(2, .long (0 : Int64)), (0, .ref (aD G k0)), (1, .ref (aD G 3))]) C0.1 C0.2.1 dX4_pass_11 rfl hl (by decide) rfl (fun ls hl => ?_)
  refine lv_iconst (v := (0 : Int32)) C0.1 C0.2.1 dX4_pass_12 (by decide) ?_
  refine lv_istore (lv' := [(4, .int (0 : Int32)), (2, .long (0 : Int64)), (0, .ref (aD G k0)), (1, .ref (aD G 3))]) C0.1 C0.2.1 dX4_pass_13 hl (by decide) rfl (fun ls hl => ?_)
  exact wX4_pass_15 C0 G0 hJ z k0 z s21 (0 : Int64) (0 : Int32) _ h hk_k0 hW (lv_sub hl [2, 3, 1, 0] rfl)
theorem cX4_pass_met (l : Launch) {G : GT} (hJ : gJ 80 G) (z : Nat) (σ : ST) (k0 : Nat) (res : ST) (h : fX4_pass z σ k0 = some res) : Met l yX4_pass wsX4_pass rX4_pass (XPc cellX 80 G σ [.ref (aD G k0), .ref (aD G 3)]) (XQv cellX 80 G res) 0 0 (gA 80 G) :=
  x_met (ret := none) (maxL := 10) (by decide) rfl (Nat.le_of_ble_eq_true rfl) (fun p e s m args below meth c H locs ls C0 G0 hW hl => wX4_pass C0 G0 hJ z σ k0 res h hW hl)
end
/-! X4_act -/
def rX4_act : Room := { frames := 4, cells := 0, slots := 0, locals := 86 }
theorem hdvX4_act : yX4_act.cls = RX4 ∧ yX4_act.cls ≠ "java/lang/invoke/MethodHandle" ∧ yX4_act.cls ≠ "java/lang/invoke/VarHandle" ∧ (parseMethodDescriptor yX4_act.desc).map (fun d => d.parameters.length) = some 2 := by decide +kernel
def fX4_act (z : Nat) (σ : ST) (k0 : Nat) (v2 : Int32) : Option ST := gd (kX k0 == 3) (bd (fX4_lookBy z σ k0 v2) (fun u21 => bd (fX4_pass z u21 k0) (fun u22 => some u22)))
section
variable {p : Program} {l : Launch} {e : Env} {s : State} {m : MethodId} {args : Array Value} {below : List Frame} {meth : Method} {c : Code} {G : GT}
set_option maxHeartbeats 4000000 in
set_option maxRecDepth 100000 in
theorem wX4_act (C0 : Cx p s m args meth c cX4_act RX4 3 none wsX4_act) (G0 : Gx G s) (hJ : gJ 80 G) (z : Nat) (σ : ST) (k0 : Nat) (v2 : Int32) (res : ST) (h : fX4_act z σ k0 v2 = some res)  {H : Heap} {locs : List Loc} {ls : Array Slot} (hW : Wd cellX 80 G s.heap σ H locs) (hl : lv_has ls 3 [(0, .ref (aD G k0)), (1, .ref (aD G 3)), (2, .int v2)]) : W p l e rX4_act s m args below meth c H locs 0 0 (MQ below (XQv cellX 80 G res) args s 0 0 (gA 80 G)) (F0 m 0 ls []) := by
  unfold fX4_act at h
  obtain ⟨hk_k0, h⟩ := gd_some h
  have hk_k0 : kX k0 = 3 := eq_of_beq hk_k0
  refine lv_aload_n C0.1 C0.2.1 dX4_act_0 rfl (lv_at hl 0 rfl) ?_
  refine lv_aload_n C0.1 C0.2.1 dX4_act_1 rfl (lv_at hl 1 rfl) ?_
  refine lv_iload_n C0.1 C0.2.1 dX4_act_2 rfl (lv_at hl 2 rfl) ?_
  obtain ⟨u21, hu21, h⟩ := bd_some h
  refine x_kv (x_runV (As := [.ref (aD G 3), .int v2]) (rest := []) C0 G0 hW (cX4_lookBy_met l hJ z σ k0 v2 _ hu21) (cwV 2 C0.2.2.2.1 gX4_act_X4_lookBy rfl rfl rfl hdvX4_lookBy ⟨Nat.le_of_ble_eq_true rfl, Nat.le_of_ble_eq_true rfl⟩) (cX_X4 hk_k0) (kX_lt hk_k0 (by decide)) rfl rfl rfl hl (Nat.le_of_ble_eq_true rfl) dX4_act_3 ⟨Nat.le_refl 0, Nat.le_refl 0⟩) hW (fun H locs hW => ?_)
  refine lv_aload_n C0.1 C0.2.1 dX4_act_6 rfl (lv_at hl 0 rfl) ?_
  refine lv_aload_n C0.1 C0.2.1 dX4_act_7 rfl (lv_at hl 1 rfl) ?_
  obtain ⟨u22, hu22, h⟩ := bd_some h
  refine x_kv (x_runV (As := [.ref (aD G 3)]) (rest := []) C0 G0 hW (cX4_pass_met l hJ z u21 k0 _ hu22) (cwV 1 C0.2.2.2.1 gX4_act_X4_pass rfl rfl rfl hdvX4_pass ⟨Nat.le_of_ble_eq_true rfl, Nat.le_of_ble_eq_true rfl⟩) (cX_X4 hk_k0) (kX_lt hk_k0 (by decide)) rfl rfl rfl hl (Nat.le_of_ble_eq_true rfl) dX4_act_8 ⟨Nat.le_refl 0, Nat.le_refl 0⟩) hW (fun H locs hW => ?_)
  cases h
  exact x_vret C0 hW dX4_act_11
theorem cX4_act_met (l : Launch) {G : GT} (hJ : gJ 80 G) (z : Nat) (σ : ST) (k0 : Nat) (v2 : Int32) (res : ST) (h : fX4_act z σ k0 v2 = some res) : Met l yX4_act wsX4_act rX4_act (XPc cellX 80 G σ [.ref (aD G k0), .ref (aD G 3), .int v2]) (XQv cellX 80 G res) 0 0 (gA 80 G) :=
  x_met (ret := none) (maxL := 3) (by decide) rfl (Nat.le_of_ble_eq_true rfl) (fun p e s m args below meth c H locs ls C0 G0 hW hl => wX4_act C0 G0 hJ z σ k0 v2 res h hW hl)
end
/-! X4_together -/
def rX4_together : Room := { frames := 0, cells := 0, slots := 0, locals := 0 }
theorem hdvX4_together : yX4_together.cls = RX4 ∧ yX4_together.cls ≠ "java/lang/invoke/MethodHandle" ∧ yX4_together.cls ≠ "java/lang/invoke/VarHandle" ∧ (parseMethodDescriptor yX4_together.desc).map (fun d => d.parameters.length) = some 0 := by decide +kernel
theorem inX4_together_X4 : ∀ w ∈ u_ws RX4 TX4 6, w ∈ wsX4_together := by decide +kernel
theorem lkX4_together_9 : Cond.fieldLink RX4 9 (TX4 0).1 (TX4 0).2.1 (TX4 0).2.2.1 ∈ wsX4_together := by decide +kernel
def fX4_together_4 (z : Nat) (σ : ST) (k0 : Nat) : Nat → Int64 → Int32 → Option Int64
  | 0 => fun _ _ => none
  | n + 1 => fun v1 v3 => (if (11 : Int32) ≤ v3 then some v1 else gd (inb v3 11) ( (fX4_together_4 z σ k0 n) (v1 + (σ.2 (k0 + 1) (v3).toNatClampNeg)) (v3 + 1)))
def fX4_together (z : Nat) (σ : ST) (k0 : Nat) : Option Int64 := gd (kX k0 == 3) (fX4_together_4 z σ k0 z (0 : Int64) (0 : Int32))
section
variable {p : Program} {l : Launch} {e : Env} {s : State} {m : MethodId} {args : Array Value} {below : List Frame} {meth : Method} {c : Code} {G : GT}
set_option maxHeartbeats 4000000 in
set_option maxRecDepth 100000 in
theorem wX4_together_4 (C0 : Cx p s m args meth c cX4_together RX4 4 (some .long) wsX4_together) (G0 : Gx G s) (hJ : gJ 80 G) (z : Nat) (σ : ST) (k0 : Nat) (n : Nat) (v1 : Int64) (v3 : Int32) (res : Int64) (h : fX4_together_4 z σ k0 n v1 v3 = some res) (hk_k0 : kX k0 = 3) {H : Heap} {locs : List Loc} {ls : Array Slot} (hW : Wd cellX 80 G s.heap σ H locs) (hl : lv_has ls 4 [(0, .ref (aD G k0)), (1, .long v1), (3, .int v3)]) : W p l e rX4_together s m args below meth c H locs 0 0 (MQ below (XQl cellX 80 G res σ) args s 0 0 (gA 80 G)) (F0 m 4 ls []) := by
  induction n generalizing v1 v3 H locs ls with
  | zero => cases h
  | succ n ih =>
    have hr4 : ∀ (v1 : Int64) (v3 : Int32), fX4_together_4 z σ k0 n v1 v3 = some res → ∀ (H : Heap) (locs : List Loc) (ls : Array Slot), Wd cellX 80 G s.heap σ H locs → lv_has ls 4 [(0, .ref (aD G k0)), (1, .long v1), (3, .int v3)] → W p l e rX4_together s m args below meth c H locs 0 0 (MQ below (XQl cellX 80 G res σ) args s 0 0 (gA 80 G)) (F0 m 4 ls []) := fun v1 v3 h H locs ls hW hl => ih v1 v3 h hW hl
    clear ih
    unfold fX4_together_4 at h
    refine lv_iload_n C0.1 C0.2.1 dX4_together_4 rfl (lv_at hl 2 rfl) ?_
    refine lv_aload_n C0.1 C0.2.1 dX4_together_5 rfl (lv_at hl 0 rfl) ?_
    refine x_get (v := .ref (aD G (k0 + 1))) C0 G0 hW (cX_X4 hk_k0) (kX_lt hk_k0 (by decide)) rfl 0 (by decide) inX4_together_X4 lkX4_together_9 rfl dX4_together_6 ?_
    refine x_alen (v := (11 : Int32)) C0 G0 hW 1 (cX_J11 (kSX4_1 hk_k0)) (kX_lt (kSX4_1 hk_k0) (by decide)) rfl rfl dX4_together_9 ?_
    refine lv_icmp_ge (tgt := 28) C0.1 C0.2.1 dX4_together_10 (by decide) (fun c21 => ?_) (fun c21 => ?_)
    · rw [if_pos c21] at h
      refine lv_lload_n C0.1 C0.2.1 dX4_together_28 rfl (lv_at hl 1 rfl) ?_
      cases h
      exact x_lret C0 hW dX4_together_29
    · rw [if_neg c21] at h
      refine lv_lload_n C0.1 C0.2.1 dX4_together_13 rfl (lv_at hl 1 rfl) ?_
      refine lv_aload_n C0.1 C0.2.1 dX4_together_14 rfl (lv_at hl 0 rfl) ?_
      refine x_get (v := .ref (aD G (k0 + 1))) C0 G0 hW (cX_X4 hk_k0) (kX_lt hk_k0 (by decide)) rfl 0 (by decide) inX4_together_X4 lkX4_together_9 rfl dX4_together_15 ?_
      refine lv_iload_n C0.1 C0.2.1 dX4_together_18 rfl (lv_at hl 2 rfl) ?_
      obtain ⟨g22, h⟩ := gd_some h
      refine x_lald C0 G0 hW (cX_J11 (kSX4_1 hk_k0)) (kX_lt (kSX4_1 hk_k0) (by decide)) g22 dX4_together_19 ?_
      refine lv_ladd C0.1 C0.2.1 dX4_together_20 ?_
      refine lv_lstore_n (lv' := [(1, .long (v1 + (σ.2 (k0 + 1) (v3).toNatClampNeg))), (0, .ref (aD G k0)), (3, .int v3)]) C0.1 C0.2.1 dX4_together_21 rfl hl (by decide) rfl (fun ls hl => ?_)
      refine lv_iinc (v := (v3 + 1)) (lv' := [(3, .int (v3 + 1)), (1, .long (v1 + (σ.2 (k0 + 1) (v3).toNatClampNeg))), (0, .ref (aD G k0))]) C0.1 C0.2.1 dX4_together_22 hl (k := 2) rfl rfl (by decide) rfl (fun ls hl => ?_)
      refine lv_goto (tgt := 4) C0.1 C0.2.1 dX4_together_25 (by decide) ?_
      exact hr4 (v1 + (σ.2 (k0 + 1) (v3).toNatClampNeg)) (v3 + 1) h _ _ _ hW (lv_sub hl [2, 1, 0] rfl)
set_option maxHeartbeats 4000000 in
set_option maxRecDepth 100000 in
theorem wX4_together (C0 : Cx p s m args meth c cX4_together RX4 4 (some .long) wsX4_together) (G0 : Gx G s) (hJ : gJ 80 G) (z : Nat) (σ : ST) (k0 : Nat) (res : Int64) (h : fX4_together z σ k0 = some res)  {H : Heap} {locs : List Loc} {ls : Array Slot} (hW : Wd cellX 80 G s.heap σ H locs) (hl : lv_has ls 4 [(0, .ref (aD G k0))]) : W p l e rX4_together s m args below meth c H locs 0 0 (MQ below (XQl cellX 80 G res σ) args s 0 0 (gA 80 G)) (F0 m 0 ls []) := by
  unfold fX4_together at h
  obtain ⟨hk_k0, h⟩ := gd_some h
  have hk_k0 : kX k0 = 3 := eq_of_beq hk_k0
  refine lv_lconst (v := (0 : Int64)) C0.1 C0.2.1 dX4_together_0 (by decide) ?_
  refine lv_lstore_n (lv' := [(1, .long (0 : Int64)), (0, .ref (aD G k0))]) C0.1 C0.2.1 dX4_together_1 rfl hl (by decide) rfl (fun ls hl => ?_)
  refine lv_iconst (v := (0 : Int32)) C0.1 C0.2.1 dX4_together_2 (by decide) ?_
  refine lv_istore_n (lv' := [(3, .int (0 : Int32)), (1, .long (0 : Int64)), (0, .ref (aD G k0))]) C0.1 C0.2.1 dX4_together_3 rfl hl (by decide) rfl (fun ls hl => ?_)
  exact wX4_together_4 C0 G0 hJ z σ k0 z (0 : Int64) (0 : Int32) _ h hk_k0 hW (lv_sub hl [2, 1, 0] rfl)
theorem cX4_together_met (l : Launch) {G : GT} (hJ : gJ 80 G) (z : Nat) (σ : ST) (k0 : Nat) (res : Int64) (h : fX4_together z σ k0 = some res) : Met l yX4_together wsX4_together rX4_together (XPc cellX 80 G σ [.ref (aD G k0)]) (XQl cellX 80 G res σ) 0 0 (gA 80 G) :=
  x_met (ret := (some .long)) (maxL := 4) (by decide) rfl (Nat.le_of_ble_eq_true rfl) (fun p e s m args below meth c H locs ls C0 G0 hW hl => wX4_together C0 G0 hJ z σ k0 res h hW hl)
end
/-! X2_below -/
def rX2_below : Room := { frames := 0, cells := 0, slots := 0, locals := 0 }
theorem hdvX2_below : yX2_below.cls = RX2 ∧ yX2_below.cls ≠ "java/lang/invoke/MethodHandle" ∧ yX2_below.cls ≠ "java/lang/invoke/VarHandle" ∧ (parseMethodDescriptor yX2_below.desc).map (fun d => d.parameters.length) = some 1 := by decide +kernel
theorem inX2_below_X2 : ∀ w ∈ u_ws RX2 TX2 1, w ∈ wsX2_below := by decide +kernel
theorem lkX2_below_7 : Cond.fieldLink RX2 7 (TX2 0).1 (TX2 0).2.1 (TX2 0).2.2.1 ∈ wsX2_below := by decide +kernel
theorem kcX2_below_13 : Cond.constantLong RX2 13 (6364136223846793005 : Int64) ∈ wsX2_below := by decide +kernel
theorem kcX2_below_15 : Cond.constantLong RX2 15 (1442695040888963407 : Int64) ∈ wsX2_below := by decide +kernel
def fX2_below_35 (z : Nat) (σ : ST) (t0 : Int32) : Option (Int32 × ST) := some (t0, σ)
def fX2_below (z : Nat) (σ : ST) (v1 : Int32) : Option (Int32 × ST) := lt (pL σ 79 0 (((σ.2 79 0) * (6364136223846793005 : Int64)) + (1442695040888963407 : Int64))) (fun s21 => (if 0 < v1 then gd (nzL ((v1).toInt64)) ( fX2_below_35 z s21 (((((((s21.2 79 0)).toUInt64 >>> (((33 : Int32)).toInt64.toUInt64 &&& Int64.toUInt64 63)).toInt64) - ((((s21.2 79 0)).toUInt64 >>> (((33 : Int32)).toInt64.toUInt64 &&& Int64.toUInt64 63)).toInt64) / ((v1).toInt64) * ((v1).toInt64))).toInt32)) else fX2_below_35 z s21 (0 : Int32)))
section
variable {p : Program} {l : Launch} {e : Env} {s : State} {m : MethodId} {args : Array Value} {below : List Frame} {meth : Method} {c : Code} {G : GT}
set_option maxHeartbeats 4000000 in
set_option maxRecDepth 100000 in
theorem wX2_below_35 (C0 : Cx p s m args meth c cX2_below RX2 2 (some .int) wsX2_below) (G0 : Gx G s) (hJ : gJ 80 G) (z : Nat) (σ : ST) (t0 : Int32) (res : (Int32 × ST)) (h : fX2_below_35 z σ t0 = some res)  {H : Heap} {locs : List Loc} {ls : Array Slot} (hW : Wd cellX 80 G s.heap σ H locs) (hl : lv_has ls 2 []) : W p l e rX2_below s m args below meth c H locs 0 0 (MQ below (XQi cellX 80 G res.1 res.2) args s 0 0 (gA 80 G)) (F0 m 35 ls [.int t0]) := by
  unfold fX2_below_35 at h
  cases h
  exact x_iret C0 hW dX2_below_35
set_option maxHeartbeats 4000000 in
set_option maxRecDepth 100000 in
theorem wX2_below (C0 : Cx p s m args meth c cX2_below RX2 2 (some .int) wsX2_below) (G0 : Gx G s) (hJ : gJ 80 G) (z : Nat) (σ : ST) (v1 : Int32) (res : (Int32 × ST)) (h : fX2_below z σ v1 = some res)  {H : Heap} {locs : List Loc} {ls : Array Slot} (hW : Wd cellX 80 G s.heap σ H locs) (hl : lv_has ls 2 [(0, .ref (aD G 79)), (1, .int v1)]) : W p l e rX2_below s m args below meth c H locs 0 0 (MQ below (XQi cellX 80 G res.1 res.2) args s 0 0 (gA 80 G)) (F0 m 0 ls []) := by
  unfold fX2_below at h
  refine lv_aload_n C0.1 C0.2.1 dX2_below_0 rfl (lv_at hl 0 rfl) ?_
  refine lv_aload_n C0.1 C0.2.1 dX2_below_1 rfl (lv_at hl 0 rfl) ?_
  refine x_get (v := .long (σ.2 79 0)) C0 G0 hW (cX_X2 rfl) (by decide) rfl 0 (by decide) inX2_below_X2 lkX2_below_7 rfl dX2_below_2 ?_
  refine lv_ldc2 (v := (6364136223846793005 : Int64)) C0.1 C0.2.1 C0.2.2.2.2.1 (C0.2.2.2.1 _ kcX2_below_13) dX2_below_5 ?_
  refine lv_lmul C0.1 C0.2.1 dX2_below_8 ?_
  refine lv_ldc2 (v := (1442695040888963407 : Int64)) C0.1 C0.2.1 C0.2.2.2.2.1 (C0.2.2.2.1 _ kcX2_below_15) dX2_below_9 ?_
  refine lv_ladd C0.1 C0.2.1 dX2_below_12 ?_
  refine x_putL (v := (((σ.2 79 0) * (6364136223846793005 : Int64)) + (1442695040888963407 : Int64))) C0 G0 hJ hW (cX_X2 rfl) (by decide) rfl 0 (by decide) inX2_below_X2 lkX2_below_7 tyX2 tyX2_ok nmX2 rfl rfl rfl (Nat.le_of_ble_eq_true rfl) (hu_X2_0 rfl) dX2_below_13 (fun H locs hW => ?_)
  obtain ⟨s21, es21, h⟩ := lt_some h
  rw [es21] at hW
  refine lv_iload_n C0.1 C0.2.1 dX2_below_16 rfl (lv_at hl 1 rfl) ?_
  refine lv_if_gt (tgt := 24) C0.1 C0.2.1 dX2_below_17 (by decide) (fun c22 => ?_) (fun c22 => ?_)
  · rw [if_pos c22] at h
    refine lv_aload_n C0.1 C0.2.1 dX2_below_24 rfl (lv_at hl 0 rfl) ?_
    refine x_get (v := .long (s21.2 79 0)) C0 G0 hW (cX_X2 rfl) (by decide) rfl 0 (by decide) inX2_below_X2 lkX2_below_7 rfl dX2_below_25 ?_
    refine lv_bipush (v := (33 : Int32)) C0.1 C0.2.1 dX2_below_28 (by decide) ?_
    refine lv_lushr (v := ((((s21.2 79 0)).toUInt64 >>> (((33 : Int32)).toInt64.toUInt64 &&& Int64.toUInt64 63)).toInt64)) C0.1 C0.2.1 dX2_below_30 rfl ?_
    refine lv_iload_n C0.1 C0.2.1 dX2_below_31 rfl (lv_at hl 1 rfl) ?_
    refine lv_i2l (v := ((v1).toInt64)) C0.1 C0.2.1 dX2_below_32 rfl ?_
    obtain ⟨g23, h⟩ := gd_some h
    refine lv_lrem C0.1 C0.2.1 dX2_below_33 (nzL_of g23) ?_
    refine lv_l2i (v := (((((((s21.2 79 0)).toUInt64 >>> (((33 : Int32)).toInt64.toUInt64 &&& Int64.toUInt64 63)).toInt64) - ((((s21.2 79 0)).toUInt64 >>> (((33 : Int32)).toInt64.toUInt64 &&& Int64.toUInt64 63)).toInt64) / ((v1).toInt64) * ((v1).toInt64))).toInt32)) C0.1 C0.2.1 dX2_below_34 rfl ?_
    exact wX2_below_35 C0 G0 hJ z s21 (((((((s21.2 79 0)).toUInt64 >>> (((33 : Int32)).toInt64.toUInt64 &&& Int64.toUInt64 63)).toInt64) - ((((s21.2 79 0)).toUInt64 >>> (((33 : Int32)).toInt64.toUInt64 &&& Int64.toUInt64 63)).toInt64) / ((v1).toInt64) * ((v1).toInt64))).toInt32) _ h hW (lv_sub hl [] rfl)
  · rw [if_neg c22] at h
    refine lv_iconst (v := (0 : Int32)) C0.1 C0.2.1 dX2_below_20 (by decide) ?_
    refine lv_goto (tgt := 35) C0.1 C0.2.1 dX2_below_21 (by decide) ?_
    exact wX2_below_35 C0 G0 hJ z s21 (0 : Int32) _ h hW (lv_sub hl [] rfl)
theorem cX2_below_met (l : Launch) {G : GT} (hJ : gJ 80 G) (z : Nat) (σ : ST) (v1 : Int32) (res : (Int32 × ST)) (h : fX2_below z σ v1 = some res) : Met l yX2_below wsX2_below rX2_below (XPc cellX 80 G σ [.ref (aD G 79), .int v1]) (XQi cellX 80 G res.1 res.2) 0 0 (gA 80 G) :=
  x_met (ret := (some .int)) (maxL := 2) (by decide) rfl (Nat.le_of_ble_eq_true rfl) (fun p e s m args below meth c H locs ls C0 G0 hW hl => wX2_below C0 G0 hJ z σ v1 res h hW hl)
end
/-! X3_commonOf -/
def rX3_commonOf : Room := { frames := 0, cells := 0, slots := 0, locals := 0 }
theorem hdsX3_commonOf : yX3_commonOf.cls ≠ "java/lang/invoke/MethodHandle" ∧ yX3_commonOf.cls ≠ "java/lang/invoke/VarHandle" ∧ (parseMethodDescriptor yX3_commonOf.desc).map (fun d => d.parameters.length) = some 2 := by decide +kernel
def fX3_commonOf_45 (z : Nat) (v4 : Int64) : Option Int64 := some v4
def fX3_commonOf_9 (z : Nat) : Nat → Int64 → Int64 → Int32 → Option Int64
  | 0 => fun _ _ _ => none
  | n + 1 => fun v4 v6 v8 => (if (200 : Int32) ≤ v8 then fX3_commonOf_45 z v4 else (if v6 = (0 : Int64) then fX3_commonOf_45 z v4 else gd (nzL v6) ( (fX3_commonOf_9 z n) v6 (v4 - v4 / v6 * v6) (v8 + 1))))
def fX3_commonOf (z : Nat) (v0 : Int64) (v2 : Int64) : Option Int64 := fX3_commonOf_9 z z v0 v2 (0 : Int32)
section
variable {p : Program} {l : Launch} {e : Env} {s : State} {m : MethodId} {args : Array Value} {below : List Frame} {meth : Method} {c : Code} {G : GT}
set_option maxHeartbeats 4000000 in
set_option maxRecDepth 100000 in
theorem wX3_commonOf_45 (C0 : Cx p s m args meth c cX3_commonOf RX3 11 (some .long) wsX3_commonOf) {σ : ST} (G0 : Gx G s) (hJ : gJ 80 G) (z : Nat) (v4 : Int64) (res : Int64) (h : fX3_commonOf_45 z v4 = some res)  {H : Heap} {locs : List Loc} {ls : Array Slot} (hW : Wd cellX 80 G s.heap σ H locs) (hl : lv_has ls 11 [(4, .long v4)]) : W p l e rX3_commonOf s m args below meth c H locs 0 0 (MQ below (XQl cellX 80 G res σ) args s 0 0 (gA 80 G)) (F0 m 45 ls []) := by
  unfold fX3_commonOf_45 at h
  refine lv_lload C0.1 C0.2.1 dX3_commonOf_45 (lv_at hl 0 rfl) ?_
  cases h
  exact x_lret C0 hW dX3_commonOf_47
set_option maxHeartbeats 4000000 in
set_option maxRecDepth 100000 in
theorem wX3_commonOf_9 (C0 : Cx p s m args meth c cX3_commonOf RX3 11 (some .long) wsX3_commonOf) {σ : ST} (G0 : Gx G s) (hJ : gJ 80 G) (z : Nat) (n : Nat) (v4 : Int64) (v6 : Int64) (v8 : Int32) (res : Int64) (h : fX3_commonOf_9 z n v4 v6 v8 = some res)  {H : Heap} {locs : List Loc} {ls : Array Slot} (hW : Wd cellX 80 G s.heap σ H locs) (hl : lv_has ls 11 [(4, .long v4), (6, .long v6), (8, .int v8)]) : W p l e rX3_commonOf s m args below meth c H locs 0 0 (MQ below (XQl cellX 80 G res σ) args s 0 0 (gA 80 G)) (F0 m 9 ls []) := by
  induction n generalizing v4 v6 v8 H locs ls with
  | zero => cases h
  | succ n ih =>
    have hr9 : ∀ (v4 : Int64) (v6 : Int64) (v8 : Int32), fX3_commonOf_9 z n v4 v6 v8 = some res → ∀ (H : Heap) (locs : List Loc) (ls : Array Slot), Wd cellX 80 G s.heap σ H locs → lv_has ls 11 [(4, .long v4), (6, .long v6), (8, .int v8)] → W p l e rX3_commonOf s m args below meth c H locs 0 0 (MQ below (XQl cellX 80 G res σ) args s 0 0 (gA 80 G)) (F0 m 9 ls []) := fun v4 v6 v8 h H locs ls hW hl => ih v4 v6 v8 h hW hl
    clear ih
    unfold fX3_commonOf_9 at h
    refine lv_iload C0.1 C0.2.1 dX3_commonOf_9 (lv_at hl 2 rfl) ?_
    refine lv_sipush (v := (200 : Int32)) C0.1 C0.2.1 dX3_commonOf_11 (by decide) ?_
    refine lv_icmp_ge (tgt := 45) C0.1 C0.2.1 dX3_commonOf_14 (by decide) (fun c21 => ?_) (fun c21 => ?_)
    · rw [if_pos c21] at h
      exact wX3_commonOf_45 C0 G0 hJ z v4 _ h hW (lv_sub hl [0] rfl)
    · rw [if_neg c21] at h
      refine lv_lload C0.1 C0.2.1 dX3_commonOf_17 (lv_at hl 1 rfl) ?_
      refine lv_lconst (v := (0 : Int64)) C0.1 C0.2.1 dX3_commonOf_19 (by decide) ?_
      refine x_lc_eq (tgt := 45) C0 dX3_commonOf_20 dX3_commonOf_21 (by decide) (fun c22 => ?_) (fun c22 => ?_)
      · rw [if_pos c22] at h
        exact wX3_commonOf_45 C0 G0 hJ z v4 _ h hW (lv_sub hl [0] rfl)
      · rw [if_neg c22] at h
        refine lv_lload C0.1 C0.2.1 dX3_commonOf_24 (lv_at hl 0 rfl) ?_
        refine lv_lload C0.1 C0.2.1 dX3_commonOf_26 (lv_at hl 1 rfl) ?_
        obtain ⟨g23, h⟩ := gd_some h
        refine lv_lrem C0.1 C0.2.1 dX3_commonOf_28 (nzL_of g23) ?_
        refine lv_lstore (lv' := [(9, .long (v4 - v4 / v6 * v6)), (4, .long v4), (6, .long v6), (8, .int v8)]) C0.1 C0.2.1 dX3_commonOf_29 hl (by decide) rfl (fun ls hl => ?_)
        refine lv_lload C0.1 C0.2.1 dX3_commonOf_31 (lv_at hl 2 rfl) ?_
        refine lv_lstore (lv' := [(4, .long v6), (9, .long (v4 - v4 / v6 * v6)), (6, .long v6), (8, .int v8)]) C0.1 C0.2.1 dX3_commonOf_33 hl (by decide) rfl (fun ls hl => ?_)
        refine lv_lload C0.1 C0.2.1 dX3_commonOf_35 (lv_at hl 1 rfl) ?_
        refine lv_lstore (lv' := [(6, .long (v4 - v4 / v6 * v6)), (4, .long v6), (9, .long (v4 - v4 / v6 * v6)), (8, .int v8)]) C0.1 C0.2.1 dX3_commonOf_37 hl (by decide) rfl (fun ls hl => ?_)
        refine lv_iinc (v := (v8 + 1)) (lv' := [(8, .int (v8 + 1)), (6, .long (v4 - v4 / v6 * v6)), (4, .long v6), (9, .long (v4 - v4 / v6 * v6))]) C0.1 C0.2.1 dX3_commonOf_39 hl (k := 3) rfl rfl (by decide) rfl (fun ls hl => ?_)
        refine lv_goto (tgt := 9) C0.1 C0.2.1 dX3_commonOf_42 (by decide) ?_
        exact hr9 v6 (v4 - v4 / v6 * v6) (v8 + 1) h _ _ _ hW (lv_sub hl [2, 1, 0] rfl)
set_option maxHeartbeats 4000000 in
set_option maxRecDepth 100000 in
theorem wX3_commonOf (C0 : Cx p s m args meth c cX3_commonOf RX3 11 (some .long) wsX3_commonOf) {σ : ST} (G0 : Gx G s) (hJ : gJ 80 G) (z : Nat) (v0 : Int64) (v2 : Int64) (res : Int64) (h : fX3_commonOf z v0 v2 = some res)  {H : Heap} {locs : List Loc} {ls : Array Slot} (hW : Wd cellX 80 G s.heap σ H locs) (hl : lv_has ls 11 [(0, .long v0), (2, .long v2)]) : W p l e rX3_commonOf s m args below meth c H locs 0 0 (MQ below (XQl cellX 80 G res σ) args s 0 0 (gA 80 G)) (F0 m 0 ls []) := by
  unfold fX3_commonOf at h
  refine lv_lload_n C0.1 C0.2.1 dX3_commonOf_0 rfl (lv_at hl 0 rfl) ?_
  refine lv_lstore (lv' := [(4, .long v0), (0, .long v0), (2, .long v2)]) C0.1 C0.2.1 dX3_commonOf_1 hl (by decide) rfl (fun ls hl => ?_)
  refine lv_lload_n C0.1 C0.2.1 dX3_commonOf_3 rfl (lv_at hl 2 rfl) ?_
  refine lv_lstore (lv' := [(6, .long v2), (4, .long v0), (0, .long v0), (2, .long v2)]) C0.1 C0.2.1 dX3_commonOf_4 hl (by decide) rfl (fun ls hl => ?_)
  refine lv_iconst (v := (0 : Int32)) C0.1 C0.2.1 dX3_commonOf_6 (by decide) ?_
  refine lv_istore (lv' := [(8, .int (0 : Int32)), (6, .long v2), (4, .long v0), (0, .long v0), (2, .long v2)]) C0.1 C0.2.1 dX3_commonOf_7 hl (by decide) rfl (fun ls hl => ?_)
  exact wX3_commonOf_9 C0 G0 hJ z z v0 v2 (0 : Int32) _ h hW (lv_sub hl [2, 1, 0] rfl)
theorem cX3_commonOf_met (l : Launch) {G : GT} (hJ : gJ 80 G) (z : Nat) (σ : ST) (v0 : Int64) (v2 : Int64) (res : Int64) (h : fX3_commonOf z v0 v2 = some res) : Met l yX3_commonOf wsX3_commonOf rX3_commonOf (XPc cellX 80 G σ [.long v0, .long v2]) (XQl cellX 80 G res σ) 0 0 (gA 80 G) :=
  x_met (ret := (some .long)) (maxL := 11) (by decide) rfl (Nat.le_of_ble_eq_true rfl) (fun p e s m args below meth c H locs ls C0 G0 hW hl => wX3_commonOf C0 G0 hJ z v0 v2 res h hW hl)
end
/-! X3_part -/
def rX3_part : Room := { frames := 1, cells := 0, slots := 0, locals := 30 }
theorem hdsX3_part : yX3_part.cls ≠ "java/lang/invoke/MethodHandle" ∧ yX3_part.cls ≠ "java/lang/invoke/VarHandle" ∧ (parseMethodDescriptor yX3_part.desc).map (fun d => d.parameters.length) = some 3 := by decide +kernel
theorem jlX3_part_7 : Cond.methodLink RX3 7 Lib.MathLoose.abs_long.x ∈ wsX3_part := by decide +kernel
theorem jsX3_part_7 : Cond.static Lib.MathLoose.abs_long.x ∈ wsX3_part := by decide +kernel
theorem jiX3_part : Cond.initialized "java/lang/Math" ∈ wsX3_part := by decide +kernel
theorem jcX3_part_7 : Cond.code Lib.MathLoose.abs_long.x Lib.MathLoose.abs_long.code 2 (some .long) ∈ wsX3_part := by decide +kernel
def fX3_part_44 (z : Nat) (t0 : Int64) : Option Int64 := some t0
def fX3_part_27 (z : Nat) (t0 : Int64) : Option Int64 := some t0
def fX3_part (z : Nat) (v0 : Int64) (v2 : Int64) (v4 : Int32) : Option Int64 := bd (fX3_commonOf z (if 0 < v0 then v0 else -v0) v2) (fun u21 => (if (0 : Int64) < u21 then (if v4 = 0 then gd (nzL u21) ( fX3_part_44 z (v2 / u21)) else gd (nzL u21) ( fX3_part_44 z (v0 / u21))) else (if v4 = 0 then fX3_part_27 z (1 : Int64) else fX3_part_27 z (0 : Int64))))
section
variable {p : Program} {l : Launch} {e : Env} {s : State} {m : MethodId} {args : Array Value} {below : List Frame} {meth : Method} {c : Code} {G : GT}
set_option maxHeartbeats 4000000 in
set_option maxRecDepth 100000 in
theorem wX3_part_44 (C0 : Cx p s m args meth c cX3_part RX3 7 (some .long) wsX3_part) {σ : ST} (G0 : Gx G s) (hJ : gJ 80 G) (z : Nat) (t0 : Int64) (res : Int64) (h : fX3_part_44 z t0 = some res)  {H : Heap} {locs : List Loc} {ls : Array Slot} (hW : Wd cellX 80 G s.heap σ H locs) (hl : lv_has ls 7 []) : W p l e rX3_part s m args below meth c H locs 0 0 (MQ below (XQl cellX 80 G res σ) args s 0 0 (gA 80 G)) (F0 m 44 ls [.long t0]) := by
  unfold fX3_part_44 at h
  cases h
  exact x_lret C0 hW dX3_part_44
set_option maxHeartbeats 4000000 in
set_option maxRecDepth 100000 in
theorem wX3_part_27 (C0 : Cx p s m args meth c cX3_part RX3 7 (some .long) wsX3_part) {σ : ST} (G0 : Gx G s) (hJ : gJ 80 G) (z : Nat) (t0 : Int64) (res : Int64) (h : fX3_part_27 z t0 = some res)  {H : Heap} {locs : List Loc} {ls : Array Slot} (hW : Wd cellX 80 G s.heap σ H locs) (hl : lv_has ls 7 []) : W p l e rX3_part s m args below meth c H locs 0 0 (MQ below (XQl cellX 80 G res σ) args s 0 0 (gA 80 G)) (F0 m 27 ls [.long t0]) := by
  unfold fX3_part_27 at h
  cases h
  exact x_lret C0 hW dX3_part_27
set_option maxHeartbeats 4000000 in
set_option maxRecDepth 100000 in
theorem wX3_part (C0 : Cx p s m args meth c cX3_part RX3 7 (some .long) wsX3_part) {σ : ST} (G0 : Gx G s) (hJ : gJ 80 G) (z : Nat) (v0 : Int64) (v2 : Int64) (v4 : Int32) (res : Int64) (h : fX3_part z v0 v2 v4 = some res)  {H : Heap} {locs : List Loc} {ls : Array Slot} (hW : Wd cellX 80 G s.heap σ H locs) (hl : lv_has ls 7 [(0, .long v0), (2, .long v2), (4, .int v4)]) : W p l e rX3_part s m args below meth c H locs 0 0 (MQ below (XQl cellX 80 G res σ) args s 0 0 (gA 80 G)) (F0 m 0 ls []) := by
  unfold fX3_part at h
  refine lv_lload_n C0.1 C0.2.1 dX3_part_0 rfl (lv_at hl 0 rfl) ?_
  refine va_mabs_long C0.1 C0.2.1 (C0.2.2.2.2.2.1.trans hl.1.symm) C0.2.2.2.2.1 (C0.2.2.2.1 _ jlX3_part_7) (C0.2.2.2.1 _ jsX3_part_7) (C0.2.2.2.1 _ jiX3_part) (C0.2.2.2.1 _ jcX3_part_7) (Nat.le_of_ble_eq_true rfl) (Nat.le_of_ble_eq_true rfl) (Nat.le_refl 0) (Nat.le_refl 0) dX3_part_1 ?_
  refine lv_lload_n C0.1 C0.2.1 dX3_part_4 rfl (lv_at hl 1 rfl) ?_
  obtain ⟨u21, hu21, h⟩ := bd_some h
  refine x_kl (r := u21) (x_runS (As := [.long (if 0 < v0 then v0 else -v0), .long v2]) (rest := []) C0 G0 hW (cX3_commonOf_met l hJ z σ (if 0 < v0 then v0 else -v0) v2 _ hu21) (va_cwS 2 C0.2.2.2.1 gX3_part_X3_commonOf rfl rfl rfl hdsX3_commonOf ⟨Nat.le_of_ble_eq_true rfl, Nat.le_of_ble_eq_true rfl⟩) rfl rfl hl (Nat.le_of_ble_eq_true rfl) dX3_part_5 ⟨Nat.le_refl 0, Nat.le_refl 0⟩) hW (fun H locs hW => ?_)
  refine lv_lstore (lv' := [(5, .long u21), (0, .long v0), (2, .long v2), (4, .int v4)]) C0.1 C0.2.1 dX3_part_8 hl (by decide) rfl (fun ls hl => ?_)
  refine lv_lload C0.1 C0.2.1 dX3_part_10 (lv_at hl 0 rfl) ?_
  refine lv_lconst (v := (0 : Int64)) C0.1 C0.2.1 dX3_part_12 (by decide) ?_
  refine x_lc_gt (tgt := 28) C0 dX3_part_13 dX3_part_14 (by decide) (fun c22 => ?_) (fun c22 => ?_)
  · rw [if_pos c22] at h
    refine lv_iload C0.1 C0.2.1 dX3_part_28 (lv_at hl 3 rfl) ?_
    refine lv_if_eq (tgt := 40) C0.1 C0.2.1 dX3_part_30 (by decide) (fun c23 => ?_) (fun c23 => ?_)
    · rw [if_pos c23] at h
      refine lv_lload_n C0.1 C0.2.1 dX3_part_40 rfl (lv_at hl 2 rfl) ?_
      refine lv_lload C0.1 C0.2.1 dX3_part_41 (lv_at hl 0 rfl) ?_
      obtain ⟨g24, h⟩ := gd_some h
      refine lv_ldiv C0.1 C0.2.1 dX3_part_43 (nzL_of g24) ?_
      exact wX3_part_44 C0 G0 hJ z (v2 / u21) _ h hW (lv_sub hl [] rfl)
    · rw [if_neg c23] at h
      refine lv_lload_n C0.1 C0.2.1 dX3_part_33 rfl (lv_at hl 1 rfl) ?_
      refine lv_lload C0.1 C0.2.1 dX3_part_34 (lv_at hl 0 rfl) ?_
      obtain ⟨g25, h⟩ := gd_some h
      refine lv_ldiv C0.1 C0.2.1 dX3_part_36 (nzL_of g25) ?_
      refine lv_goto (tgt := 44) C0.1 C0.2.1 dX3_part_37 (by decide) ?_
      exact wX3_part_44 C0 G0 hJ z (v0 / u21) _ h hW (lv_sub hl [] rfl)
  · rw [if_neg c22] at h
    refine lv_iload C0.1 C0.2.1 dX3_part_17 (lv_at hl 3 rfl) ?_
    refine lv_if_eq (tgt := 26) C0.1 C0.2.1 dX3_part_19 (by decide) (fun c26 => ?_) (fun c26 => ?_)
    · rw [if_pos c26] at h
      refine lv_lconst (v := (1 : Int64)) C0.1 C0.2.1 dX3_part_26 (by decide) ?_
      exact wX3_part_27 C0 G0 hJ z (1 : Int64) _ h hW (lv_sub hl [] rfl)
    · rw [if_neg c26] at h
      refine lv_lconst (v := (0 : Int64)) C0.1 C0.2.1 dX3_part_22 (by decide) ?_
      refine lv_goto (tgt := 27) C0.1 C0.2.1 dX3_part_23 (by decide) ?_
      exact wX3_part_27 C0 G0 hJ z (0 : Int64) _ h hW (lv_sub hl [] rfl)
theorem cX3_part_met (l : Launch) {G : GT} (hJ : gJ 80 G) (z : Nat) (σ : ST) (v0 : Int64) (v2 : Int64) (v4 : Int32) (res : Int64) (h : fX3_part z v0 v2 v4 = some res) : Met l yX3_part wsX3_part rX3_part (XPc cellX 80 G σ [.long v0, .long v2, .int v4]) (XQl cellX 80 G res σ) 0 0 (gA 80 G) :=
  x_met (ret := (some .long)) (maxL := 7) (by decide) rfl (Nat.le_of_ble_eq_true rfl) (fun p e s m args below meth c H locs ls C0 G0 hW hl => wX3_part C0 G0 hJ z v0 v2 v4 res h hW hl)
end
/-! X7_partAt -/
def rX7_partAt : Room := { frames := 0, cells := 0, slots := 0, locals := 0 }
theorem hdvX7_partAt : yX7_partAt.cls = RX7 ∧ yX7_partAt.cls ≠ "java/lang/invoke/MethodHandle" ∧ yX7_partAt.cls ≠ "java/lang/invoke/VarHandle" ∧ (parseMethodDescriptor yX7_partAt.desc).map (fun d => d.parameters.length) = some 1 := by decide +kernel
theorem inX7_partAt_X7 : ∀ w ∈ u_ws RX7 TX7 9, w ∈ wsX7_partAt := by decide +kernel
theorem lkX7_partAt_9 : Cond.fieldLink RX7 9 (TX7 8).1 (TX7 8).2.1 (TX7 8).2.2.1 ∈ wsX7_partAt := by decide +kernel
def fX7_partAt_23 (z : Nat) (σ : ST) (t0 : Int32) : Option Int32 := some t0
def fX7_partAt_22 (z : Nat) (σ : ST) : Option Int32 := fX7_partAt_23 z σ (0 : Int32)
def fX7_partAt (z : Nat) (σ : ST) (v1 : Int32) : Option Int32 := (if v1 < 0 then fX7_partAt_22 z σ else (if (11 : Int32) ≤ v1 then fX7_partAt_22 z σ else gd (inb v1 11) ( fX7_partAt_23 z σ (σ.1 4 (v1).toNatClampNeg))))
section
variable {p : Program} {l : Launch} {e : Env} {s : State} {m : MethodId} {args : Array Value} {below : List Frame} {meth : Method} {c : Code} {G : GT}
set_option maxHeartbeats 4000000 in
set_option maxRecDepth 100000 in
theorem wX7_partAt_23 (C0 : Cx p s m args meth c cX7_partAt RX7 2 (some .int) wsX7_partAt) (G0 : Gx G s) (hJ : gJ 80 G) (z : Nat) (σ : ST) (t0 : Int32) (res : Int32) (h : fX7_partAt_23 z σ t0 = some res)  {H : Heap} {locs : List Loc} {ls : Array Slot} (hW : Wd cellX 80 G s.heap σ H locs) (hl : lv_has ls 2 []) : W p l e rX7_partAt s m args below meth c H locs 0 0 (MQ below (XQi cellX 80 G res σ) args s 0 0 (gA 80 G)) (F0 m 23 ls [.int t0]) := by
  unfold fX7_partAt_23 at h
  cases h
  exact x_iret C0 hW dX7_partAt_23
set_option maxHeartbeats 4000000 in
set_option maxRecDepth 100000 in
theorem wX7_partAt_22 (C0 : Cx p s m args meth c cX7_partAt RX7 2 (some .int) wsX7_partAt) (G0 : Gx G s) (hJ : gJ 80 G) (z : Nat) (σ : ST) (res : Int32) (h : fX7_partAt_22 z σ = some res)  {H : Heap} {locs : List Loc} {ls : Array Slot} (hW : Wd cellX 80 G s.heap σ H locs) (hl : lv_has ls 2 []) : W p l e rX7_partAt s m args below meth c H locs 0 0 (MQ below (XQi cellX 80 G res σ) args s 0 0 (gA 80 G)) (F0 m 22 ls []) := by
  unfold fX7_partAt_22 at h
  refine lv_iconst (v := (0 : Int32)) C0.1 C0.2.1 dX7_partAt_22 (by decide) ?_
  exact wX7_partAt_23 C0 G0 hJ z σ (0 : Int32) _ h hW (lv_sub hl [] rfl)
set_option maxHeartbeats 4000000 in
set_option maxRecDepth 100000 in
theorem wX7_partAt (C0 : Cx p s m args meth c cX7_partAt RX7 2 (some .int) wsX7_partAt) (G0 : Gx G s) (hJ : gJ 80 G) (z : Nat) (σ : ST) (v1 : Int32) (res : Int32) (h : fX7_partAt z σ v1 = some res)  {H : Heap} {locs : List Loc} {ls : Array Slot} (hW : Wd cellX 80 G s.heap σ H locs) (hl : lv_has ls 2 [(0, .ref (aD G 3)), (1, .int v1)]) : W p l e rX7_partAt s m args below meth c H locs 0 0 (MQ below (XQi cellX 80 G res σ) args s 0 0 (gA 80 G)) (F0 m 0 ls []) := by
  unfold fX7_partAt at h
  refine lv_iload_n C0.1 C0.2.1 dX7_partAt_0 rfl (lv_at hl 1 rfl) ?_
  refine lv_if_lt (tgt := 22) C0.1 C0.2.1 dX7_partAt_1 (by decide) (fun c21 => ?_) (fun c21 => ?_)
  · rw [if_pos c21] at h
    exact wX7_partAt_22 C0 G0 hJ z σ _ h hW (lv_sub hl [] rfl)
  · rw [if_neg c21] at h
    refine lv_iload_n C0.1 C0.2.1 dX7_partAt_4 rfl (lv_at hl 1 rfl) ?_
    refine lv_aload_n C0.1 C0.2.1 dX7_partAt_5 rfl (lv_at hl 0 rfl) ?_
    refine x_get (v := .ref (aD G 4)) C0 G0 hW (cX_X7 rfl) (by decide) rfl 8 (by decide) inX7_partAt_X7 lkX7_partAt_9 rfl dX7_partAt_6 ?_
    refine x_alen (v := (11 : Int32)) C0 G0 hW 0 (cX_I11 rfl) (by decide) rfl rfl dX7_partAt_9 ?_
    refine lv_icmp_ge (tgt := 22) C0.1 C0.2.1 dX7_partAt_10 (by decide) (fun c22 => ?_) (fun c22 => ?_)
    · rw [if_pos c22] at h
      exact wX7_partAt_22 C0 G0 hJ z σ _ h hW (lv_sub hl [] rfl)
    · rw [if_neg c22] at h
      refine lv_aload_n C0.1 C0.2.1 dX7_partAt_13 rfl (lv_at hl 0 rfl) ?_
      refine x_get (v := .ref (aD G 4)) C0 G0 hW (cX_X7 rfl) (by decide) rfl 8 (by decide) inX7_partAt_X7 lkX7_partAt_9 rfl dX7_partAt_14 ?_
      refine lv_iload_n C0.1 C0.2.1 dX7_partAt_17 rfl (lv_at hl 1 rfl) ?_
      obtain ⟨g23, h⟩ := gd_some h
      refine x_iald C0 G0 hW (cX_I11 rfl) (by decide) g23 dX7_partAt_18 ?_
      refine lv_goto (tgt := 23) C0.1 C0.2.1 dX7_partAt_19 (by decide) ?_
      exact wX7_partAt_23 C0 G0 hJ z σ (σ.1 4 (v1).toNatClampNeg) _ h hW (lv_sub hl [] rfl)
theorem cX7_partAt_met (l : Launch) {G : GT} (hJ : gJ 80 G) (z : Nat) (σ : ST) (v1 : Int32) (res : Int32) (h : fX7_partAt z σ v1 = some res) : Met l yX7_partAt wsX7_partAt rX7_partAt (XPc cellX 80 G σ [.ref (aD G 3), .int v1]) (XQi cellX 80 G res σ) 0 0 (gA 80 G) :=
  x_met (ret := (some .int)) (maxL := 2) (by decide) rfl (Nat.le_of_ble_eq_true rfl) (fun p e s m args below meth c H locs ls C0 G0 hW hl => wX7_partAt C0 G0 hJ z σ v1 res h hW hl)
end
/-! X4_begin -/
def rX4_begin : Room := { frames := 1, cells := 0, slots := 0, locals := 21 }
theorem hdvX4_begin : yX4_begin.cls = RX4 ∧ yX4_begin.cls ≠ "java/lang/invoke/MethodHandle" ∧ yX4_begin.cls ≠ "java/lang/invoke/VarHandle" ∧ (parseMethodDescriptor yX4_begin.desc).map (fun d => d.parameters.length) = some 1 := by decide +kernel
theorem inX4_begin_X4 : ∀ w ∈ u_ws RX4 TX4 6, w ∈ wsX4_begin := by decide +kernel
theorem lkX4_begin_9 : Cond.fieldLink RX4 9 (TX4 0).1 (TX4 0).2.1 (TX4 0).2.2.1 ∈ wsX4_begin := by decide +kernel
theorem inX4_begin_X7 : ∀ w ∈ u_ws RX7 TX7 9, w ∈ wsX4_begin := by decide +kernel
theorem nfX4_begin_28 : (RX4, 28, (TX7 4).1, (TX7 4).2.1, (TX7 4).2.2.1) ∈ nwF := by decide +kernel
theorem lkX4_begin_32 : Cond.fieldLink RX4 32 (TX4 3).1 (TX4 3).2.1 (TX4 3).2.2.1 ∈ wsX4_begin := by decide +kernel
theorem lkX4_begin_35 : Cond.fieldLink RX4 35 (TX4 4).1 (TX4 4).2.1 (TX4 4).2.2.1 ∈ wsX4_begin := by decide +kernel
theorem lkX4_begin_38 : Cond.fieldLink RX4 38 (TX4 5).1 (TX4 5).2.1 (TX4 5).2.2.1 ∈ wsX4_begin := by decide +kernel
def fX4_begin_2 (z : Nat) (k0 : Nat) : Nat → ST → Int32 → Option ST
  | 0 => fun _ _ => none
  | n + 1 => fun σ v2 => (if (11 : Int32) ≤ v2 then lt (pI σ k0 3 (σ.1 3 4)) (fun s22 => lt (pI s22 k0 4 (0 : Int32)) (fun s23 => lt (pI s23 k0 5 (0 : Int32)) (fun s24 => some s24))) else bd (fX7_partAt z σ v2) (fun u25 => gd (inb v2 11) ( lt (pL σ (k0 + 1) (v2).toNatClampNeg ((u25).toInt64)) (fun s27 => (fX4_begin_2 z k0 n) s27 (v2 + 1)))))
def fX4_begin (z : Nat) (σ : ST) (k0 : Nat) : Option ST := gd (kX k0 == 3) (fX4_begin_2 z k0 z σ (0 : Int32))
section
variable {p : Program} {l : Launch} {e : Env} {s : State} {m : MethodId} {args : Array Value} {below : List Frame} {meth : Method} {c : Code} {G : GT}
set_option maxHeartbeats 4000000 in
set_option maxRecDepth 100000 in
theorem wX4_begin_2 (C0 : Cx p s m args meth c cX4_begin RX4 3 none wsX4_begin) (G0 : Gx G s) (hJ : gJ 80 G) (z : Nat) (k0 : Nat) (n : Nat) (σ : ST) (v2 : Int32) (res : ST) (h : fX4_begin_2 z k0 n σ v2 = some res) (hk_k0 : kX k0 = 3) {H : Heap} {locs : List Loc} {ls : Array Slot} (hW : Wd cellX 80 G s.heap σ H locs) (hl : lv_has ls 3 [(0, .ref (aD G k0)), (1, .ref (aD G 3)), (2, .int v2)]) : W p l e rX4_begin s m args below meth c H locs 0 0 (MQ below (XQv cellX 80 G res) args s 0 0 (gA 80 G)) (F0 m 2 ls []) := by
  induction n generalizing σ v2 H locs ls with
  | zero => cases h
  | succ n ih =>
    have hr2 : ∀ (σ : ST) (v2 : Int32), fX4_begin_2 z k0 n σ v2 = some res → ∀ (H : Heap) (locs : List Loc) (ls : Array Slot), Wd cellX 80 G s.heap σ H locs → lv_has ls 3 [(0, .ref (aD G k0)), (1, .ref (aD G 3)), (2, .int v2)] → W p l e rX4_begin s m args below meth c H locs 0 0 (MQ below (XQv cellX 80 G res) args s 0 0 (gA 80 G)) (F0 m 2 ls []) := fun σ v2 h H locs ls hW hl => ih σ v2 h hW hl
    clear ih
    unfold fX4_begin_2 at h
    refine lv_iload_n C0.1 C0.2.1 dX4_begin_2 rfl (lv_at hl 2 rfl) ?_
    refine lv_aload_n C0.1 C0.2.1 dX4_begin_3 rfl (lv_at hl 0 rfl) ?_
    refine x_get (v := .ref (aD G (k0 + 1))) C0 G0 hW (cX_X4 hk_k0) (kX_lt hk_k0 (by decide)) rfl 0 (by decide) inX4_begin_X4 lkX4_begin_9 rfl dX4_begin_4 ?_
    refine x_alen (v := (11 : Int32)) C0 G0 hW 1 (cX_J11 (kSX4_1 hk_k0)) (kX_lt (kSX4_1 hk_k0) (by decide)) rfl rfl dX4_begin_7 ?_
    refine lv_icmp_ge (tgt := 29) C0.1 C0.2.1 dX4_begin_8 (by decide) (fun c21 => ?_) (fun c21 => ?_)
    · rw [if_pos c21] at h
      refine lv_aload_n C0.1 C0.2.1 dX4_begin_29 rfl (lv_at hl 0 rfl) ?_
      refine lv_aload_n C0.1 C0.2.1 dX4_begin_30 rfl (lv_at hl 1 rfl) ?_
      refine x_getN (v := .int (σ.1 3 4)) C0 G0 hW (cX_X7 rfl) (by decide) rfl 4 (by decide) inX4_begin_X7 nfX4_begin_28 rfl dX4_begin_31 ?_
      refine x_putI (v := (σ.1 3 4)) C0 G0 hJ hW (cX_X4 hk_k0) (kX_lt hk_k0 (by decide)) rfl 3 (by decide) inX4_begin_X4 lkX4_begin_32 tyX4 tyX4_ok nmX4 rfl rfl rfl (Nat.le_of_ble_eq_true rfl) (hu_X4_3 hk_k0) dX4_begin_34 (fun H locs hW => ?_)
      obtain ⟨s22, es22, h⟩ := lt_some h
      rw [es22] at hW
      refine lv_aload_n C0.1 C0.2.1 dX4_begin_37 rfl (lv_at hl 0 rfl) ?_
      refine lv_iconst (v := (0 : Int32)) C0.1 C0.2.1 dX4_begin_38 (by decide) ?_
      refine x_putI (v := (0 : Int32)) C0 G0 hJ hW (cX_X4 hk_k0) (kX_lt hk_k0 (by decide)) rfl 4 (by decide) inX4_begin_X4 lkX4_begin_35 tyX4 tyX4_ok nmX4 rfl rfl rfl (Nat.le_of_ble_eq_true rfl) (hu_X4_4 hk_k0) dX4_begin_39 (fun H locs hW => ?_)
      obtain ⟨s23, es23, h⟩ := lt_some h
      rw [es23] at hW
      refine lv_aload_n C0.1 C0.2.1 dX4_begin_42 rfl (lv_at hl 0 rfl) ?_
      refine lv_iconst (v := (0 : Int32)) C0.1 C0.2.1 dX4_begin_43 (by decide) ?_
      refine x_putI (v := (0 : Int32)) C0 G0 hJ hW (cX_X4 hk_k0) (kX_lt hk_k0 (by decide)) rfl 5 (by decide) inX4_begin_X4 lkX4_begin_38 tyX4 tyX4_ok nmX4 rfl rfl rfl (Nat.le_of_ble_eq_true rfl) (hu_X4_5 hk_k0) dX4_begin_44 (fun H locs hW => ?_)
      obtain ⟨s24, es24, h⟩ := lt_some h
      rw [es24] at hW
      cases h
      exact x_vret C0 hW dX4_begin_47
    · rw [if_neg c21] at h
      refine lv_aload_n C0.1 C0.2.1 dX4_begin_11 rfl (lv_at hl 0 rfl) ?_
      refine x_get (v := .ref (aD G (k0 + 1))) C0 G0 hW (cX_X4 hk_k0) (kX_lt hk_k0 (by decide)) rfl 0 (by decide) inX4_begin_X4 lkX4_begin_9 rfl dX4_begin_12 ?_
      refine lv_iload_n C0.1 C0.2.1 dX4_begin_15 rfl (lv_at hl 2 rfl) ?_
      refine lv_aload_n C0.1 C0.2.1 dX4_begin_16 rfl (lv_at hl 1 rfl) ?_
      refine lv_iload_n C0.1 C0.2.1 dX4_begin_17 rfl (lv_at hl 2 rfl) ?_
      obtain ⟨u25, hu25, h⟩ := bd_some h
      refine x_ki (r := u25) (x_runV (As := [.int v2]) (rest := [.int v2, .ref (aD G (k0 + 1))]) C0 G0 hW (cX7_partAt_met l hJ z σ v2 _ hu25) (cwV 1 C0.2.2.2.1 gX4_begin_X7_partAt rfl rfl rfl hdvX7_partAt ⟨Nat.le_of_ble_eq_true rfl, Nat.le_of_ble_eq_true rfl⟩) (cX_X7 rfl) (by decide) rfl rfl rfl hl (Nat.le_of_ble_eq_true rfl) dX4_begin_18 ⟨Nat.le_refl 0, Nat.le_refl 0⟩) hW (fun H locs hW => ?_)
      refine lv_i2l (v := ((u25).toInt64)) C0.1 C0.2.1 dX4_begin_21 rfl ?_
      obtain ⟨g26, h⟩ := gd_some h
      refine x_last C0 G0 hJ hW (fun f g => (cX_J11 (kSX4_1 hk_k0))) (kX_lt (kSX4_1 hk_k0) (by decide)) g26 dX4_begin_22 (fun H locs hW => ?_)
      obtain ⟨s27, es27, h⟩ := lt_some h
      rw [es27] at hW
      refine lv_iinc (v := (v2 + 1)) (lv' := [(2, .int (v2 + 1)), (0, .ref (aD G k0)), (1, .ref (aD G 3))]) C0.1 C0.2.1 dX4_begin_23 hl (k := 2) rfl rfl (by decide) rfl (fun ls hl => ?_)
      refine lv_goto (tgt := 2) C0.1 C0.2.1 dX4_begin_26 (by decide) ?_
      exact hr2 s27 (v2 + 1) h _ _ _ hW (lv_sub hl [1, 2, 0] rfl)
set_option maxHeartbeats 4000000 in
set_option maxRecDepth 100000 in
theorem wX4_begin (C0 : Cx p s m args meth c cX4_begin RX4 3 none wsX4_begin) (G0 : Gx G s) (hJ : gJ 80 G) (z : Nat) (σ : ST) (k0 : Nat) (res : ST) (h : fX4_begin z σ k0 = some res)  {H : Heap} {locs : List Loc} {ls : Array Slot} (hW : Wd cellX 80 G s.heap σ H locs) (hl : lv_has ls 3 [(0, .ref (aD G k0)), (1, .ref (aD G 3))]) : W p l e rX4_begin s m args below meth c H locs 0 0 (MQ below (XQv cellX 80 G res) args s 0 0 (gA 80 G)) (F0 m 0 ls []) := by
  unfold fX4_begin at h
  obtain ⟨hk_k0, h⟩ := gd_some h
  have hk_k0 : kX k0 = 3 := eq_of_beq hk_k0
  refine lv_iconst (v := (0 : Int32)) C0.1 C0.2.1 dX4_begin_0 (by decide) ?_
  refine lv_istore_n (lv' := [(2, .int (0 : Int32)), (0, .ref (aD G k0)), (1, .ref (aD G 3))]) C0.1 C0.2.1 dX4_begin_1 rfl hl (by decide) rfl (fun ls hl => ?_)
  exact wX4_begin_2 C0 G0 hJ z k0 z σ (0 : Int32) _ h hk_k0 hW (lv_sub hl [1, 2, 0] rfl)
theorem cX4_begin_met (l : Launch) {G : GT} (hJ : gJ 80 G) (z : Nat) (σ : ST) (k0 : Nat) (res : ST) (h : fX4_begin z σ k0 = some res) : Met l yX4_begin wsX4_begin rX4_begin (XPc cellX 80 G σ [.ref (aD G k0), .ref (aD G 3)]) (XQv cellX 80 G res) 0 0 (gA 80 G) :=
  x_met (ret := none) (maxL := 3) (by decide) rfl (Nat.le_of_ble_eq_true rfl) (fun p e s m args below meth c H locs ls C0 G0 hW hl => wX4_begin C0 G0 hJ z σ k0 res h hW hl)
end

/-! X8_again -/
def rX8_again : Room := { frames := 3, cells := 0, slots := 0, locals := 66 }
theorem hdvX8_again : yX8_again.cls = RX8 ∧ yX8_again.cls ≠ "java/lang/invoke/MethodHandle" ∧ yX8_again.cls ≠ "java/lang/invoke/VarHandle" ∧ (parseMethodDescriptor yX8_again.desc).map (fun d => d.parameters.length) = some 1 := by decide +kernel
theorem inX8_again_X8 : ∀ w ∈ u_ws RX8 TX8 10, w ∈ wsX8_again := by decide +kernel
theorem lkX8_again_90 : Cond.fieldLink RX8 90 (TX8 8).1 (TX8 8).2.1 (TX8 8).2.2.1 ∈ wsX8_again := by decide +kernel
theorem lkX8_again_42 : Cond.fieldLink RX8 42 (TX8 5).1 (TX8 5).2.1 (TX8 5).2.2.1 ∈ wsX8_again := by decide +kernel
theorem lkX8_again_26 : Cond.fieldLink RX8 26 (TX8 2).1 (TX8 2).2.1 (TX8 2).2.2.1 ∈ wsX8_again := by decide +kernel
theorem lkX8_again_86 : Cond.fieldLink RX8 86 (TX8 9).1 (TX8 9).2.1 (TX8 9).2.2.1 ∈ wsX8_again := by decide +kernel
theorem inX8_again_X4 : ∀ w ∈ u_ws RX4 TX4 6, w ∈ wsX8_again := by decide +kernel
theorem nfX8_again_96 : (RX8, 96, (TX4 4).1, (TX4 4).2.1, (TX4 4).2.2.1) ∈ nwF := by decide +kernel
def fX8_again (z : Nat) (σ : ST) (v1 : Int32) : Option (Int32 × ST) := bd (fX8_isWithin z v1 (0 : Int32) (1 : Int32)) (fun u21 => (if u21 = 0 then some ((-1 : Int32), σ) else (if (((σ.1 0 8) >>> (v1 &&& 31)) &&& (1 : Int32)) = 0 then some ((-3 : Int32), σ) else bd (fX5_give z σ 47 v1 5) (fun u24 => lt (pI u24 0 9 (0 : Int32)) (fun s25 => some ((s25.1 5 4), s25))))))
section
variable {p : Program} {l : Launch} {e : Env} {s : State} {m : MethodId} {args : Array Value} {below : List Frame} {meth : Method} {c : Code} {G : GT}
set_option maxHeartbeats 4000000 in
set_option maxRecDepth 100000 in
theorem wX8_again (C0 : Cx p s m args meth c cX8_again RX8 2 (some .int) wsX8_again) (G0 : Gx G s) (hJ : gJ 80 G) (z : Nat) (σ : ST) (v1 : Int32) (res : (Int32 × ST)) (h : fX8_again z σ v1 = some res)  {H : Heap} {locs : List Loc} {ls : Array Slot} (hW : Wd cellX 80 G s.heap σ H locs) (hl : lv_has ls 2 [(0, .ref (aD G 0)), (1, .int v1)]) : W p l e rX8_again s m args below meth c H locs 0 0 (MQ below (XQi cellX 80 G res.1 res.2) args s 0 0 (gA 80 G)) (F0 m 0 ls []) := by
  unfold fX8_again at h
  refine lv_iload_n C0.1 C0.2.1 dX8_again_0 rfl (lv_at hl 1 rfl) ?_
  refine lv_iconst (v := (0 : Int32)) C0.1 C0.2.1 dX8_again_1 (by decide) ?_
  refine lv_iconst (v := (1 : Int32)) C0.1 C0.2.1 dX8_again_2 (by decide) ?_
  obtain ⟨u21, hu21, h⟩ := bd_some h
  refine x_ki (r := u21) (x_runS (As := [.int v1, .int (0 : Int32), .int (1 : Int32)]) (rest := []) C0 G0 hW (cX8_isWithin_met l hJ z σ v1 (0 : Int32) (1 : Int32) _ hu21) (va_cwS 3 C0.2.2.2.1 gX8_again_X8_isWithin rfl rfl rfl hdsX8_isWithin ⟨Nat.le_of_ble_eq_true rfl, Nat.le_of_ble_eq_true rfl⟩) rfl rfl hl (Nat.le_of_ble_eq_true rfl) dX8_again_3 ⟨Nat.le_refl 0, Nat.le_refl 0⟩) hW (fun H locs hW => ?_)
  refine lv_if_ne (tgt := 11) C0.1 C0.2.1 dX8_again_6 (by decide) (fun c22 => ?_) (fun c22 => ?_)
  · rw [if_neg c22] at h
    refine lv_aload_n C0.1 C0.2.1 dX8_again_11 rfl (lv_at hl 0 rfl) ?_
    refine x_get (v := .int (σ.1 0 8)) C0 G0 hW (cX_X8 rfl) (by decide) rfl 8 (by decide) inX8_again_X8 lkX8_again_90 rfl dX8_again_12 ?_
    refine lv_iload_n C0.1 C0.2.1 dX8_again_15 rfl (lv_at hl 1 rfl) ?_
    refine lv_ishr C0.1 C0.2.1 dX8_again_16 ?_
    refine lv_iconst (v := (1 : Int32)) C0.1 C0.2.1 dX8_again_17 (by decide) ?_
    refine lv_iand C0.1 C0.2.1 dX8_again_18 ?_
    refine lv_if_ne (tgt := 25) C0.1 C0.2.1 dX8_again_19 (by decide) (fun c23 => ?_) (fun c23 => ?_)
    · rw [if_neg c23] at h
      refine lv_aload_n C0.1 C0.2.1 dX8_again_25 rfl (lv_at hl 0 rfl) ?_
      refine x_get (v := .ref (aD G 47)) C0 G0 hW (cX_X8 rfl) (by decide) rfl 5 (by decide) inX8_again_X8 lkX8_again_42 rfl dX8_again_26 ?_
      refine lv_iload_n C0.1 C0.2.1 dX8_again_29 rfl (lv_at hl 1 rfl) ?_
      refine lv_aload_n C0.1 C0.2.1 dX8_again_30 rfl (lv_at hl 0 rfl) ?_
      refine x_get (v := .ref (aD G 5)) C0 G0 hW (cX_X8 rfl) (by decide) rfl 2 (by decide) inX8_again_X8 lkX8_again_26 rfl dX8_again_31 ?_
      obtain ⟨u24, hu24, h⟩ := bd_some h
      refine x_kv (x_runV (As := [.int v1, .ref (aD G 5)]) (rest := []) C0 G0 hW (cX5_give_met l hJ z σ 47 v1 5 _ hu24) (cwV 2 C0.2.2.2.1 gX8_again_X5_give rfl rfl rfl hdvX5_give ⟨Nat.le_of_ble_eq_true rfl, Nat.le_of_ble_eq_true rfl⟩) (cX_X5 rfl) (by decide) rfl rfl rfl hl (Nat.le_of_ble_eq_true rfl) dX8_again_34 ⟨Nat.le_refl 0, Nat.le_refl 0⟩) hW (fun H locs hW => ?_)
      refine lv_aload_n C0.1 C0.2.1 dX8_again_37 rfl (lv_at hl 0 rfl) ?_
      refine lv_iconst (v := (0 : Int32)) C0.1 C0.2.1 dX8_again_38 (by decide) ?_
      refine x_putI (v := (0 : Int32)) C0 G0 hJ hW (cX_X8 rfl) (by decide) rfl 9 (by decide) inX8_again_X8 lkX8_again_86 tyX8 tyX8_ok nmX8 rfl rfl rfl (Nat.le_of_ble_eq_true rfl) (hu_X8_9 rfl) dX8_again_39 (fun H locs hW => ?_)
      obtain ⟨s25, es25, h⟩ := lt_some h
      rw [es25] at hW
      refine lv_aload_n C0.1 C0.2.1 dX8_again_42 rfl (lv_at hl 0 rfl) ?_
      refine x_get (v := .ref (aD G 5)) C0 G0 hW (cX_X8 rfl) (by decide) rfl 2 (by decide) inX8_again_X8 lkX8_again_26 rfl dX8_again_43 ?_
      refine x_getN (v := .int (s25.1 5 4)) C0 G0 hW (cX_X4 rfl) (by decide) rfl 4 (by decide) inX8_again_X4 nfX8_again_96 rfl dX8_again_46 ?_
      cases h
      exact x_iret C0 hW dX8_again_49
    · rw [if_pos c23] at h
      refine lv_bipush (v := (-3 : Int32)) C0.1 C0.2.1 dX8_again_22 (by decide) ?_
      cases h
      exact x_iret C0 hW dX8_again_24
  · rw [if_pos c22] at h
    refine lv_iconst (v := (-1 : Int32)) C0.1 C0.2.1 dX8_again_9 (by decide) ?_
    cases h
    exact x_iret C0 hW dX8_again_10
theorem cX8_again_met (l : Launch) {G : GT} (hJ : gJ 80 G) (z : Nat) (σ : ST) (v1 : Int32) (res : (Int32 × ST)) (h : fX8_again z σ v1 = some res) : Met l yX8_again wsX8_again rX8_again (XPc cellX 80 G σ [.ref (aD G 0), .int v1]) (XQi cellX 80 G res.1 res.2) 0 0 (gA 80 G) :=
  x_met (ret := (some .int)) (maxL := 2) (by decide) rfl (Nat.le_of_ble_eq_true rfl) (fun p e s m args below meth c H locs ls C0 G0 hW hl => wX8_again C0 G0 hJ z σ v1 res h hW hl)
end
/-! X8_isLeft -/
def rX8_isLeft : Room := { frames := 1, cells := 0, slots := 0, locals := 23 }
theorem hdvX8_isLeft : yX8_isLeft.cls = RX8 ∧ yX8_isLeft.cls ≠ "java/lang/invoke/MethodHandle" ∧ yX8_isLeft.cls ≠ "java/lang/invoke/VarHandle" ∧ (parseMethodDescriptor yX8_isLeft.desc).map (fun d => d.parameters.length) = some 1 := by decide +kernel
theorem inX8_isLeft_X8 : ∀ w ∈ u_ws RX8 TX8 10, w ∈ wsX8_isLeft := by decide +kernel
theorem lkX8_isLeft_26 : Cond.fieldLink RX8 26 (TX8 2).1 (TX8 2).2.1 (TX8 2).2.2.1 ∈ wsX8_isLeft := by decide +kernel
theorem inX8_isLeft_X4 : ∀ w ∈ u_ws RX4 TX4 6, w ∈ wsX8_isLeft := by decide +kernel
theorem nfX8_isLeft_96 : (RX8, 96, (TX4 4).1, (TX4 4).2.1, (TX4 4).2.2.1) ∈ nwF := by decide +kernel
theorem lkX8_isLeft_19 : Cond.fieldLink RX8 19 (TX8 1).1 (TX8 1).2.1 (TX8 1).2.2.1 ∈ wsX8_isLeft := by decide +kernel
theorem inX8_isLeft_X7 : ∀ w ∈ u_ws RX7 TX7 9, w ∈ wsX8_isLeft := by decide +kernel
theorem nfX8_isLeft_99 : (RX8, 99, (TX7 5).1, (TX7 5).2.1, (TX7 5).2.2.1) ∈ nwF := by decide +kernel
def fX8_isLeft_36 (z : Nat) (σ : ST) (t0 : Int32) : Option Int32 := gd (zok t0) ( some t0)
def fX8_isLeft_35 (z : Nat) (σ : ST) : Option Int32 := fX8_isLeft_36 z σ (0 : Int32)
def fX8_isLeft (z : Nat) (σ : ST) (v1 : Int32) : Option Int32 := bd (fX4_together z σ 5) (fun u21 => (if u21 ≤ (0 : Int64) then fX8_isLeft_35 z σ else (if (σ.1 3 5) < ((σ.1 5 4) + v1) then fX8_isLeft_35 z σ else fX8_isLeft_36 z σ (1 : Int32))))
section
variable {p : Program} {l : Launch} {e : Env} {s : State} {m : MethodId} {args : Array Value} {below : List Frame} {meth : Method} {c : Code} {G : GT}
set_option maxHeartbeats 4000000 in
set_option maxRecDepth 100000 in
theorem wX8_isLeft_36 (C0 : Cx p s m args meth c cX8_isLeft RX8 2 (some .boolean) wsX8_isLeft) (G0 : Gx G s) (hJ : gJ 80 G) (z : Nat) (σ : ST) (t0 : Int32) (res : Int32) (h : fX8_isLeft_36 z σ t0 = some res)  {H : Heap} {locs : List Loc} {ls : Array Slot} (hW : Wd cellX 80 G s.heap σ H locs) (hl : lv_has ls 2 []) : W p l e rX8_isLeft s m args below meth c H locs 0 0 (MQ below (XQi cellX 80 G res σ) args s 0 0 (gA 80 G)) (F0 m 36 ls [.int t0]) := by
  unfold fX8_isLeft_36 at h
  obtain ⟨g24, h⟩ := gd_some h
  cases h
  exact x_zret C0 hW g24 dX8_isLeft_36
set_option maxHeartbeats 4000000 in
set_option maxRecDepth 100000 in
theorem wX8_isLeft_35 (C0 : Cx p s m args meth c cX8_isLeft RX8 2 (some .boolean) wsX8_isLeft) (G0 : Gx G s) (hJ : gJ 80 G) (z : Nat) (σ : ST) (res : Int32) (h : fX8_isLeft_35 z σ = some res)  {H : Heap} {locs : List Loc} {ls : Array Slot} (hW : Wd cellX 80 G s.heap σ H locs) (hl : lv_has ls 2 []) : W p l e rX8_isLeft s m args below meth c H locs 0 0 (MQ below (XQi cellX 80 G res σ) args s 0 0 (gA 80 G)) (F0 m 35 ls []) := by
  unfold fX8_isLeft_35 at h
  refine lv_iconst (v := (0 : Int32)) C0.1 C0.2.1 dX8_isLeft_35 (by decide) ?_
  exact wX8_isLeft_36 C0 G0 hJ z σ (0 : Int32) _ h hW (lv_sub hl [] rfl)
set_option maxHeartbeats 4000000 in
set_option maxRecDepth 100000 in
theorem wX8_isLeft (C0 : Cx p s m args meth c cX8_isLeft RX8 2 (some .boolean) wsX8_isLeft) (G0 : Gx G s) (hJ : gJ 80 G) (z : Nat) (σ : ST) (v1 : Int32) (res : Int32) (h : fX8_isLeft z σ v1 = some res)  {H : Heap} {locs : List Loc} {ls : Array Slot} (hW : Wd cellX 80 G s.heap σ H locs) (hl : lv_has ls 2 [(0, .ref (aD G 0)), (1, .int v1)]) : W p l e rX8_isLeft s m args below meth c H locs 0 0 (MQ below (XQi cellX 80 G res σ) args s 0 0 (gA 80 G)) (F0 m 0 ls []) := by
  unfold fX8_isLeft at h
  refine lv_aload_n C0.1 C0.2.1 dX8_isLeft_0 rfl (lv_at hl 0 rfl) ?_
  refine x_get (v := .ref (aD G 5)) C0 G0 hW (cX_X8 rfl) (by decide) rfl 2 (by decide) inX8_isLeft_X8 lkX8_isLeft_26 rfl dX8_isLeft_1 ?_
  obtain ⟨u21, hu21, h⟩ := bd_some h
  refine x_kl (r := u21) (x_runV (As := []) (rest := []) C0 G0 hW (cX4_together_met l hJ z σ 5 _ hu21) (cwV 0 C0.2.2.2.1 gX8_isLeft_X4_together rfl rfl rfl hdvX4_together ⟨Nat.le_of_ble_eq_true rfl, Nat.le_of_ble_eq_true rfl⟩) (cX_X4 rfl) (by decide) rfl rfl rfl hl (Nat.le_of_ble_eq_true rfl) dX8_isLeft_4 ⟨Nat.le_refl 0, Nat.le_refl 0⟩) hW (fun H locs hW => ?_)
  refine lv_lconst (v := (0 : Int64)) C0.1 C0.2.1 dX8_isLeft_7 (by decide) ?_
  refine x_lc_le (tgt := 35) C0 dX8_isLeft_8 dX8_isLeft_9 (by decide) (fun c22 => ?_) (fun c22 => ?_)
  · rw [if_pos c22] at h
    exact wX8_isLeft_35 C0 G0 hJ z σ _ h hW (lv_sub hl [] rfl)
  · rw [if_neg c22] at h
    refine lv_aload_n C0.1 C0.2.1 dX8_isLeft_12 rfl (lv_at hl 0 rfl) ?_
    refine x_get (v := .ref (aD G 5)) C0 G0 hW (cX_X8 rfl) (by decide) rfl 2 (by decide) inX8_isLeft_X8 lkX8_isLeft_26 rfl dX8_isLeft_13 ?_
    refine x_getN (v := .int (σ.1 5 4)) C0 G0 hW (cX_X4 rfl) (by decide) rfl 4 (by decide) inX8_isLeft_X4 nfX8_isLeft_96 rfl dX8_isLeft_16 ?_
    refine lv_iload_n C0.1 C0.2.1 dX8_isLeft_19 rfl (lv_at hl 1 rfl) ?_
    refine lv_iadd C0.1 C0.2.1 dX8_isLeft_20 ?_
    refine lv_aload_n C0.1 C0.2.1 dX8_isLeft_21 rfl (lv_at hl 0 rfl) ?_
    refine x_get (v := .ref (aD G 3)) C0 G0 hW (cX_X8 rfl) (by decide) rfl 1 (by decide) inX8_isLeft_X8 lkX8_isLeft_19 rfl dX8_isLeft_22 ?_
    refine x_getN (v := .int (σ.1 3 5)) C0 G0 hW (cX_X7 rfl) (by decide) rfl 5 (by decide) inX8_isLeft_X7 nfX8_isLeft_99 rfl dX8_isLeft_25 ?_
    refine lv_icmp_gt (tgt := 35) C0.1 C0.2.1 dX8_isLeft_28 (by decide) (fun c23 => ?_) (fun c23 => ?_)
    · rw [if_pos c23] at h
      exact wX8_isLeft_35 C0 G0 hJ z σ _ h hW (lv_sub hl [] rfl)
    · rw [if_neg c23] at h
      refine lv_iconst (v := (1 : Int32)) C0.1 C0.2.1 dX8_isLeft_31 (by decide) ?_
      refine lv_goto (tgt := 36) C0.1 C0.2.1 dX8_isLeft_32 (by decide) ?_
      exact wX8_isLeft_36 C0 G0 hJ z σ (1 : Int32) _ h hW (lv_sub hl [] rfl)
theorem cX8_isLeft_met (l : Launch) {G : GT} (hJ : gJ 80 G) (z : Nat) (σ : ST) (v1 : Int32) (res : Int32) (h : fX8_isLeft z σ v1 = some res) : Met l yX8_isLeft wsX8_isLeft rX8_isLeft (XPc cellX 80 G σ [.ref (aD G 0), .int v1]) (XQi cellX 80 G res σ) 0 0 (gA 80 G) :=
  x_met (ret := (some .boolean)) (maxL := 2) (by decide) rfl (Nat.le_of_ble_eq_true rfl) (fun p e s m args below meth c H locs ls C0 G0 hW hl => wX8_isLeft C0 G0 hJ z σ v1 res h hW hl)
end
/-! X8_power -/
def rX8_power : Room := { frames := 0, cells := 0, slots := 0, locals := 0 }
theorem hdsX8_power : yX8_power.cls ≠ "java/lang/invoke/MethodHandle" ∧ yX8_power.cls ≠ "java/lang/invoke/VarHandle" ∧ (parseMethodDescriptor yX8_power.desc).map (fun d => d.parameters.length) = some 2 := by decide +kernel
def fX8_power_28 (z : Nat) (v3 : Int64) : Option Int64 := some v3
def fX8_power_5 (z : Nat) (v0 : Int64) (v2 : Int32) : Nat → Int64 → Int32 → Option Int64
  | 0 => fun _ _ => none
  | n + 1 => fun v3 v5 => (if v2 ≤ v5 then fX8_power_28 z v3 else (if (8 : Int32) ≤ v5 then fX8_power_28 z v3 else (fX8_power_5 z v0 v2 n) (v3 * v0) (v5 + 1)))
def fX8_power (z : Nat) (v0 : Int64) (v2 : Int32) : Option Int64 := fX8_power_5 z v0 v2 z (1 : Int64) (0 : Int32)
section
variable {p : Program} {l : Launch} {e : Env} {s : State} {m : MethodId} {args : Array Value} {below : List Frame} {meth : Method} {c : Code} {G : GT}
set_option maxHeartbeats 4000000 in
set_option maxRecDepth 100000 in
theorem wX8_power_28 (C0 : Cx p s m args meth c cX8_power RX8 6 (some .long) wsX8_power) {σ : ST} (G0 : Gx G s) (hJ : gJ 80 G) (z : Nat) (v3 : Int64) (res : Int64) (h : fX8_power_28 z v3 = some res)  {H : Heap} {locs : List Loc} {ls : Array Slot} (hW : Wd cellX 80 G s.heap σ H locs) (hl : lv_has ls 6 [(3, .long v3)]) : W p l e rX8_power s m args below meth c H locs 0 0 (MQ below (XQl cellX 80 G res σ) args s 0 0 (gA 80 G)) (F0 m 28 ls []) := by
  unfold fX8_power_28 at h
  refine lv_lload_n C0.1 C0.2.1 dX8_power_28 rfl (lv_at hl 0 rfl) ?_
  cases h
  exact x_lret C0 hW dX8_power_29
set_option maxHeartbeats 4000000 in
set_option maxRecDepth 100000 in
theorem wX8_power_5 (C0 : Cx p s m args meth c cX8_power RX8 6 (some .long) wsX8_power) {σ : ST} (G0 : Gx G s) (hJ : gJ 80 G) (z : Nat) (v0 : Int64) (v2 : Int32) (n : Nat) (v3 : Int64) (v5 : Int32) (res : Int64) (h : fX8_power_5 z v0 v2 n v3 v5 = some res)  {H : Heap} {locs : List Loc} {ls : Array Slot} (hW : Wd cellX 80 G s.heap σ H locs) (hl : lv_has ls 6 [(0, .long v0), (2, .int v2), (3, .long v3), (5, .int v5)]) : W p l e rX8_power s m args below meth c H locs 0 0 (MQ below (XQl cellX 80 G res σ) args s 0 0 (gA 80 G)) (F0 m 5 ls []) := by
  induction n generalizing v3 v5 H locs ls with
  | zero => cases h
  | succ n ih =>
    have hr5 : ∀ (v3 : Int64) (v5 : Int32), fX8_power_5 z v0 v2 n v3 v5 = some res → ∀ (H : Heap) (locs : List Loc) (ls : Array Slot), Wd cellX 80 G s.heap σ H locs → lv_has ls 6 [(0, .long v0), (2, .int v2), (3, .long v3), (5, .int v5)] → W p l e rX8_power s m args below meth c H locs 0 0 (MQ below (XQl cellX 80 G res σ) args s 0 0 (gA 80 G)) (F0 m 5 ls []) := fun v3 v5 h H locs ls hW hl => ih v3 v5 h hW hl
    clear ih
    unfold fX8_power_5 at h
    refine lv_iload C0.1 C0.2.1 dX8_power_5 (lv_at hl 3 rfl) ?_
    refine lv_iload_n C0.1 C0.2.1 dX8_power_7 rfl (lv_at hl 1 rfl) ?_
    refine lv_icmp_ge (tgt := 28) C0.1 C0.2.1 dX8_power_8 (by decide) (fun c21 => ?_) (fun c21 => ?_)
    · rw [if_pos c21] at h
      exact wX8_power_28 C0 G0 hJ z v3 _ h hW (lv_sub hl [2] rfl)
    · rw [if_neg c21] at h
      refine lv_iload C0.1 C0.2.1 dX8_power_11 (lv_at hl 3 rfl) ?_
      refine lv_bipush (v := (8 : Int32)) C0.1 C0.2.1 dX8_power_13 (by decide) ?_
      refine lv_icmp_ge (tgt := 28) C0.1 C0.2.1 dX8_power_15 (by decide) (fun c22 => ?_) (fun c22 => ?_)
      · rw [if_pos c22] at h
        exact wX8_power_28 C0 G0 hJ z v3 _ h hW (lv_sub hl [2] rfl)
      · rw [if_neg c22] at h
        refine lv_lload_n C0.1 C0.2.1 dX8_power_18 rfl (lv_at hl 2 rfl) ?_
        refine lv_lload_n C0.1 C0.2.1 dX8_power_19 rfl (lv_at hl 0 rfl) ?_
        refine lv_lmul C0.1 C0.2.1 dX8_power_20 ?_
        refine lv_lstore_n (lv' := [(3, .long (v3 * v0)), (0, .long v0), (2, .int v2), (5, .int v5)]) C0.1 C0.2.1 dX8_power_21 rfl hl (by decide) rfl (fun ls hl => ?_)
        refine lv_iinc (v := (v5 + 1)) (lv' := [(5, .int (v5 + 1)), (3, .long (v3 * v0)), (0, .long v0), (2, .int v2)]) C0.1 C0.2.1 dX8_power_22 hl (k := 3) rfl rfl (by decide) rfl (fun ls hl => ?_)
        refine lv_goto (tgt := 5) C0.1 C0.2.1 dX8_power_25 (by decide) ?_
        exact hr5 (v3 * v0) (v5 + 1) h _ _ _ hW (lv_sub hl [2, 3, 1, 0] rfl)
set_option maxHeartbeats 4000000 in
set_option maxRecDepth 100000 in
theorem wX8_power (C0 : Cx p s m args meth c cX8_power RX8 6 (some .long) wsX8_power) {σ : ST} (G0 : Gx G s) (hJ : gJ 80 G) (z : Nat) (v0 : Int64) (v2 : Int32) (res : Int64) (h : fX8_power z v0 v2 = some res)  {H : Heap} {locs : List Loc} {ls : Array Slot} (hW : Wd cellX 80 G s.heap σ H locs) (hl : lv_has ls 6 [(0, .long v0), (2, .int v2)]) : W p l e rX8_power s m args below meth c H locs 0 0 (MQ below (XQl cellX 80 G res σ) args s 0 0 (gA 80 G)) (F0 m 0 ls []) := by
  unfold fX8_power at h
  refine lv_lconst (v := (1 : Int64)) C0.1 C0.2.1 dX8_power_0 (by decide) ?_
  refine lv_lstore_n (lv' := [(3, .long (1 : Int64)), (0, .long v0), (2, .int v2)]) C0.1 C0.2.1 dX8_power_1 rfl hl (by decide) rfl (fun ls hl => ?_)
  refine lv_iconst (v := (0 : Int32)) C0.1 C0.2.1 dX8_power_2 (by decide) ?_
  refine lv_istore (lv' := [(5, .int (0 : Int32)), (3, .long (1 : Int64)), (0, .long v0), (2, .int v2)]) C0.1 C0.2.1 dX8_power_3 hl (by decide) rfl (fun ls hl => ?_)
  exact wX8_power_5 C0 G0 hJ z v0 v2 z (1 : Int64) (0 : Int32) _ h hW (lv_sub hl [2, 3, 1, 0] rfl)
theorem cX8_power_met (l : Launch) {G : GT} (hJ : gJ 80 G) (z : Nat) (σ : ST) (v0 : Int64) (v2 : Int32) (res : Int64) (h : fX8_power z v0 v2 = some res) : Met l yX8_power wsX8_power rX8_power (XPc cellX 80 G σ [.long v0, .int v2]) (XQl cellX 80 G res σ) 0 0 (gA 80 G) :=
  x_met (ret := (some .long)) (maxL := 6) (by decide) rfl (Nat.le_of_ble_eq_true rfl) (fun p e s m args below meth c H locs ls C0 G0 hW hl => wX8_power C0 G0 hJ z v0 v2 res h hW hl)
end
/-! X8_best -/
def rX8_best : Room := { frames := 16, cells := 0, slots := 0, locals := 462 }
theorem hdvX8_best : yX8_best.cls = RX8 ∧ yX8_best.cls ≠ "java/lang/invoke/MethodHandle" ∧ yX8_best.cls ≠ "java/lang/invoke/VarHandle" ∧ (parseMethodDescriptor yX8_best.desc).map (fun d => d.parameters.length) = some 2 := by decide +kernel
theorem inX8_best_X8 : ∀ w ∈ u_ws RX8 TX8 10, w ∈ wsX8_best := by decide +kernel
theorem lkX8_best_48 : Cond.fieldLink RX8 48 (TX8 6).1 (TX8 6).2.1 (TX8 6).2.2.1 ∈ wsX8_best := by decide +kernel
theorem lkX8_best_19 : Cond.fieldLink RX8 19 (TX8 1).1 (TX8 1).2.1 (TX8 1).2.2.1 ∈ wsX8_best := by decide +kernel
theorem lkX8_best_26 : Cond.fieldLink RX8 26 (TX8 2).1 (TX8 2).2.1 (TX8 2).2.2.1 ∈ wsX8_best := by decide +kernel
theorem inX8_best_X1 : ∀ w ∈ u_ws RX1 TX1 2, w ∈ wsX8_best := by decide +kernel
theorem nfX8_best_170 : (RX8, 170, (TX1 0).1, (TX1 0).2.1, (TX1 0).2.2.1) ∈ nwF := by decide +kernel
theorem kcX8_best_156 : Cond.constantLong RX8 156 (100 : Int64) ∈ wsX8_best := by decide +kernel
theorem kcX8_best_136 : Cond.constantLong RX8 136 (-3 : Int64) ∈ wsX8_best := by decide +kernel
theorem kcX8_best_130 : Cond.constantLong RX8 130 (-2 : Int64) ∈ wsX8_best := by decide +kernel
def fX8_best (z : Nat) (σ : ST) (v1 : Int32) (v2 : Int32) : Option (Int64 × ST) := bd (fX8_isWithin z v1 (1 : Int32) (4 : Int32)) (fun u21 => (if u21 = 0 then some ((-2 : Int64), σ) else bd (fX8_isLeft z σ v1) (fun u23 => (if u23 = 0 then some ((-3 : Int64), σ) else bd (fX0_tryAll z σ 5 v1) (fun u25 => bd (fX0_likelier z u25) (fun u26 => nl (u26) none (fun k27 => gd (kX k27 == 1) ( bd (fX4_together z u25 5) (fun u28 => bd (fX8_power z (100 : Int64) v1) (fun u29 => bd (fX3_part z (u25.2 k27 0) (u28 * u29) v2) (fun u30 => some (u30, u25))))))))))))
section
variable {p : Program} {l : Launch} {e : Env} {s : State} {m : MethodId} {args : Array Value} {below : List Frame} {meth : Method} {c : Code} {G : GT}
set_option maxHeartbeats 4000000 in
set_option maxRecDepth 100000 in
theorem wX8_best (C0 : Cx p s m args meth c cX8_best RX8 3 (some .long) wsX8_best) (G0 : Gx G s) (hJ : gJ 80 G) (z : Nat) (σ : ST) (v1 : Int32) (v2 : Int32) (res : (Int64 × ST)) (h : fX8_best z σ v1 v2 = some res)  {H : Heap} {locs : List Loc} {ls : Array Slot} (hW : Wd cellX 80 G s.heap σ H locs) (hl : lv_has ls 3 [(0, .ref (aD G 0)), (1, .int v1), (2, .int v2)]) : W p l e rX8_best s m args below meth c H locs 0 0 (MQ below (XQl cellX 80 G res.1 res.2) args s 0 0 (gA 80 G)) (F0 m 0 ls []) := by
  unfold fX8_best at h
  refine lv_iload_n C0.1 C0.2.1 dX8_best_0 rfl (lv_at hl 1 rfl) ?_
  refine lv_iconst (v := (1 : Int32)) C0.1 C0.2.1 dX8_best_1 (by decide) ?_
  refine lv_iconst (v := (4 : Int32)) C0.1 C0.2.1 dX8_best_2 (by decide) ?_
  obtain ⟨u21, hu21, h⟩ := bd_some h
  refine x_ki (r := u21) (x_runS (As := [.int v1, .int (1 : Int32), .int (4 : Int32)]) (rest := []) C0 G0 hW (cX8_isWithin_met l hJ z σ v1 (1 : Int32) (4 : Int32) _ hu21) (va_cwS 3 C0.2.2.2.1 gX8_best_X8_isWithin rfl rfl rfl hdsX8_isWithin ⟨Nat.le_of_ble_eq_true rfl, Nat.le_of_ble_eq_true rfl⟩) rfl rfl hl (Nat.le_of_ble_eq_true rfl) dX8_best_3 ⟨Nat.le_refl 0, Nat.le_refl 0⟩) hW (fun H locs hW => ?_)
  refine lv_if_ne (tgt := 13) C0.1 C0.2.1 dX8_best_6 (by decide) (fun c22 => ?_) (fun c22 => ?_)
  · rw [if_neg c22] at h
    refine lv_aload_n C0.1 C0.2.1 dX8_best_13 rfl (lv_at hl 0 rfl) ?_
    refine lv_iload_n C0.1 C0.2.1 dX8_best_14 rfl (lv_at hl 1 rfl) ?_
    obtain ⟨u23, hu23, h⟩ := bd_some h
    refine x_ki (r := u23) (x_runV (As := [.int v1]) (rest := []) C0 G0 hW (cX8_isLeft_met l hJ z σ v1 _ hu23) (cwV 1 C0.2.2.2.1 gX8_best_X8_isLeft rfl rfl rfl hdvX8_isLeft ⟨Nat.le_of_ble_eq_true rfl, Nat.le_of_ble_eq_true rfl⟩) (cX_X8 rfl) (by decide) rfl rfl rfl hl (Nat.le_of_ble_eq_true rfl) dX8_best_15 ⟨Nat.le_refl 0, Nat.le_refl 0⟩) hW (fun H locs hW => ?_)
    refine lv_if_ne (tgt := 25) C0.1 C0.2.1 dX8_best_18 (by decide) (fun c24 => ?_) (fun c24 => ?_)
    · rw [if_neg c24] at h
      refine lv_aload_n C0.1 C0.2.1 dX8_best_25 rfl (lv_at hl 0 rfl) ?_
      refine x_get (v := .ref (aD G 57)) C0 G0 hW (cX_X8 rfl) (by decide) rfl 6 (by decide) inX8_best_X8 lkX8_best_48 rfl dX8_best_26 ?_
      refine lv_aload_n C0.1 C0.2.1 dX8_best_29 rfl (lv_at hl 0 rfl) ?_
      refine x_get (v := .ref (aD G 3)) C0 G0 hW (cX_X8 rfl) (by decide) rfl 1 (by decide) inX8_best_X8 lkX8_best_19 rfl dX8_best_30 ?_
      refine lv_aload_n C0.1 C0.2.1 dX8_best_33 rfl (lv_at hl 0 rfl) ?_
      refine x_get (v := .ref (aD G 5)) C0 G0 hW (cX_X8 rfl) (by decide) rfl 2 (by decide) inX8_best_X8 lkX8_best_26 rfl dX8_best_34 ?_
      refine lv_iload_n C0.1 C0.2.1 dX8_best_37 rfl (lv_at hl 1 rfl) ?_
      obtain ⟨u25, hu25, h⟩ := bd_some h
      refine x_kv (x_runV (As := [.ref (aD G 3), .ref (aD G 5), .int v1]) (rest := []) C0 G0 hW (cX0_tryAll_met l hJ z σ 5 v1 _ hu25) (cwV 3 C0.2.2.2.1 gX8_best_X0_tryAll rfl rfl rfl hdvX0_tryAll ⟨Nat.le_of_ble_eq_true rfl, Nat.le_of_ble_eq_true rfl⟩) (cX_X0 rfl) (by decide) rfl rfl rfl hl (Nat.le_of_ble_eq_true rfl) dX8_best_38 ⟨Nat.le_refl 0, Nat.le_refl 0⟩) hW (fun H locs hW => ?_)
      refine lv_aload_n C0.1 C0.2.1 dX8_best_41 rfl (lv_at hl 0 rfl) ?_
      refine x_get (v := .ref (aD G 57)) C0 G0 hW (cX_X8 rfl) (by decide) rfl 6 (by decide) inX8_best_X8 lkX8_best_48 rfl dX8_best_42 ?_
      obtain ⟨u26, hu26, h⟩ := bd_some h
      refine x_kr (r := u26) (x_runV (As := []) (rest := []) C0 G0 hW (cX0_likelier_met l hJ z u25 _ hu26) (cwV 0 C0.2.2.2.1 gX8_best_X0_likelier rfl rfl rfl hdvX0_likelier ⟨Nat.le_of_ble_eq_true rfl, Nat.le_of_ble_eq_true rfl⟩) (cX_X0 rfl) (by decide) rfl rfl rfl hl (Nat.le_of_ble_eq_true rfl) dX8_best_45 ⟨Nat.le_refl 0, Nat.le_refl 0⟩) hW (fun H locs hW => ?_)
      obtain ⟨k27, rfl, h⟩ := nl_some h
      obtain ⟨hk_k27, h⟩ := gd_some h
      have hk_k27 : kX k27 = 1 := eq_of_beq hk_k27
      refine x_getN (v := .long (u25.2 k27 0)) C0 G0 hW (cX_X1 hk_k27) (kX_lt hk_k27 (by decide)) rfl 0 (by decide) inX8_best_X1 nfX8_best_170 rfl dX8_best_48 ?_
      refine lv_aload_n C0.1 C0.2.1 dX8_best_51 rfl (lv_at hl 0 rfl) ?_
      refine x_get (v := .ref (aD G 5)) C0 G0 hW (cX_X8 rfl) (by decide) rfl 2 (by decide) inX8_best_X8 lkX8_best_26 rfl dX8_best_52 ?_
      obtain ⟨u28, hu28, h⟩ := bd_some h
      refine x_kl (r := u28) (x_runV (As := []) (rest := [.long (u25.2 k27 0)]) C0 G0 hW (cX4_together_met l hJ z u25 5 _ hu28) (cwV 0 C0.2.2.2.1 gX8_best_X4_together rfl rfl rfl hdvX4_together ⟨Nat.le_of_ble_eq_true rfl, Nat.le_of_ble_eq_true rfl⟩) (cX_X4 rfl) (by decide) rfl rfl rfl hl (Nat.le_of_ble_eq_true rfl) dX8_best_55 ⟨Nat.le_refl 0, Nat.le_refl 0⟩) hW (fun H locs hW => ?_)
      refine lv_ldc2 (v := (100 : Int64)) C0.1 C0.2.1 C0.2.2.2.2.1 (C0.2.2.2.1 _ kcX8_best_156) dX8_best_58 ?_
      refine lv_iload_n C0.1 C0.2.1 dX8_best_61 rfl (lv_at hl 1 rfl) ?_
      obtain ⟨u29, hu29, h⟩ := bd_some h
      refine x_kl (r := u29) (x_runS (As := [.long (100 : Int64), .int v1]) (rest := [.long u28, .long (u25.2 k27 0)]) C0 G0 hW (cX8_power_met l hJ z u25 (100 : Int64) v1 _ hu29) (va_cwS 2 C0.2.2.2.1 gX8_best_X8_power rfl rfl rfl hdsX8_power ⟨Nat.le_of_ble_eq_true rfl, Nat.le_of_ble_eq_true rfl⟩) rfl rfl hl (Nat.le_of_ble_eq_true rfl) dX8_best_62 ⟨Nat.le_refl 0, Nat.le_refl 0⟩) hW (fun H locs hW => ?_)
      refine lv_lmul C0.1 C0.2.1 dX8_best_65 ?_
      refine lv_iload_n C0.1 C0.2.1 dX8_best_66 rfl (lv_at hl 2 rfl) ?_
      obtain ⟨u30, hu30, h⟩ := bd_some h
      refine x_kl (r := u30) (x_runS (As := [.long (u25.2 k27 0), .long (u28 * u29), .int v2]) (rest := []) C0 G0 hW (cX3_part_met l hJ z u25 (u25.2 k27 0) (u28 * u29) v2 _ hu30) (va_cwS 3 C0.2.2.2.1 gX8_best_X3_part rfl rfl rfl hdsX3_part ⟨Nat.le_of_ble_eq_true rfl, Nat.le_of_ble_eq_true rfl⟩) rfl rfl hl (Nat.le_of_ble_eq_true rfl) dX8_best_67 ⟨Nat.le_refl 0, Nat.le_refl 0⟩) hW (fun H locs hW => ?_)
      cases h
      exact x_lret C0 hW dX8_best_70
    · rw [if_pos c24] at h
      refine lv_ldc2 (v := (-3 : Int64)) C0.1 C0.2.1 C0.2.2.2.2.1 (C0.2.2.2.1 _ kcX8_best_136) dX8_best_21 ?_
      cases h
      exact x_lret C0 hW dX8_best_24
  · rw [if_pos c22] at h
    refine lv_ldc2 (v := (-2 : Int64)) C0.1 C0.2.1 C0.2.2.2.2.1 (C0.2.2.2.1 _ kcX8_best_130) dX8_best_9 ?_
    cases h
    exact x_lret C0 hW dX8_best_12
theorem cX8_best_met (l : Launch) {G : GT} (hJ : gJ 80 G) (z : Nat) (σ : ST) (v1 : Int32) (v2 : Int32) (res : (Int64 × ST)) (h : fX8_best z σ v1 v2 = some res) : Met l yX8_best wsX8_best rX8_best (XPc cellX 80 G σ [.ref (aD G 0), .int v1, .int v2]) (XQl cellX 80 G res.1 res.2) 0 0 (gA 80 G) :=
  x_met (ret := (some .long)) (maxL := 3) (by decide) rfl (Nat.le_of_ble_eq_true rfl) (fun p e s m args below meth c H locs ls C0 G0 hW hl => wX8_best C0 G0 hJ z σ v1 v2 res h hW hl)
end
/-! X8_bestRow -/
def rX8_bestRow : Room := { frames := 16, cells := 0, slots := 0, locals := 462 }
theorem hdvX8_bestRow : yX8_bestRow.cls = RX8 ∧ yX8_bestRow.cls ≠ "java/lang/invoke/MethodHandle" ∧ yX8_bestRow.cls ≠ "java/lang/invoke/VarHandle" ∧ (parseMethodDescriptor yX8_bestRow.desc).map (fun d => d.parameters.length) = some 1 := by decide +kernel
theorem inX8_bestRow_X8 : ∀ w ∈ u_ws RX8 TX8 10, w ∈ wsX8_bestRow := by decide +kernel
theorem lkX8_bestRow_48 : Cond.fieldLink RX8 48 (TX8 6).1 (TX8 6).2.1 (TX8 6).2.2.1 ∈ wsX8_bestRow := by decide +kernel
theorem lkX8_bestRow_19 : Cond.fieldLink RX8 19 (TX8 1).1 (TX8 1).2.1 (TX8 1).2.2.1 ∈ wsX8_bestRow := by decide +kernel
theorem lkX8_bestRow_26 : Cond.fieldLink RX8 26 (TX8 2).1 (TX8 2).2.1 (TX8 2).2.2.1 ∈ wsX8_bestRow := by decide +kernel
theorem inX8_bestRow_X1 : ∀ w ∈ u_ws RX1 TX1 2, w ∈ wsX8_bestRow := by decide +kernel
theorem nfX8_bestRow_176 : (RX8, 176, (TX1 1).1, (TX1 1).2.1, (TX1 1).2.2.1) ∈ nwF := by decide +kernel
def fX8_bestRow (z : Nat) (σ : ST) (v1 : Int32) : Option (Int32 × ST) := bd (fX8_isWithin z v1 (1 : Int32) (4 : Int32)) (fun u21 => (if u21 = 0 then some ((-2 : Int32), σ) else bd (fX8_isLeft z σ v1) (fun u23 => (if u23 = 0 then some ((-3 : Int32), σ) else bd (fX0_tryAll z σ 5 v1) (fun u25 => bd (fX0_likelier z u25) (fun u26 => nl (u26) none (fun k27 => gd (kX k27 == 1) ( some ((u25.1 k27 1), u25)))))))))
section
variable {p : Program} {l : Launch} {e : Env} {s : State} {m : MethodId} {args : Array Value} {below : List Frame} {meth : Method} {c : Code} {G : GT}
set_option maxHeartbeats 4000000 in
set_option maxRecDepth 100000 in
theorem wX8_bestRow (C0 : Cx p s m args meth c cX8_bestRow RX8 2 (some .int) wsX8_bestRow) (G0 : Gx G s) (hJ : gJ 80 G) (z : Nat) (σ : ST) (v1 : Int32) (res : (Int32 × ST)) (h : fX8_bestRow z σ v1 = some res)  {H : Heap} {locs : List Loc} {ls : Array Slot} (hW : Wd cellX 80 G s.heap σ H locs) (hl : lv_has ls 2 [(0, .ref (aD G 0)), (1, .int v1)]) : W p l e rX8_bestRow s m args below meth c H locs 0 0 (MQ below (XQi cellX 80 G res.1 res.2) args s 0 0 (gA 80 G)) (F0 m 0 ls []) := by
  unfold fX8_bestRow at h
  refine lv_iload_n C0.1 C0.2.1 dX8_bestRow_0 rfl (lv_at hl 1 rfl) ?_
  refine lv_iconst (v := (1 : Int32)) C0.1 C0.2.1 dX8_bestRow_1 (by decide) ?_
  refine lv_iconst (v := (4 : Int32)) C0.1 C0.2.1 dX8_bestRow_2 (by decide) ?_
  obtain ⟨u21, hu21, h⟩ := bd_some h
  refine x_ki (r := u21) (x_runS (As := [.int v1, .int (1 : Int32), .int (4 : Int32)]) (rest := []) C0 G0 hW (cX8_isWithin_met l hJ z σ v1 (1 : Int32) (4 : Int32) _ hu21) (va_cwS 3 C0.2.2.2.1 gX8_bestRow_X8_isWithin rfl rfl rfl hdsX8_isWithin ⟨Nat.le_of_ble_eq_true rfl, Nat.le_of_ble_eq_true rfl⟩) rfl rfl hl (Nat.le_of_ble_eq_true rfl) dX8_bestRow_3 ⟨Nat.le_refl 0, Nat.le_refl 0⟩) hW (fun H locs hW => ?_)
  refine lv_if_ne (tgt := 12) C0.1 C0.2.1 dX8_bestRow_6 (by decide) (fun c22 => ?_) (fun c22 => ?_)
  · rw [if_neg c22] at h
    refine lv_aload_n C0.1 C0.2.1 dX8_bestRow_12 rfl (lv_at hl 0 rfl) ?_
    refine lv_iload_n C0.1 C0.2.1 dX8_bestRow_13 rfl (lv_at hl 1 rfl) ?_
    obtain ⟨u23, hu23, h⟩ := bd_some h
    refine x_ki (r := u23) (x_runV (As := [.int v1]) (rest := []) C0 G0 hW (cX8_isLeft_met l hJ z σ v1 _ hu23) (cwV 1 C0.2.2.2.1 gX8_bestRow_X8_isLeft rfl rfl rfl hdvX8_isLeft ⟨Nat.le_of_ble_eq_true rfl, Nat.le_of_ble_eq_true rfl⟩) (cX_X8 rfl) (by decide) rfl rfl rfl hl (Nat.le_of_ble_eq_true rfl) dX8_bestRow_14 ⟨Nat.le_refl 0, Nat.le_refl 0⟩) hW (fun H locs hW => ?_)
    refine lv_if_ne (tgt := 23) C0.1 C0.2.1 dX8_bestRow_17 (by decide) (fun c24 => ?_) (fun c24 => ?_)
    · rw [if_neg c24] at h
      refine lv_aload_n C0.1 C0.2.1 dX8_bestRow_23 rfl (lv_at hl 0 rfl) ?_
      refine x_get (v := .ref (aD G 57)) C0 G0 hW (cX_X8 rfl) (by decide) rfl 6 (by decide) inX8_bestRow_X8 lkX8_bestRow_48 rfl dX8_bestRow_24 ?_
      refine lv_aload_n C0.1 C0.2.1 dX8_bestRow_27 rfl (lv_at hl 0 rfl) ?_
      refine x_get (v := .ref (aD G 3)) C0 G0 hW (cX_X8 rfl) (by decide) rfl 1 (by decide) inX8_bestRow_X8 lkX8_bestRow_19 rfl dX8_bestRow_28 ?_
      refine lv_aload_n C0.1 C0.2.1 dX8_bestRow_31 rfl (lv_at hl 0 rfl) ?_
      refine x_get (v := .ref (aD G 5)) C0 G0 hW (cX_X8 rfl) (by decide) rfl 2 (by decide) inX8_bestRow_X8 lkX8_bestRow_26 rfl dX8_bestRow_32 ?_
      refine lv_iload_n C0.1 C0.2.1 dX8_bestRow_35 rfl (lv_at hl 1 rfl) ?_
      obtain ⟨u25, hu25, h⟩ := bd_some h
      refine x_kv (x_runV (As := [.ref (aD G 3), .ref (aD G 5), .int v1]) (rest := []) C0 G0 hW (cX0_tryAll_met l hJ z σ 5 v1 _ hu25) (cwV 3 C0.2.2.2.1 gX8_bestRow_X0_tryAll rfl rfl rfl hdvX0_tryAll ⟨Nat.le_of_ble_eq_true rfl, Nat.le_of_ble_eq_true rfl⟩) (cX_X0 rfl) (by decide) rfl rfl rfl hl (Nat.le_of_ble_eq_true rfl) dX8_bestRow_36 ⟨Nat.le_refl 0, Nat.le_refl 0⟩) hW (fun H locs hW => ?_)
      refine lv_aload_n C0.1 C0.2.1 dX8_bestRow_39 rfl (lv_at hl 0 rfl) ?_
      refine x_get (v := .ref (aD G 57)) C0 G0 hW (cX_X8 rfl) (by decide) rfl 6 (by decide) inX8_bestRow_X8 lkX8_bestRow_48 rfl dX8_bestRow_40 ?_
      obtain ⟨u26, hu26, h⟩ := bd_some h
      refine x_kr (r := u26) (x_runV (As := []) (rest := []) C0 G0 hW (cX0_likelier_met l hJ z u25 _ hu26) (cwV 0 C0.2.2.2.1 gX8_bestRow_X0_likelier rfl rfl rfl hdvX0_likelier ⟨Nat.le_of_ble_eq_true rfl, Nat.le_of_ble_eq_true rfl⟩) (cX_X0 rfl) (by decide) rfl rfl rfl hl (Nat.le_of_ble_eq_true rfl) dX8_bestRow_43 ⟨Nat.le_refl 0, Nat.le_refl 0⟩) hW (fun H locs hW => ?_)
      obtain ⟨k27, rfl, h⟩ := nl_some h
      obtain ⟨hk_k27, h⟩ := gd_some h
      have hk_k27 : kX k27 = 1 := eq_of_beq hk_k27
      refine x_getN (v := .int (u25.1 k27 1)) C0 G0 hW (cX_X1 hk_k27) (kX_lt hk_k27 (by decide)) rfl 1 (by decide) inX8_bestRow_X1 nfX8_bestRow_176 rfl dX8_bestRow_46 ?_
      cases h
      exact x_iret C0 hW dX8_bestRow_49
    · rw [if_pos c24] at h
      refine lv_bipush (v := (-3 : Int32)) C0.1 C0.2.1 dX8_bestRow_20 (by decide) ?_
      cases h
      exact x_iret C0 hW dX8_bestRow_22
  · rw [if_pos c22] at h
    refine lv_bipush (v := (-2 : Int32)) C0.1 C0.2.1 dX8_bestRow_9 (by decide) ?_
    cases h
    exact x_iret C0 hW dX8_bestRow_11
theorem cX8_bestRow_met (l : Launch) {G : GT} (hJ : gJ 80 G) (z : Nat) (σ : ST) (v1 : Int32) (res : (Int32 × ST)) (h : fX8_bestRow z σ v1 = some res) : Met l yX8_bestRow wsX8_bestRow rX8_bestRow (XPc cellX 80 G σ [.ref (aD G 0), .int v1]) (XQi cellX 80 G res.1 res.2) 0 0 (gA 80 G) :=
  x_met (ret := (some .int)) (maxL := 2) (by decide) rfl (Nat.le_of_ble_eq_true rfl) (fun p e s m args below meth c H locs ls C0 G0 hW hl => wX8_bestRow C0 G0 hJ z σ v1 res h hW hl)
end
/-! X8_figureOf -/
def rX8_figureOf : Room := { frames := 1, cells := 0, slots := 0, locals := 25 }
theorem hdsX8_figureOf : yX8_figureOf.cls ≠ "java/lang/invoke/MethodHandle" ∧ yX8_figureOf.cls ≠ "java/lang/invoke/VarHandle" ∧ (parseMethodDescriptor yX8_figureOf.desc).map (fun d => d.parameters.length) = some 3 := by decide +kernel
theorem kcX8_figureOf_179 : Cond.constantLong RX8 179 (10 : Int64) ∈ wsX8_figureOf := by decide +kernel
def fX8_figureOf_31 (z : Nat) (t0 : Int32) : Option Int32 := some t0
def fX8_figureOf (z : Nat) (v0 : Int32) (v1 : Int32) (v2 : Int32) : Option Int32 := bd (fX8_power z (10 : Int64) ((v0 - (1 : Int32)) - v2)) (fun u21 => (if (0 : Int64) < u21 then gd (nzL u21) ( gd (nzL (10 : Int64)) ( fX8_figureOf_31 z ((((((v1).toInt64) / u21) - (((v1).toInt64) / u21) / (10 : Int64) * (10 : Int64))).toInt32))) else fX8_figureOf_31 z (0 : Int32)))
section
variable {p : Program} {l : Launch} {e : Env} {s : State} {m : MethodId} {args : Array Value} {below : List Frame} {meth : Method} {c : Code} {G : GT}
set_option maxHeartbeats 4000000 in
set_option maxRecDepth 100000 in
theorem wX8_figureOf_31 (C0 : Cx p s m args meth c cX8_figureOf RX8 5 (some .int) wsX8_figureOf) {σ : ST} (G0 : Gx G s) (hJ : gJ 80 G) (z : Nat) (t0 : Int32) (res : Int32) (h : fX8_figureOf_31 z t0 = some res)  {H : Heap} {locs : List Loc} {ls : Array Slot} (hW : Wd cellX 80 G s.heap σ H locs) (hl : lv_has ls 5 []) : W p l e rX8_figureOf s m args below meth c H locs 0 0 (MQ below (XQi cellX 80 G res σ) args s 0 0 (gA 80 G)) (F0 m 31 ls [.int t0]) := by
  unfold fX8_figureOf_31 at h
  cases h
  exact x_iret C0 hW dX8_figureOf_31
set_option maxHeartbeats 4000000 in
set_option maxRecDepth 100000 in
theorem wX8_figureOf (C0 : Cx p s m args meth c cX8_figureOf RX8 5 (some .int) wsX8_figureOf) {σ : ST} (G0 : Gx G s) (hJ : gJ 80 G) (z : Nat) (v0 : Int32) (v1 : Int32) (v2 : Int32) (res : Int32) (h : fX8_figureOf z v0 v1 v2 = some res)  {H : Heap} {locs : List Loc} {ls : Array Slot} (hW : Wd cellX 80 G s.heap σ H locs) (hl : lv_has ls 5 [(0, .int v0), (1, .int v1), (2, .int v2)]) : W p l e rX8_figureOf s m args below meth c H locs 0 0 (MQ below (XQi cellX 80 G res σ) args s 0 0 (gA 80 G)) (F0 m 0 ls []) := by
  unfold fX8_figureOf at h
  refine lv_ldc2 (v := (10 : Int64)) C0.1 C0.2.1 C0.2.2.2.2.1 (C0.2.2.2.1 _ kcX8_figureOf_179) dX8_figureOf_0 ?_
  refine lv_iload_n C0.1 C0.2.1 dX8_figureOf_3 rfl (lv_at hl 0 rfl) ?_
  refine lv_iconst (v := (1 : Int32)) C0.1 C0.2.1 dX8_figureOf_4 (by decide) ?_
  refine lv_isub C0.1 C0.2.1 dX8_figureOf_5 ?_
  refine lv_iload_n C0.1 C0.2.1 dX8_figureOf_6 rfl (lv_at hl 2 rfl) ?_
  refine lv_isub C0.1 C0.2.1 dX8_figureOf_7 ?_
  obtain ⟨u21, hu21, h⟩ := bd_some h
  refine x_kl (r := u21) (x_runS (As := [.long (10 : Int64), .int ((v0 - (1 : Int32)) - v2)]) (rest := []) C0 G0 hW (cX8_power_met l hJ z σ (10 : Int64) ((v0 - (1 : Int32)) - v2) _ hu21) (va_cwS 2 C0.2.2.2.1 gX8_figureOf_X8_power rfl rfl rfl hdsX8_power ⟨Nat.le_of_ble_eq_true rfl, Nat.le_of_ble_eq_true rfl⟩) rfl rfl hl (Nat.le_of_ble_eq_true rfl) dX8_figureOf_8 ⟨Nat.le_refl 0, Nat.le_refl 0⟩) hW (fun H locs hW => ?_)
  refine lv_lstore_n (lv' := [(3, .long u21), (0, .int v0), (1, .int v1), (2, .int v2)]) C0.1 C0.2.1 dX8_figureOf_11 rfl hl (by decide) rfl (fun ls hl => ?_)
  refine lv_lload_n C0.1 C0.2.1 dX8_figureOf_12 rfl (lv_at hl 0 rfl) ?_
  refine lv_lconst (v := (0 : Int64)) C0.1 C0.2.1 dX8_figureOf_13 (by decide) ?_
  refine x_lc_gt (tgt := 22) C0 dX8_figureOf_14 dX8_figureOf_15 (by decide) (fun c22 => ?_) (fun c22 => ?_)
  · rw [if_pos c22] at h
    refine lv_iload_n C0.1 C0.2.1 dX8_figureOf_22 rfl (lv_at hl 2 rfl) ?_
    refine lv_i2l (v := ((v1).toInt64)) C0.1 C0.2.1 dX8_figureOf_23 rfl ?_
    refine lv_lload_n C0.1 C0.2.1 dX8_figureOf_24 rfl (lv_at hl 0 rfl) ?_
    obtain ⟨g23, h⟩ := gd_some h
    refine lv_ldiv C0.1 C0.2.1 dX8_figureOf_25 (nzL_of g23) ?_
    refine lv_ldc2 (v := (10 : Int64)) C0.1 C0.2.1 C0.2.2.2.2.1 (C0.2.2.2.1 _ kcX8_figureOf_179) dX8_figureOf_26 ?_
    obtain ⟨g24, h⟩ := gd_some h
    refine lv_lrem C0.1 C0.2.1 dX8_figureOf_29 (nzL_of g24) ?_
    refine lv_l2i (v := ((((((v1).toInt64) / u21) - (((v1).toInt64) / u21) / (10 : Int64) * (10 : Int64))).toInt32)) C0.1 C0.2.1 dX8_figureOf_30 rfl ?_
    exact wX8_figureOf_31 C0 G0 hJ z ((((((v1).toInt64) / u21) - (((v1).toInt64) / u21) / (10 : Int64) * (10 : Int64))).toInt32) _ h hW (lv_sub hl [] rfl)
  · rw [if_neg c22] at h
    refine lv_iconst (v := (0 : Int32)) C0.1 C0.2.1 dX8_figureOf_18 (by decide) ?_
    refine lv_goto (tgt := 31) C0.1 C0.2.1 dX8_figureOf_19 (by decide) ?_
    exact wX8_figureOf_31 C0 G0 hJ z (0 : Int32) _ h hW (lv_sub hl [] rfl)
theorem cX8_figureOf_met (l : Launch) {G : GT} (hJ : gJ 80 G) (z : Nat) (σ : ST) (v0 : Int32) (v1 : Int32) (v2 : Int32) (res : Int32) (h : fX8_figureOf z v0 v1 v2 = some res) : Met l yX8_figureOf wsX8_figureOf rX8_figureOf (XPc cellX 80 G σ [.int v0, .int v1, .int v2]) (XQi cellX 80 G res σ) 0 0 (gA 80 G) :=
  x_met (ret := (some .int)) (maxL := 5) (by decide) rfl (Nat.le_of_ble_eq_true rfl) (fun p e s m args below meth c H locs ls C0 G0 hW hl => wX8_figureOf C0 G0 hJ z v0 v1 v2 res h hW hl)
end
/-! X8_isRow -/
def rX8_isRow : Room := { frames := 2, cells := 0, slots := 0, locals := 49 }
theorem hdsX8_isRow : yX8_isRow.cls ≠ "java/lang/invoke/MethodHandle" ∧ yX8_isRow.cls ≠ "java/lang/invoke/VarHandle" ∧ (parseMethodDescriptor yX8_isRow.desc).map (fun d => d.parameters.length) = some 2 := by decide +kernel
theorem kcX8_isRow_179 : Cond.constantLong RX8 179 (10 : Int64) ∈ wsX8_isRow := by decide +kernel
def fX8_isRow_21 (z : Nat) (v0 : Int32) (v1 : Int32) : Nat → Int32 → Option Int32
  | 0 => fun _ => none
  | n + 1 => fun v2 => (if v0 ≤ v2 then gd (zok (1 : Int32)) ( some (1 : Int32)) else bd (fX8_figureOf z v0 v1 v2) (fun u27 => (if u27 ≤ (3 : Int32) then (fX8_isRow_21 z v0 v1 n) (v2 + 1) else gd (zok (0 : Int32)) ( some (0 : Int32)))))
def fX8_isRow_17 (z : Nat) : Option Int32 := gd (zok (0 : Int32)) ( some (0 : Int32))
def fX8_isRow (z : Nat) (v0 : Int32) (v1 : Int32) : Option Int32 := (if v1 < 0 then fX8_isRow_17 z else bd (fX8_power z (10 : Int64) v0) (fun u22 => (if ((v1).toInt64) < u22 then fX8_isRow_21 z v0 v1 z (0 : Int32) else fX8_isRow_17 z)))
section
variable {p : Program} {l : Launch} {e : Env} {s : State} {m : MethodId} {args : Array Value} {below : List Frame} {meth : Method} {c : Code} {G : GT}
set_option maxHeartbeats 4000000 in
set_option maxRecDepth 100000 in
theorem wX8_isRow_21 (C0 : Cx p s m args meth c cX8_isRow RX8 3 (some .boolean) wsX8_isRow) {σ : ST} (G0 : Gx G s) (hJ : gJ 80 G) (z : Nat) (v0 : Int32) (v1 : Int32) (n : Nat) (v2 : Int32) (res : Int32) (h : fX8_isRow_21 z v0 v1 n v2 = some res)  {H : Heap} {locs : List Loc} {ls : Array Slot} (hW : Wd cellX 80 G s.heap σ H locs) (hl : lv_has ls 3 [(0, .int v0), (1, .int v1), (2, .int v2)]) : W p l e rX8_isRow s m args below meth c H locs 0 0 (MQ below (XQi cellX 80 G res σ) args s 0 0 (gA 80 G)) (F0 m 21 ls []) := by
  induction n generalizing v2 H locs ls with
  | zero => cases h
  | succ n ih =>
    have hr21 : ∀ (v2 : Int32), fX8_isRow_21 z v0 v1 n v2 = some res → ∀ (H : Heap) (locs : List Loc) (ls : Array Slot), Wd cellX 80 G s.heap σ H locs → lv_has ls 3 [(0, .int v0), (1, .int v1), (2, .int v2)] → W p l e rX8_isRow s m args below meth c H locs 0 0 (MQ below (XQi cellX 80 G res σ) args s 0 0 (gA 80 G)) (F0 m 21 ls []) := fun v2 h H locs ls hW hl => ih v2 h hW hl
    clear ih
    unfold fX8_isRow_21 at h
    refine lv_iload_n C0.1 C0.2.1 dX8_isRow_21 rfl (lv_at hl 2 rfl) ?_
    refine lv_iload_n C0.1 C0.2.1 dX8_isRow_22 rfl (lv_at hl 0 rfl) ?_
    refine lv_icmp_ge (tgt := 44) C0.1 C0.2.1 dX8_isRow_23 (by decide) (fun c25 => ?_) (fun c25 => ?_)
    · rw [if_pos c25] at h
      refine lv_iconst (v := (1 : Int32)) C0.1 C0.2.1 dX8_isRow_44 (by decide) ?_
      obtain ⟨g26, h⟩ := gd_some h
      cases h
      exact x_zret C0 hW g26 dX8_isRow_45
    · rw [if_neg c25] at h
      refine lv_iload_n C0.1 C0.2.1 dX8_isRow_26 rfl (lv_at hl 0 rfl) ?_
      refine lv_iload_n C0.1 C0.2.1 dX8_isRow_27 rfl (lv_at hl 1 rfl) ?_
      refine lv_iload_n C0.1 C0.2.1 dX8_isRow_28 rfl (lv_at hl 2 rfl) ?_
      obtain ⟨u27, hu27, h⟩ := bd_some h
      refine x_ki (r := u27) (x_runS (As := [.int v0, .int v1, .int v2]) (rest := []) C0 G0 hW (cX8_figureOf_met l hJ z σ v0 v1 v2 _ hu27) (va_cwS 3 C0.2.2.2.1 gX8_isRow_X8_figureOf rfl rfl rfl hdsX8_figureOf ⟨Nat.le_of_ble_eq_true rfl, Nat.le_of_ble_eq_true rfl⟩) rfl rfl hl (Nat.le_of_ble_eq_true rfl) dX8_isRow_29 ⟨Nat.le_refl 0, Nat.le_refl 0⟩) hW (fun H locs hW => ?_)
      refine lv_iconst (v := (3 : Int32)) C0.1 C0.2.1 dX8_isRow_32 (by decide) ?_
      refine lv_icmp_le (tgt := 38) C0.1 C0.2.1 dX8_isRow_33 (by decide) (fun c28 => ?_) (fun c28 => ?_)
      · rw [if_pos c28] at h
        refine lv_iinc (v := (v2 + 1)) (lv' := [(2, .int (v2 + 1)), (0, .int v0), (1, .int v1)]) C0.1 C0.2.1 dX8_isRow_38 hl (k := 2) rfl rfl (by decide) rfl (fun ls hl => ?_)
        refine lv_goto (tgt := 21) C0.1 C0.2.1 dX8_isRow_41 (by decide) ?_
        exact hr21 (v2 + 1) h _ _ _ hW (lv_sub hl [1, 2, 0] rfl)
      · rw [if_neg c28] at h
        refine lv_iconst (v := (0 : Int32)) C0.1 C0.2.1 dX8_isRow_36 (by decide) ?_
        obtain ⟨g29, h⟩ := gd_some h
        cases h
        exact x_zret C0 hW g29 dX8_isRow_37
set_option maxHeartbeats 4000000 in
set_option maxRecDepth 100000 in
theorem wX8_isRow_17 (C0 : Cx p s m args meth c cX8_isRow RX8 3 (some .boolean) wsX8_isRow) {σ : ST} (G0 : Gx G s) (hJ : gJ 80 G) (z : Nat) (res : Int32) (h : fX8_isRow_17 z = some res)  {H : Heap} {locs : List Loc} {ls : Array Slot} (hW : Wd cellX 80 G s.heap σ H locs) (hl : lv_has ls 3 []) : W p l e rX8_isRow s m args below meth c H locs 0 0 (MQ below (XQi cellX 80 G res σ) args s 0 0 (gA 80 G)) (F0 m 17 ls []) := by
  unfold fX8_isRow_17 at h
  refine lv_iconst (v := (0 : Int32)) C0.1 C0.2.1 dX8_isRow_17 (by decide) ?_
  obtain ⟨g24, h⟩ := gd_some h
  cases h
  exact x_zret C0 hW g24 dX8_isRow_18
set_option maxHeartbeats 4000000 in
set_option maxRecDepth 100000 in
theorem wX8_isRow (C0 : Cx p s m args meth c cX8_isRow RX8 3 (some .boolean) wsX8_isRow) {σ : ST} (G0 : Gx G s) (hJ : gJ 80 G) (z : Nat) (v0 : Int32) (v1 : Int32) (res : Int32) (h : fX8_isRow z v0 v1 = some res)  {H : Heap} {locs : List Loc} {ls : Array Slot} (hW : Wd cellX 80 G s.heap σ H locs) (hl : lv_has ls 3 [(0, .int v0), (1, .int v1)]) : W p l e rX8_isRow s m args below meth c H locs 0 0 (MQ below (XQi cellX 80 G res σ) args s 0 0 (gA 80 G)) (F0 m 0 ls []) := by
  unfold fX8_isRow at h
  refine lv_iload_n C0.1 C0.2.1 dX8_isRow_0 rfl (lv_at hl 1 rfl) ?_
  refine lv_if_lt (tgt := 17) C0.1 C0.2.1 dX8_isRow_1 (by decide) (fun c21 => ?_) (fun c21 => ?_)
  · rw [if_pos c21] at h
    exact wX8_isRow_17 C0 G0 hJ z _ h hW (lv_sub hl [] rfl)
  · rw [if_neg c21] at h
    refine lv_iload_n C0.1 C0.2.1 dX8_isRow_4 rfl (lv_at hl 1 rfl) ?_
    refine lv_i2l (v := ((v1).toInt64)) C0.1 C0.2.1 dX8_isRow_5 rfl ?_
    refine lv_ldc2 (v := (10 : Int64)) C0.1 C0.2.1 C0.2.2.2.2.1 (C0.2.2.2.1 _ kcX8_isRow_179) dX8_isRow_6 ?_
    refine lv_iload_n C0.1 C0.2.1 dX8_isRow_9 rfl (lv_at hl 0 rfl) ?_
    obtain ⟨u22, hu22, h⟩ := bd_some h
    refine x_kl (r := u22) (x_runS (As := [.long (10 : Int64), .int v0]) (rest := [.long ((v1).toInt64)]) C0 G0 hW (cX8_power_met l hJ z σ (10 : Int64) v0 _ hu22) (va_cwS 2 C0.2.2.2.1 gX8_isRow_X8_power rfl rfl rfl hdsX8_power ⟨Nat.le_of_ble_eq_true rfl, Nat.le_of_ble_eq_true rfl⟩) rfl rfl hl (Nat.le_of_ble_eq_true rfl) dX8_isRow_10 ⟨Nat.le_refl 0, Nat.le_refl 0⟩) hW (fun H locs hW => ?_)
    refine x_lc_lt (tgt := 19) C0 dX8_isRow_13 dX8_isRow_14 (by decide) (fun c23 => ?_) (fun c23 => ?_)
    · rw [if_pos c23] at h
      refine lv_iconst (v := (0 : Int32)) C0.1 C0.2.1 dX8_isRow_19 (by decide) ?_
      refine lv_istore_n (lv' := [(2, .int (0 : Int32)), (0, .int v0), (1, .int v1)]) C0.1 C0.2.1 dX8_isRow_20 rfl hl (by decide) rfl (fun ls hl => ?_)
      exact wX8_isRow_21 C0 G0 hJ z v0 v1 z (0 : Int32) _ h hW (lv_sub hl [1, 2, 0] rfl)
    · rw [if_neg c23] at h
      exact wX8_isRow_17 C0 G0 hJ z _ h hW (lv_sub hl [] rfl)
theorem cX8_isRow_met (l : Launch) {G : GT} (hJ : gJ 80 G) (z : Nat) (σ : ST) (v0 : Int32) (v1 : Int32) (res : Int32) (h : fX8_isRow z v0 v1 = some res) : Met l yX8_isRow wsX8_isRow rX8_isRow (XPc cellX 80 G σ [.int v0, .int v1]) (XQi cellX 80 G res σ) 0 0 (gA 80 G) :=
  x_met (ret := (some .boolean)) (maxL := 3) (by decide) rfl (Nat.le_of_ble_eq_true rfl) (fun p e s m args below meth c H locs ls C0 G0 hW hl => wX8_isRow C0 G0 hJ z v0 v1 res h hW hl)
end
/-! X8_foundBy -/
def rX8_foundBy : Room := { frames := 5, cells := 0, slots := 0, locals := 108 }
theorem hdvX8_foundBy : yX8_foundBy.cls = RX8 ∧ yX8_foundBy.cls ≠ "java/lang/invoke/MethodHandle" ∧ yX8_foundBy.cls ≠ "java/lang/invoke/VarHandle" ∧ (parseMethodDescriptor yX8_foundBy.desc).map (fun d => d.parameters.length) = some 2 := by decide +kernel
theorem inX8_foundBy_X8 : ∀ w ∈ u_ws RX8 TX8 10, w ∈ wsX8_foundBy := by decide +kernel
theorem lkX8_foundBy_30 : Cond.fieldLink RX8 30 (TX8 3).1 (TX8 3).2.1 (TX8 3).2.2.1 ∈ wsX8_foundBy := by decide +kernel
theorem lkX8_foundBy_26 : Cond.fieldLink RX8 26 (TX8 2).1 (TX8 2).2.1 (TX8 2).2.2.1 ∈ wsX8_foundBy := by decide +kernel
theorem kcX8_foundBy_156 : Cond.constantLong RX8 156 (100 : Int64) ∈ wsX8_foundBy := by decide +kernel
theorem lkX8_foundBy_19 : Cond.fieldLink RX8 19 (TX8 1).1 (TX8 1).2.1 (TX8 1).2.2.1 ∈ wsX8_foundBy := by decide +kernel
theorem kcX8_foundBy_179 : Cond.constantLong RX8 179 (10 : Int64) ∈ wsX8_foundBy := by decide +kernel
def fX8_foundBy_16 (z : Nat) (v1 : Int32) (v2 : Int32) : Nat → ST → Int64 → Int32 → Option (Int64 × ST)
  | 0 => fun _ _ _ => none
  | n + 1 => fun σ v3 v5 => (if v1 ≤ v5 then some (v3, σ) else bd (fX8_figureOf z v1 v2 v5) (fun u23 => bd (fX4_foundNow z σ 9 u23) (fun u24 => bd (fX4_act z σ 9 u23) (fun u25 => (fX8_foundBy_16 z v1 v2 n) u25 ((v3 * (100 : Int64)) + (u24 * (10 : Int64))) (v5 + 1)))))
def fX8_foundBy (z : Nat) (σ : ST) (v1 : Int32) (v2 : Int32) : Option (Int64 × ST) := bd (fX4_copy z σ 9 5) (fun u21 => fX8_foundBy_16 z v1 v2 z u21 (0 : Int64) (0 : Int32))
section
variable {p : Program} {l : Launch} {e : Env} {s : State} {m : MethodId} {args : Array Value} {below : List Frame} {meth : Method} {c : Code} {G : GT}
set_option maxHeartbeats 4000000 in
set_option maxRecDepth 100000 in
theorem wX8_foundBy_16 (C0 : Cx p s m args meth c cX8_foundBy RX8 7 (some .long) wsX8_foundBy) (G0 : Gx G s) (hJ : gJ 80 G) (z : Nat) (v1 : Int32) (v2 : Int32) (n : Nat) (σ : ST) (v3 : Int64) (v5 : Int32) (res : (Int64 × ST)) (h : fX8_foundBy_16 z v1 v2 n σ v3 v5 = some res)  {H : Heap} {locs : List Loc} {ls : Array Slot} (hW : Wd cellX 80 G s.heap σ H locs) (hl : lv_has ls 7 [(0, .ref (aD G 0)), (1, .int v1), (2, .int v2), (3, .long v3), (5, .int v5)]) : W p l e rX8_foundBy s m args below meth c H locs 0 0 (MQ below (XQl cellX 80 G res.1 res.2) args s 0 0 (gA 80 G)) (F0 m 16 ls []) := by
  induction n generalizing σ v3 v5 H locs ls with
  | zero => cases h
  | succ n ih =>
    have hr16 : ∀ (σ : ST) (v3 : Int64) (v5 : Int32), fX8_foundBy_16 z v1 v2 n σ v3 v5 = some res → ∀ (H : Heap) (locs : List Loc) (ls : Array Slot), Wd cellX 80 G s.heap σ H locs → lv_has ls 7 [(0, .ref (aD G 0)), (1, .int v1), (2, .int v2), (3, .long v3), (5, .int v5)] → W p l e rX8_foundBy s m args below meth c H locs 0 0 (MQ below (XQl cellX 80 G res.1 res.2) args s 0 0 (gA 80 G)) (F0 m 16 ls []) := fun σ v3 v5 h H locs ls hW hl => ih σ v3 v5 h hW hl
    clear ih
    unfold fX8_foundBy_16 at h
    refine lv_iload C0.1 C0.2.1 dX8_foundBy_16 (lv_at hl 4 rfl) ?_
    refine lv_iload_n C0.1 C0.2.1 dX8_foundBy_18 rfl (lv_at hl 1 rfl) ?_
    refine lv_icmp_ge (tgt := 74) C0.1 C0.2.1 dX8_foundBy_19 (by decide) (fun c22 => ?_) (fun c22 => ?_)
    · rw [if_pos c22] at h
      refine lv_lload_n C0.1 C0.2.1 dX8_foundBy_74 rfl (lv_at hl 3 rfl) ?_
      cases h
      exact x_lret C0 hW dX8_foundBy_75
    · rw [if_neg c22] at h
      refine lv_iload_n C0.1 C0.2.1 dX8_foundBy_22 rfl (lv_at hl 1 rfl) ?_
      refine lv_iload_n C0.1 C0.2.1 dX8_foundBy_23 rfl (lv_at hl 2 rfl) ?_
      refine lv_iload C0.1 C0.2.1 dX8_foundBy_24 (lv_at hl 4 rfl) ?_
      obtain ⟨u23, hu23, h⟩ := bd_some h
      refine x_ki (r := u23) (x_runS (As := [.int v1, .int v2, .int v5]) (rest := []) C0 G0 hW (cX8_figureOf_met l hJ z σ v1 v2 v5 _ hu23) (va_cwS 3 C0.2.2.2.1 gX8_foundBy_X8_figureOf rfl rfl rfl hdsX8_figureOf ⟨Nat.le_of_ble_eq_true rfl, Nat.le_of_ble_eq_true rfl⟩) rfl rfl hl (Nat.le_of_ble_eq_true rfl) dX8_foundBy_26 ⟨Nat.le_refl 0, Nat.le_refl 0⟩) hW (fun H locs hW => ?_)
      refine lv_istore (lv' := [(6, .int u23), (0, .ref (aD G 0)), (1, .int v1), (2, .int v2), (3, .long v3), (5, .int v5)]) C0.1 C0.2.1 dX8_foundBy_29 hl (by decide) rfl (fun ls hl => ?_)
      refine lv_lload_n C0.1 C0.2.1 dX8_foundBy_31 rfl (lv_at hl 4 rfl) ?_
      refine lv_ldc2 (v := (100 : Int64)) C0.1 C0.2.1 C0.2.2.2.2.1 (C0.2.2.2.1 _ kcX8_foundBy_156) dX8_foundBy_32 ?_
      refine lv_lmul C0.1 C0.2.1 dX8_foundBy_35 ?_
      refine lv_aload_n C0.1 C0.2.1 dX8_foundBy_36 rfl (lv_at hl 1 rfl) ?_
      refine x_get (v := .ref (aD G 9)) C0 G0 hW (cX_X8 rfl) (by decide) rfl 3 (by decide) inX8_foundBy_X8 lkX8_foundBy_30 rfl dX8_foundBy_37 ?_
      refine lv_aload_n C0.1 C0.2.1 dX8_foundBy_40 rfl (lv_at hl 1 rfl) ?_
      refine x_get (v := .ref (aD G 3)) C0 G0 hW (cX_X8 rfl) (by decide) rfl 1 (by decide) inX8_foundBy_X8 lkX8_foundBy_19 rfl dX8_foundBy_41 ?_
      refine lv_iload C0.1 C0.2.1 dX8_foundBy_44 (lv_at hl 0 rfl) ?_
      obtain ⟨u24, hu24, h⟩ := bd_some h
      refine x_kl (r := u24) (x_runV (As := [.ref (aD G 3), .int u23]) (rest := [.long (v3 * (100 : Int64))]) C0 G0 hW (cX4_foundNow_met l hJ z σ 9 u23 _ hu24) (cwV 2 C0.2.2.2.1 gX8_foundBy_X4_foundNow rfl rfl rfl hdvX4_foundNow ⟨Nat.le_of_ble_eq_true rfl, Nat.le_of_ble_eq_true rfl⟩) (cX_X4 rfl) (by decide) rfl rfl rfl hl (Nat.le_of_ble_eq_true rfl) dX8_foundBy_46 ⟨Nat.le_refl 0, Nat.le_refl 0⟩) hW (fun H locs hW => ?_)
      refine lv_ldc2 (v := (10 : Int64)) C0.1 C0.2.1 C0.2.2.2.2.1 (C0.2.2.2.1 _ kcX8_foundBy_179) dX8_foundBy_49 ?_
      refine lv_lmul C0.1 C0.2.1 dX8_foundBy_52 ?_
      refine lv_ladd C0.1 C0.2.1 dX8_foundBy_53 ?_
      refine lv_lstore_n (lv' := [(3, .long ((v3 * (100 : Int64)) + (u24 * (10 : Int64)))), (6, .int u23), (0, .ref (aD G 0)), (1, .int v1), (2, .int v2), (5, .int v5)]) C0.1 C0.2.1 dX8_foundBy_54 rfl hl (by decide) rfl (fun ls hl => ?_)
      refine lv_aload_n C0.1 C0.2.1 dX8_foundBy_55 rfl (lv_at hl 2 rfl) ?_
      refine x_get (v := .ref (aD G 9)) C0 G0 hW (cX_X8 rfl) (by decide) rfl 3 (by decide) inX8_foundBy_X8 lkX8_foundBy_30 rfl dX8_foundBy_56 ?_
      refine lv_aload_n C0.1 C0.2.1 dX8_foundBy_59 rfl (lv_at hl 2 rfl) ?_
      refine x_get (v := .ref (aD G 3)) C0 G0 hW (cX_X8 rfl) (by decide) rfl 1 (by decide) inX8_foundBy_X8 lkX8_foundBy_19 rfl dX8_foundBy_60 ?_
      refine lv_iload C0.1 C0.2.1 dX8_foundBy_63 (lv_at hl 1 rfl) ?_
      obtain ⟨u25, hu25, h⟩ := bd_some h
      refine x_kv (x_runV (As := [.ref (aD G 3), .int u23]) (rest := []) C0 G0 hW (cX4_act_met l hJ z σ 9 u23 _ hu25) (cwV 2 C0.2.2.2.1 gX8_foundBy_X4_act rfl rfl rfl hdvX4_act ⟨Nat.le_of_ble_eq_true rfl, Nat.le_of_ble_eq_true rfl⟩) (cX_X4 rfl) (by decide) rfl rfl rfl hl (Nat.le_of_ble_eq_true rfl) dX8_foundBy_65 ⟨Nat.le_refl 0, Nat.le_refl 0⟩) hW (fun H locs hW => ?_)
      refine lv_iinc (v := (v5 + 1)) (lv' := [(5, .int (v5 + 1)), (3, .long ((v3 * (100 : Int64)) + (u24 * (10 : Int64)))), (6, .int u23), (0, .ref (aD G 0)), (1, .int v1), (2, .int v2)]) C0.1 C0.2.1 dX8_foundBy_68 hl (k := 5) rfl rfl (by decide) rfl (fun ls hl => ?_)
      refine lv_goto (tgt := 16) C0.1 C0.2.1 dX8_foundBy_71 (by decide) ?_
      exact hr16 u25 ((v3 * (100 : Int64)) + (u24 * (10 : Int64))) (v5 + 1) h _ _ _ hW (lv_sub hl [3, 4, 5, 1, 0] rfl)
set_option maxHeartbeats 4000000 in
set_option maxRecDepth 100000 in
theorem wX8_foundBy (C0 : Cx p s m args meth c cX8_foundBy RX8 7 (some .long) wsX8_foundBy) (G0 : Gx G s) (hJ : gJ 80 G) (z : Nat) (σ : ST) (v1 : Int32) (v2 : Int32) (res : (Int64 × ST)) (h : fX8_foundBy z σ v1 v2 = some res)  {H : Heap} {locs : List Loc} {ls : Array Slot} (hW : Wd cellX 80 G s.heap σ H locs) (hl : lv_has ls 7 [(0, .ref (aD G 0)), (1, .int v1), (2, .int v2)]) : W p l e rX8_foundBy s m args below meth c H locs 0 0 (MQ below (XQl cellX 80 G res.1 res.2) args s 0 0 (gA 80 G)) (F0 m 0 ls []) := by
  unfold fX8_foundBy at h
  refine lv_lconst (v := (0 : Int64)) C0.1 C0.2.1 dX8_foundBy_0 (by decide) ?_
  refine lv_lstore_n (lv' := [(3, .long (0 : Int64)), (0, .ref (aD G 0)), (1, .int v1), (2, .int v2)]) C0.1 C0.2.1 dX8_foundBy_1 rfl hl (by decide) rfl (fun ls hl => ?_)
  refine lv_aload_n C0.1 C0.2.1 dX8_foundBy_2 rfl (lv_at hl 1 rfl) ?_
  refine x_get (v := .ref (aD G 9)) C0 G0 hW (cX_X8 rfl) (by decide) rfl 3 (by decide) inX8_foundBy_X8 lkX8_foundBy_30 rfl dX8_foundBy_3 ?_
  refine lv_aload_n C0.1 C0.2.1 dX8_foundBy_6 rfl (lv_at hl 1 rfl) ?_
  refine x_get (v := .ref (aD G 5)) C0 G0 hW (cX_X8 rfl) (by decide) rfl 2 (by decide) inX8_foundBy_X8 lkX8_foundBy_26 rfl dX8_foundBy_7 ?_
  obtain ⟨u21, hu21, h⟩ := bd_some h
  refine x_kv (x_runV (As := [.ref (aD G 5)]) (rest := []) C0 G0 hW (cX4_copy_met l hJ z σ 9 5 _ hu21) (cwV 1 C0.2.2.2.1 gX8_foundBy_X4_copy rfl rfl rfl hdvX4_copy ⟨Nat.le_of_ble_eq_true rfl, Nat.le_of_ble_eq_true rfl⟩) (cX_X4 rfl) (by decide) rfl rfl rfl hl (Nat.le_of_ble_eq_true rfl) dX8_foundBy_10 ⟨Nat.le_refl 0, Nat.le_refl 0⟩) hW (fun H locs hW => ?_)
  refine lv_iconst (v := (0 : Int32)) C0.1 C0.2.1 dX8_foundBy_13 (by decide) ?_
  refine lv_istore (lv' := [(5, .int (0 : Int32)), (3, .long (0 : Int64)), (0, .ref (aD G 0)), (1, .int v1), (2, .int v2)]) C0.1 C0.2.1 dX8_foundBy_14 hl (by decide) rfl (fun ls hl => ?_)
  exact wX8_foundBy_16 C0 G0 hJ z v1 v2 z u21 (0 : Int64) (0 : Int32) _ h hW (lv_sub hl [2, 3, 4, 1, 0] rfl)
theorem cX8_foundBy_met (l : Launch) {G : GT} (hJ : gJ 80 G) (z : Nat) (σ : ST) (v1 : Int32) (v2 : Int32) (res : (Int64 × ST)) (h : fX8_foundBy z σ v1 v2 = some res) : Met l yX8_foundBy wsX8_foundBy rX8_foundBy (XPc cellX 80 G σ [.ref (aD G 0), .int v1, .int v2]) (XQl cellX 80 G res.1 res.2) 0 0 (gA 80 G) :=
  x_met (ret := (some .long)) (maxL := 7) (by decide) rfl (Nat.le_of_ble_eq_true rfl) (fun p e s m args below meth c H locs ls C0 G0 hW hl => wX8_foundBy C0 G0 hJ z σ v1 v2 res h hW hl)
end
/-! X8_by -/
def rX8_by : Room := { frames := 6, cells := 0, slots := 0, locals := 134 }
theorem hdvX8_by : yX8_by.cls = RX8 ∧ yX8_by.cls ≠ "java/lang/invoke/MethodHandle" ∧ yX8_by.cls ≠ "java/lang/invoke/VarHandle" ∧ (parseMethodDescriptor yX8_by.desc).map (fun d => d.parameters.length) = some 3 := by decide +kernel
theorem inX8_by_X8 : ∀ w ∈ u_ws RX8 TX8 10, w ∈ wsX8_by := by decide +kernel
theorem lkX8_by_26 : Cond.fieldLink RX8 26 (TX8 2).1 (TX8 2).2.1 (TX8 2).2.2.1 ∈ wsX8_by := by decide +kernel
theorem kcX8_by_156 : Cond.constantLong RX8 156 (100 : Int64) ∈ wsX8_by := by decide +kernel
theorem kcX8_by_136 : Cond.constantLong RX8 136 (-3 : Int64) ∈ wsX8_by := by decide +kernel
theorem kcX8_by_130 : Cond.constantLong RX8 130 (-2 : Int64) ∈ wsX8_by := by decide +kernel
def fX8_by_17 (z : Nat) (σ : ST) : Option (Int64 × ST) := some ((-2 : Int64), σ)
def fX8_by (z : Nat) (σ : ST) (v1 : Int32) (v2 : Int32) (v3 : Int32) : Option (Int64 × ST) := bd (fX8_isWithin z v1 (1 : Int32) (4 : Int32)) (fun u21 => (if u21 = 0 then fX8_by_17 z σ else bd (fX8_isRow z v1 v2) (fun u23 => (if u23 = 0 then fX8_by_17 z σ else bd (fX8_isLeft z σ v1) (fun u25 => (if u25 = 0 then some ((-3 : Int64), σ) else bd (fX8_foundBy z σ v1 v2) (fun u27 => bd (fX4_together z u27.2 5) (fun u28 => bd (fX8_power z (100 : Int64) v1) (fun u29 => bd (fX3_part z u27.1 (u28 * u29) v3) (fun u30 => some (u30, u27.2)))))))))))
section
variable {p : Program} {l : Launch} {e : Env} {s : State} {m : MethodId} {args : Array Value} {below : List Frame} {meth : Method} {c : Code} {G : GT}
set_option maxHeartbeats 4000000 in
set_option maxRecDepth 100000 in
theorem wX8_by_17 (C0 : Cx p s m args meth c cX8_by RX8 4 (some .long) wsX8_by) (G0 : Gx G s) (hJ : gJ 80 G) (z : Nat) (σ : ST) (res : (Int64 × ST)) (h : fX8_by_17 z σ = some res)  {H : Heap} {locs : List Loc} {ls : Array Slot} (hW : Wd cellX 80 G s.heap σ H locs) (hl : lv_has ls 4 []) : W p l e rX8_by s m args below meth c H locs 0 0 (MQ below (XQl cellX 80 G res.1 res.2) args s 0 0 (gA 80 G)) (F0 m 17 ls []) := by
  unfold fX8_by_17 at h
  refine lv_ldc2 (v := (-2 : Int64)) C0.1 C0.2.1 C0.2.2.2.2.1 (C0.2.2.2.1 _ kcX8_by_130) dX8_by_17 ?_
  cases h
  exact x_lret C0 hW dX8_by_20
set_option maxHeartbeats 4000000 in
set_option maxRecDepth 100000 in
theorem wX8_by (C0 : Cx p s m args meth c cX8_by RX8 4 (some .long) wsX8_by) (G0 : Gx G s) (hJ : gJ 80 G) (z : Nat) (σ : ST) (v1 : Int32) (v2 : Int32) (v3 : Int32) (res : (Int64 × ST)) (h : fX8_by z σ v1 v2 v3 = some res)  {H : Heap} {locs : List Loc} {ls : Array Slot} (hW : Wd cellX 80 G s.heap σ H locs) (hl : lv_has ls 4 [(0, .ref (aD G 0)), (1, .int v1), (2, .int v2), (3, .int v3)]) : W p l e rX8_by s m args below meth c H locs 0 0 (MQ below (XQl cellX 80 G res.1 res.2) args s 0 0 (gA 80 G)) (F0 m 0 ls []) := by
  unfold fX8_by at h
  refine lv_iload_n C0.1 C0.2.1 dX8_by_0 rfl (lv_at hl 1 rfl) ?_
  refine lv_iconst (v := (1 : Int32)) C0.1 C0.2.1 dX8_by_1 (by decide) ?_
  refine lv_iconst (v := (4 : Int32)) C0.1 C0.2.1 dX8_by_2 (by decide) ?_
  obtain ⟨u21, hu21, h⟩ := bd_some h
  refine x_ki (r := u21) (x_runS (As := [.int v1, .int (1 : Int32), .int (4 : Int32)]) (rest := []) C0 G0 hW (cX8_isWithin_met l hJ z σ v1 (1 : Int32) (4 : Int32) _ hu21) (va_cwS 3 C0.2.2.2.1 gX8_by_X8_isWithin rfl rfl rfl hdsX8_isWithin ⟨Nat.le_of_ble_eq_true rfl, Nat.le_of_ble_eq_true rfl⟩) rfl rfl hl (Nat.le_of_ble_eq_true rfl) dX8_by_3 ⟨Nat.le_refl 0, Nat.le_refl 0⟩) hW (fun H locs hW => ?_)
  refine lv_if_eq (tgt := 17) C0.1 C0.2.1 dX8_by_6 (by decide) (fun c22 => ?_) (fun c22 => ?_)
  · rw [if_pos c22] at h
    exact wX8_by_17 C0 G0 hJ z σ _ h hW (lv_sub hl [] rfl)
  · rw [if_neg c22] at h
    refine lv_iload_n C0.1 C0.2.1 dX8_by_9 rfl (lv_at hl 1 rfl) ?_
    refine lv_iload_n C0.1 C0.2.1 dX8_by_10 rfl (lv_at hl 2 rfl) ?_
    obtain ⟨u23, hu23, h⟩ := bd_some h
    refine x_ki (r := u23) (x_runS (As := [.int v1, .int v2]) (rest := []) C0 G0 hW (cX8_isRow_met l hJ z σ v1 v2 _ hu23) (va_cwS 2 C0.2.2.2.1 gX8_by_X8_isRow rfl rfl rfl hdsX8_isRow ⟨Nat.le_of_ble_eq_true rfl, Nat.le_of_ble_eq_true rfl⟩) rfl rfl hl (Nat.le_of_ble_eq_true rfl) dX8_by_11 ⟨Nat.le_refl 0, Nat.le_refl 0⟩) hW (fun H locs hW => ?_)
    refine lv_if_ne (tgt := 21) C0.1 C0.2.1 dX8_by_14 (by decide) (fun c24 => ?_) (fun c24 => ?_)
    · rw [if_neg c24] at h
      refine lv_aload_n C0.1 C0.2.1 dX8_by_21 rfl (lv_at hl 0 rfl) ?_
      refine lv_iload_n C0.1 C0.2.1 dX8_by_22 rfl (lv_at hl 1 rfl) ?_
      obtain ⟨u25, hu25, h⟩ := bd_some h
      refine x_ki (r := u25) (x_runV (As := [.int v1]) (rest := []) C0 G0 hW (cX8_isLeft_met l hJ z σ v1 _ hu25) (cwV 1 C0.2.2.2.1 gX8_by_X8_isLeft rfl rfl rfl hdvX8_isLeft ⟨Nat.le_of_ble_eq_true rfl, Nat.le_of_ble_eq_true rfl⟩) (cX_X8 rfl) (by decide) rfl rfl rfl hl (Nat.le_of_ble_eq_true rfl) dX8_by_23 ⟨Nat.le_refl 0, Nat.le_refl 0⟩) hW (fun H locs hW => ?_)
      refine lv_if_ne (tgt := 33) C0.1 C0.2.1 dX8_by_26 (by decide) (fun c26 => ?_) (fun c26 => ?_)
      · rw [if_neg c26] at h
        refine lv_aload_n C0.1 C0.2.1 dX8_by_33 rfl (lv_at hl 0 rfl) ?_
        refine lv_iload_n C0.1 C0.2.1 dX8_by_34 rfl (lv_at hl 1 rfl) ?_
        refine lv_iload_n C0.1 C0.2.1 dX8_by_35 rfl (lv_at hl 2 rfl) ?_
        obtain ⟨u27, hu27, h⟩ := bd_some h
        refine x_kl (r := u27.1) (x_runV (As := [.int v1, .int v2]) (rest := []) C0 G0 hW (cX8_foundBy_met l hJ z σ v1 v2 _ hu27) (cwV 2 C0.2.2.2.1 gX8_by_X8_foundBy rfl rfl rfl hdvX8_foundBy ⟨Nat.le_of_ble_eq_true rfl, Nat.le_of_ble_eq_true rfl⟩) (cX_X8 rfl) (by decide) rfl rfl rfl hl (Nat.le_of_ble_eq_true rfl) dX8_by_36 ⟨Nat.le_refl 0, Nat.le_refl 0⟩) hW (fun H locs hW => ?_)
        refine lv_aload_n C0.1 C0.2.1 dX8_by_39 rfl (lv_at hl 0 rfl) ?_
        refine x_get (v := .ref (aD G 5)) C0 G0 hW (cX_X8 rfl) (by decide) rfl 2 (by decide) inX8_by_X8 lkX8_by_26 rfl dX8_by_40 ?_
        obtain ⟨u28, hu28, h⟩ := bd_some h
        refine x_kl (r := u28) (x_runV (As := []) (rest := [.long u27.1]) C0 G0 hW (cX4_together_met l hJ z u27.2 5 _ hu28) (cwV 0 C0.2.2.2.1 gX8_by_X4_together rfl rfl rfl hdvX4_together ⟨Nat.le_of_ble_eq_true rfl, Nat.le_of_ble_eq_true rfl⟩) (cX_X4 rfl) (by decide) rfl rfl rfl hl (Nat.le_of_ble_eq_true rfl) dX8_by_43 ⟨Nat.le_refl 0, Nat.le_refl 0⟩) hW (fun H locs hW => ?_)
        refine lv_ldc2 (v := (100 : Int64)) C0.1 C0.2.1 C0.2.2.2.2.1 (C0.2.2.2.1 _ kcX8_by_156) dX8_by_46 ?_
        refine lv_iload_n C0.1 C0.2.1 dX8_by_49 rfl (lv_at hl 1 rfl) ?_
        obtain ⟨u29, hu29, h⟩ := bd_some h
        refine x_kl (r := u29) (x_runS (As := [.long (100 : Int64), .int v1]) (rest := [.long u28, .long u27.1]) C0 G0 hW (cX8_power_met l hJ z u27.2 (100 : Int64) v1 _ hu29) (va_cwS 2 C0.2.2.2.1 gX8_by_X8_power rfl rfl rfl hdsX8_power ⟨Nat.le_of_ble_eq_true rfl, Nat.le_of_ble_eq_true rfl⟩) rfl rfl hl (Nat.le_of_ble_eq_true rfl) dX8_by_50 ⟨Nat.le_refl 0, Nat.le_refl 0⟩) hW (fun H locs hW => ?_)
        refine lv_lmul C0.1 C0.2.1 dX8_by_53 ?_
        refine lv_iload_n C0.1 C0.2.1 dX8_by_54 rfl (lv_at hl 3 rfl) ?_
        obtain ⟨u30, hu30, h⟩ := bd_some h
        refine x_kl (r := u30) (x_runS (As := [.long u27.1, .long (u28 * u29), .int v3]) (rest := []) C0 G0 hW (cX3_part_met l hJ z u27.2 u27.1 (u28 * u29) v3 _ hu30) (va_cwS 3 C0.2.2.2.1 gX8_by_X3_part rfl rfl rfl hdsX3_part ⟨Nat.le_of_ble_eq_true rfl, Nat.le_of_ble_eq_true rfl⟩) rfl rfl hl (Nat.le_of_ble_eq_true rfl) dX8_by_55 ⟨Nat.le_refl 0, Nat.le_refl 0⟩) hW (fun H locs hW => ?_)
        cases h
        exact x_lret C0 hW dX8_by_58
      · rw [if_pos c26] at h
        refine lv_ldc2 (v := (-3 : Int64)) C0.1 C0.2.1 C0.2.2.2.2.1 (C0.2.2.2.1 _ kcX8_by_136) dX8_by_29 ?_
        cases h
        exact x_lret C0 hW dX8_by_32
    · rw [if_pos c24] at h
      exact wX8_by_17 C0 G0 hJ z σ _ h hW (lv_sub hl [] rfl)
theorem cX8_by_met (l : Launch) {G : GT} (hJ : gJ 80 G) (z : Nat) (σ : ST) (v1 : Int32) (v2 : Int32) (v3 : Int32) (res : (Int64 × ST)) (h : fX8_by z σ v1 v2 v3 = some res) : Met l yX8_by wsX8_by rX8_by (XPc cellX 80 G σ [.ref (aD G 0), .int v1, .int v2, .int v3]) (XQl cellX 80 G res.1 res.2) 0 0 (gA 80 G) :=
  x_met (ret := (some .long)) (maxL := 4) (by decide) rfl (Nat.le_of_ble_eq_true rfl) (fun p e s m args below meth c H locs ls C0 G0 hW hl => wX8_by C0 G0 hJ z σ v1 v2 v3 res h hW hl)
end
/-! X8_count -/
def rX8_count : Room := { frames := 2, cells := 0, slots := 0, locals := 43 }
theorem hdvX8_count : yX8_count.cls = RX8 ∧ yX8_count.cls ≠ "java/lang/invoke/MethodHandle" ∧ yX8_count.cls ≠ "java/lang/invoke/VarHandle" ∧ (parseMethodDescriptor yX8_count.desc).map (fun d => d.parameters.length) = some 1 := by decide +kernel
theorem inX8_count_X8 : ∀ w ∈ u_ws RX8 TX8 10, w ∈ wsX8_count := by decide +kernel
theorem lkX8_count_10 : Cond.fieldLink RX8 10 (TX8 0).1 (TX8 0).2.1 (TX8 0).2.2.1 ∈ wsX8_count := by decide +kernel
theorem lkX8_count_19 : Cond.fieldLink RX8 19 (TX8 1).1 (TX8 1).2.1 (TX8 1).2.2.1 ∈ wsX8_count := by decide +kernel
theorem inX8_count_X7 : ∀ w ∈ u_ws RX7 TX7 9, w ∈ wsX8_count := by decide +kernel
theorem nfX8_count_240 : (RX8, 240, (TX7 0).1, (TX7 0).2.1, (TX7 0).2.2.1) ∈ nwF := by decide +kernel
theorem nfX8_count_243 : (RX8, 243, (TX7 1).1, (TX7 1).2.1, (TX7 1).2.2.1) ∈ nwF := by decide +kernel
theorem nfX8_count_246 : (RX8, 246, (TX7 2).1, (TX7 2).2.1, (TX7 2).2.2.1) ∈ nwF := by decide +kernel
theorem nfX8_count_249 : (RX8, 249, (TX7 3).1, (TX7 3).2.1, (TX7 3).2.2.1) ∈ nwF := by decide +kernel
theorem nfX8_count_99 : (RX8, 99, (TX7 5).1, (TX7 5).2.1, (TX7 5).2.2.1) ∈ nwF := by decide +kernel
theorem lkX8_count_26 : Cond.fieldLink RX8 26 (TX8 2).1 (TX8 2).2.1 (TX8 2).2.2.1 ∈ wsX8_count := by decide +kernel
theorem inX8_count_X4 : ∀ w ∈ u_ws RX4 TX4 6, w ∈ wsX8_count := by decide +kernel
theorem nfX8_count_109 : (RX8, 109, (TX4 3).1, (TX4 3).2.1, (TX4 3).2.2.1) ∈ nwF := by decide +kernel
theorem nfX8_count_96 : (RX8, 96, (TX4 4).1, (TX4 4).2.1, (TX4 4).2.2.1) ∈ nwF := by decide +kernel
theorem nfX8_count_115 : (RX8, 115, (TX4 5).1, (TX4 5).2.1, (TX4 5).2.2.1) ∈ nwF := by decide +kernel
theorem lkX8_count_86 : Cond.fieldLink RX8 86 (TX8 9).1 (TX8 9).2.1 (TX8 9).2.2.1 ∈ wsX8_count := by decide +kernel
theorem nfX8_count_188 : (RX8, 188, (TX7 6).1, (TX7 6).2.1, (TX7 6).2.2.1) ∈ nwF := by decide +kernel
def fX8_count (z : Nat) (σ : ST) (v1 : Int32) : Option Int32 := (if v1 = (0 : Int32) then bd (fX6_size z σ) (fun u22 => some u22) else (if v1 = (1 : Int32) then some (σ.1 3 0) else (if v1 = (2 : Int32) then some (σ.1 3 1) else (if v1 = (3 : Int32) then some (σ.1 3 2) else (if v1 = (4 : Int32) then some (σ.1 3 3) else (if v1 = (5 : Int32) then some (σ.1 3 5) else (if v1 = (6 : Int32) then some (σ.1 5 3) else (if v1 = (7 : Int32) then some (σ.1 5 4) else (if v1 = (8 : Int32) then some (σ.1 5 5) else (if v1 = (9 : Int32) then some (σ.1 0 9) else (if v1 = (10 : Int32) then bd (fX4_cellBits z σ 5) (fun u33 => some u33) else (if v1 = (11 : Int32) then some (σ.1 3 6) else some (-2 : Int32)))))))))))))
section
variable {p : Program} {l : Launch} {e : Env} {s : State} {m : MethodId} {args : Array Value} {below : List Frame} {meth : Method} {c : Code} {G : GT}
set_option maxHeartbeats 4000000 in
set_option maxRecDepth 100000 in
theorem wX8_count (C0 : Cx p s m args meth c cX8_count RX8 2 (some .int) wsX8_count) (G0 : Gx G s) (hJ : gJ 80 G) (z : Nat) (σ : ST) (v1 : Int32) (res : Int32) (h : fX8_count z σ v1 = some res)  {H : Heap} {locs : List Loc} {ls : Array Slot} (hW : Wd cellX 80 G s.heap σ H locs) (hl : lv_has ls 2 [(0, .ref (aD G 0)), (1, .int v1)]) : W p l e rX8_count s m args below meth c H locs 0 0 (MQ below (XQi cellX 80 G res σ) args s 0 0 (gA 80 G)) (F0 m 0 ls []) := by
  unfold fX8_count at h
  refine lv_iload_n C0.1 C0.2.1 dX8_count_0 rfl (lv_at hl 1 rfl) ?_
  by_cases c21 : v1 = (0 : Int32)
  · rw [if_pos c21] at h
    refine lv_tableIn (tgt := 64) C0.1 C0.2.1 dX8_count_1 (by rw [c21]; decide) (by rw [c21]; decide) (by rw [c21]; rfl) (by decide) ?_
    refine lv_aload_n C0.1 C0.2.1 dX8_count_64 rfl (lv_at hl 0 rfl) ?_
    refine x_get (v := .ref (aD G 1)) C0 G0 hW (cX_X8 rfl) (by decide) rfl 0 (by decide) inX8_count_X8 lkX8_count_10 rfl dX8_count_65 ?_
    obtain ⟨u22, hu22, h⟩ := bd_some h
    refine x_ki (r := u22) (x_runV (As := []) (rest := []) C0 G0 hW (cX6_size_met l hJ z σ _ hu22) (cwV 0 C0.2.2.2.1 gX8_count_X6_size rfl rfl rfl hdvX6_size ⟨Nat.le_of_ble_eq_true rfl, Nat.le_of_ble_eq_true rfl⟩) (cX_X6 rfl) (by decide) rfl rfl rfl hl (Nat.le_of_ble_eq_true rfl) dX8_count_68 ⟨Nat.le_refl 0, Nat.le_refl 0⟩) hW (fun H locs hW => ?_)
    cases h
    exact x_iret C0 hW dX8_count_71
  rw [if_neg c21] at h
  by_cases c23 : v1 = (1 : Int32)
  · rw [if_pos c23] at h
    refine lv_tableIn (tgt := 72) C0.1 C0.2.1 dX8_count_1 (by rw [c23]; decide) (by rw [c23]; decide) (by rw [c23]; rfl) (by decide) ?_
    refine lv_aload_n C0.1 C0.2.1 dX8_count_72 rfl (lv_at hl 0 rfl) ?_
    refine x_get (v := .ref (aD G 3)) C0 G0 hW (cX_X8 rfl) (by decide) rfl 1 (by decide) inX8_count_X8 lkX8_count_19 rfl dX8_count_73 ?_
    refine x_getN (v := .int (σ.1 3 0)) C0 G0 hW (cX_X7 rfl) (by decide) rfl 0 (by decide) inX8_count_X7 nfX8_count_240 rfl dX8_count_76 ?_
    cases h
    exact x_iret C0 hW dX8_count_79
  rw [if_neg c23] at h
  by_cases c24 : v1 = (2 : Int32)
  · rw [if_pos c24] at h
    refine lv_tableIn (tgt := 80) C0.1 C0.2.1 dX8_count_1 (by rw [c24]; decide) (by rw [c24]; decide) (by rw [c24]; rfl) (by decide) ?_
    refine lv_aload_n C0.1 C0.2.1 dX8_count_80 rfl (lv_at hl 0 rfl) ?_
    refine x_get (v := .ref (aD G 3)) C0 G0 hW (cX_X8 rfl) (by decide) rfl 1 (by decide) inX8_count_X8 lkX8_count_19 rfl dX8_count_81 ?_
    refine x_getN (v := .int (σ.1 3 1)) C0 G0 hW (cX_X7 rfl) (by decide) rfl 1 (by decide) inX8_count_X7 nfX8_count_243 rfl dX8_count_84 ?_
    cases h
    exact x_iret C0 hW dX8_count_87
  rw [if_neg c24] at h
  by_cases c25 : v1 = (3 : Int32)
  · rw [if_pos c25] at h
    refine lv_tableIn (tgt := 88) C0.1 C0.2.1 dX8_count_1 (by rw [c25]; decide) (by rw [c25]; decide) (by rw [c25]; rfl) (by decide) ?_
    refine lv_aload_n C0.1 C0.2.1 dX8_count_88 rfl (lv_at hl 0 rfl) ?_
    refine x_get (v := .ref (aD G 3)) C0 G0 hW (cX_X8 rfl) (by decide) rfl 1 (by decide) inX8_count_X8 lkX8_count_19 rfl dX8_count_89 ?_
    refine x_getN (v := .int (σ.1 3 2)) C0 G0 hW (cX_X7 rfl) (by decide) rfl 2 (by decide) inX8_count_X7 nfX8_count_246 rfl dX8_count_92 ?_
    cases h
    exact x_iret C0 hW dX8_count_95
  rw [if_neg c25] at h
  by_cases c26 : v1 = (4 : Int32)
  · rw [if_pos c26] at h
    refine lv_tableIn (tgt := 96) C0.1 C0.2.1 dX8_count_1 (by rw [c26]; decide) (by rw [c26]; decide) (by rw [c26]; rfl) (by decide) ?_
    refine lv_aload_n C0.1 C0.2.1 dX8_count_96 rfl (lv_at hl 0 rfl) ?_
    refine x_get (v := .ref (aD G 3)) C0 G0 hW (cX_X8 rfl) (by decide) rfl 1 (by decide) inX8_count_X8 lkX8_count_19 rfl dX8_count_97 ?_
    refine x_getN (v := .int (σ.1 3 3)) C0 G0 hW (cX_X7 rfl) (by decide) rfl 3 (by decide) inX8_count_X7 nfX8_count_249 rfl dX8_count_100 ?_
    cases h
    exact x_iret C0 hW dX8_count_103
  rw [if_neg c26] at h
  by_cases c27 : v1 = (5 : Int32)
  · rw [if_pos c27] at h
    refine lv_tableIn (tgt := 104) C0.1 C0.2.1 dX8_count_1 (by rw [c27]; decide) (by rw [c27]; decide) (by rw [c27]; rfl) (by decide) ?_
    refine lv_aload_n C0.1 C0.2.1 dX8_count_104 rfl (lv_at hl 0 rfl) ?_
    refine x_get (v := .ref (aD G 3)) C0 G0 hW (cX_X8 rfl) (by decide) rfl 1 (by decide) inX8_count_X8 lkX8_count_19 rfl dX8_count_105 ?_
    refine x_getN (v := .int (σ.1 3 5)) C0 G0 hW (cX_X7 rfl) (by decide) rfl 5 (by decide) inX8_count_X7 nfX8_count_99 rfl dX8_count_108 ?_
    cases h
    exact x_iret C0 hW dX8_count_111
  rw [if_neg c27] at h
  by_cases c28 : v1 = (6 : Int32)
  · rw [if_pos c28] at h
    refine lv_tableIn (tgt := 112) C0.1 C0.2.1 dX8_count_1 (by rw [c28]; decide) (by rw [c28]; decide) (by rw [c28]; rfl) (by decide) ?_
    refine lv_aload_n C0.1 C0.2.1 dX8_count_112 rfl (lv_at hl 0 rfl) ?_
    refine x_get (v := .ref (aD G 5)) C0 G0 hW (cX_X8 rfl) (by decide) rfl 2 (by decide) inX8_count_X8 lkX8_count_26 rfl dX8_count_113 ?_
    refine x_getN (v := .int (σ.1 5 3)) C0 G0 hW (cX_X4 rfl) (by decide) rfl 3 (by decide) inX8_count_X4 nfX8_count_109 rfl dX8_count_116 ?_
    cases h
    exact x_iret C0 hW dX8_count_119
  rw [if_neg c28] at h
  by_cases c29 : v1 = (7 : Int32)
  · rw [if_pos c29] at h
    refine lv_tableIn (tgt := 120) C0.1 C0.2.1 dX8_count_1 (by rw [c29]; decide) (by rw [c29]; decide) (by rw [c29]; rfl) (by decide) ?_
    refine lv_aload_n C0.1 C0.2.1 dX8_count_120 rfl (lv_at hl 0 rfl) ?_
    refine x_get (v := .ref (aD G 5)) C0 G0 hW (cX_X8 rfl) (by decide) rfl 2 (by decide) inX8_count_X8 lkX8_count_26 rfl dX8_count_121 ?_
    refine x_getN (v := .int (σ.1 5 4)) C0 G0 hW (cX_X4 rfl) (by decide) rfl 4 (by decide) inX8_count_X4 nfX8_count_96 rfl dX8_count_124 ?_
    cases h
    exact x_iret C0 hW dX8_count_127
  rw [if_neg c29] at h
  by_cases c30 : v1 = (8 : Int32)
  · rw [if_pos c30] at h
    refine lv_tableIn (tgt := 128) C0.1 C0.2.1 dX8_count_1 (by rw [c30]; decide) (by rw [c30]; decide) (by rw [c30]; rfl) (by decide) ?_
    refine lv_aload_n C0.1 C0.2.1 dX8_count_128 rfl (lv_at hl 0 rfl) ?_
    refine x_get (v := .ref (aD G 5)) C0 G0 hW (cX_X8 rfl) (by decide) rfl 2 (by decide) inX8_count_X8 lkX8_count_26 rfl dX8_count_129 ?_
    refine x_getN (v := .int (σ.1 5 5)) C0 G0 hW (cX_X4 rfl) (by decide) rfl 5 (by decide) inX8_count_X4 nfX8_count_115 rfl dX8_count_132 ?_
    cases h
    exact x_iret C0 hW dX8_count_135
  rw [if_neg c30] at h
  by_cases c31 : v1 = (9 : Int32)
  · rw [if_pos c31] at h
    refine lv_tableIn (tgt := 136) C0.1 C0.2.1 dX8_count_1 (by rw [c31]; decide) (by rw [c31]; decide) (by rw [c31]; rfl) (by decide) ?_
    refine lv_aload_n C0.1 C0.2.1 dX8_count_136 rfl (lv_at hl 0 rfl) ?_
    refine x_get (v := .int (σ.1 0 9)) C0 G0 hW (cX_X8 rfl) (by decide) rfl 9 (by decide) inX8_count_X8 lkX8_count_86 rfl dX8_count_137 ?_
    cases h
    exact x_iret C0 hW dX8_count_140
  rw [if_neg c31] at h
  by_cases c32 : v1 = (10 : Int32)
  · rw [if_pos c32] at h
    refine lv_tableIn (tgt := 141) C0.1 C0.2.1 dX8_count_1 (by rw [c32]; decide) (by rw [c32]; decide) (by rw [c32]; rfl) (by decide) ?_
    refine lv_aload_n C0.1 C0.2.1 dX8_count_141 rfl (lv_at hl 0 rfl) ?_
    refine x_get (v := .ref (aD G 5)) C0 G0 hW (cX_X8 rfl) (by decide) rfl 2 (by decide) inX8_count_X8 lkX8_count_26 rfl dX8_count_142 ?_
    obtain ⟨u33, hu33, h⟩ := bd_some h
    refine x_ki (r := u33) (x_runV (As := []) (rest := []) C0 G0 hW (cX4_cellBits_met l hJ z σ 5 _ hu33) (cwV 0 C0.2.2.2.1 gX8_count_X4_cellBits rfl rfl rfl hdvX4_cellBits ⟨Nat.le_of_ble_eq_true rfl, Nat.le_of_ble_eq_true rfl⟩) (cX_X4 rfl) (by decide) rfl rfl rfl hl (Nat.le_of_ble_eq_true rfl) dX8_count_145 ⟨Nat.le_refl 0, Nat.le_refl 0⟩) hW (fun H locs hW => ?_)
    cases h
    exact x_iret C0 hW dX8_count_148
  rw [if_neg c32] at h
  by_cases c34 : v1 = (11 : Int32)
  · rw [if_pos c34] at h
    refine lv_tableIn (tgt := 149) C0.1 C0.2.1 dX8_count_1 (by rw [c34]; decide) (by rw [c34]; decide) (by rw [c34]; rfl) (by decide) ?_
    refine lv_aload_n C0.1 C0.2.1 dX8_count_149 rfl (lv_at hl 0 rfl) ?_
    refine x_get (v := .ref (aD G 3)) C0 G0 hW (cX_X8 rfl) (by decide) rfl 1 (by decide) inX8_count_X8 lkX8_count_19 rfl dX8_count_150 ?_
    refine x_getN (v := .int (σ.1 3 6)) C0 G0 hW (cX_X7 rfl) (by decide) rfl 6 (by decide) inX8_count_X7 nfX8_count_188 rfl dX8_count_153 ?_
    cases h
    exact x_iret C0 hW dX8_count_156
  rw [if_neg c34] at h
  refine lv_tableOut (tgt := 157) C0.1 C0.2.1 dX8_count_1 (by have := i32_ne c21; have := i32_ne c23; have := i32_ne c24; have := i32_ne c25; have := i32_ne c26; have := i32_ne c27; have := i32_ne c28; have := i32_ne c29; have := i32_ne c30; have := i32_ne c31; have := i32_ne c32; have := i32_ne c34; simp only [Int32.reduceToInt] at *; omega) (by decide) ?_
  refine lv_bipush (v := (-2 : Int32)) C0.1 C0.2.1 dX8_count_157 (by decide) ?_
  cases h
  exact x_iret C0 hW dX8_count_159
theorem cX8_count_met (l : Launch) {G : GT} (hJ : gJ 80 G) (z : Nat) (σ : ST) (v1 : Int32) (res : Int32) (h : fX8_count z σ v1 = some res) : Met l yX8_count wsX8_count rX8_count (XPc cellX 80 G σ [.ref (aD G 0), .int v1]) (XQi cellX 80 G res σ) 0 0 (gA 80 G) :=
  x_met (ret := (some .int)) (maxL := 2) (by decide) rfl (Nat.le_of_ble_eq_true rfl) (fun p e s m args below meth c H locs ls C0 G0 hW hl => wX8_count C0 G0 hJ z σ v1 res h hW hl)
end
/-! X8_fault -/
def rX8_fault : Room := { frames := 4, cells := 0, slots := 0, locals := 87 }
theorem hdvX8_fault : yX8_fault.cls = RX8 ∧ yX8_fault.cls ≠ "java/lang/invoke/MethodHandle" ∧ yX8_fault.cls ≠ "java/lang/invoke/VarHandle" ∧ (parseMethodDescriptor yX8_fault.desc).map (fun d => d.parameters.length) = some 0 := by decide +kernel
theorem inX8_fault_X8 : ∀ w ∈ u_ws RX8 TX8 10, w ∈ wsX8_fault := by decide +kernel
theorem lkX8_fault_10 : Cond.fieldLink RX8 10 (TX8 0).1 (TX8 0).2.1 (TX8 0).2.2.1 ∈ wsX8_fault := by decide +kernel
def fX8_fault (z : Nat) (σ : ST) : Option (Int32 × ST) := bd (fX6_firstFault z σ) (fun u21 => some (u21.1, u21.2))
section
variable {p : Program} {l : Launch} {e : Env} {s : State} {m : MethodId} {args : Array Value} {below : List Frame} {meth : Method} {c : Code} {G : GT}
set_option maxHeartbeats 4000000 in
set_option maxRecDepth 100000 in
theorem wX8_fault (C0 : Cx p s m args meth c cX8_fault RX8 1 (some .int) wsX8_fault) (G0 : Gx G s) (hJ : gJ 80 G) (z : Nat) (σ : ST) (res : (Int32 × ST)) (h : fX8_fault z σ = some res)  {H : Heap} {locs : List Loc} {ls : Array Slot} (hW : Wd cellX 80 G s.heap σ H locs) (hl : lv_has ls 1 [(0, .ref (aD G 0))]) : W p l e rX8_fault s m args below meth c H locs 0 0 (MQ below (XQi cellX 80 G res.1 res.2) args s 0 0 (gA 80 G)) (F0 m 0 ls []) := by
  unfold fX8_fault at h
  refine lv_aload_n C0.1 C0.2.1 dX8_fault_0 rfl (lv_at hl 0 rfl) ?_
  refine x_get (v := .ref (aD G 1)) C0 G0 hW (cX_X8 rfl) (by decide) rfl 0 (by decide) inX8_fault_X8 lkX8_fault_10 rfl dX8_fault_1 ?_
  obtain ⟨u21, hu21, h⟩ := bd_some h
  refine x_ki (r := u21.1) (x_runV (As := []) (rest := []) C0 G0 hW (cX6_firstFault_met l hJ z σ _ hu21) (cwV 0 C0.2.2.2.1 gX8_fault_X6_firstFault rfl rfl rfl hdvX6_firstFault ⟨Nat.le_of_ble_eq_true rfl, Nat.le_of_ble_eq_true rfl⟩) (cX_X6 rfl) (by decide) rfl rfl rfl hl (Nat.le_of_ble_eq_true rfl) dX8_fault_4 ⟨Nat.le_refl 0, Nat.le_refl 0⟩) hW (fun H locs hW => ?_)
  cases h
  exact x_iret C0 hW dX8_fault_7
theorem cX8_fault_met (l : Launch) {G : GT} (hJ : gJ 80 G) (z : Nat) (σ : ST)  (res : (Int32 × ST)) (h : fX8_fault z σ = some res) : Met l yX8_fault wsX8_fault rX8_fault (XPc cellX 80 G σ [.ref (aD G 0)]) (XQi cellX 80 G res.1 res.2) 0 0 (gA 80 G) :=
  x_met (ret := (some .int)) (maxL := 1) (by decide) rfl (Nat.le_of_ble_eq_true rfl) (fun p e s m args below meth c H locs ls C0 G0 hW hl => wX8_fault C0 G0 hJ z σ res h hW hl)
end
/-! X8_first -/
def rX8_first : Room := { frames := 16, cells := 0, slots := 0, locals := 462 }
theorem hdvX8_first : yX8_first.cls = RX8 ∧ yX8_first.cls ≠ "java/lang/invoke/MethodHandle" ∧ yX8_first.cls ≠ "java/lang/invoke/VarHandle" ∧ (parseMethodDescriptor yX8_first.desc).map (fun d => d.parameters.length) = some 2 := by decide +kernel
theorem inX8_first_X8 : ∀ w ∈ u_ws RX8 TX8 10, w ∈ wsX8_first := by decide +kernel
theorem lkX8_first_48 : Cond.fieldLink RX8 48 (TX8 6).1 (TX8 6).2.1 (TX8 6).2.2.1 ∈ wsX8_first := by decide +kernel
theorem lkX8_first_19 : Cond.fieldLink RX8 19 (TX8 1).1 (TX8 1).2.1 (TX8 1).2.2.1 ∈ wsX8_first := by decide +kernel
theorem lkX8_first_26 : Cond.fieldLink RX8 26 (TX8 2).1 (TX8 2).2.1 (TX8 2).2.2.1 ∈ wsX8_first := by decide +kernel
theorem inX8_first_X0 : ∀ w ∈ u_ws RX0 TX0 5, w ∈ wsX8_first := by decide +kernel
theorem nfX8_first_181 : (RX8, 181, (TX0 2).1, (TX0 2).2.1, (TX0 2).2.2.1) ∈ nwF := by decide +kernel
theorem inX8_first_X1 : ∀ w ∈ u_ws RX1 TX1 2, w ∈ wsX8_first := by decide +kernel
theorem nfX8_first_170 : (RX8, 170, (TX1 0).1, (TX1 0).2.1, (TX1 0).2.2.1) ∈ nwF := by decide +kernel
theorem nfX8_first_185 : (RX8, 185, (TX0 1).1, (TX0 1).2.1, (TX0 1).2.2.1) ∈ nwF := by decide +kernel
theorem kcX8_first_156 : Cond.constantLong RX8 156 (100 : Int64) ∈ wsX8_first := by decide +kernel
theorem kcX8_first_136 : Cond.constantLong RX8 136 (-3 : Int64) ∈ wsX8_first := by decide +kernel
theorem kcX8_first_130 : Cond.constantLong RX8 130 (-2 : Int64) ∈ wsX8_first := by decide +kernel
def fX8_first (z : Nat) (σ : ST) (v1 : Int32) (v2 : Int32) : Option (Int64 × ST) := bd (fX8_isWithin z v1 (1 : Int32) (4 : Int32)) (fun u21 => (if u21 = 0 then some ((-2 : Int64), σ) else bd (fX8_isLeft z σ v1) (fun u23 => (if u23 = 0 then some ((-3 : Int64), σ) else bd (fX0_tryAll z σ 5 v1) (fun u25 => bd (fX4_together z u25 5) (fun u26 => bd (fX8_power z (100 : Int64) v1) (fun u27 => bd (fX3_part z ((u25.2 77 0) - (u25.2 76 0)) (u26 * u27) v2) (fun u28 => some (u28, u25)))))))))
section
variable {p : Program} {l : Launch} {e : Env} {s : State} {m : MethodId} {args : Array Value} {below : List Frame} {meth : Method} {c : Code} {G : GT}
set_option maxHeartbeats 4000000 in
set_option maxRecDepth 100000 in
theorem wX8_first (C0 : Cx p s m args meth c cX8_first RX8 3 (some .long) wsX8_first) (G0 : Gx G s) (hJ : gJ 80 G) (z : Nat) (σ : ST) (v1 : Int32) (v2 : Int32) (res : (Int64 × ST)) (h : fX8_first z σ v1 v2 = some res)  {H : Heap} {locs : List Loc} {ls : Array Slot} (hW : Wd cellX 80 G s.heap σ H locs) (hl : lv_has ls 3 [(0, .ref (aD G 0)), (1, .int v1), (2, .int v2)]) : W p l e rX8_first s m args below meth c H locs 0 0 (MQ below (XQl cellX 80 G res.1 res.2) args s 0 0 (gA 80 G)) (F0 m 0 ls []) := by
  unfold fX8_first at h
  refine lv_iload_n C0.1 C0.2.1 dX8_first_0 rfl (lv_at hl 1 rfl) ?_
  refine lv_iconst (v := (1 : Int32)) C0.1 C0.2.1 dX8_first_1 (by decide) ?_
  refine lv_iconst (v := (4 : Int32)) C0.1 C0.2.1 dX8_first_2 (by decide) ?_
  obtain ⟨u21, hu21, h⟩ := bd_some h
  refine x_ki (r := u21) (x_runS (As := [.int v1, .int (1 : Int32), .int (4 : Int32)]) (rest := []) C0 G0 hW (cX8_isWithin_met l hJ z σ v1 (1 : Int32) (4 : Int32) _ hu21) (va_cwS 3 C0.2.2.2.1 gX8_first_X8_isWithin rfl rfl rfl hdsX8_isWithin ⟨Nat.le_of_ble_eq_true rfl, Nat.le_of_ble_eq_true rfl⟩) rfl rfl hl (Nat.le_of_ble_eq_true rfl) dX8_first_3 ⟨Nat.le_refl 0, Nat.le_refl 0⟩) hW (fun H locs hW => ?_)
  refine lv_if_ne (tgt := 13) C0.1 C0.2.1 dX8_first_6 (by decide) (fun c22 => ?_) (fun c22 => ?_)
  · rw [if_neg c22] at h
    refine lv_aload_n C0.1 C0.2.1 dX8_first_13 rfl (lv_at hl 0 rfl) ?_
    refine lv_iload_n C0.1 C0.2.1 dX8_first_14 rfl (lv_at hl 1 rfl) ?_
    obtain ⟨u23, hu23, h⟩ := bd_some h
    refine x_ki (r := u23) (x_runV (As := [.int v1]) (rest := []) C0 G0 hW (cX8_isLeft_met l hJ z σ v1 _ hu23) (cwV 1 C0.2.2.2.1 gX8_first_X8_isLeft rfl rfl rfl hdvX8_isLeft ⟨Nat.le_of_ble_eq_true rfl, Nat.le_of_ble_eq_true rfl⟩) (cX_X8 rfl) (by decide) rfl rfl rfl hl (Nat.le_of_ble_eq_true rfl) dX8_first_15 ⟨Nat.le_refl 0, Nat.le_refl 0⟩) hW (fun H locs hW => ?_)
    refine lv_if_ne (tgt := 25) C0.1 C0.2.1 dX8_first_18 (by decide) (fun c24 => ?_) (fun c24 => ?_)
    · rw [if_neg c24] at h
      refine lv_aload_n C0.1 C0.2.1 dX8_first_25 rfl (lv_at hl 0 rfl) ?_
      refine x_get (v := .ref (aD G 57)) C0 G0 hW (cX_X8 rfl) (by decide) rfl 6 (by decide) inX8_first_X8 lkX8_first_48 rfl dX8_first_26 ?_
      refine lv_aload_n C0.1 C0.2.1 dX8_first_29 rfl (lv_at hl 0 rfl) ?_
      refine x_get (v := .ref (aD G 3)) C0 G0 hW (cX_X8 rfl) (by decide) rfl 1 (by decide) inX8_first_X8 lkX8_first_19 rfl dX8_first_30 ?_
      refine lv_aload_n C0.1 C0.2.1 dX8_first_33 rfl (lv_at hl 0 rfl) ?_
      refine x_get (v := .ref (aD G 5)) C0 G0 hW (cX_X8 rfl) (by decide) rfl 2 (by decide) inX8_first_X8 lkX8_first_26 rfl dX8_first_34 ?_
      refine lv_iload_n C0.1 C0.2.1 dX8_first_37 rfl (lv_at hl 1 rfl) ?_
      obtain ⟨u25, hu25, h⟩ := bd_some h
      refine x_kv (x_runV (As := [.ref (aD G 3), .ref (aD G 5), .int v1]) (rest := []) C0 G0 hW (cX0_tryAll_met l hJ z σ 5 v1 _ hu25) (cwV 3 C0.2.2.2.1 gX8_first_X0_tryAll rfl rfl rfl hdvX0_tryAll ⟨Nat.le_of_ble_eq_true rfl, Nat.le_of_ble_eq_true rfl⟩) (cX_X0 rfl) (by decide) rfl rfl rfl hl (Nat.le_of_ble_eq_true rfl) dX8_first_38 ⟨Nat.le_refl 0, Nat.le_refl 0⟩) hW (fun H locs hW => ?_)
      refine lv_aload_n C0.1 C0.2.1 dX8_first_41 rfl (lv_at hl 0 rfl) ?_
      refine x_get (v := .ref (aD G 57)) C0 G0 hW (cX_X8 rfl) (by decide) rfl 6 (by decide) inX8_first_X8 lkX8_first_48 rfl dX8_first_42 ?_
      refine x_getN (v := .ref (aD G 77)) C0 G0 hW (cX_X0 rfl) (by decide) rfl 2 (by decide) inX8_first_X0 nfX8_first_181 rfl dX8_first_45 ?_
      refine x_getN (v := .long (u25.2 77 0)) C0 G0 hW (cX_X1 rfl) (by decide) rfl 0 (by decide) inX8_first_X1 nfX8_first_170 rfl dX8_first_48 ?_
      refine lv_aload_n C0.1 C0.2.1 dX8_first_51 rfl (lv_at hl 0 rfl) ?_
      refine x_get (v := .ref (aD G 57)) C0 G0 hW (cX_X8 rfl) (by decide) rfl 6 (by decide) inX8_first_X8 lkX8_first_48 rfl dX8_first_52 ?_
      refine x_getN (v := .ref (aD G 76)) C0 G0 hW (cX_X0 rfl) (by decide) rfl 1 (by decide) inX8_first_X0 nfX8_first_185 rfl dX8_first_55 ?_
      refine x_getN (v := .long (u25.2 76 0)) C0 G0 hW (cX_X1 rfl) (by decide) rfl 0 (by decide) inX8_first_X1 nfX8_first_170 rfl dX8_first_58 ?_
      refine lv_lsub C0.1 C0.2.1 dX8_first_61 ?_
      refine lv_aload_n C0.1 C0.2.1 dX8_first_62 rfl (lv_at hl 0 rfl) ?_
      refine x_get (v := .ref (aD G 5)) C0 G0 hW (cX_X8 rfl) (by decide) rfl 2 (by decide) inX8_first_X8 lkX8_first_26 rfl dX8_first_63 ?_
      obtain ⟨u26, hu26, h⟩ := bd_some h
      refine x_kl (r := u26) (x_runV (As := []) (rest := [.long ((u25.2 77 0) - (u25.2 76 0))]) C0 G0 hW (cX4_together_met l hJ z u25 5 _ hu26) (cwV 0 C0.2.2.2.1 gX8_first_X4_together rfl rfl rfl hdvX4_together ⟨Nat.le_of_ble_eq_true rfl, Nat.le_of_ble_eq_true rfl⟩) (cX_X4 rfl) (by decide) rfl rfl rfl hl (Nat.le_of_ble_eq_true rfl) dX8_first_66 ⟨Nat.le_refl 0, Nat.le_refl 0⟩) hW (fun H locs hW => ?_)
      refine lv_ldc2 (v := (100 : Int64)) C0.1 C0.2.1 C0.2.2.2.2.1 (C0.2.2.2.1 _ kcX8_first_156) dX8_first_69 ?_
      refine lv_iload_n C0.1 C0.2.1 dX8_first_72 rfl (lv_at hl 1 rfl) ?_
      obtain ⟨u27, hu27, h⟩ := bd_some h
      refine x_kl (r := u27) (x_runS (As := [.long (100 : Int64), .int v1]) (rest := [.long u26, .long ((u25.2 77 0) - (u25.2 76 0))]) C0 G0 hW (cX8_power_met l hJ z u25 (100 : Int64) v1 _ hu27) (va_cwS 2 C0.2.2.2.1 gX8_first_X8_power rfl rfl rfl hdsX8_power ⟨Nat.le_of_ble_eq_true rfl, Nat.le_of_ble_eq_true rfl⟩) rfl rfl hl (Nat.le_of_ble_eq_true rfl) dX8_first_73 ⟨Nat.le_refl 0, Nat.le_refl 0⟩) hW (fun H locs hW => ?_)
      refine lv_lmul C0.1 C0.2.1 dX8_first_76 ?_
      refine lv_iload_n C0.1 C0.2.1 dX8_first_77 rfl (lv_at hl 2 rfl) ?_
      obtain ⟨u28, hu28, h⟩ := bd_some h
      refine x_kl (r := u28) (x_runS (As := [.long ((u25.2 77 0) - (u25.2 76 0)), .long (u26 * u27), .int v2]) (rest := []) C0 G0 hW (cX3_part_met l hJ z u25 ((u25.2 77 0) - (u25.2 76 0)) (u26 * u27) v2 _ hu28) (va_cwS 3 C0.2.2.2.1 gX8_first_X3_part rfl rfl rfl hdsX3_part ⟨Nat.le_of_ble_eq_true rfl, Nat.le_of_ble_eq_true rfl⟩) rfl rfl hl (Nat.le_of_ble_eq_true rfl) dX8_first_78 ⟨Nat.le_refl 0, Nat.le_refl 0⟩) hW (fun H locs hW => ?_)
      cases h
      exact x_lret C0 hW dX8_first_81
    · rw [if_pos c24] at h
      refine lv_ldc2 (v := (-3 : Int64)) C0.1 C0.2.1 C0.2.2.2.2.1 (C0.2.2.2.1 _ kcX8_first_136) dX8_first_21 ?_
      cases h
      exact x_lret C0 hW dX8_first_24
  · rw [if_pos c22] at h
    refine lv_ldc2 (v := (-2 : Int64)) C0.1 C0.2.1 C0.2.2.2.2.1 (C0.2.2.2.1 _ kcX8_first_130) dX8_first_9 ?_
    cases h
    exact x_lret C0 hW dX8_first_12
theorem cX8_first_met (l : Launch) {G : GT} (hJ : gJ 80 G) (z : Nat) (σ : ST) (v1 : Int32) (v2 : Int32) (res : (Int64 × ST)) (h : fX8_first z σ v1 v2 = some res) : Met l yX8_first wsX8_first rX8_first (XPc cellX 80 G σ [.ref (aD G 0), .int v1, .int v2]) (XQl cellX 80 G res.1 res.2) 0 0 (gA 80 G) :=
  x_met (ret := (some .long)) (maxL := 3) (by decide) rfl (Nat.le_of_ble_eq_true rfl) (fun p e s m args below meth c H locs ls C0 G0 hW hl => wX8_first C0 G0 hJ z σ v1 v2 res h hW hl)
end
/-! X8_isSaying -/
def rX8_isSaying : Room := { frames := 1, cells := 0, slots := 0, locals := 22 }
theorem hdsX8_isSaying : yX8_isSaying.cls ≠ "java/lang/invoke/MethodHandle" ∧ yX8_isSaying.cls ≠ "java/lang/invoke/VarHandle" ∧ (parseMethodDescriptor yX8_isSaying.desc).map (fun d => d.parameters.length) = some 3 := by decide +kernel
def fX8_isSaying_35 (z : Nat) (t0 : Int32) : Option Int32 := gd (zok t0) ( some t0)
def fX8_isSaying_34 (z : Nat) : Option Int32 := fX8_isSaying_35 z (0 : Int32)
def fX8_isSaying (z : Nat) (v0 : Int32) (v1 : Int32) (v2 : Int32) : Option Int32 := bd (fX8_isWithin z v0 (0 : Int32) (9 : Int32)) (fun u21 => (if u21 = 0 then fX8_isSaying_34 z else bd (fX8_isWithin z v1 v0 (9 : Int32)) (fun u23 => (if u23 = 0 then fX8_isSaying_34 z else bd (fX8_isWithin z v2 (1 : Int32) (9 : Int32)) (fun u25 => (if u25 = 0 then fX8_isSaying_34 z else fX8_isSaying_35 z (1 : Int32)))))))
section
variable {p : Program} {l : Launch} {e : Env} {s : State} {m : MethodId} {args : Array Value} {below : List Frame} {meth : Method} {c : Code} {G : GT}
set_option maxHeartbeats 4000000 in
set_option maxRecDepth 100000 in
theorem wX8_isSaying_35 (C0 : Cx p s m args meth c cX8_isSaying RX8 3 (some .boolean) wsX8_isSaying) {σ : ST} (G0 : Gx G s) (hJ : gJ 80 G) (z : Nat) (t0 : Int32) (res : Int32) (h : fX8_isSaying_35 z t0 = some res)  {H : Heap} {locs : List Loc} {ls : Array Slot} (hW : Wd cellX 80 G s.heap σ H locs) (hl : lv_has ls 3 []) : W p l e rX8_isSaying s m args below meth c H locs 0 0 (MQ below (XQi cellX 80 G res σ) args s 0 0 (gA 80 G)) (F0 m 35 ls [.int t0]) := by
  unfold fX8_isSaying_35 at h
  obtain ⟨g27, h⟩ := gd_some h
  cases h
  exact x_zret C0 hW g27 dX8_isSaying_35
set_option maxHeartbeats 4000000 in
set_option maxRecDepth 100000 in
theorem wX8_isSaying_34 (C0 : Cx p s m args meth c cX8_isSaying RX8 3 (some .boolean) wsX8_isSaying) {σ : ST} (G0 : Gx G s) (hJ : gJ 80 G) (z : Nat) (res : Int32) (h : fX8_isSaying_34 z = some res)  {H : Heap} {locs : List Loc} {ls : Array Slot} (hW : Wd cellX 80 G s.heap σ H locs) (hl : lv_has ls 3 []) : W p l e rX8_isSaying s m args below meth c H locs 0 0 (MQ below (XQi cellX 80 G res σ) args s 0 0 (gA 80 G)) (F0 m 34 ls []) := by
  unfold fX8_isSaying_34 at h
  refine lv_iconst (v := (0 : Int32)) C0.1 C0.2.1 dX8_isSaying_34 (by decide) ?_
  exact wX8_isSaying_35 C0 G0 hJ z (0 : Int32) _ h hW (lv_sub hl [] rfl)
set_option maxHeartbeats 4000000 in
set_option maxRecDepth 100000 in
theorem wX8_isSaying (C0 : Cx p s m args meth c cX8_isSaying RX8 3 (some .boolean) wsX8_isSaying) {σ : ST} (G0 : Gx G s) (hJ : gJ 80 G) (z : Nat) (v0 : Int32) (v1 : Int32) (v2 : Int32) (res : Int32) (h : fX8_isSaying z v0 v1 v2 = some res)  {H : Heap} {locs : List Loc} {ls : Array Slot} (hW : Wd cellX 80 G s.heap σ H locs) (hl : lv_has ls 3 [(0, .int v0), (1, .int v1), (2, .int v2)]) : W p l e rX8_isSaying s m args below meth c H locs 0 0 (MQ below (XQi cellX 80 G res σ) args s 0 0 (gA 80 G)) (F0 m 0 ls []) := by
  unfold fX8_isSaying at h
  refine lv_iload_n C0.1 C0.2.1 dX8_isSaying_0 rfl (lv_at hl 0 rfl) ?_
  refine lv_iconst (v := (0 : Int32)) C0.1 C0.2.1 dX8_isSaying_1 (by decide) ?_
  refine lv_bipush (v := (9 : Int32)) C0.1 C0.2.1 dX8_isSaying_2 (by decide) ?_
  obtain ⟨u21, hu21, h⟩ := bd_some h
  refine x_ki (r := u21) (x_runS (As := [.int v0, .int (0 : Int32), .int (9 : Int32)]) (rest := []) C0 G0 hW (cX8_isWithin_met l hJ z σ v0 (0 : Int32) (9 : Int32) _ hu21) (va_cwS 3 C0.2.2.2.1 gX8_isSaying_X8_isWithin rfl rfl rfl hdsX8_isWithin ⟨Nat.le_of_ble_eq_true rfl, Nat.le_of_ble_eq_true rfl⟩) rfl rfl hl (Nat.le_of_ble_eq_true rfl) dX8_isSaying_4 ⟨Nat.le_refl 0, Nat.le_refl 0⟩) hW (fun H locs hW => ?_)
  refine lv_if_eq (tgt := 34) C0.1 C0.2.1 dX8_isSaying_7 (by decide) (fun c22 => ?_) (fun c22 => ?_)
  · rw [if_pos c22] at h
    exact wX8_isSaying_34 C0 G0 hJ z _ h hW (lv_sub hl [] rfl)
  · rw [if_neg c22] at h
    refine lv_iload_n C0.1 C0.2.1 dX8_isSaying_10 rfl (lv_at hl 1 rfl) ?_
    refine lv_iload_n C0.1 C0.2.1 dX8_isSaying_11 rfl (lv_at hl 0 rfl) ?_
    refine lv_bipush (v := (9 : Int32)) C0.1 C0.2.1 dX8_isSaying_12 (by decide) ?_
    obtain ⟨u23, hu23, h⟩ := bd_some h
    refine x_ki (r := u23) (x_runS (As := [.int v1, .int v0, .int (9 : Int32)]) (rest := []) C0 G0 hW (cX8_isWithin_met l hJ z σ v1 v0 (9 : Int32) _ hu23) (va_cwS 3 C0.2.2.2.1 gX8_isSaying_X8_isWithin rfl rfl rfl hdsX8_isWithin ⟨Nat.le_of_ble_eq_true rfl, Nat.le_of_ble_eq_true rfl⟩) rfl rfl hl (Nat.le_of_ble_eq_true rfl) dX8_isSaying_14 ⟨Nat.le_refl 0, Nat.le_refl 0⟩) hW (fun H locs hW => ?_)
    refine lv_if_eq (tgt := 34) C0.1 C0.2.1 dX8_isSaying_17 (by decide) (fun c24 => ?_) (fun c24 => ?_)
    · rw [if_pos c24] at h
      exact wX8_isSaying_34 C0 G0 hJ z _ h hW (lv_sub hl [] rfl)
    · rw [if_neg c24] at h
      refine lv_iload_n C0.1 C0.2.1 dX8_isSaying_20 rfl (lv_at hl 2 rfl) ?_
      refine lv_iconst (v := (1 : Int32)) C0.1 C0.2.1 dX8_isSaying_21 (by decide) ?_
      refine lv_bipush (v := (9 : Int32)) C0.1 C0.2.1 dX8_isSaying_22 (by decide) ?_
      obtain ⟨u25, hu25, h⟩ := bd_some h
      refine x_ki (r := u25) (x_runS (As := [.int v2, .int (1 : Int32), .int (9 : Int32)]) (rest := []) C0 G0 hW (cX8_isWithin_met l hJ z σ v2 (1 : Int32) (9 : Int32) _ hu25) (va_cwS 3 C0.2.2.2.1 gX8_isSaying_X8_isWithin rfl rfl rfl hdsX8_isWithin ⟨Nat.le_of_ble_eq_true rfl, Nat.le_of_ble_eq_true rfl⟩) rfl rfl hl (Nat.le_of_ble_eq_true rfl) dX8_isSaying_24 ⟨Nat.le_refl 0, Nat.le_refl 0⟩) hW (fun H locs hW => ?_)
      refine lv_if_eq (tgt := 34) C0.1 C0.2.1 dX8_isSaying_27 (by decide) (fun c26 => ?_) (fun c26 => ?_)
      · rw [if_pos c26] at h
        exact wX8_isSaying_34 C0 G0 hJ z _ h hW (lv_sub hl [] rfl)
      · rw [if_neg c26] at h
        refine lv_iconst (v := (1 : Int32)) C0.1 C0.2.1 dX8_isSaying_30 (by decide) ?_
        refine lv_goto (tgt := 35) C0.1 C0.2.1 dX8_isSaying_31 (by decide) ?_
        exact wX8_isSaying_35 C0 G0 hJ z (1 : Int32) _ h hW (lv_sub hl [] rfl)
theorem cX8_isSaying_met (l : Launch) {G : GT} (hJ : gJ 80 G) (z : Nat) (σ : ST) (v0 : Int32) (v1 : Int32) (v2 : Int32) (res : Int32) (h : fX8_isSaying z v0 v1 v2 = some res) : Met l yX8_isSaying wsX8_isSaying rX8_isSaying (XPc cellX 80 G σ [.int v0, .int v1, .int v2]) (XQi cellX 80 G res σ) 0 0 (gA 80 G) :=
  x_met (ret := (some .boolean)) (maxL := 3) (by decide) rfl (Nat.le_of_ble_eq_true rfl) (fun p e s m args below meth c H locs ls C0 G0 hW hl => wX8_isSaying C0 G0 hJ z v0 v1 v2 res h hW hl)
end
/-! X8_remember -/
def rX8_remember : Room := { frames := 3, cells := 0, slots := 0, locals := 66 }
theorem hdvX8_remember : yX8_remember.cls = RX8 ∧ yX8_remember.cls ≠ "java/lang/invoke/MethodHandle" ∧ yX8_remember.cls ≠ "java/lang/invoke/VarHandle" ∧ (parseMethodDescriptor yX8_remember.desc).map (fun d => d.parameters.length) = some 0 := by decide +kernel
theorem inX8_remember_X8 : ∀ w ∈ u_ws RX8 TX8 10, w ∈ wsX8_remember := by decide +kernel
theorem lkX8_remember_38 : Cond.fieldLink RX8 38 (TX8 4).1 (TX8 4).2.1 (TX8 4).2.2.1 ∈ wsX8_remember := by decide +kernel
theorem lkX8_remember_86 : Cond.fieldLink RX8 86 (TX8 9).1 (TX8 9).2.1 (TX8 9).2.2.1 ∈ wsX8_remember := by decide +kernel
theorem lkX8_remember_26 : Cond.fieldLink RX8 26 (TX8 2).1 (TX8 2).2.1 (TX8 2).2.2.1 ∈ wsX8_remember := by decide +kernel
def fX8_remember (z : Nat) (σ : ST) : Option ST := bd (fX5_put z σ 13 (σ.1 0 9) 5) (fun u21 => lt (pI u21 0 9 ((u21.1 0 9) + (1 : Int32))) (fun s22 => some s22))
section
variable {p : Program} {l : Launch} {e : Env} {s : State} {m : MethodId} {args : Array Value} {below : List Frame} {meth : Method} {c : Code} {G : GT}
set_option maxHeartbeats 4000000 in
set_option maxRecDepth 100000 in
theorem wX8_remember (C0 : Cx p s m args meth c cX8_remember RX8 1 none wsX8_remember) (G0 : Gx G s) (hJ : gJ 80 G) (z : Nat) (σ : ST) (res : ST) (h : fX8_remember z σ = some res)  {H : Heap} {locs : List Loc} {ls : Array Slot} (hW : Wd cellX 80 G s.heap σ H locs) (hl : lv_has ls 1 [(0, .ref (aD G 0))]) : W p l e rX8_remember s m args below meth c H locs 0 0 (MQ below (XQv cellX 80 G res) args s 0 0 (gA 80 G)) (F0 m 0 ls []) := by
  unfold fX8_remember at h
  refine lv_aload_n C0.1 C0.2.1 dX8_remember_0 rfl (lv_at hl 0 rfl) ?_
  refine x_get (v := .ref (aD G 13)) C0 G0 hW (cX_X8 rfl) (by decide) rfl 4 (by decide) inX8_remember_X8 lkX8_remember_38 rfl dX8_remember_1 ?_
  refine lv_aload_n C0.1 C0.2.1 dX8_remember_4 rfl (lv_at hl 0 rfl) ?_
  refine x_get (v := .int (σ.1 0 9)) C0 G0 hW (cX_X8 rfl) (by decide) rfl 9 (by decide) inX8_remember_X8 lkX8_remember_86 rfl dX8_remember_5 ?_
  refine lv_aload_n C0.1 C0.2.1 dX8_remember_8 rfl (lv_at hl 0 rfl) ?_
  refine x_get (v := .ref (aD G 5)) C0 G0 hW (cX_X8 rfl) (by decide) rfl 2 (by decide) inX8_remember_X8 lkX8_remember_26 rfl dX8_remember_9 ?_
  obtain ⟨u21, hu21, h⟩ := bd_some h
  refine x_kv (x_runV (As := [.int (σ.1 0 9), .ref (aD G 5)]) (rest := []) C0 G0 hW (cX5_put_met l hJ z σ 13 (σ.1 0 9) 5 _ hu21) (cwV 2 C0.2.2.2.1 gX8_remember_X5_put rfl rfl rfl hdvX5_put ⟨Nat.le_of_ble_eq_true rfl, Nat.le_of_ble_eq_true rfl⟩) (cX_X5 rfl) (by decide) rfl rfl rfl hl (Nat.le_of_ble_eq_true rfl) dX8_remember_12 ⟨Nat.le_refl 0, Nat.le_refl 0⟩) hW (fun H locs hW => ?_)
  refine lv_aload_n C0.1 C0.2.1 dX8_remember_15 rfl (lv_at hl 0 rfl) ?_
  refine lv_dup C0.1 C0.2.1 dX8_remember_16 rfl ?_
  refine x_get (v := .int (u21.1 0 9)) C0 G0 hW (cX_X8 rfl) (by decide) rfl 9 (by decide) inX8_remember_X8 lkX8_remember_86 rfl dX8_remember_17 ?_
  refine lv_iconst (v := (1 : Int32)) C0.1 C0.2.1 dX8_remember_20 (by decide) ?_
  refine lv_iadd C0.1 C0.2.1 dX8_remember_21 ?_
  refine x_putI (v := ((u21.1 0 9) + (1 : Int32))) C0 G0 hJ hW (cX_X8 rfl) (by decide) rfl 9 (by decide) inX8_remember_X8 lkX8_remember_86 tyX8 tyX8_ok nmX8 rfl rfl rfl (Nat.le_of_ble_eq_true rfl) (hu_X8_9 rfl) dX8_remember_22 (fun H locs hW => ?_)
  obtain ⟨s22, es22, h⟩ := lt_some h
  rw [es22] at hW
  cases h
  exact x_vret C0 hW dX8_remember_25
theorem cX8_remember_met (l : Launch) {G : GT} (hJ : gJ 80 G) (z : Nat) (σ : ST)  (res : ST) (h : fX8_remember z σ = some res) : Met l yX8_remember wsX8_remember rX8_remember (XPc cellX 80 G σ [.ref (aD G 0)]) (XQv cellX 80 G res) 0 0 (gA 80 G) :=
  x_met (ret := none) (maxL := 1) (by decide) rfl (Nat.le_of_ble_eq_true rfl) (fun p e s m args below meth c H locs ls C0 G0 hW hl => wX8_remember C0 G0 hJ z σ res h hW hl)
end
/-! X8_hear -/
def rX8_hear : Room := { frames := 4, cells := 0, slots := 0, locals := 86 }
theorem hdvX8_hear : yX8_hear.cls = RX8 ∧ yX8_hear.cls ≠ "java/lang/invoke/MethodHandle" ∧ yX8_hear.cls ≠ "java/lang/invoke/VarHandle" ∧ (parseMethodDescriptor yX8_hear.desc).map (fun d => d.parameters.length) = some 3 := by decide +kernel
theorem inX8_hear_X8 : ∀ w ∈ u_ws RX8 TX8 10, w ∈ wsX8_hear := by decide +kernel
theorem lkX8_hear_26 : Cond.fieldLink RX8 26 (TX8 2).1 (TX8 2).2.1 (TX8 2).2.2.1 ∈ wsX8_hear := by decide +kernel
theorem inX8_hear_X4 : ∀ w ∈ u_ws RX4 TX4 6, w ∈ wsX8_hear := by decide +kernel
theorem nfX8_hear_96 : (RX8, 96, (TX4 4).1, (TX4 4).2.1, (TX4 4).2.2.1) ∈ nwF := by decide +kernel
theorem nfX8_hear_115 : (RX8, 115, (TX4 5).1, (TX4 5).2.1, (TX4 5).2.2.1) ∈ nwF := by decide +kernel
def fX8_hear (z : Nat) (σ : ST) (v1 : Int32) (v2 : Int32) (v3 : Int32) : Option (Int32 × ST) := bd (fX8_isSaying z v1 v2 v3) (fun u21 => (if u21 = 0 then some ((-2 : Int32), σ) else (if (σ.1 5 4) ≤ 0 then (if (σ.1 5 5) < (2 : Int32) then bd (fX8_remember z σ) (fun u25 => bd (fX4_believe z u25 5 v1 v2 v3) (fun u26 => some ((u26.1 5 5), u26))) else some ((-4 : Int32), σ)) else some ((-3 : Int32), σ))))
section
variable {p : Program} {l : Launch} {e : Env} {s : State} {m : MethodId} {args : Array Value} {below : List Frame} {meth : Method} {c : Code} {G : GT}
set_option maxHeartbeats 4000000 in
set_option maxRecDepth 100000 in
theorem wX8_hear (C0 : Cx p s m args meth c cX8_hear RX8 4 (some .int) wsX8_hear) (G0 : Gx G s) (hJ : gJ 80 G) (z : Nat) (σ : ST) (v1 : Int32) (v2 : Int32) (v3 : Int32) (res : (Int32 × ST)) (h : fX8_hear z σ v1 v2 v3 = some res)  {H : Heap} {locs : List Loc} {ls : Array Slot} (hW : Wd cellX 80 G s.heap σ H locs) (hl : lv_has ls 4 [(0, .ref (aD G 0)), (1, .int v1), (2, .int v2), (3, .int v3)]) : W p l e rX8_hear s m args below meth c H locs 0 0 (MQ below (XQi cellX 80 G res.1 res.2) args s 0 0 (gA 80 G)) (F0 m 0 ls []) := by
  unfold fX8_hear at h
  refine lv_iload_n C0.1 C0.2.1 dX8_hear_0 rfl (lv_at hl 1 rfl) ?_
  refine lv_iload_n C0.1 C0.2.1 dX8_hear_1 rfl (lv_at hl 2 rfl) ?_
  refine lv_iload_n C0.1 C0.2.1 dX8_hear_2 rfl (lv_at hl 3 rfl) ?_
  obtain ⟨u21, hu21, h⟩ := bd_some h
  refine x_ki (r := u21) (x_runS (As := [.int v1, .int v2, .int v3]) (rest := []) C0 G0 hW (cX8_isSaying_met l hJ z σ v1 v2 v3 _ hu21) (va_cwS 3 C0.2.2.2.1 gX8_hear_X8_isSaying rfl rfl rfl hdsX8_isSaying ⟨Nat.le_of_ble_eq_true rfl, Nat.le_of_ble_eq_true rfl⟩) rfl rfl hl (Nat.le_of_ble_eq_true rfl) dX8_hear_3 ⟨Nat.le_refl 0, Nat.le_refl 0⟩) hW (fun H locs hW => ?_)
  refine lv_if_ne (tgt := 12) C0.1 C0.2.1 dX8_hear_6 (by decide) (fun c22 => ?_) (fun c22 => ?_)
  · rw [if_neg c22] at h
    refine lv_aload_n C0.1 C0.2.1 dX8_hear_12 rfl (lv_at hl 0 rfl) ?_
    refine x_get (v := .ref (aD G 5)) C0 G0 hW (cX_X8 rfl) (by decide) rfl 2 (by decide) inX8_hear_X8 lkX8_hear_26 rfl dX8_hear_13 ?_
    refine x_getN (v := .int (σ.1 5 4)) C0 G0 hW (cX_X4 rfl) (by decide) rfl 4 (by decide) inX8_hear_X4 nfX8_hear_96 rfl dX8_hear_16 ?_
    refine lv_if_le (tgt := 25) C0.1 C0.2.1 dX8_hear_19 (by decide) (fun c23 => ?_) (fun c23 => ?_)
    · rw [if_pos c23] at h
      refine lv_aload_n C0.1 C0.2.1 dX8_hear_25 rfl (lv_at hl 0 rfl) ?_
      refine x_get (v := .ref (aD G 5)) C0 G0 hW (cX_X8 rfl) (by decide) rfl 2 (by decide) inX8_hear_X8 lkX8_hear_26 rfl dX8_hear_26 ?_
      refine x_getN (v := .int (σ.1 5 5)) C0 G0 hW (cX_X4 rfl) (by decide) rfl 5 (by decide) inX8_hear_X4 nfX8_hear_115 rfl dX8_hear_29 ?_
      refine lv_iconst (v := (2 : Int32)) C0.1 C0.2.1 dX8_hear_32 (by decide) ?_
      refine lv_icmp_lt (tgt := 39) C0.1 C0.2.1 dX8_hear_33 (by decide) (fun c24 => ?_) (fun c24 => ?_)
      · rw [if_pos c24] at h
        refine lv_aload_n C0.1 C0.2.1 dX8_hear_39 rfl (lv_at hl 0 rfl) ?_
        obtain ⟨u25, hu25, h⟩ := bd_some h
        refine x_kv (x_runV (As := []) (rest := []) C0 G0 hW (cX8_remember_met l hJ z σ _ hu25) (cwV 0 C0.2.2.2.1 gX8_hear_X8_remember rfl rfl rfl hdvX8_remember ⟨Nat.le_of_ble_eq_true rfl, Nat.le_of_ble_eq_true rfl⟩) (cX_X8 rfl) (by decide) rfl rfl rfl hl (Nat.le_of_ble_eq_true rfl) dX8_hear_40 ⟨Nat.le_refl 0, Nat.le_refl 0⟩) hW (fun H locs hW => ?_)
        refine lv_aload_n C0.1 C0.2.1 dX8_hear_43 rfl (lv_at hl 0 rfl) ?_
        refine x_get (v := .ref (aD G 5)) C0 G0 hW (cX_X8 rfl) (by decide) rfl 2 (by decide) inX8_hear_X8 lkX8_hear_26 rfl dX8_hear_44 ?_
        refine lv_iload_n C0.1 C0.2.1 dX8_hear_47 rfl (lv_at hl 1 rfl) ?_
        refine lv_iload_n C0.1 C0.2.1 dX8_hear_48 rfl (lv_at hl 2 rfl) ?_
        refine lv_iload_n C0.1 C0.2.1 dX8_hear_49 rfl (lv_at hl 3 rfl) ?_
        obtain ⟨u26, hu26, h⟩ := bd_some h
        refine x_kv (x_runV (As := [.int v1, .int v2, .int v3]) (rest := []) C0 G0 hW (cX4_believe_met l hJ z u25 5 v1 v2 v3 _ hu26) (cwV 3 C0.2.2.2.1 gX8_hear_X4_believe rfl rfl rfl hdvX4_believe ⟨Nat.le_of_ble_eq_true rfl, Nat.le_of_ble_eq_true rfl⟩) (cX_X4 rfl) (by decide) rfl rfl rfl hl (Nat.le_of_ble_eq_true rfl) dX8_hear_50 ⟨Nat.le_refl 0, Nat.le_refl 0⟩) hW (fun H locs hW => ?_)
        refine lv_aload_n C0.1 C0.2.1 dX8_hear_53 rfl (lv_at hl 0 rfl) ?_
        refine x_get (v := .ref (aD G 5)) C0 G0 hW (cX_X8 rfl) (by decide) rfl 2 (by decide) inX8_hear_X8 lkX8_hear_26 rfl dX8_hear_54 ?_
        refine x_getN (v := .int (u26.1 5 5)) C0 G0 hW (cX_X4 rfl) (by decide) rfl 5 (by decide) inX8_hear_X4 nfX8_hear_115 rfl dX8_hear_57 ?_
        cases h
        exact x_iret C0 hW dX8_hear_60
      · rw [if_neg c24] at h
        refine lv_bipush (v := (-4 : Int32)) C0.1 C0.2.1 dX8_hear_36 (by decide) ?_
        cases h
        exact x_iret C0 hW dX8_hear_38
    · rw [if_neg c23] at h
      refine lv_bipush (v := (-3 : Int32)) C0.1 C0.2.1 dX8_hear_22 (by decide) ?_
      cases h
      exact x_iret C0 hW dX8_hear_24
  · rw [if_pos c22] at h
    refine lv_bipush (v := (-2 : Int32)) C0.1 C0.2.1 dX8_hear_9 (by decide) ?_
    cases h
    exact x_iret C0 hW dX8_hear_11
theorem cX8_hear_met (l : Launch) {G : GT} (hJ : gJ 80 G) (z : Nat) (σ : ST) (v1 : Int32) (v2 : Int32) (v3 : Int32) (res : (Int32 × ST)) (h : fX8_hear z σ v1 v2 v3 = some res) : Met l yX8_hear wsX8_hear rX8_hear (XPc cellX 80 G σ [.ref (aD G 0), .int v1, .int v2, .int v3]) (XQi cellX 80 G res.1 res.2) 0 0 (gA 80 G) :=
  x_met (ret := (some .int)) (maxL := 4) (by decide) rfl (Nat.le_of_ble_eq_true rfl) (fun p e s m args below meth c H locs ls C0 G0 hW hl => wX8_hear C0 G0 hJ z σ v1 v2 v3 res h hW hl)
end
/-! X8_isFound -/
def rX8_isFound : Room := { frames := 3, cells := 0, slots := 0, locals := 66 }
theorem hdvX8_isFound : yX8_isFound.cls = RX8 ∧ yX8_isFound.cls ≠ "java/lang/invoke/MethodHandle" ∧ yX8_isFound.cls ≠ "java/lang/invoke/VarHandle" ∧ (parseMethodDescriptor yX8_isFound.desc).map (fun d => d.parameters.length) = some 2 := by decide +kernel
theorem inX8_isFound_X8 : ∀ w ∈ u_ws RX8 TX8 10, w ∈ wsX8_isFound := by decide +kernel
theorem lkX8_isFound_19 : Cond.fieldLink RX8 19 (TX8 1).1 (TX8 1).2.1 (TX8 1).2.2.1 ∈ wsX8_isFound := by decide +kernel
theorem lkX8_isFound_55 : Cond.fieldLink RX8 55 (TX8 7).1 (TX8 7).2.1 (TX8 7).2.2.1 ∈ wsX8_isFound := by decide +kernel
theorem inX8_isFound_X7 : ∀ w ∈ u_ws RX7 TX7 9, w ∈ wsX8_isFound := by decide +kernel
theorem nfX8_isFound_265 : (RX8, 265, (TX7 4).1, (TX7 4).2.1, (TX7 4).2.2.1) ∈ nwF := by decide +kernel
theorem nfX8_isFound_99 : (RX8, 99, (TX7 5).1, (TX7 5).2.1, (TX7 5).2.2.1) ∈ nwF := by decide +kernel
def fX8_isFound_148 (z : Nat) (σ : ST) : Option (Int32 × ST) := gd (zok (0 : Int32)) ( some ((0 : Int32), σ))
def fX8_isFound_142 (z : Nat) (r34 : ST → Int32 → Int32 → Int32 → Option (Int32 × ST)) (σ : ST) (v1 : Int32) (v2 : Int32) (v3 : Int32) (v4 : Int32) (v5 : Int32) : Option (Int32 × ST) := r34 σ v3 v4 (v5 + 1)
def fX8_isFound_118 (z : Nat) (r34 : ST → Int32 → Int32 → Int32 → Option (Int32 × ST)) (σ : ST) (v1 : Int32) (v2 : Int32) (v3 : Int32) (v4 : Int32) (v5 : Int32) : Option (Int32 × ST) := (if v3 = (10 : Int32) then fX8_isFound_142 z r34 σ v1 v2 v3 v4 v5 else bd (fX2_below z σ (10 : Int32)) (fun u36 => bd (fX7_drifted z u36.2 v3 u36.1) (fun u37 => fX8_isFound_142 z r34 u36.2 v1 v2 u37 v4 v5)))
def fX8_isFound_83 (z : Nat) (r34 : ST → Int32 → Int32 → Int32 → Option (Int32 × ST)) (σ : ST) (v1 : Int32) (v2 : Int32) (v3 : Int32) (v4 : Int32) (v5 : Int32) (t0 : Int32) : Option (Int32 × ST) := bd (fX2_below z σ (10 : Int32)) (fun u30 => (if v3 = t0 then bd (fX7_chanceAt z u30.2 t0) (fun u32 => (if u32 ≤ u30.1 then fX8_isFound_118 z r34 u30.2 v1 v2 v3 v4 v5 else gd (zok (1 : Int32)) ( some ((1 : Int32), u30.2)))) else fX8_isFound_118 z r34 u30.2 v1 v2 v3 v4 v5))
def fX8_isFound_34 (z : Nat) (v1 : Int32) (v2 : Int32) : Nat → ST → Int32 → Int32 → Int32 → Option (Int32 × ST)
  | 0 => fun _ _ _ _ => none
  | n + 1 => fun σ v3 v4 v5 => (if v1 ≤ v5 then fX8_isFound_148 z σ else (if (σ.1 3 5) ≤ v5 then fX8_isFound_148 z σ else bd (fX8_figureOf z v1 v2 v5) (fun u26 => bd (fX8_moved z v4 u26) (fun u27 => (if u26 = (3 : Int32) then fX8_isFound_83 z (fX8_isFound_34 z v1 v2 n) σ v1 v2 v3 u27 v5 (10 : Int32) else fX8_isFound_83 z (fX8_isFound_34 z v1 v2 n) σ v1 v2 v3 u27 v5 u27)))))
def fX8_isFound (z : Nat) (σ : ST) (v1 : Int32) (v2 : Int32) : Option (Int32 × ST) := bd (fX7_allParts z σ) (fun u21 => bd (fX2_below z σ u21) (fun u22 => bd (fX7_placeOfPart z u22.2 u22.1) (fun u23 => fX8_isFound_34 z v1 v2 z u22.2 u23 (u22.2.1 3 4) (0 : Int32))))
section
variable {p : Program} {l : Launch} {e : Env} {s : State} {m : MethodId} {args : Array Value} {below : List Frame} {meth : Method} {c : Code} {G : GT}
set_option maxHeartbeats 4000000 in
set_option maxRecDepth 100000 in
theorem wX8_isFound_148 (C0 : Cx p s m args meth c cX8_isFound RX8 9 (some .boolean) wsX8_isFound) (G0 : Gx G s) (hJ : gJ 80 G) (z : Nat) (σ : ST) (res : (Int32 × ST)) (h : fX8_isFound_148 z σ = some res)  {H : Heap} {locs : List Loc} {ls : Array Slot} (hW : Wd cellX 80 G s.heap σ H locs) (hl : lv_has ls 9 []) : W p l e rX8_isFound s m args below meth c H locs 0 0 (MQ below (XQi cellX 80 G res.1 res.2) args s 0 0 (gA 80 G)) (F0 m 148 ls []) := by
  unfold fX8_isFound_148 at h
  refine lv_iconst (v := (0 : Int32)) C0.1 C0.2.1 dX8_isFound_148 (by decide) ?_
  obtain ⟨g29, h⟩ := gd_some h
  cases h
  exact x_zret C0 hW g29 dX8_isFound_149
set_option maxHeartbeats 4000000 in
set_option maxRecDepth 100000 in
theorem wX8_isFound_142 (C0 : Cx p s m args meth c cX8_isFound RX8 9 (some .boolean) wsX8_isFound) (G0 : Gx G s) (hJ : gJ 80 G) (z : Nat) (r34 : ST → Int32 → Int32 → Int32 → Option (Int32 × ST)) (σ : ST) (v1 : Int32) (v2 : Int32) (v3 : Int32) (v4 : Int32) (v5 : Int32) (res : (Int32 × ST)) (h : fX8_isFound_142 z r34 σ v1 v2 v3 v4 v5 = some res) (hr34 : ∀ (σ : ST) (v3 : Int32) (v4 : Int32) (v5 : Int32), r34 σ v3 v4 v5 = some res → ∀ (H : Heap) (locs : List Loc) (ls : Array Slot), Wd cellX 80 G s.heap σ H locs → lv_has ls 9 [(0, .ref (aD G 0)), (1, .int v1), (2, .int v2), (3, .int v3), (4, .int v4), (5, .int v5)] → W p l e rX8_isFound s m args below meth c H locs 0 0 (MQ below (XQi cellX 80 G res.1 res.2) args s 0 0 (gA 80 G)) (F0 m 34 ls [])) {H : Heap} {locs : List Loc} {ls : Array Slot} (hW : Wd cellX 80 G s.heap σ H locs) (hl : lv_has ls 9 [(0, .ref (aD G 0)), (1, .int v1), (2, .int v2), (3, .int v3), (4, .int v4), (5, .int v5)]) : W p l e rX8_isFound s m args below meth c H locs 0 0 (MQ below (XQi cellX 80 G res.1 res.2) args s 0 0 (gA 80 G)) (F0 m 142 ls []) := by
  unfold fX8_isFound_142 at h
  refine lv_iinc (v := (v5 + 1)) (lv' := [(5, .int (v5 + 1)), (0, .ref (aD G 0)), (1, .int v1), (2, .int v2), (3, .int v3), (4, .int v4)]) C0.1 C0.2.1 dX8_isFound_142 hl (k := 5) rfl rfl (by decide) rfl (fun ls hl => ?_)
  refine lv_goto (tgt := 34) C0.1 C0.2.1 dX8_isFound_145 (by decide) ?_
  exact hr34 σ v3 v4 (v5 + 1) h _ _ _ hW (lv_sub hl [1, 2, 3, 4, 5, 0] rfl)
set_option maxHeartbeats 4000000 in
set_option maxRecDepth 100000 in
theorem wX8_isFound_118 (C0 : Cx p s m args meth c cX8_isFound RX8 9 (some .boolean) wsX8_isFound) (G0 : Gx G s) (hJ : gJ 80 G) (z : Nat) (r34 : ST → Int32 → Int32 → Int32 → Option (Int32 × ST)) (σ : ST) (v1 : Int32) (v2 : Int32) (v3 : Int32) (v4 : Int32) (v5 : Int32) (res : (Int32 × ST)) (h : fX8_isFound_118 z r34 σ v1 v2 v3 v4 v5 = some res) (hr34 : ∀ (σ : ST) (v3 : Int32) (v4 : Int32) (v5 : Int32), r34 σ v3 v4 v5 = some res → ∀ (H : Heap) (locs : List Loc) (ls : Array Slot), Wd cellX 80 G s.heap σ H locs → lv_has ls 9 [(0, .ref (aD G 0)), (1, .int v1), (2, .int v2), (3, .int v3), (4, .int v4), (5, .int v5)] → W p l e rX8_isFound s m args below meth c H locs 0 0 (MQ below (XQi cellX 80 G res.1 res.2) args s 0 0 (gA 80 G)) (F0 m 34 ls [])) {H : Heap} {locs : List Loc} {ls : Array Slot} (hW : Wd cellX 80 G s.heap σ H locs) (hl : lv_has ls 9 [(0, .ref (aD G 0)), (1, .int v1), (2, .int v2), (3, .int v3), (4, .int v4), (5, .int v5)]) : W p l e rX8_isFound s m args below meth c H locs 0 0 (MQ below (XQi cellX 80 G res.1 res.2) args s 0 0 (gA 80 G)) (F0 m 118 ls []) := by
  unfold fX8_isFound_118 at h
  refine lv_iload_n C0.1 C0.2.1 dX8_isFound_118 rfl (lv_at hl 3 rfl) ?_
  refine lv_bipush (v := (10 : Int32)) C0.1 C0.2.1 dX8_isFound_119 (by decide) ?_
  refine lv_icmp_eq (tgt := 142) C0.1 C0.2.1 dX8_isFound_121 (by decide) (fun c35 => ?_) (fun c35 => ?_)
  · rw [if_pos c35] at h
    exact wX8_isFound_142 C0 G0 hJ z r34 σ v1 v2 v3 v4 v5 _ h (by exact hr34) hW (lv_sub hl [0, 1, 2, 3, 4, 5] rfl)
  · rw [if_neg c35] at h
    refine lv_aload_n C0.1 C0.2.1 dX8_isFound_124 rfl (lv_at hl 0 rfl) ?_
    refine x_get (v := .ref (aD G 3)) C0 G0 hW (cX_X8 rfl) (by decide) rfl 1 (by decide) inX8_isFound_X8 lkX8_isFound_19 rfl dX8_isFound_125 ?_
    refine lv_iload_n C0.1 C0.2.1 dX8_isFound_128 rfl (lv_at hl 3 rfl) ?_
    refine lv_aload_n C0.1 C0.2.1 dX8_isFound_129 rfl (lv_at hl 0 rfl) ?_
    refine x_get (v := .ref (aD G 79)) C0 G0 hW (cX_X8 rfl) (by decide) rfl 7 (by decide) inX8_isFound_X8 lkX8_isFound_55 rfl dX8_isFound_130 ?_
    refine lv_bipush (v := (10 : Int32)) C0.1 C0.2.1 dX8_isFound_133 (by decide) ?_
    obtain ⟨u36, hu36, h⟩ := bd_some h
    refine x_ki (r := u36.1) (x_runV (As := [.int (10 : Int32)]) (rest := [.int v3, .ref (aD G 3)]) C0 G0 hW (cX2_below_met l hJ z σ (10 : Int32) _ hu36) (cwV 1 C0.2.2.2.1 gX8_isFound_X2_below rfl rfl rfl hdvX2_below ⟨Nat.le_of_ble_eq_true rfl, Nat.le_of_ble_eq_true rfl⟩) (cX_X2 rfl) (by decide) rfl rfl rfl hl (Nat.le_of_ble_eq_true rfl) dX8_isFound_135 ⟨Nat.le_refl 0, Nat.le_refl 0⟩) hW (fun H locs hW => ?_)
    obtain ⟨u37, hu37, h⟩ := bd_some h
    refine x_ki (r := u37) (x_runV (As := [.int v3, .int u36.1]) (rest := []) C0 G0 hW (cX7_drifted_met l hJ z u36.2 v3 u36.1 _ hu37) (cwV 2 C0.2.2.2.1 gX8_isFound_X7_drifted rfl rfl rfl hdvX7_drifted ⟨Nat.le_of_ble_eq_true rfl, Nat.le_of_ble_eq_true rfl⟩) (cX_X7 rfl) (by decide) rfl rfl rfl hl (Nat.le_of_ble_eq_true rfl) dX8_isFound_138 ⟨Nat.le_refl 0, Nat.le_refl 0⟩) hW (fun H locs hW => ?_)
    refine lv_istore_n (lv' := [(3, .int u37), (0, .ref (aD G 0)), (1, .int v1), (2, .int v2), (4, .int v4), (5, .int v5)]) C0.1 C0.2.1 dX8_isFound_141 rfl hl (by decide) rfl (fun ls hl => ?_)
    exact wX8_isFound_142 C0 G0 hJ z r34 u36.2 v1 v2 u37 v4 v5 _ h (by exact hr34) hW (lv_sub hl [1, 2, 3, 0, 4, 5] rfl)
set_option maxHeartbeats 4000000 in
set_option maxRecDepth 100000 in
theorem wX8_isFound_83 (C0 : Cx p s m args meth c cX8_isFound RX8 9 (some .boolean) wsX8_isFound) (G0 : Gx G s) (hJ : gJ 80 G) (z : Nat) (r34 : ST → Int32 → Int32 → Int32 → Option (Int32 × ST)) (σ : ST) (v1 : Int32) (v2 : Int32) (v3 : Int32) (v4 : Int32) (v5 : Int32) (t0 : Int32) (res : (Int32 × ST)) (h : fX8_isFound_83 z r34 σ v1 v2 v3 v4 v5 t0 = some res) (hr34 : ∀ (σ : ST) (v3 : Int32) (v4 : Int32) (v5 : Int32), r34 σ v3 v4 v5 = some res → ∀ (H : Heap) (locs : List Loc) (ls : Array Slot), Wd cellX 80 G s.heap σ H locs → lv_has ls 9 [(0, .ref (aD G 0)), (1, .int v1), (2, .int v2), (3, .int v3), (4, .int v4), (5, .int v5)] → W p l e rX8_isFound s m args below meth c H locs 0 0 (MQ below (XQi cellX 80 G res.1 res.2) args s 0 0 (gA 80 G)) (F0 m 34 ls [])) {H : Heap} {locs : List Loc} {ls : Array Slot} (hW : Wd cellX 80 G s.heap σ H locs) (hl : lv_has ls 9 [(0, .ref (aD G 0)), (1, .int v1), (2, .int v2), (3, .int v3), (4, .int v4), (5, .int v5)]) : W p l e rX8_isFound s m args below meth c H locs 0 0 (MQ below (XQi cellX 80 G res.1 res.2) args s 0 0 (gA 80 G)) (F0 m 83 ls [.int t0]) := by
  unfold fX8_isFound_83 at h
  refine lv_istore (lv' := [(7, .int t0), (0, .ref (aD G 0)), (1, .int v1), (2, .int v2), (3, .int v3), (4, .int v4), (5, .int v5)]) C0.1 C0.2.1 dX8_isFound_83 hl (by decide) rfl (fun ls hl => ?_)
  refine lv_aload_n C0.1 C0.2.1 dX8_isFound_85 rfl (lv_at hl 1 rfl) ?_
  refine x_get (v := .ref (aD G 79)) C0 G0 hW (cX_X8 rfl) (by decide) rfl 7 (by decide) inX8_isFound_X8 lkX8_isFound_55 rfl dX8_isFound_86 ?_
  refine lv_bipush (v := (10 : Int32)) C0.1 C0.2.1 dX8_isFound_89 (by decide) ?_
  obtain ⟨u30, hu30, h⟩ := bd_some h
  refine x_ki (r := u30.1) (x_runV (As := [.int (10 : Int32)]) (rest := []) C0 G0 hW (cX2_below_met l hJ z σ (10 : Int32) _ hu30) (cwV 1 C0.2.2.2.1 gX8_isFound_X2_below rfl rfl rfl hdvX2_below ⟨Nat.le_of_ble_eq_true rfl, Nat.le_of_ble_eq_true rfl⟩) (cX_X2 rfl) (by decide) rfl rfl rfl hl (Nat.le_of_ble_eq_true rfl) dX8_isFound_91 ⟨Nat.le_refl 0, Nat.le_refl 0⟩) hW (fun H locs hW => ?_)
  refine lv_istore (lv' := [(8, .int u30.1), (7, .int t0), (0, .ref (aD G 0)), (1, .int v1), (2, .int v2), (3, .int v3), (4, .int v4), (5, .int v5)]) C0.1 C0.2.1 dX8_isFound_94 hl (by decide) rfl (fun ls hl => ?_)
  refine lv_iload_n C0.1 C0.2.1 dX8_isFound_96 rfl (lv_at hl 5 rfl) ?_
  refine lv_iload C0.1 C0.2.1 dX8_isFound_97 (lv_at hl 1 rfl) ?_
  refine lv_icmp_ne (tgt := 118) C0.1 C0.2.1 dX8_isFound_99 (by decide) (fun c31 => ?_) (fun c31 => ?_)
  · rw [if_neg c31] at h
    exact wX8_isFound_118 C0 G0 hJ z r34 u30.2 v1 v2 v3 v4 v5 _ h (by exact hr34) hW (lv_sub hl [2, 3, 4, 5, 6, 7] rfl)
  · rw [if_pos c31] at h
    refine lv_iload C0.1 C0.2.1 dX8_isFound_102 (lv_at hl 0 rfl) ?_
    refine lv_aload_n C0.1 C0.2.1 dX8_isFound_104 rfl (lv_at hl 2 rfl) ?_
    refine x_get (v := .ref (aD G 3)) C0 G0 hW (cX_X8 rfl) (by decide) rfl 1 (by decide) inX8_isFound_X8 lkX8_isFound_19 rfl dX8_isFound_105 ?_
    refine lv_iload C0.1 C0.2.1 dX8_isFound_108 (lv_at hl 1 rfl) ?_
    obtain ⟨u32, hu32, h⟩ := bd_some h
    refine x_ki (r := u32) (x_runV (As := [.int t0]) (rest := [.int u30.1]) C0 G0 hW (cX7_chanceAt_met l hJ z u30.2 t0 _ hu32) (cwV 1 C0.2.2.2.1 gX8_isFound_X7_chanceAt rfl rfl rfl hdvX7_chanceAt ⟨Nat.le_of_ble_eq_true rfl, Nat.le_of_ble_eq_true rfl⟩) (cX_X7 rfl) (by decide) rfl rfl rfl hl (Nat.le_of_ble_eq_true rfl) dX8_isFound_110 ⟨Nat.le_refl 0, Nat.le_refl 0⟩) hW (fun H locs hW => ?_)
    refine lv_icmp_ge (tgt := 118) C0.1 C0.2.1 dX8_isFound_113 (by decide) (fun c33 => ?_) (fun c33 => ?_)
    · rw [if_pos c33] at h
      exact wX8_isFound_118 C0 G0 hJ z r34 u30.2 v1 v2 v3 v4 v5 _ h (by exact hr34) hW (lv_sub hl [2, 3, 4, 5, 6, 7] rfl)
    · rw [if_neg c33] at h
      refine lv_iconst (v := (1 : Int32)) C0.1 C0.2.1 dX8_isFound_116 (by decide) ?_
      obtain ⟨g34, h⟩ := gd_some h
      cases h
      exact x_zret C0 hW g34 dX8_isFound_117
set_option maxHeartbeats 4000000 in
set_option maxRecDepth 100000 in
theorem wX8_isFound_34 (C0 : Cx p s m args meth c cX8_isFound RX8 9 (some .boolean) wsX8_isFound) (G0 : Gx G s) (hJ : gJ 80 G) (z : Nat) (v1 : Int32) (v2 : Int32) (n : Nat) (σ : ST) (v3 : Int32) (v4 : Int32) (v5 : Int32) (res : (Int32 × ST)) (h : fX8_isFound_34 z v1 v2 n σ v3 v4 v5 = some res)  {H : Heap} {locs : List Loc} {ls : Array Slot} (hW : Wd cellX 80 G s.heap σ H locs) (hl : lv_has ls 9 [(0, .ref (aD G 0)), (1, .int v1), (2, .int v2), (3, .int v3), (4, .int v4), (5, .int v5)]) : W p l e rX8_isFound s m args below meth c H locs 0 0 (MQ below (XQi cellX 80 G res.1 res.2) args s 0 0 (gA 80 G)) (F0 m 34 ls []) := by
  induction n generalizing σ v3 v4 v5 H locs ls with
  | zero => cases h
  | succ n ih =>
    have hr34 : ∀ (σ : ST) (v3 : Int32) (v4 : Int32) (v5 : Int32), fX8_isFound_34 z v1 v2 n σ v3 v4 v5 = some res → ∀ (H : Heap) (locs : List Loc) (ls : Array Slot), Wd cellX 80 G s.heap σ H locs → lv_has ls 9 [(0, .ref (aD G 0)), (1, .int v1), (2, .int v2), (3, .int v3), (4, .int v4), (5, .int v5)] → W p l e rX8_isFound s m args below meth c H locs 0 0 (MQ below (XQi cellX 80 G res.1 res.2) args s 0 0 (gA 80 G)) (F0 m 34 ls []) := fun σ v3 v4 v5 h H locs ls hW hl => ih σ v3 v4 v5 h hW hl
    clear ih
    unfold fX8_isFound_34 at h
    refine lv_iload C0.1 C0.2.1 dX8_isFound_34 (lv_at hl 5 rfl) ?_
    refine lv_iload_n C0.1 C0.2.1 dX8_isFound_36 rfl (lv_at hl 1 rfl) ?_
    refine lv_icmp_ge (tgt := 148) C0.1 C0.2.1 dX8_isFound_37 (by decide) (fun c24 => ?_) (fun c24 => ?_)
    · rw [if_pos c24] at h
      exact wX8_isFound_148 C0 G0 hJ z σ _ h hW (lv_sub hl [] rfl)
    · rw [if_neg c24] at h
      refine lv_iload C0.1 C0.2.1 dX8_isFound_40 (lv_at hl 5 rfl) ?_
      refine lv_aload_n C0.1 C0.2.1 dX8_isFound_42 rfl (lv_at hl 0 rfl) ?_
      refine x_get (v := .ref (aD G 3)) C0 G0 hW (cX_X8 rfl) (by decide) rfl 1 (by decide) inX8_isFound_X8 lkX8_isFound_19 rfl dX8_isFound_43 ?_
      refine x_getN (v := .int (σ.1 3 5)) C0 G0 hW (cX_X7 rfl) (by decide) rfl 5 (by decide) inX8_isFound_X7 nfX8_isFound_99 rfl dX8_isFound_46 ?_
      refine lv_icmp_ge (tgt := 148) C0.1 C0.2.1 dX8_isFound_49 (by decide) (fun c25 => ?_) (fun c25 => ?_)
      · rw [if_pos c25] at h
        exact wX8_isFound_148 C0 G0 hJ z σ _ h hW (lv_sub hl [] rfl)
      · rw [if_neg c25] at h
        refine lv_iload_n C0.1 C0.2.1 dX8_isFound_52 rfl (lv_at hl 1 rfl) ?_
        refine lv_iload_n C0.1 C0.2.1 dX8_isFound_53 rfl (lv_at hl 2 rfl) ?_
        refine lv_iload C0.1 C0.2.1 dX8_isFound_54 (lv_at hl 5 rfl) ?_
        obtain ⟨u26, hu26, h⟩ := bd_some h
        refine x_ki (r := u26) (x_runS (As := [.int v1, .int v2, .int v5]) (rest := []) C0 G0 hW (cX8_figureOf_met l hJ z σ v1 v2 v5 _ hu26) (va_cwS 3 C0.2.2.2.1 gX8_isFound_X8_figureOf rfl rfl rfl hdsX8_figureOf ⟨Nat.le_of_ble_eq_true rfl, Nat.le_of_ble_eq_true rfl⟩) rfl rfl hl (Nat.le_of_ble_eq_true rfl) dX8_isFound_56 ⟨Nat.le_refl 0, Nat.le_refl 0⟩) hW (fun H locs hW => ?_)
        refine lv_istore (lv' := [(6, .int u26), (0, .ref (aD G 0)), (1, .int v1), (2, .int v2), (3, .int v3), (4, .int v4), (5, .int v5)]) C0.1 C0.2.1 dX8_isFound_59 hl (by decide) rfl (fun ls hl => ?_)
        refine lv_iload C0.1 C0.2.1 dX8_isFound_61 (lv_at hl 5 rfl) ?_
        refine lv_iload C0.1 C0.2.1 dX8_isFound_63 (lv_at hl 0 rfl) ?_
        obtain ⟨u27, hu27, h⟩ := bd_some h
        refine x_ki (r := u27) (x_runS (As := [.int v4, .int u26]) (rest := []) C0 G0 hW (cX8_moved_met l hJ z σ v4 u26 _ hu27) (va_cwS 2 C0.2.2.2.1 gX8_isFound_X8_moved rfl rfl rfl hdsX8_moved ⟨Nat.le_of_ble_eq_true rfl, Nat.le_of_ble_eq_true rfl⟩) rfl rfl hl (Nat.le_of_ble_eq_true rfl) dX8_isFound_65 ⟨Nat.le_refl 0, Nat.le_refl 0⟩) hW (fun H locs hW => ?_)
        refine lv_istore (lv' := [(4, .int u27), (6, .int u26), (0, .ref (aD G 0)), (1, .int v1), (2, .int v2), (3, .int v3), (5, .int v5)]) C0.1 C0.2.1 dX8_isFound_68 hl (by decide) rfl (fun ls hl => ?_)
        refine lv_iload C0.1 C0.2.1 dX8_isFound_70 (lv_at hl 1 rfl) ?_
        refine lv_iconst (v := (3 : Int32)) C0.1 C0.2.1 dX8_isFound_72 (by decide) ?_
        refine lv_icmp_ne (tgt := 81) C0.1 C0.2.1 dX8_isFound_73 (by decide) (fun c28 => ?_) (fun c28 => ?_)
        · rw [if_neg c28] at h
          refine lv_iload C0.1 C0.2.1 dX8_isFound_81 (lv_at hl 0 rfl) ?_
          exact wX8_isFound_83 C0 G0 hJ z (fX8_isFound_34 z v1 v2 n) σ v1 v2 v3 u27 v5 u27 _ h (by exact hr34) hW (lv_sub hl [2, 3, 4, 5, 0, 6] rfl)
        · rw [if_pos c28] at h
          refine lv_bipush (v := (10 : Int32)) C0.1 C0.2.1 dX8_isFound_76 (by decide) ?_
          refine lv_goto (tgt := 83) C0.1 C0.2.1 dX8_isFound_78 (by decide) ?_
          exact wX8_isFound_83 C0 G0 hJ z (fX8_isFound_34 z v1 v2 n) σ v1 v2 v3 u27 v5 (10 : Int32) _ h (by exact hr34) hW (lv_sub hl [2, 3, 4, 5, 0, 6] rfl)
set_option maxHeartbeats 4000000 in
set_option maxRecDepth 100000 in
theorem wX8_isFound (C0 : Cx p s m args meth c cX8_isFound RX8 9 (some .boolean) wsX8_isFound) (G0 : Gx G s) (hJ : gJ 80 G) (z : Nat) (σ : ST) (v1 : Int32) (v2 : Int32) (res : (Int32 × ST)) (h : fX8_isFound z σ v1 v2 = some res)  {H : Heap} {locs : List Loc} {ls : Array Slot} (hW : Wd cellX 80 G s.heap σ H locs) (hl : lv_has ls 9 [(0, .ref (aD G 0)), (1, .int v1), (2, .int v2)]) : W p l e rX8_isFound s m args below meth c H locs 0 0 (MQ below (XQi cellX 80 G res.1 res.2) args s 0 0 (gA 80 G)) (F0 m 0 ls []) := by
  unfold fX8_isFound at h
  refine lv_aload_n C0.1 C0.2.1 dX8_isFound_0 rfl (lv_at hl 0 rfl) ?_
  refine x_get (v := .ref (aD G 3)) C0 G0 hW (cX_X8 rfl) (by decide) rfl 1 (by decide) inX8_isFound_X8 lkX8_isFound_19 rfl dX8_isFound_1 ?_
  refine lv_aload_n C0.1 C0.2.1 dX8_isFound_4 rfl (lv_at hl 0 rfl) ?_
  refine x_get (v := .ref (aD G 79)) C0 G0 hW (cX_X8 rfl) (by decide) rfl 7 (by decide) inX8_isFound_X8 lkX8_isFound_55 rfl dX8_isFound_5 ?_
  refine lv_aload_n C0.1 C0.2.1 dX8_isFound_8 rfl (lv_at hl 0 rfl) ?_
  refine x_get (v := .ref (aD G 3)) C0 G0 hW (cX_X8 rfl) (by decide) rfl 1 (by decide) inX8_isFound_X8 lkX8_isFound_19 rfl dX8_isFound_9 ?_
  obtain ⟨u21, hu21, h⟩ := bd_some h
  refine x_ki (r := u21) (x_runV (As := []) (rest := [.ref (aD G 79), .ref (aD G 3)]) C0 G0 hW (cX7_allParts_met l hJ z σ _ hu21) (cwV 0 C0.2.2.2.1 gX8_isFound_X7_allParts rfl rfl rfl hdvX7_allParts ⟨Nat.le_of_ble_eq_true rfl, Nat.le_of_ble_eq_true rfl⟩) (cX_X7 rfl) (by decide) rfl rfl rfl hl (Nat.le_of_ble_eq_true rfl) dX8_isFound_12 ⟨Nat.le_refl 0, Nat.le_refl 0⟩) hW (fun H locs hW => ?_)
  obtain ⟨u22, hu22, h⟩ := bd_some h
  refine x_ki (r := u22.1) (x_runV (As := [.int u21]) (rest := [.ref (aD G 3)]) C0 G0 hW (cX2_below_met l hJ z σ u21 _ hu22) (cwV 1 C0.2.2.2.1 gX8_isFound_X2_below rfl rfl rfl hdvX2_below ⟨Nat.le_of_ble_eq_true rfl, Nat.le_of_ble_eq_true rfl⟩) (cX_X2 rfl) (by decide) rfl rfl rfl hl (Nat.le_of_ble_eq_true rfl) dX8_isFound_15 ⟨Nat.le_refl 0, Nat.le_refl 0⟩) hW (fun H locs hW => ?_)
  obtain ⟨u23, hu23, h⟩ := bd_some h
  refine x_ki (r := u23) (x_runV (As := [.int u22.1]) (rest := []) C0 G0 hW (cX7_placeOfPart_met l hJ z u22.2 u22.1 _ hu23) (cwV 1 C0.2.2.2.1 gX8_isFound_X7_placeOfPart rfl rfl rfl hdvX7_placeOfPart ⟨Nat.le_of_ble_eq_true rfl, Nat.le_of_ble_eq_true rfl⟩) (cX_X7 rfl) (by decide) rfl rfl rfl hl (Nat.le_of_ble_eq_true rfl) dX8_isFound_18 ⟨Nat.le_refl 0, Nat.le_refl 0⟩) hW (fun H locs hW => ?_)
  refine lv_istore_n (lv' := [(3, .int u23), (0, .ref (aD G 0)), (1, .int v1), (2, .int v2)]) C0.1 C0.2.1 dX8_isFound_21 rfl hl (by decide) rfl (fun ls hl => ?_)
  refine lv_aload_n C0.1 C0.2.1 dX8_isFound_22 rfl (lv_at hl 1 rfl) ?_
  refine x_get (v := .ref (aD G 3)) C0 G0 hW (cX_X8 rfl) (by decide) rfl 1 (by decide) inX8_isFound_X8 lkX8_isFound_19 rfl dX8_isFound_23 ?_
  refine x_getN (v := .int (u22.2.1 3 4)) C0 G0 hW (cX_X7 rfl) (by decide) rfl 4 (by decide) inX8_isFound_X7 nfX8_isFound_265 rfl dX8_isFound_26 ?_
  refine lv_istore (lv' := [(4, .int (u22.2.1 3 4)), (3, .int u23), (0, .ref (aD G 0)), (1, .int v1), (2, .int v2)]) C0.1 C0.2.1 dX8_isFound_29 hl (by decide) rfl (fun ls hl => ?_)
  refine lv_iconst (v := (0 : Int32)) C0.1 C0.2.1 dX8_isFound_31 (by decide) ?_
  refine lv_istore (lv' := [(5, .int (0 : Int32)), (4, .int (u22.2.1 3 4)), (3, .int u23), (0, .ref (aD G 0)), (1, .int v1), (2, .int v2)]) C0.1 C0.2.1 dX8_isFound_32 hl (by decide) rfl (fun ls hl => ?_)
  exact wX8_isFound_34 C0 G0 hJ z v1 v2 z u22.2 u23 (u22.2.1 3 4) (0 : Int32) _ h hW (lv_sub hl [3, 4, 5, 2, 1, 0] rfl)
theorem cX8_isFound_met (l : Launch) {G : GT} (hJ : gJ 80 G) (z : Nat) (σ : ST) (v1 : Int32) (v2 : Int32) (res : (Int32 × ST)) (h : fX8_isFound z σ v1 v2 = some res) : Met l yX8_isFound wsX8_isFound rX8_isFound (XPc cellX 80 G σ [.ref (aD G 0), .int v1, .int v2]) (XQi cellX 80 G res.1 res.2) 0 0 (gA 80 G) :=
  x_met (ret := (some .boolean)) (maxL := 9) (by decide) rfl (Nat.le_of_ble_eq_true rfl) (fun p e s m args below meth c H locs ls C0 G0 hW hl => wX8_isFound C0 G0 hJ z σ v1 v2 res h hW hl)
end
/-! X8_judge -/
def rX8_judge : Room := { frames := 5, cells := 0, slots := 0, locals := 108 }
theorem hdvX8_judge : yX8_judge.cls = RX8 ∧ yX8_judge.cls ≠ "java/lang/invoke/MethodHandle" ∧ yX8_judge.cls ≠ "java/lang/invoke/VarHandle" ∧ (parseMethodDescriptor yX8_judge.desc).map (fun d => d.parameters.length) = some 2 := by decide +kernel
theorem kcX8_judge_179 : Cond.constantLong RX8 179 (10 : Int64) ∈ wsX8_judge := by decide +kernel
theorem inX8_judge_X8 : ∀ w ∈ u_ws RX8 TX8 10, w ∈ wsX8_judge := by decide +kernel
theorem lkX8_judge_30 : Cond.fieldLink RX8 30 (TX8 3).1 (TX8 3).2.1 (TX8 3).2.2.1 ∈ wsX8_judge := by decide +kernel
theorem lkX8_judge_26 : Cond.fieldLink RX8 26 (TX8 2).1 (TX8 2).2.1 (TX8 2).2.2.1 ∈ wsX8_judge := by decide +kernel
theorem inX8_judge_X4 : ∀ w ∈ u_ws RX4 TX4 6, w ∈ wsX8_judge := by decide +kernel
theorem nfX8_judge_96 : (RX8, 96, (TX4 4).1, (TX4 4).2.1, (TX4 4).2.2.1) ∈ nwF := by decide +kernel
theorem lkX8_judge_19 : Cond.fieldLink RX8 19 (TX8 1).1 (TX8 1).2.1 (TX8 1).2.2.1 ∈ wsX8_judge := by decide +kernel
theorem inX8_judge_X7 : ∀ w ∈ u_ws RX7 TX7 9, w ∈ wsX8_judge := by decide +kernel
theorem nfX8_judge_99 : (RX8, 99, (TX7 5).1, (TX7 5).2.1, (TX7 5).2.2.1) ∈ nwF := by decide +kernel
def fX8_judge_100 (z : Nat) (σ : ST) (v3 : Int32) : Option (Int32 × ST) := some (v3, σ)
def fX8_judge_43 (z : Nat) (v1 : Int32) (v2 : Int32) : Nat → ST → Int32 → Option (Int32 × ST)
  | 0 => fun _ _ => none
  | n + 1 => fun σ v3 => (if v1 ≤ v3 then some ((-9 : Int32), σ) else bd (fX8_figureOf z v1 v2 v3) (fun u28 => (if (3 : Int32) < u28 then fX8_judge_100 z σ v3 else (if (σ.1 3 5) ≤ (σ.1 9 4) then fX8_judge_100 z σ v3 else bd (fX4_placeBy z σ 9 u28) (fun u31 => bd (fX4_of z σ 9 u31) (fun u32 => (if u32 = (0 : Int64) then fX8_judge_100 z σ v3 else bd (fX4_act z σ 9 u28) (fun u34 => (fX8_judge_43 z v1 v2 n) u34 (v3 + 1)))))))))
def fX8_judge_27 (z : Nat) (σ : ST) : Option (Int32 × ST) := some ((-2 : Int32), σ)
def fX8_judge (z : Nat) (σ : ST) (v1 : Int32) (v2 : Int32) : Option (Int32 × ST) := bd (fX8_isWithin z v1 (1 : Int32) (8 : Int32)) (fun u21 => (if u21 = 0 then fX8_judge_27 z σ else (if v2 < 0 then fX8_judge_27 z σ else bd (fX8_power z (10 : Int64) v1) (fun u24 => (if ((v2).toInt64) < u24 then bd (fX4_copy z σ 9 5) (fun u26 => fX8_judge_43 z v1 v2 z u26 (0 : Int32)) else fX8_judge_27 z σ)))))
section
variable {p : Program} {l : Launch} {e : Env} {s : State} {m : MethodId} {args : Array Value} {below : List Frame} {meth : Method} {c : Code} {G : GT}
set_option maxHeartbeats 4000000 in
set_option maxRecDepth 100000 in
theorem wX8_judge_100 (C0 : Cx p s m args meth c cX8_judge RX8 5 (some .int) wsX8_judge) (G0 : Gx G s) (hJ : gJ 80 G) (z : Nat) (σ : ST) (v3 : Int32) (res : (Int32 × ST)) (h : fX8_judge_100 z σ v3 = some res)  {H : Heap} {locs : List Loc} {ls : Array Slot} (hW : Wd cellX 80 G s.heap σ H locs) (hl : lv_has ls 5 [(3, .int v3)]) : W p l e rX8_judge s m args below meth c H locs 0 0 (MQ below (XQi cellX 80 G res.1 res.2) args s 0 0 (gA 80 G)) (F0 m 100 ls []) := by
  unfold fX8_judge_100 at h
  refine lv_iload_n C0.1 C0.2.1 dX8_judge_100 rfl (lv_at hl 0 rfl) ?_
  cases h
  exact x_iret C0 hW dX8_judge_101
set_option maxHeartbeats 4000000 in
set_option maxRecDepth 100000 in
theorem wX8_judge_43 (C0 : Cx p s m args meth c cX8_judge RX8 5 (some .int) wsX8_judge) (G0 : Gx G s) (hJ : gJ 80 G) (z : Nat) (v1 : Int32) (v2 : Int32) (n : Nat) (σ : ST) (v3 : Int32) (res : (Int32 × ST)) (h : fX8_judge_43 z v1 v2 n σ v3 = some res)  {H : Heap} {locs : List Loc} {ls : Array Slot} (hW : Wd cellX 80 G s.heap σ H locs) (hl : lv_has ls 5 [(0, .ref (aD G 0)), (1, .int v1), (2, .int v2), (3, .int v3)]) : W p l e rX8_judge s m args below meth c H locs 0 0 (MQ below (XQi cellX 80 G res.1 res.2) args s 0 0 (gA 80 G)) (F0 m 43 ls []) := by
  induction n generalizing σ v3 H locs ls with
  | zero => cases h
  | succ n ih =>
    have hr43 : ∀ (σ : ST) (v3 : Int32), fX8_judge_43 z v1 v2 n σ v3 = some res → ∀ (H : Heap) (locs : List Loc) (ls : Array Slot), Wd cellX 80 G s.heap σ H locs → lv_has ls 5 [(0, .ref (aD G 0)), (1, .int v1), (2, .int v2), (3, .int v3)] → W p l e rX8_judge s m args below meth c H locs 0 0 (MQ below (XQi cellX 80 G res.1 res.2) args s 0 0 (gA 80 G)) (F0 m 43 ls []) := fun σ v3 h H locs ls hW hl => ih σ v3 h hW hl
    clear ih
    unfold fX8_judge_43 at h
    refine lv_iload_n C0.1 C0.2.1 dX8_judge_43 rfl (lv_at hl 3 rfl) ?_
    refine lv_iload_n C0.1 C0.2.1 dX8_judge_44 rfl (lv_at hl 1 rfl) ?_
    refine lv_icmp_ge (tgt := 121) C0.1 C0.2.1 dX8_judge_45 (by decide) (fun c27 => ?_) (fun c27 => ?_)
    · rw [if_pos c27] at h
      refine lv_bipush (v := (-9 : Int32)) C0.1 C0.2.1 dX8_judge_121 (by decide) ?_
      cases h
      exact x_iret C0 hW dX8_judge_123
    · rw [if_neg c27] at h
      refine lv_iload_n C0.1 C0.2.1 dX8_judge_48 rfl (lv_at hl 1 rfl) ?_
      refine lv_iload_n C0.1 C0.2.1 dX8_judge_49 rfl (lv_at hl 2 rfl) ?_
      refine lv_iload_n C0.1 C0.2.1 dX8_judge_50 rfl (lv_at hl 3 rfl) ?_
      obtain ⟨u28, hu28, h⟩ := bd_some h
      refine x_ki (r := u28) (x_runS (As := [.int v1, .int v2, .int v3]) (rest := []) C0 G0 hW (cX8_figureOf_met l hJ z σ v1 v2 v3 _ hu28) (va_cwS 3 C0.2.2.2.1 gX8_judge_X8_figureOf rfl rfl rfl hdsX8_figureOf ⟨Nat.le_of_ble_eq_true rfl, Nat.le_of_ble_eq_true rfl⟩) rfl rfl hl (Nat.le_of_ble_eq_true rfl) dX8_judge_51 ⟨Nat.le_refl 0, Nat.le_refl 0⟩) hW (fun H locs hW => ?_)
      refine lv_istore (lv' := [(4, .int u28), (0, .ref (aD G 0)), (1, .int v1), (2, .int v2), (3, .int v3)]) C0.1 C0.2.1 dX8_judge_54 hl (by decide) rfl (fun ls hl => ?_)
      refine lv_iload C0.1 C0.2.1 dX8_judge_56 (lv_at hl 0 rfl) ?_
      refine lv_iconst (v := (3 : Int32)) C0.1 C0.2.1 dX8_judge_58 (by decide) ?_
      refine lv_icmp_gt (tgt := 100) C0.1 C0.2.1 dX8_judge_59 (by decide) (fun c29 => ?_) (fun c29 => ?_)
      · rw [if_pos c29] at h
        exact wX8_judge_100 C0 G0 hJ z σ v3 _ h hW (lv_sub hl [4] rfl)
      · rw [if_neg c29] at h
        refine lv_aload_n C0.1 C0.2.1 dX8_judge_62 rfl (lv_at hl 1 rfl) ?_
        refine x_get (v := .ref (aD G 9)) C0 G0 hW (cX_X8 rfl) (by decide) rfl 3 (by decide) inX8_judge_X8 lkX8_judge_30 rfl dX8_judge_63 ?_
        refine x_getN (v := .int (σ.1 9 4)) C0 G0 hW (cX_X4 rfl) (by decide) rfl 4 (by decide) inX8_judge_X4 nfX8_judge_96 rfl dX8_judge_66 ?_
        refine lv_aload_n C0.1 C0.2.1 dX8_judge_69 rfl (lv_at hl 1 rfl) ?_
        refine x_get (v := .ref (aD G 3)) C0 G0 hW (cX_X8 rfl) (by decide) rfl 1 (by decide) inX8_judge_X8 lkX8_judge_19 rfl dX8_judge_70 ?_
        refine x_getN (v := .int (σ.1 3 5)) C0 G0 hW (cX_X7 rfl) (by decide) rfl 5 (by decide) inX8_judge_X7 nfX8_judge_99 rfl dX8_judge_73 ?_
        refine lv_icmp_ge (tgt := 100) C0.1 C0.2.1 dX8_judge_76 (by decide) (fun c30 => ?_) (fun c30 => ?_)
        · rw [if_pos c30] at h
          exact wX8_judge_100 C0 G0 hJ z σ v3 _ h hW (lv_sub hl [4] rfl)
        · rw [if_neg c30] at h
          refine lv_aload_n C0.1 C0.2.1 dX8_judge_79 rfl (lv_at hl 1 rfl) ?_
          refine x_get (v := .ref (aD G 9)) C0 G0 hW (cX_X8 rfl) (by decide) rfl 3 (by decide) inX8_judge_X8 lkX8_judge_30 rfl dX8_judge_80 ?_
          refine lv_aload_n C0.1 C0.2.1 dX8_judge_83 rfl (lv_at hl 1 rfl) ?_
          refine x_get (v := .ref (aD G 9)) C0 G0 hW (cX_X8 rfl) (by decide) rfl 3 (by decide) inX8_judge_X8 lkX8_judge_30 rfl dX8_judge_84 ?_
          refine lv_iload C0.1 C0.2.1 dX8_judge_87 (lv_at hl 0 rfl) ?_
          obtain ⟨u31, hu31, h⟩ := bd_some h
          refine x_ki (r := u31) (x_runV (As := [.int u28]) (rest := [.ref (aD G 9)]) C0 G0 hW (cX4_placeBy_met l hJ z σ 9 u28 _ hu31) (cwV 1 C0.2.2.2.1 gX8_judge_X4_placeBy rfl rfl rfl hdvX4_placeBy ⟨Nat.le_of_ble_eq_true rfl, Nat.le_of_ble_eq_true rfl⟩) (cX_X4 rfl) (by decide) rfl rfl rfl hl (Nat.le_of_ble_eq_true rfl) dX8_judge_89 ⟨Nat.le_refl 0, Nat.le_refl 0⟩) hW (fun H locs hW => ?_)
          obtain ⟨u32, hu32, h⟩ := bd_some h
          refine x_kl (r := u32) (x_runV (As := [.int u31]) (rest := []) C0 G0 hW (cX4_of_met l hJ z σ 9 u31 _ hu32) (cwV 1 C0.2.2.2.1 gX8_judge_X4_of rfl rfl rfl hdvX4_of ⟨Nat.le_of_ble_eq_true rfl, Nat.le_of_ble_eq_true rfl⟩) (cX_X4 rfl) (by decide) rfl rfl rfl hl (Nat.le_of_ble_eq_true rfl) dX8_judge_92 ⟨Nat.le_refl 0, Nat.le_refl 0⟩) hW (fun H locs hW => ?_)
          refine lv_lconst (v := (0 : Int64)) C0.1 C0.2.1 dX8_judge_95 (by decide) ?_
          refine x_lc_ne (tgt := 102) C0 dX8_judge_96 dX8_judge_97 (by decide) (fun c33 => ?_) (fun c33 => ?_)
          · rw [if_neg c33] at h
            refine lv_aload_n C0.1 C0.2.1 dX8_judge_102 rfl (lv_at hl 1 rfl) ?_
            refine x_get (v := .ref (aD G 9)) C0 G0 hW (cX_X8 rfl) (by decide) rfl 3 (by decide) inX8_judge_X8 lkX8_judge_30 rfl dX8_judge_103 ?_
            refine lv_aload_n C0.1 C0.2.1 dX8_judge_106 rfl (lv_at hl 1 rfl) ?_
            refine x_get (v := .ref (aD G 3)) C0 G0 hW (cX_X8 rfl) (by decide) rfl 1 (by decide) inX8_judge_X8 lkX8_judge_19 rfl dX8_judge_107 ?_
            refine lv_iload C0.1 C0.2.1 dX8_judge_110 (lv_at hl 0 rfl) ?_
            obtain ⟨u34, hu34, h⟩ := bd_some h
            refine x_kv (x_runV (As := [.ref (aD G 3), .int u28]) (rest := []) C0 G0 hW (cX4_act_met l hJ z σ 9 u28 _ hu34) (cwV 2 C0.2.2.2.1 gX8_judge_X4_act rfl rfl rfl hdvX4_act ⟨Nat.le_of_ble_eq_true rfl, Nat.le_of_ble_eq_true rfl⟩) (cX_X4 rfl) (by decide) rfl rfl rfl hl (Nat.le_of_ble_eq_true rfl) dX8_judge_112 ⟨Nat.le_refl 0, Nat.le_refl 0⟩) hW (fun H locs hW => ?_)
            refine lv_iinc (v := (v3 + 1)) (lv' := [(3, .int (v3 + 1)), (4, .int u28), (0, .ref (aD G 0)), (1, .int v1), (2, .int v2)]) C0.1 C0.2.1 dX8_judge_115 hl (k := 4) rfl rfl (by decide) rfl (fun ls hl => ?_)
            refine lv_goto (tgt := 43) C0.1 C0.2.1 dX8_judge_118 (by decide) ?_
            exact hr43 u34 (v3 + 1) h _ _ _ hW (lv_sub hl [2, 3, 4, 0] rfl)
          · rw [if_pos c33] at h
            exact wX8_judge_100 C0 G0 hJ z σ v3 _ h hW (lv_sub hl [4] rfl)
set_option maxHeartbeats 4000000 in
set_option maxRecDepth 100000 in
theorem wX8_judge_27 (C0 : Cx p s m args meth c cX8_judge RX8 5 (some .int) wsX8_judge) (G0 : Gx G s) (hJ : gJ 80 G) (z : Nat) (σ : ST) (res : (Int32 × ST)) (h : fX8_judge_27 z σ = some res)  {H : Heap} {locs : List Loc} {ls : Array Slot} (hW : Wd cellX 80 G s.heap σ H locs) (hl : lv_has ls 5 []) : W p l e rX8_judge s m args below meth c H locs 0 0 (MQ below (XQi cellX 80 G res.1 res.2) args s 0 0 (gA 80 G)) (F0 m 27 ls []) := by
  unfold fX8_judge_27 at h
  refine lv_bipush (v := (-2 : Int32)) C0.1 C0.2.1 dX8_judge_27 (by decide) ?_
  cases h
  exact x_iret C0 hW dX8_judge_29
set_option maxHeartbeats 4000000 in
set_option maxRecDepth 100000 in
theorem wX8_judge (C0 : Cx p s m args meth c cX8_judge RX8 5 (some .int) wsX8_judge) (G0 : Gx G s) (hJ : gJ 80 G) (z : Nat) (σ : ST) (v1 : Int32) (v2 : Int32) (res : (Int32 × ST)) (h : fX8_judge z σ v1 v2 = some res)  {H : Heap} {locs : List Loc} {ls : Array Slot} (hW : Wd cellX 80 G s.heap σ H locs) (hl : lv_has ls 5 [(0, .ref (aD G 0)), (1, .int v1), (2, .int v2)]) : W p l e rX8_judge s m args below meth c H locs 0 0 (MQ below (XQi cellX 80 G res.1 res.2) args s 0 0 (gA 80 G)) (F0 m 0 ls []) := by
  unfold fX8_judge at h
  refine lv_iload_n C0.1 C0.2.1 dX8_judge_0 rfl (lv_at hl 1 rfl) ?_
  refine lv_iconst (v := (1 : Int32)) C0.1 C0.2.1 dX8_judge_1 (by decide) ?_
  refine lv_bipush (v := (8 : Int32)) C0.1 C0.2.1 dX8_judge_2 (by decide) ?_
  obtain ⟨u21, hu21, h⟩ := bd_some h
  refine x_ki (r := u21) (x_runS (As := [.int v1, .int (1 : Int32), .int (8 : Int32)]) (rest := []) C0 G0 hW (cX8_isWithin_met l hJ z σ v1 (1 : Int32) (8 : Int32) _ hu21) (va_cwS 3 C0.2.2.2.1 gX8_judge_X8_isWithin rfl rfl rfl hdsX8_isWithin ⟨Nat.le_of_ble_eq_true rfl, Nat.le_of_ble_eq_true rfl⟩) rfl rfl hl (Nat.le_of_ble_eq_true rfl) dX8_judge_4 ⟨Nat.le_refl 0, Nat.le_refl 0⟩) hW (fun H locs hW => ?_)
  refine lv_if_eq (tgt := 27) C0.1 C0.2.1 dX8_judge_7 (by decide) (fun c22 => ?_) (fun c22 => ?_)
  · rw [if_pos c22] at h
    exact wX8_judge_27 C0 G0 hJ z σ _ h hW (lv_sub hl [] rfl)
  · rw [if_neg c22] at h
    refine lv_iload_n C0.1 C0.2.1 dX8_judge_10 rfl (lv_at hl 2 rfl) ?_
    refine lv_if_lt (tgt := 27) C0.1 C0.2.1 dX8_judge_11 (by decide) (fun c23 => ?_) (fun c23 => ?_)
    · rw [if_pos c23] at h
      exact wX8_judge_27 C0 G0 hJ z σ _ h hW (lv_sub hl [] rfl)
    · rw [if_neg c23] at h
      refine lv_iload_n C0.1 C0.2.1 dX8_judge_14 rfl (lv_at hl 2 rfl) ?_
      refine lv_i2l (v := ((v2).toInt64)) C0.1 C0.2.1 dX8_judge_15 rfl ?_
      refine lv_ldc2 (v := (10 : Int64)) C0.1 C0.2.1 C0.2.2.2.2.1 (C0.2.2.2.1 _ kcX8_judge_179) dX8_judge_16 ?_
      refine lv_iload_n C0.1 C0.2.1 dX8_judge_19 rfl (lv_at hl 1 rfl) ?_
      obtain ⟨u24, hu24, h⟩ := bd_some h
      refine x_kl (r := u24) (x_runS (As := [.long (10 : Int64), .int v1]) (rest := [.long ((v2).toInt64)]) C0 G0 hW (cX8_power_met l hJ z σ (10 : Int64) v1 _ hu24) (va_cwS 2 C0.2.2.2.1 gX8_judge_X8_power rfl rfl rfl hdsX8_power ⟨Nat.le_of_ble_eq_true rfl, Nat.le_of_ble_eq_true rfl⟩) rfl rfl hl (Nat.le_of_ble_eq_true rfl) dX8_judge_20 ⟨Nat.le_refl 0, Nat.le_refl 0⟩) hW (fun H locs hW => ?_)
      refine x_lc_lt (tgt := 30) C0 dX8_judge_23 dX8_judge_24 (by decide) (fun c25 => ?_) (fun c25 => ?_)
      · rw [if_pos c25] at h
        refine lv_aload_n C0.1 C0.2.1 dX8_judge_30 rfl (lv_at hl 0 rfl) ?_
        refine x_get (v := .ref (aD G 9)) C0 G0 hW (cX_X8 rfl) (by decide) rfl 3 (by decide) inX8_judge_X8 lkX8_judge_30 rfl dX8_judge_31 ?_
        refine lv_aload_n C0.1 C0.2.1 dX8_judge_34 rfl (lv_at hl 0 rfl) ?_
        refine x_get (v := .ref (aD G 5)) C0 G0 hW (cX_X8 rfl) (by decide) rfl 2 (by decide) inX8_judge_X8 lkX8_judge_26 rfl dX8_judge_35 ?_
        obtain ⟨u26, hu26, h⟩ := bd_some h
        refine x_kv (x_runV (As := [.ref (aD G 5)]) (rest := []) C0 G0 hW (cX4_copy_met l hJ z σ 9 5 _ hu26) (cwV 1 C0.2.2.2.1 gX8_judge_X4_copy rfl rfl rfl hdvX4_copy ⟨Nat.le_of_ble_eq_true rfl, Nat.le_of_ble_eq_true rfl⟩) (cX_X4 rfl) (by decide) rfl rfl rfl hl (Nat.le_of_ble_eq_true rfl) dX8_judge_38 ⟨Nat.le_refl 0, Nat.le_refl 0⟩) hW (fun H locs hW => ?_)
        refine lv_iconst (v := (0 : Int32)) C0.1 C0.2.1 dX8_judge_41 (by decide) ?_
        refine lv_istore_n (lv' := [(3, .int (0 : Int32)), (0, .ref (aD G 0)), (1, .int v1), (2, .int v2)]) C0.1 C0.2.1 dX8_judge_42 rfl hl (by decide) rfl (fun ls hl => ?_)
        exact wX8_judge_43 C0 G0 hJ z v1 v2 z u26 (0 : Int32) _ h hW (lv_sub hl [1, 2, 3, 0] rfl)
      · rw [if_neg c25] at h
        exact wX8_judge_27 C0 G0 hJ z σ _ h hW (lv_sub hl [] rfl)
theorem cX8_judge_met (l : Launch) {G : GT} (hJ : gJ 80 G) (z : Nat) (σ : ST) (v1 : Int32) (v2 : Int32) (res : (Int32 × ST)) (h : fX8_judge z σ v1 v2 = some res) : Met l yX8_judge wsX8_judge rX8_judge (XPc cellX 80 G σ [.ref (aD G 0), .int v1, .int v2]) (XQi cellX 80 G res.1 res.2) 0 0 (gA 80 G) :=
  x_met (ret := (some .int)) (maxL := 5) (by decide) rfl (Nat.le_of_ble_eq_true rfl) (fun p e s m args below meth c H locs ls C0 G0 hW hl => wX8_judge C0 G0 hJ z σ v1 v2 res h hW hl)
end

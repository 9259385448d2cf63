/-! X8_keep -/
def rX8_keep : Room := { frames := 3, cells := 0, slots := 0, locals := 66 }
theorem hdvX8_keep : yX8_keep.cls = RX8 ∧ yX8_keep.cls ≠ "java/lang/invoke/MethodHandle" ∧ yX8_keep.cls ≠ "java/lang/invoke/VarHandle" ∧ (parseMethodDescriptor yX8_keep.desc).map (fun d => d.parameters.length) = some 1 := by decide +kernel
theorem inX8_keep_X8 : ∀ w ∈ u_ws RX8 TX8 10, w ∈ wsX8_keep := by decide +kernel
theorem lkX8_keep_42 : Cond.fieldLink RX8 42 (TX8 5).1 (TX8 5).2.1 (TX8 5).2.2.1 ∈ wsX8_keep := by decide +kernel
theorem lkX8_keep_26 : Cond.fieldLink RX8 26 (TX8 2).1 (TX8 2).2.1 (TX8 2).2.2.1 ∈ wsX8_keep := by decide +kernel
theorem lkX8_keep_90 : Cond.fieldLink RX8 90 (TX8 8).1 (TX8 8).2.1 (TX8 8).2.2.1 ∈ wsX8_keep := by decide +kernel
theorem inX8_keep_X4 : ∀ w ∈ u_ws RX4 TX4 6, w ∈ wsX8_keep := by decide +kernel
theorem nfX8_keep_96 : (RX8, 96, (TX4 4).1, (TX4 4).2.1, (TX4 4).2.2.1) ∈ nwF := by decide +kernel
def fX8_keep (z : Nat) (σ : ST) (v1 : Int32) : Option (Int32 × ST) := bd (fX8_isWithin z v1 (0 : Int32) (1 : Int32)) (fun u21 => (if u21 = 0 then some ((-1 : Int32), σ) else bd (fX5_put z σ 47 v1 5) (fun u23 => lt (pI u23 0 8 ((u23.1 0 8) ||| ((1 : Int32) <<< (v1 &&& 31)))) (fun s24 => some ((s24.1 5 4), s24)))))
section
variable {p : Program} {l : Launch} {e : Env} {s : State} {m : MethodId} {args : Array Value} {below : List Frame} {meth : Method} {c : Code} {G : GT}
set_option maxHeartbeats 4000000 in
set_option maxRecDepth 100000 in
theorem wX8_keep (C0 : Cx p s m args meth c cX8_keep RX8 2 (some .int) wsX8_keep) (G0 : Gx G s) (hJ : gJ 80 G) (z : Nat) (σ : ST) (v1 : Int32) (res : (Int32 × ST)) (h : fX8_keep z σ v1 = some res)  {H : Heap} {locs : List Loc} {ls : Array Slot} (hW : Wd cellX 80 G s.heap σ H locs) (hl : lv_has ls 2 [(0, .ref (aD G 0)), (1, .int v1)]) : W p l e rX8_keep s m args below meth c H locs 0 0 (MQ below (XQi cellX 80 G res.1 res.2) args s 0 0 (gA 80 G)) (F0 m 0 ls []) := by
  unfold fX8_keep at h
  refine lv_iload_n C0.1 C0.2.1 dX8_keep_0 rfl (lv_at hl 1 rfl) ?_
  refine lv_iconst (v := (0 : Int32)) C0.1 C0.2.1 dX8_keep_1 (by decide) ?_
  refine lv_iconst (v := (1 : Int32)) C0.1 C0.2.1 dX8_keep_2 (by decide) ?_
  obtain ⟨u21, hu21, h⟩ := bd_some h
  refine x_ki (r := u21) (x_runS (As := [.int v1, .int (0 : Int32), .int (1 : Int32)]) (rest := []) C0 G0 hW (cX8_isWithin_met l hJ z σ v1 (0 : Int32) (1 : Int32) _ hu21) (va_cwS 3 C0.2.2.2.1 gX8_keep_X8_isWithin rfl rfl rfl hdsX8_isWithin ⟨Nat.le_of_ble_eq_true rfl, Nat.le_of_ble_eq_true rfl⟩) rfl rfl hl (Nat.le_of_ble_eq_true rfl) dX8_keep_3 ⟨Nat.le_refl 0, Nat.le_refl 0⟩) hW (fun H locs hW => ?_)
  refine lv_if_ne (tgt := 11) C0.1 C0.2.1 dX8_keep_6 (by decide) (fun c22 => ?_) (fun c22 => ?_)
  · rw [if_neg c22] at h
    refine lv_aload_n C0.1 C0.2.1 dX8_keep_11 rfl (lv_at hl 0 rfl) ?_
    refine x_get (v := .ref (aD G 47)) C0 G0 hW (cX_X8 rfl) (by decide) rfl 5 (by decide) inX8_keep_X8 lkX8_keep_42 rfl dX8_keep_12 ?_
    refine lv_iload_n C0.1 C0.2.1 dX8_keep_15 rfl (lv_at hl 1 rfl) ?_
    refine lv_aload_n C0.1 C0.2.1 dX8_keep_16 rfl (lv_at hl 0 rfl) ?_
    refine x_get (v := .ref (aD G 5)) C0 G0 hW (cX_X8 rfl) (by decide) rfl 2 (by decide) inX8_keep_X8 lkX8_keep_26 rfl dX8_keep_17 ?_
    obtain ⟨u23, hu23, h⟩ := bd_some h
    refine x_kv (x_runV (As := [.int v1, .ref (aD G 5)]) (rest := []) C0 G0 hW (cX5_put_met l hJ z σ 47 v1 5 _ hu23) (cwV 2 C0.2.2.2.1 gX8_keep_X5_put rfl rfl rfl hdvX5_put ⟨Nat.le_of_ble_eq_true rfl, Nat.le_of_ble_eq_true rfl⟩) (cX_X5 rfl) (by decide) rfl rfl rfl hl (Nat.le_of_ble_eq_true rfl) dX8_keep_20 ⟨Nat.le_refl 0, Nat.le_refl 0⟩) hW (fun H locs hW => ?_)
    refine lv_aload_n C0.1 C0.2.1 dX8_keep_23 rfl (lv_at hl 0 rfl) ?_
    refine lv_dup C0.1 C0.2.1 dX8_keep_24 rfl ?_
    refine x_get (v := .int (u23.1 0 8)) C0 G0 hW (cX_X8 rfl) (by decide) rfl 8 (by decide) inX8_keep_X8 lkX8_keep_90 rfl dX8_keep_25 ?_
    refine lv_iconst (v := (1 : Int32)) C0.1 C0.2.1 dX8_keep_28 (by decide) ?_
    refine lv_iload_n C0.1 C0.2.1 dX8_keep_29 rfl (lv_at hl 1 rfl) ?_
    refine lv_ishl C0.1 C0.2.1 dX8_keep_30 ?_
    refine lv_ior C0.1 C0.2.1 dX8_keep_31 ?_
    refine x_putI (v := ((u23.1 0 8) ||| ((1 : Int32) <<< (v1 &&& 31)))) C0 G0 hJ hW (cX_X8 rfl) (by decide) rfl 8 (by decide) inX8_keep_X8 lkX8_keep_90 tyX8 tyX8_ok nmX8 rfl rfl rfl (Nat.le_of_ble_eq_true rfl) (hu_X8_8 rfl) dX8_keep_32 (fun H locs hW => ?_)
    obtain ⟨s24, es24, h⟩ := lt_some h
    rw [es24] at hW
    refine lv_aload_n C0.1 C0.2.1 dX8_keep_35 rfl (lv_at hl 0 rfl) ?_
    refine x_get (v := .ref (aD G 5)) C0 G0 hW (cX_X8 rfl) (by decide) rfl 2 (by decide) inX8_keep_X8 lkX8_keep_26 rfl dX8_keep_36 ?_
    refine x_getN (v := .int (s24.1 5 4)) C0 G0 hW (cX_X4 rfl) (by decide) rfl 4 (by decide) inX8_keep_X4 nfX8_keep_96 rfl dX8_keep_39 ?_
    cases h
    exact x_iret C0 hW dX8_keep_42
  · rw [if_pos c22] at h
    refine lv_iconst (v := (-1 : Int32)) C0.1 C0.2.1 dX8_keep_9 (by decide) ?_
    cases h
    exact x_iret C0 hW dX8_keep_10
theorem cX8_keep_met (l : Launch) {G : GT} (hJ : gJ 80 G) (z : Nat) (σ : ST) (v1 : Int32) (res : (Int32 × ST)) (h : fX8_keep z σ v1 = some res) : Met l yX8_keep wsX8_keep rX8_keep (XPc cellX 80 G σ [.ref (aD G 0), .int v1]) (XQi cellX 80 G res.1 res.2) 0 0 (gA 80 G) :=
  x_met (ret := (some .int)) (maxL := 2) (by decide) rfl (Nat.le_of_ble_eq_true rfl) (fun p e s m args below meth c H locs ls C0 G0 hW hl => wX8_keep C0 G0 hJ z σ v1 res h hW hl)
end
/-! X8_lanes -/
def rX8_lanes : Room := { frames := 1, cells := 0, slots := 0, locals := 21 }
theorem hdvX8_lanes : yX8_lanes.cls = RX8 ∧ yX8_lanes.cls ≠ "java/lang/invoke/MethodHandle" ∧ yX8_lanes.cls ≠ "java/lang/invoke/VarHandle" ∧ (parseMethodDescriptor yX8_lanes.desc).map (fun d => d.parameters.length) = some 0 := by decide +kernel
theorem jlX8_lanes_205 : Cond.methodLink RX8 205 Lib.Math.min.name ∈ wsX8_lanes := by decide +kernel
theorem jsX8_lanes_205 : Cond.static Lib.Math.min.name ∈ wsX8_lanes := by decide +kernel
theorem jiX8_lanes : Cond.initialized "java/lang/Math" ∈ wsX8_lanes := by decide +kernel
theorem jcX8_lanes_205 : Cond.code Lib.Math.min.name Lib.Math.min.code 2 (some .int) ∈ wsX8_lanes := by decide +kernel
theorem inX8_lanes_X8 : ∀ w ∈ u_ws RX8 TX8 10, w ∈ wsX8_lanes := by decide +kernel
theorem lkX8_lanes_26 : Cond.fieldLink RX8 26 (TX8 2).1 (TX8 2).2.1 (TX8 2).2.2.1 ∈ wsX8_lanes := by decide +kernel
theorem inX8_lanes_X4 : ∀ w ∈ u_ws RX4 TX4 6, w ∈ wsX8_lanes := by decide +kernel
theorem nfX8_lanes_109 : (RX8, 109, (TX4 3).1, (TX4 3).2.1, (TX4 3).2.2.1) ∈ nwF := by decide +kernel
theorem jlX8_lanes_199 : Cond.methodLink RX8 199 Lib.Math.max.name ∈ wsX8_lanes := by decide +kernel
theorem jsX8_lanes_199 : Cond.static Lib.Math.max.name ∈ wsX8_lanes := by decide +kernel
theorem jcX8_lanes_199 : Cond.code Lib.Math.max.name Lib.Math.max.code 2 (some .int) ∈ wsX8_lanes := by decide +kernel
def fX8_lanes_53 (z : Nat) (r6 : Int32 → Int32 → Int32 → Option Int32) (σ : ST) (v1 : Int32) (v2 : Int32) (v3 : Int32) : Option Int32 := r6 v1 v2 (v3 + 1)
def fX8_lanes_6 (z : Nat) (σ : ST) : Nat → Int32 → Int32 → Int32 → Option Int32
  | 0 => fun _ _ _ => none
  | n + 1 => fun v1 v2 v3 => (if (10 : Int32) ≤ v3 then some ((v1 + v2) + (if v2 < v1 then v2 else v1)) else bd (fX4_of z σ 5 v3) (fun u22 => (if u22 ≤ (0 : Int64) then fX8_lanes_53 z (fX8_lanes_6 z σ n) σ v1 v2 v3 else fX8_lanes_53 z (fX8_lanes_6 z σ n) σ (if v1 < ((σ.1 5 3) - v3) then ((σ.1 5 3) - v3) else v1) (if v2 < (v3 - (σ.1 5 3)) then (v3 - (σ.1 5 3)) else v2) v3)))
def fX8_lanes (z : Nat) (σ : ST) : Option Int32 := fX8_lanes_6 z σ z (0 : Int32) (0 : Int32) (0 : Int32)
section
variable {p : Program} {l : Launch} {e : Env} {s : State} {m : MethodId} {args : Array Value} {below : List Frame} {meth : Method} {c : Code} {G : GT}
set_option maxHeartbeats 4000000 in
set_option maxRecDepth 100000 in
theorem wX8_lanes_53 (C0 : Cx p s m args meth c cX8_lanes RX8 4 (some .int) wsX8_lanes) (G0 : Gx G s) (hJ : gJ 80 G) (z : Nat) (r6 : Int32 → Int32 → Int32 → Option Int32) (σ : ST) (v1 : Int32) (v2 : Int32) (v3 : Int32) (res : Int32) (h : fX8_lanes_53 z r6 σ v1 v2 v3 = some res) (hr6 : ∀ (v1 : Int32) (v2 : Int32) (v3 : Int32), r6 v1 v2 v3 = some res → ∀ (H : Heap) (locs : List Loc) (ls : Array Slot), Wd cellX 80 G s.heap σ H locs → lv_has ls 4 [(0, .ref (aD G 0)), (1, .int v1), (2, .int v2), (3, .int v3)] → W p l e rX8_lanes s m args below meth c H locs 0 0 (MQ below (XQi cellX 80 G res σ) args s 0 0 (gA 80 G)) (F0 m 6 ls [])) {H : Heap} {locs : List Loc} {ls : Array Slot} (hW : Wd cellX 80 G s.heap σ H locs) (hl : lv_has ls 4 [(0, .ref (aD G 0)), (1, .int v1), (2, .int v2), (3, .int v3)]) : W p l e rX8_lanes s m args below meth c H locs 0 0 (MQ below (XQi cellX 80 G res σ) args s 0 0 (gA 80 G)) (F0 m 53 ls []) := by
  unfold fX8_lanes_53 at h
  refine lv_iinc (v := (v3 + 1)) (lv' := [(3, .int (v3 + 1)), (0, .ref (aD G 0)), (1, .int v1), (2, .int v2)]) C0.1 C0.2.1 dX8_lanes_53 hl (k := 3) rfl rfl (by decide) rfl (fun ls hl => ?_)
  refine lv_goto (tgt := 6) C0.1 C0.2.1 dX8_lanes_56 (by decide) ?_
  exact hr6 v1 v2 (v3 + 1) h _ _ _ hW (lv_sub hl [1, 2, 3, 0] rfl)
set_option maxHeartbeats 4000000 in
set_option maxRecDepth 100000 in
theorem wX8_lanes_6 (C0 : Cx p s m args meth c cX8_lanes RX8 4 (some .int) wsX8_lanes) (G0 : Gx G s) (hJ : gJ 80 G) (z : Nat) (σ : ST) (n : Nat) (v1 : Int32) (v2 : Int32) (v3 : Int32) (res : Int32) (h : fX8_lanes_6 z σ n v1 v2 v3 = some res)  {H : Heap} {locs : List Loc} {ls : Array Slot} (hW : Wd cellX 80 G s.heap σ H locs) (hl : lv_has ls 4 [(0, .ref (aD G 0)), (1, .int v1), (2, .int v2), (3, .int v3)]) : W p l e rX8_lanes s m args below meth c H locs 0 0 (MQ below (XQi cellX 80 G res σ) args s 0 0 (gA 80 G)) (F0 m 6 ls []) := by
  induction n generalizing v1 v2 v3 H locs ls with
  | zero => cases h
  | succ n ih =>
    have hr6 : ∀ (v1 : Int32) (v2 : Int32) (v3 : Int32), fX8_lanes_6 z σ n v1 v2 v3 = some res → ∀ (H : Heap) (locs : List Loc) (ls : Array Slot), Wd cellX 80 G s.heap σ H locs → lv_has ls 4 [(0, .ref (aD G 0)), (1, .int v1), (2, .int v2), (3, .int v3)] → W p l e rX8_lanes s m args below meth c H locs 0 0 (MQ below (XQi cellX 80 G res σ) args s 0 0 (gA 80 G)) (F0 m 6 ls []) := fun v1 v2 v3 h H locs ls hW hl => ih v1 v2 v3 h hW hl
    clear ih
    unfold fX8_lanes_6 at h
    refine lv_iload_n C0.1 C0.2.1 dX8_lanes_6 rfl (lv_at hl 3 rfl) ?_
    refine lv_bipush (v := (10 : Int32)) C0.1 C0.2.1 dX8_lanes_7 (by decide) ?_
    refine lv_icmp_ge (tgt := 59) C0.1 C0.2.1 dX8_lanes_9 (by decide) (fun c21 => ?_) (fun c21 => ?_)
    · rw [if_pos c21] at h
      refine lv_iload_n C0.1 C0.2.1 dX8_lanes_59 rfl (lv_at hl 1 rfl) ?_
      refine lv_iload_n C0.1 C0.2.1 dX8_lanes_60 rfl (lv_at hl 2 rfl) ?_
      refine lv_iadd C0.1 C0.2.1 dX8_lanes_61 ?_
      refine lv_iload_n C0.1 C0.2.1 dX8_lanes_62 rfl (lv_at hl 1 rfl) ?_
      refine lv_iload_n C0.1 C0.2.1 dX8_lanes_63 rfl (lv_at hl 2 rfl) ?_
      refine va_mmin C0.1 C0.2.1 (C0.2.2.2.2.2.1.trans hl.1.symm) C0.2.2.2.2.1 (C0.2.2.2.1 _ jlX8_lanes_205) (C0.2.2.2.1 _ jsX8_lanes_205) (C0.2.2.2.1 _ jiX8_lanes) (C0.2.2.2.1 _ jcX8_lanes_205) (Nat.le_of_ble_eq_true rfl) (Nat.le_of_ble_eq_true rfl) (Nat.le_refl 0) (Nat.le_refl 0) dX8_lanes_64 ?_
      refine lv_iadd C0.1 C0.2.1 dX8_lanes_67 ?_
      cases h
      exact x_iret C0 hW dX8_lanes_68
    · rw [if_neg c21] at h
      refine lv_aload_n C0.1 C0.2.1 dX8_lanes_12 rfl (lv_at hl 0 rfl) ?_
      refine x_get (v := .ref (aD G 5)) C0 G0 hW (cX_X8 rfl) (by decide) rfl 2 (by decide) inX8_lanes_X8 lkX8_lanes_26 rfl dX8_lanes_13 ?_
      refine lv_iload_n C0.1 C0.2.1 dX8_lanes_16 rfl (lv_at hl 3 rfl) ?_
      obtain ⟨u22, hu22, h⟩ := bd_some h
      refine x_kl (r := u22) (x_runV (As := [.int v3]) (rest := []) C0 G0 hW (cX4_of_met l hJ z σ 5 v3 _ hu22) (cwV 1 C0.2.2.2.1 gX8_lanes_X4_of rfl rfl rfl hdvX4_of ⟨Nat.le_of_ble_eq_true rfl, Nat.le_of_ble_eq_true rfl⟩) (cX_X4 rfl) (by decide) rfl rfl rfl hl (Nat.le_of_ble_eq_true rfl) dX8_lanes_17 ⟨Nat.le_refl 0, Nat.le_refl 0⟩) hW (fun H locs hW => ?_)
      refine lv_lconst (v := (0 : Int64)) C0.1 C0.2.1 dX8_lanes_20 (by decide) ?_
      refine x_lc_le (tgt := 53) C0 dX8_lanes_21 dX8_lanes_22 (by decide) (fun c23 => ?_) (fun c23 => ?_)
      · rw [if_pos c23] at h
        exact wX8_lanes_53 C0 G0 hJ z (fX8_lanes_6 z σ n) σ v1 v2 v3 _ h (by exact hr6) hW (lv_sub hl [0, 1, 2, 3] rfl)
      · rw [if_neg c23] at h
        refine lv_iload_n C0.1 C0.2.1 dX8_lanes_25 rfl (lv_at hl 1 rfl) ?_
        refine lv_aload_n C0.1 C0.2.1 dX8_lanes_26 rfl (lv_at hl 0 rfl) ?_
        refine x_get (v := .ref (aD G 5)) C0 G0 hW (cX_X8 rfl) (by decide) rfl 2 (by decide) inX8_lanes_X8 lkX8_lanes_26 rfl dX8_lanes_27 ?_
        refine x_getN (v := .int (σ.1 5 3)) C0 G0 hW (cX_X4 rfl) (by decide) rfl 3 (by decide) inX8_lanes_X4 nfX8_lanes_109 rfl dX8_lanes_30 ?_
        refine lv_iload_n C0.1 C0.2.1 dX8_lanes_33 rfl (lv_at hl 3 rfl) ?_
        refine lv_isub C0.1 C0.2.1 dX8_lanes_34 ?_
        refine va_mmax C0.1 C0.2.1 (C0.2.2.2.2.2.1.trans hl.1.symm) C0.2.2.2.2.1 (C0.2.2.2.1 _ jlX8_lanes_199) (C0.2.2.2.1 _ jsX8_lanes_199) (C0.2.2.2.1 _ jiX8_lanes) (C0.2.2.2.1 _ jcX8_lanes_199) (Nat.le_of_ble_eq_true rfl) (Nat.le_of_ble_eq_true rfl) (Nat.le_refl 0) (Nat.le_refl 0) dX8_lanes_35 ?_
        refine lv_istore_n (lv' := [(1, .int (if v1 < ((σ.1 5 3) - v3) then ((σ.1 5 3) - v3) else v1)), (0, .ref (aD G 0)), (2, .int v2), (3, .int v3)]) C0.1 C0.2.1 dX8_lanes_38 rfl hl (by decide) rfl (fun ls hl => ?_)
        refine lv_iload_n C0.1 C0.2.1 dX8_lanes_39 rfl (lv_at hl 2 rfl) ?_
        refine lv_iload_n C0.1 C0.2.1 dX8_lanes_40 rfl (lv_at hl 3 rfl) ?_
        refine lv_aload_n C0.1 C0.2.1 dX8_lanes_41 rfl (lv_at hl 1 rfl) ?_
        refine x_get (v := .ref (aD G 5)) C0 G0 hW (cX_X8 rfl) (by decide) rfl 2 (by decide) inX8_lanes_X8 lkX8_lanes_26 rfl dX8_lanes_42 ?_
        refine x_getN (v := .int (σ.1 5 3)) C0 G0 hW (cX_X4 rfl) (by decide) rfl 3 (by decide) inX8_lanes_X4 nfX8_lanes_109 rfl dX8_lanes_45 ?_
        refine lv_isub C0.1 C0.2.1 dX8_lanes_48 ?_
        refine va_mmax C0.1 C0.2.1 (C0.2.2.2.2.2.1.trans hl.1.symm) C0.2.2.2.2.1 (C0.2.2.2.1 _ jlX8_lanes_199) (C0.2.2.2.1 _ jsX8_lanes_199) (C0.2.2.2.1 _ jiX8_lanes) (C0.2.2.2.1 _ jcX8_lanes_199) (Nat.le_of_ble_eq_true rfl) (Nat.le_of_ble_eq_true rfl) (Nat.le_refl 0) (Nat.le_refl 0) dX8_lanes_49 ?_
        refine lv_istore_n (lv' := [(2, .int (if v2 < (v3 - (σ.1 5 3)) then (v3 - (σ.1 5 3)) else v2)), (1, .int (if v1 < ((σ.1 5 3) - v3) then ((σ.1 5 3) - v3) else v1)), (0, .ref (aD G 0)), (3, .int v3)]) C0.1 C0.2.1 dX8_lanes_52 rfl hl (by decide) rfl (fun ls hl => ?_)
        exact wX8_lanes_53 C0 G0 hJ z (fX8_lanes_6 z σ n) σ (if v1 < ((σ.1 5 3) - v3) then ((σ.1 5 3) - v3) else v1) (if v2 < (v3 - (σ.1 5 3)) then (v3 - (σ.1 5 3)) else v2) v3 _ h (by exact hr6) hW (lv_sub hl [2, 1, 0, 3] rfl)
set_option maxHeartbeats 4000000 in
set_option maxRecDepth 100000 in
theorem wX8_lanes (C0 : Cx p s m args meth c cX8_lanes RX8 4 (some .int) wsX8_lanes) (G0 : Gx G s) (hJ : gJ 80 G) (z : Nat) (σ : ST) (res : Int32) (h : fX8_lanes z σ = some res)  {H : Heap} {locs : List Loc} {ls : Array Slot} (hW : Wd cellX 80 G s.heap σ H locs) (hl : lv_has ls 4 [(0, .ref (aD G 0))]) : W p l e rX8_lanes s m args below meth c H locs 0 0 (MQ below (XQi cellX 80 G res σ) args s 0 0 (gA 80 G)) (F0 m 0 ls []) := by
  unfold fX8_lanes at h
  refine lv_iconst (v := (0 : Int32)) C0.1 C0.2.1 dX8_lanes_0 (by decide) ?_
  refine lv_istore_n (lv' := [(1, .int (0 : Int32)), (0, .ref (aD G 0))]) C0.1 C0.2.1 dX8_lanes_1 rfl hl (by decide) rfl (fun ls hl => ?_)
  refine lv_iconst (v := (0 : Int32)) C0.1 C0.2.1 dX8_lanes_2 (by decide) ?_
  refine lv_istore_n (lv' := [(2, .int (0 : Int32)), (1, .int (0 : Int32)), (0, .ref (aD G 0))]) C0.1 C0.2.1 dX8_lanes_3 rfl hl (by decide) rfl (fun ls hl => ?_)
  refine lv_iconst (v := (0 : Int32)) C0.1 C0.2.1 dX8_lanes_4 (by decide) ?_
  refine lv_istore_n (lv' := [(3, .int (0 : Int32)), (2, .int (0 : Int32)), (1, .int (0 : Int32)), (0, .ref (aD G 0))]) C0.1 C0.2.1 dX8_lanes_5 rfl hl (by decide) rfl (fun ls hl => ?_)
  exact wX8_lanes_6 C0 G0 hJ z σ z (0 : Int32) (0 : Int32) (0 : Int32) _ h hW (lv_sub hl [3, 2, 1, 0] rfl)
theorem cX8_lanes_met (l : Launch) {G : GT} (hJ : gJ 80 G) (z : Nat) (σ : ST)  (res : Int32) (h : fX8_lanes z σ = some res) : Met l yX8_lanes wsX8_lanes rX8_lanes (XPc cellX 80 G σ [.ref (aD G 0)]) (XQi cellX 80 G res σ) 0 0 (gA 80 G) :=
  x_met (ret := (some .int)) (maxL := 4) (by decide) rfl (Nat.le_of_ble_eq_true rfl) (fun p e s m args below meth c H locs ls C0 G0 hW hl => wX8_lanes C0 G0 hJ z σ res h hW hl)
end
/-! X8_likeliest -/
def rX8_likeliest : Room := { frames := 1, cells := 0, slots := 0, locals := 21 }
theorem hdvX8_likeliest : yX8_likeliest.cls = RX8 ∧ yX8_likeliest.cls ≠ "java/lang/invoke/MethodHandle" ∧ yX8_likeliest.cls ≠ "java/lang/invoke/VarHandle" ∧ (parseMethodDescriptor yX8_likeliest.desc).map (fun d => d.parameters.length) = some 0 := by decide +kernel
theorem inX8_likeliest_X8 : ∀ w ∈ u_ws RX8 TX8 10, w ∈ wsX8_likeliest := by decide +kernel
theorem lkX8_likeliest_26 : Cond.fieldLink RX8 26 (TX8 2).1 (TX8 2).2.1 (TX8 2).2.2.1 ∈ wsX8_likeliest := by decide +kernel
def fX8_likeliest_42 (z : Nat) (r8 : Int32 → Int64 → Int32 → Option Int32) (σ : ST) (v1 : Int32) (v2 : Int64) (v4 : Int32) : Option Int32 := r8 v1 v2 (v4 + 1)
def fX8_likeliest_8 (z : Nat) (σ : ST) : Nat → Int32 → Int64 → Int32 → Option Int32
  | 0 => fun _ _ _ => none
  | n + 1 => fun v1 v2 v4 => (if (11 : Int32) ≤ v4 then some v1 else bd (fX4_of z σ 5 v4) (fun u22 => (if u22 ≤ v2 then fX8_likeliest_42 z (fX8_likeliest_8 z σ n) σ v1 v2 v4 else bd (fX4_of z σ 5 v4) (fun u24 => fX8_likeliest_42 z (fX8_likeliest_8 z σ n) σ v4 u24 v4))))
def fX8_likeliest (z : Nat) (σ : ST) : Option Int32 := fX8_likeliest_8 z σ z (-9 : Int32) (0 : Int64) (0 : Int32)
section
variable {p : Program} {l : Launch} {e : Env} {s : State} {m : MethodId} {args : Array Value} {below : List Frame} {meth : Method} {c : Code} {G : GT}
set_option maxHeartbeats 4000000 in
set_option maxRecDepth 100000 in
theorem wX8_likeliest_42 (C0 : Cx p s m args meth c cX8_likeliest RX8 5 (some .int) wsX8_likeliest) (G0 : Gx G s) (hJ : gJ 80 G) (z : Nat) (r8 : Int32 → Int64 → Int32 → Option Int32) (σ : ST) (v1 : Int32) (v2 : Int64) (v4 : Int32) (res : Int32) (h : fX8_likeliest_42 z r8 σ v1 v2 v4 = some res) (hr8 : ∀ (v1 : Int32) (v2 : Int64) (v4 : Int32), r8 v1 v2 v4 = some res → ∀ (H : Heap) (locs : List Loc) (ls : Array Slot), Wd cellX 80 G s.heap σ H locs → lv_has ls 5 [(0, .ref (aD G 0)), (1, .int v1), (2, .long v2), (4, .int v4)] → W p l e rX8_likeliest s m args below meth c H locs 0 0 (MQ below (XQi cellX 80 G res σ) args s 0 0 (gA 80 G)) (F0 m 8 ls [])) {H : Heap} {locs : List Loc} {ls : Array Slot} (hW : Wd cellX 80 G s.heap σ H locs) (hl : lv_has ls 5 [(0, .ref (aD G 0)), (1, .int v1), (2, .long v2), (4, .int v4)]) : W p l e rX8_likeliest s m args below meth c H locs 0 0 (MQ below (XQi cellX 80 G res σ) args s 0 0 (gA 80 G)) (F0 m 42 ls []) := by
  unfold fX8_likeliest_42 at h
  refine lv_iinc (v := (v4 + 1)) (lv' := [(4, .int (v4 + 1)), (0, .ref (aD G 0)), (1, .int v1), (2, .long v2)]) C0.1 C0.2.1 dX8_likeliest_42 hl (k := 3) rfl rfl (by decide) rfl (fun ls hl => ?_)
  refine lv_goto (tgt := 8) C0.1 C0.2.1 dX8_likeliest_45 (by decide) ?_
  exact hr8 v1 v2 (v4 + 1) h _ _ _ hW (lv_sub hl [1, 2, 3, 0] rfl)
set_option maxHeartbeats 4000000 in
set_option maxRecDepth 100000 in
theorem wX8_likeliest_8 (C0 : Cx p s m args meth c cX8_likeliest RX8 5 (some .int) wsX8_likeliest) (G0 : Gx G s) (hJ : gJ 80 G) (z : Nat) (σ : ST) (n : Nat) (v1 : Int32) (v2 : Int64) (v4 : Int32) (res : Int32) (h : fX8_likeliest_8 z σ n v1 v2 v4 = some res)  {H : Heap} {locs : List Loc} {ls : Array Slot} (hW : Wd cellX 80 G s.heap σ H locs) (hl : lv_has ls 5 [(0, .ref (aD G 0)), (1, .int v1), (2, .long v2), (4, .int v4)]) : W p l e rX8_likeliest s m args below meth c H locs 0 0 (MQ below (XQi cellX 80 G res σ) args s 0 0 (gA 80 G)) (F0 m 8 ls []) := by
  induction n generalizing v1 v2 v4 H locs ls with
  | zero => cases h
  | succ n ih =>
    have hr8 : ∀ (v1 : Int32) (v2 : Int64) (v4 : Int32), fX8_likeliest_8 z σ n v1 v2 v4 = some res → ∀ (H : Heap) (locs : List Loc) (ls : Array Slot), Wd cellX 80 G s.heap σ H locs → lv_has ls 5 [(0, .ref (aD G 0)), (1, .int v1), (2, .long v2), (4, .int v4)] → W p l e rX8_likeliest s m args below meth c H locs 0 0 (MQ below (XQi cellX 80 G res σ) args s 0 0 (gA 80 G)) (F0 m 8 ls []) := fun v1 v2 v4 h H locs ls hW hl => ih v1 v2 v4 h hW hl
    clear ih
    unfold fX8_likeliest_8 at h
    refine lv_iload C0.1 C0.2.1 dX8_likeliest_8 (lv_at hl 3 rfl) ?_
    refine lv_bipush (v := (11 : Int32)) C0.1 C0.2.1 dX8_likeliest_10 (by decide) ?_
    refine lv_icmp_ge (tgt := 48) C0.1 C0.2.1 dX8_likeliest_12 (by decide) (fun c21 => ?_) (fun c21 => ?_)
    · rw [if_pos c21] at h
      refine lv_iload_n C0.1 C0.2.1 dX8_likeliest_48 rfl (lv_at hl 1 rfl) ?_
      cases h
      exact x_iret C0 hW dX8_likeliest_49
    · rw [if_neg c21] at h
      refine lv_aload_n C0.1 C0.2.1 dX8_likeliest_15 rfl (lv_at hl 0 rfl) ?_
      refine x_get (v := .ref (aD G 5)) C0 G0 hW (cX_X8 rfl) (by decide) rfl 2 (by decide) inX8_likeliest_X8 lkX8_likeliest_26 rfl dX8_likeliest_16 ?_
      refine lv_iload C0.1 C0.2.1 dX8_likeliest_19 (lv_at hl 3 rfl) ?_
      obtain ⟨u22, hu22, h⟩ := bd_some h
      refine x_kl (r := u22) (x_runV (As := [.int v4]) (rest := []) C0 G0 hW (cX4_of_met l hJ z σ 5 v4 _ hu22) (cwV 1 C0.2.2.2.1 gX8_likeliest_X4_of rfl rfl rfl hdvX4_of ⟨Nat.le_of_ble_eq_true rfl, Nat.le_of_ble_eq_true rfl⟩) (cX_X4 rfl) (by decide) rfl rfl rfl hl (Nat.le_of_ble_eq_true rfl) dX8_likeliest_21 ⟨Nat.le_refl 0, Nat.le_refl 0⟩) hW (fun H locs hW => ?_)
      refine lv_lload_n C0.1 C0.2.1 dX8_likeliest_24 rfl (lv_at hl 2 rfl) ?_
      refine x_lc_le (tgt := 42) C0 dX8_likeliest_25 dX8_likeliest_26 (by decide) (fun c23 => ?_) (fun c23 => ?_)
      · rw [if_pos c23] at h
        exact wX8_likeliest_42 C0 G0 hJ z (fX8_likeliest_8 z σ n) σ v1 v2 v4 _ h (by exact hr8) hW (lv_sub hl [0, 1, 2, 3] rfl)
      · rw [if_neg c23] at h
        refine lv_aload_n C0.1 C0.2.1 dX8_likeliest_29 rfl (lv_at hl 0 rfl) ?_
        refine x_get (v := .ref (aD G 5)) C0 G0 hW (cX_X8 rfl) (by decide) rfl 2 (by decide) inX8_likeliest_X8 lkX8_likeliest_26 rfl dX8_likeliest_30 ?_
        refine lv_iload C0.1 C0.2.1 dX8_likeliest_33 (lv_at hl 3 rfl) ?_
        obtain ⟨u24, hu24, h⟩ := bd_some h
        refine x_kl (r := u24) (x_runV (As := [.int v4]) (rest := []) C0 G0 hW (cX4_of_met l hJ z σ 5 v4 _ hu24) (cwV 1 C0.2.2.2.1 gX8_likeliest_X4_of rfl rfl rfl hdvX4_of ⟨Nat.le_of_ble_eq_true rfl, Nat.le_of_ble_eq_true rfl⟩) (cX_X4 rfl) (by decide) rfl rfl rfl hl (Nat.le_of_ble_eq_true rfl) dX8_likeliest_35 ⟨Nat.le_refl 0, Nat.le_refl 0⟩) hW (fun H locs hW => ?_)
        refine lv_lstore_n (lv' := [(2, .long u24), (0, .ref (aD G 0)), (1, .int v1), (4, .int v4)]) C0.1 C0.2.1 dX8_likeliest_38 rfl hl (by decide) rfl (fun ls hl => ?_)
        refine lv_iload C0.1 C0.2.1 dX8_likeliest_39 (lv_at hl 3 rfl) ?_
        refine lv_istore_n (lv' := [(1, .int v4), (2, .long u24), (0, .ref (aD G 0)), (4, .int v4)]) C0.1 C0.2.1 dX8_likeliest_41 rfl hl (by decide) rfl (fun ls hl => ?_)
        exact wX8_likeliest_42 C0 G0 hJ z (fX8_likeliest_8 z σ n) σ v4 u24 v4 _ h (by exact hr8) hW (lv_sub hl [2, 0, 1, 3] rfl)
set_option maxHeartbeats 4000000 in
set_option maxRecDepth 100000 in
theorem wX8_likeliest (C0 : Cx p s m args meth c cX8_likeliest RX8 5 (some .int) wsX8_likeliest) (G0 : Gx G s) (hJ : gJ 80 G) (z : Nat) (σ : ST) (res : Int32) (h : fX8_likeliest z σ = some res)  {H : Heap} {locs : List Loc} {ls : Array Slot} (hW : Wd cellX 80 G s.heap σ H locs) (hl : lv_has ls 5 [(0, .ref (aD G 0))]) : W p l e rX8_likeliest s m args below meth c H locs 0 0 (MQ below (XQi cellX 80 G res σ) args s 0 0 (gA 80 G)) (F0 m 0 ls []) := by
  unfold fX8_likeliest at h
  refine lv_bipush (v := (-9 : Int32)) C0.1 C0.2.1 dX8_likeliest_0 (by decide) ?_
  refine lv_istore_n (lv' := [(1, .int (-9 : Int32)), (0, .ref (aD G 0))]) C0.1 C0.2.1 dX8_likeliest_2 rfl hl (by decide) rfl (fun ls hl => ?_)
  refine lv_lconst (v := (0 : Int64)) C0.1 C0.2.1 dX8_likeliest_3 (by decide) ?_
  refine lv_lstore_n (lv' := [(2, .long (0 : Int64)), (1, .int (-9 : Int32)), (0, .ref (aD G 0))]) C0.1 C0.2.1 dX8_likeliest_4 rfl hl (by decide) rfl (fun ls hl => ?_)
  refine lv_iconst (v := (0 : Int32)) C0.1 C0.2.1 dX8_likeliest_5 (by decide) ?_
  refine lv_istore (lv' := [(4, .int (0 : Int32)), (2, .long (0 : Int64)), (1, .int (-9 : Int32)), (0, .ref (aD G 0))]) C0.1 C0.2.1 dX8_likeliest_6 hl (by decide) rfl (fun ls hl => ?_)
  exact wX8_likeliest_8 C0 G0 hJ z σ z (-9 : Int32) (0 : Int64) (0 : Int32) _ h hW (lv_sub hl [3, 2, 1, 0] rfl)
theorem cX8_likeliest_met (l : Launch) {G : GT} (hJ : gJ 80 G) (z : Nat) (σ : ST)  (res : Int32) (h : fX8_likeliest z σ = some res) : Met l yX8_likeliest wsX8_likeliest rX8_likeliest (XPc cellX 80 G σ [.ref (aD G 0)]) (XQi cellX 80 G res σ) 0 0 (gA 80 G) :=
  x_met (ret := (some .int)) (maxL := 5) (by decide) rfl (Nat.le_of_ble_eq_true rfl) (fun p e s m args below meth c H locs ls C0 G0 hW hl => wX8_likeliest C0 G0 hJ z σ res h hW hl)
end
/-! X8_likely -/
def rX8_likely : Room := { frames := 2, cells := 0, slots := 0, locals := 56 }
theorem hdvX8_likely : yX8_likely.cls = RX8 ∧ yX8_likely.cls ≠ "java/lang/invoke/MethodHandle" ∧ yX8_likely.cls ≠ "java/lang/invoke/VarHandle" ∧ (parseMethodDescriptor yX8_likely.desc).map (fun d => d.parameters.length) = some 2 := by decide +kernel
theorem inX8_likely_X8 : ∀ w ∈ u_ws RX8 TX8 10, w ∈ wsX8_likely := by decide +kernel
theorem lkX8_likely_26 : Cond.fieldLink RX8 26 (TX8 2).1 (TX8 2).2.1 (TX8 2).2.2.1 ∈ wsX8_likely := by decide +kernel
theorem kcX8_likely_136 : Cond.constantLong RX8 136 (-3 : Int64) ∈ wsX8_likely := by decide +kernel
theorem kcX8_likely_130 : Cond.constantLong RX8 130 (-2 : Int64) ∈ wsX8_likely := by decide +kernel
def fX8_likely_47 (z : Nat) (σ : ST) (t0 : Int64) : Option Int64 := some t0
def fX8_likely (z : Nat) (σ : ST) (v1 : Int32) (v2 : Int32) : Option Int64 := bd (fX8_isWithin z v1 (0 : Int32) (10 : Int32)) (fun u21 => (if u21 = 0 then some (-2 : Int64) else bd (fX4_together z σ 5) (fun u23 => (if (0 : Int64) < u23 then bd (fX4_of z σ 5 v1) (fun u25 => bd (fX3_part z u25 u23 v2) (fun u26 => fX8_likely_47 z σ u26)) else fX8_likely_47 z σ (-3 : Int64)))))
section
variable {p : Program} {l : Launch} {e : Env} {s : State} {m : MethodId} {args : Array Value} {below : List Frame} {meth : Method} {c : Code} {G : GT}
set_option maxHeartbeats 4000000 in
set_option maxRecDepth 100000 in
theorem wX8_likely_47 (C0 : Cx p s m args meth c cX8_likely RX8 5 (some .long) wsX8_likely) (G0 : Gx G s) (hJ : gJ 80 G) (z : Nat) (σ : ST) (t0 : Int64) (res : Int64) (h : fX8_likely_47 z σ t0 = some res)  {H : Heap} {locs : List Loc} {ls : Array Slot} (hW : Wd cellX 80 G s.heap σ H locs) (hl : lv_has ls 5 []) : W p l e rX8_likely s m args below meth c H locs 0 0 (MQ below (XQl cellX 80 G res σ) args s 0 0 (gA 80 G)) (F0 m 47 ls [.long t0]) := by
  unfold fX8_likely_47 at h
  cases h
  exact x_lret C0 hW dX8_likely_47
set_option maxHeartbeats 4000000 in
set_option maxRecDepth 100000 in
theorem wX8_likely (C0 : Cx p s m args meth c cX8_likely RX8 5 (some .long) wsX8_likely) (G0 : Gx G s) (hJ : gJ 80 G) (z : Nat) (σ : ST) (v1 : Int32) (v2 : Int32) (res : Int64) (h : fX8_likely z σ v1 v2 = some res)  {H : Heap} {locs : List Loc} {ls : Array Slot} (hW : Wd cellX 80 G s.heap σ H locs) (hl : lv_has ls 5 [(0, .ref (aD G 0)), (1, .int v1), (2, .int v2)]) : W p l e rX8_likely s m args below meth c H locs 0 0 (MQ below (XQl cellX 80 G res σ) args s 0 0 (gA 80 G)) (F0 m 0 ls []) := by
  unfold fX8_likely at h
  refine lv_iload_n C0.1 C0.2.1 dX8_likely_0 rfl (lv_at hl 1 rfl) ?_
  refine lv_iconst (v := (0 : Int32)) C0.1 C0.2.1 dX8_likely_1 (by decide) ?_
  refine lv_bipush (v := (10 : Int32)) C0.1 C0.2.1 dX8_likely_2 (by decide) ?_
  obtain ⟨u21, hu21, h⟩ := bd_some h
  refine x_ki (r := u21) (x_runS (As := [.int v1, .int (0 : Int32), .int (10 : Int32)]) (rest := []) C0 G0 hW (cX8_isWithin_met l hJ z σ v1 (0 : Int32) (10 : Int32) _ hu21) (va_cwS 3 C0.2.2.2.1 gX8_likely_X8_isWithin rfl rfl rfl hdsX8_isWithin ⟨Nat.le_of_ble_eq_true rfl, Nat.le_of_ble_eq_true rfl⟩) rfl rfl hl (Nat.le_of_ble_eq_true rfl) dX8_likely_4 ⟨Nat.le_refl 0, Nat.le_refl 0⟩) hW (fun H locs hW => ?_)
  refine lv_if_ne (tgt := 14) C0.1 C0.2.1 dX8_likely_7 (by decide) (fun c22 => ?_) (fun c22 => ?_)
  · rw [if_neg c22] at h
    refine lv_aload_n C0.1 C0.2.1 dX8_likely_14 rfl (lv_at hl 0 rfl) ?_
    refine x_get (v := .ref (aD G 5)) C0 G0 hW (cX_X8 rfl) (by decide) rfl 2 (by decide) inX8_likely_X8 lkX8_likely_26 rfl dX8_likely_15 ?_
    obtain ⟨u23, hu23, h⟩ := bd_some h
    refine x_kl (r := u23) (x_runV (As := []) (rest := []) C0 G0 hW (cX4_together_met l hJ z σ 5 _ hu23) (cwV 0 C0.2.2.2.1 gX8_likely_X4_together rfl rfl rfl hdvX4_together ⟨Nat.le_of_ble_eq_true rfl, Nat.le_of_ble_eq_true rfl⟩) (cX_X4 rfl) (by decide) rfl rfl rfl hl (Nat.le_of_ble_eq_true rfl) dX8_likely_18 ⟨Nat.le_refl 0, Nat.le_refl 0⟩) hW (fun H locs hW => ?_)
    refine lv_lstore_n (lv' := [(3, .long u23), (0, .ref (aD G 0)), (1, .int v1), (2, .int v2)]) C0.1 C0.2.1 dX8_likely_21 rfl hl (by decide) rfl (fun ls hl => ?_)
    refine lv_lload_n C0.1 C0.2.1 dX8_likely_22 rfl (lv_at hl 0 rfl) ?_
    refine lv_lconst (v := (0 : Int64)) C0.1 C0.2.1 dX8_likely_23 (by decide) ?_
    refine x_lc_gt (tgt := 34) C0 dX8_likely_24 dX8_likely_25 (by decide) (fun c24 => ?_) (fun c24 => ?_)
    · rw [if_pos c24] at h
      refine lv_aload_n C0.1 C0.2.1 dX8_likely_34 rfl (lv_at hl 1 rfl) ?_
      refine x_get (v := .ref (aD G 5)) C0 G0 hW (cX_X8 rfl) (by decide) rfl 2 (by decide) inX8_likely_X8 lkX8_likely_26 rfl dX8_likely_35 ?_
      refine lv_iload_n C0.1 C0.2.1 dX8_likely_38 rfl (lv_at hl 2 rfl) ?_
      obtain ⟨u25, hu25, h⟩ := bd_some h
      refine x_kl (r := u25) (x_runV (As := [.int v1]) (rest := []) C0 G0 hW (cX4_of_met l hJ z σ 5 v1 _ hu25) (cwV 1 C0.2.2.2.1 gX8_likely_X4_of rfl rfl rfl hdvX4_of ⟨Nat.le_of_ble_eq_true rfl, Nat.le_of_ble_eq_true rfl⟩) (cX_X4 rfl) (by decide) rfl rfl rfl hl (Nat.le_of_ble_eq_true rfl) dX8_likely_39 ⟨Nat.le_refl 0, Nat.le_refl 0⟩) hW (fun H locs hW => ?_)
      refine lv_lload_n C0.1 C0.2.1 dX8_likely_42 rfl (lv_at hl 0 rfl) ?_
      refine lv_iload_n C0.1 C0.2.1 dX8_likely_43 rfl (lv_at hl 3 rfl) ?_
      obtain ⟨u26, hu26, h⟩ := bd_some h
      refine x_kl (r := u26) (x_runS (As := [.long u25, .long u23, .int v2]) (rest := []) C0 G0 hW (cX3_part_met l hJ z σ u25 u23 v2 _ hu26) (va_cwS 3 C0.2.2.2.1 gX8_likely_X3_part rfl rfl rfl hdsX3_part ⟨Nat.le_of_ble_eq_true rfl, Nat.le_of_ble_eq_true rfl⟩) rfl rfl hl (Nat.le_of_ble_eq_true rfl) dX8_likely_44 ⟨Nat.le_refl 0, Nat.le_refl 0⟩) hW (fun H locs hW => ?_)
      exact wX8_likely_47 C0 G0 hJ z σ u26 _ h hW (lv_sub hl [] rfl)
    · rw [if_neg c24] at h
      refine lv_ldc2 (v := (-3 : Int64)) C0.1 C0.2.1 C0.2.2.2.2.1 (C0.2.2.2.1 _ kcX8_likely_136) dX8_likely_28 ?_
      refine lv_goto (tgt := 47) C0.1 C0.2.1 dX8_likely_31 (by decide) ?_
      exact wX8_likely_47 C0 G0 hJ z σ (-3 : Int64) _ h hW (lv_sub hl [] rfl)
  · rw [if_pos c22] at h
    refine lv_ldc2 (v := (-2 : Int64)) C0.1 C0.2.1 C0.2.2.2.2.1 (C0.2.2.2.1 _ kcX8_likely_130) dX8_likely_10 ?_
    cases h
    exact x_lret C0 hW dX8_likely_13
theorem cX8_likely_met (l : Launch) {G : GT} (hJ : gJ 80 G) (z : Nat) (σ : ST) (v1 : Int32) (v2 : Int32) (res : Int64) (h : fX8_likely z σ v1 v2 = some res) : Met l yX8_likely wsX8_likely rX8_likely (XPc cellX 80 G σ [.ref (aD G 0), .int v1, .int v2]) (XQl cellX 80 G res σ) 0 0 (gA 80 G) :=
  x_met (ret := (some .long)) (maxL := 5) (by decide) rfl (Nat.le_of_ble_eq_true rfl) (fun p e s m args below meth c H locs ls C0 G0 hW hl => wX8_likely C0 G0 hJ z σ v1 v2 res h hW hl)
end
/-! X8_look -/
def rX8_look : Room := { frames := 5, cells := 0, slots := 0, locals := 108 }
theorem hdvX8_look : yX8_look.cls = RX8 ∧ yX8_look.cls ≠ "java/lang/invoke/MethodHandle" ∧ yX8_look.cls ≠ "java/lang/invoke/VarHandle" ∧ (parseMethodDescriptor yX8_look.desc).map (fun d => d.parameters.length) = some 1 := by decide +kernel
theorem inX8_look_X8 : ∀ w ∈ u_ws RX8 TX8 10, w ∈ wsX8_look := by decide +kernel
theorem lkX8_look_26 : Cond.fieldLink RX8 26 (TX8 2).1 (TX8 2).2.1 (TX8 2).2.2.1 ∈ wsX8_look := by decide +kernel
theorem inX8_look_X4 : ∀ w ∈ u_ws RX4 TX4 6, w ∈ wsX8_look := by decide +kernel
theorem nfX8_look_96 : (RX8, 96, (TX4 4).1, (TX4 4).2.1, (TX4 4).2.2.1) ∈ nwF := by decide +kernel
theorem lkX8_look_19 : Cond.fieldLink RX8 19 (TX8 1).1 (TX8 1).2.1 (TX8 1).2.2.1 ∈ wsX8_look := by decide +kernel
theorem inX8_look_X7 : ∀ w ∈ u_ws RX7 TX7 9, w ∈ wsX8_look := by decide +kernel
theorem nfX8_look_99 : (RX8, 99, (TX7 5).1, (TX7 5).2.1, (TX7 5).2.2.1) ∈ nwF := by decide +kernel
theorem nfX8_look_109 : (RX8, 109, (TX4 3).1, (TX4 3).2.1, (TX4 3).2.2.1) ∈ nwF := by decide +kernel
def fX8_look (z : Nat) (σ : ST) (v1 : Int32) : Option (Int32 × ST) := bd (fX8_isWithin z v1 (0 : Int32) (2 : Int32)) (fun u21 => (if u21 = 0 then some ((-2 : Int32), σ) else (if (σ.1 5 4) < (σ.1 3 5) then bd (fX8_remember z σ) (fun u24 => bd (fX4_act z u24 5 v1) (fun u25 => some ((u25.1 5 3), u25))) else some ((-3 : Int32), σ))))
section
variable {p : Program} {l : Launch} {e : Env} {s : State} {m : MethodId} {args : Array Value} {below : List Frame} {meth : Method} {c : Code} {G : GT}
set_option maxHeartbeats 4000000 in
set_option maxRecDepth 100000 in
theorem wX8_look (C0 : Cx p s m args meth c cX8_look RX8 2 (some .int) wsX8_look) (G0 : Gx G s) (hJ : gJ 80 G) (z : Nat) (σ : ST) (v1 : Int32) (res : (Int32 × ST)) (h : fX8_look z σ v1 = some res)  {H : Heap} {locs : List Loc} {ls : Array Slot} (hW : Wd cellX 80 G s.heap σ H locs) (hl : lv_has ls 2 [(0, .ref (aD G 0)), (1, .int v1)]) : W p l e rX8_look s m args below meth c H locs 0 0 (MQ below (XQi cellX 80 G res.1 res.2) args s 0 0 (gA 80 G)) (F0 m 0 ls []) := by
  unfold fX8_look at h
  refine lv_iload_n C0.1 C0.2.1 dX8_look_0 rfl (lv_at hl 1 rfl) ?_
  refine lv_iconst (v := (0 : Int32)) C0.1 C0.2.1 dX8_look_1 (by decide) ?_
  refine lv_iconst (v := (2 : Int32)) C0.1 C0.2.1 dX8_look_2 (by decide) ?_
  obtain ⟨u21, hu21, h⟩ := bd_some h
  refine x_ki (r := u21) (x_runS (As := [.int v1, .int (0 : Int32), .int (2 : Int32)]) (rest := []) C0 G0 hW (cX8_isWithin_met l hJ z σ v1 (0 : Int32) (2 : Int32) _ hu21) (va_cwS 3 C0.2.2.2.1 gX8_look_X8_isWithin rfl rfl rfl hdsX8_isWithin ⟨Nat.le_of_ble_eq_true rfl, Nat.le_of_ble_eq_true rfl⟩) rfl rfl hl (Nat.le_of_ble_eq_true rfl) dX8_look_3 ⟨Nat.le_refl 0, Nat.le_refl 0⟩) hW (fun H locs hW => ?_)
  refine lv_if_ne (tgt := 12) C0.1 C0.2.1 dX8_look_6 (by decide) (fun c22 => ?_) (fun c22 => ?_)
  · rw [if_neg c22] at h
    refine lv_aload_n C0.1 C0.2.1 dX8_look_12 rfl (lv_at hl 0 rfl) ?_
    refine x_get (v := .ref (aD G 5)) C0 G0 hW (cX_X8 rfl) (by decide) rfl 2 (by decide) inX8_look_X8 lkX8_look_26 rfl dX8_look_13 ?_
    refine x_getN (v := .int (σ.1 5 4)) C0 G0 hW (cX_X4 rfl) (by decide) rfl 4 (by decide) inX8_look_X4 nfX8_look_96 rfl dX8_look_16 ?_
    refine lv_aload_n C0.1 C0.2.1 dX8_look_19 rfl (lv_at hl 0 rfl) ?_
    refine x_get (v := .ref (aD G 3)) C0 G0 hW (cX_X8 rfl) (by decide) rfl 1 (by decide) inX8_look_X8 lkX8_look_19 rfl dX8_look_20 ?_
    refine x_getN (v := .int (σ.1 3 5)) C0 G0 hW (cX_X7 rfl) (by decide) rfl 5 (by decide) inX8_look_X7 nfX8_look_99 rfl dX8_look_23 ?_
    refine lv_icmp_lt (tgt := 32) C0.1 C0.2.1 dX8_look_26 (by decide) (fun c23 => ?_) (fun c23 => ?_)
    · rw [if_pos c23] at h
      refine lv_aload_n C0.1 C0.2.1 dX8_look_32 rfl (lv_at hl 0 rfl) ?_
      obtain ⟨u24, hu24, h⟩ := bd_some h
      refine x_kv (x_runV (As := []) (rest := []) C0 G0 hW (cX8_remember_met l hJ z σ _ hu24) (cwV 0 C0.2.2.2.1 gX8_look_X8_remember rfl rfl rfl hdvX8_remember ⟨Nat.le_of_ble_eq_true rfl, Nat.le_of_ble_eq_true rfl⟩) (cX_X8 rfl) (by decide) rfl rfl rfl hl (Nat.le_of_ble_eq_true rfl) dX8_look_33 ⟨Nat.le_refl 0, Nat.le_refl 0⟩) hW (fun H locs hW => ?_)
      refine lv_aload_n C0.1 C0.2.1 dX8_look_36 rfl (lv_at hl 0 rfl) ?_
      refine x_get (v := .ref (aD G 5)) C0 G0 hW (cX_X8 rfl) (by decide) rfl 2 (by decide) inX8_look_X8 lkX8_look_26 rfl dX8_look_37 ?_
      refine lv_aload_n C0.1 C0.2.1 dX8_look_40 rfl (lv_at hl 0 rfl) ?_
      refine x_get (v := .ref (aD G 3)) C0 G0 hW (cX_X8 rfl) (by decide) rfl 1 (by decide) inX8_look_X8 lkX8_look_19 rfl dX8_look_41 ?_
      refine lv_iload_n C0.1 C0.2.1 dX8_look_44 rfl (lv_at hl 1 rfl) ?_
      obtain ⟨u25, hu25, h⟩ := bd_some h
      refine x_kv (x_runV (As := [.ref (aD G 3), .int v1]) (rest := []) C0 G0 hW (cX4_act_met l hJ z u24 5 v1 _ hu25) (cwV 2 C0.2.2.2.1 gX8_look_X4_act rfl rfl rfl hdvX4_act ⟨Nat.le_of_ble_eq_true rfl, Nat.le_of_ble_eq_true rfl⟩) (cX_X4 rfl) (by decide) rfl rfl rfl hl (Nat.le_of_ble_eq_true rfl) dX8_look_45 ⟨Nat.le_refl 0, Nat.le_refl 0⟩) hW (fun H locs hW => ?_)
      refine lv_aload_n C0.1 C0.2.1 dX8_look_48 rfl (lv_at hl 0 rfl) ?_
      refine x_get (v := .ref (aD G 5)) C0 G0 hW (cX_X8 rfl) (by decide) rfl 2 (by decide) inX8_look_X8 lkX8_look_26 rfl dX8_look_49 ?_
      refine x_getN (v := .int (u25.1 5 3)) C0 G0 hW (cX_X4 rfl) (by decide) rfl 3 (by decide) inX8_look_X4 nfX8_look_109 rfl dX8_look_52 ?_
      cases h
      exact x_iret C0 hW dX8_look_55
    · rw [if_neg c23] at h
      refine lv_bipush (v := (-3 : Int32)) C0.1 C0.2.1 dX8_look_29 (by decide) ?_
      cases h
      exact x_iret C0 hW dX8_look_31
  · rw [if_pos c22] at h
    refine lv_bipush (v := (-2 : Int32)) C0.1 C0.2.1 dX8_look_9 (by decide) ?_
    cases h
    exact x_iret C0 hW dX8_look_11
theorem cX8_look_met (l : Launch) {G : GT} (hJ : gJ 80 G) (z : Nat) (σ : ST) (v1 : Int32) (res : (Int32 × ST)) (h : fX8_look z σ v1 = some res) : Met l yX8_look wsX8_look rX8_look (XPc cellX 80 G σ [.ref (aD G 0), .int v1]) (XQi cellX 80 G res.1 res.2) 0 0 (gA 80 G) :=
  x_met (ret := (some .int)) (maxL := 2) (by decide) rfl (Nat.le_of_ble_eq_true rfl) (fun p e s m args below meth c H locs ls C0 G0 hW hl => wX8_look C0 G0 hJ z σ v1 res h hW hl)
end
/-! X8_lookAboard -/
def rX8_lookAboard : Room := { frames := 5, cells := 0, slots := 0, locals := 108 }
theorem hdvX8_lookAboard : yX8_lookAboard.cls = RX8 ∧ yX8_lookAboard.cls ≠ "java/lang/invoke/MethodHandle" ∧ yX8_lookAboard.cls ≠ "java/lang/invoke/VarHandle" ∧ (parseMethodDescriptor yX8_lookAboard.desc).map (fun d => d.parameters.length) = some 0 := by decide +kernel
theorem inX8_lookAboard_X8 : ∀ w ∈ u_ws RX8 TX8 10, w ∈ wsX8_lookAboard := by decide +kernel
theorem lkX8_lookAboard_26 : Cond.fieldLink RX8 26 (TX8 2).1 (TX8 2).2.1 (TX8 2).2.2.1 ∈ wsX8_lookAboard := by decide +kernel
theorem inX8_lookAboard_X4 : ∀ w ∈ u_ws RX4 TX4 6, w ∈ wsX8_lookAboard := by decide +kernel
theorem nfX8_lookAboard_96 : (RX8, 96, (TX4 4).1, (TX4 4).2.1, (TX4 4).2.2.1) ∈ nwF := by decide +kernel
theorem lkX8_lookAboard_19 : Cond.fieldLink RX8 19 (TX8 1).1 (TX8 1).2.1 (TX8 1).2.2.1 ∈ wsX8_lookAboard := by decide +kernel
theorem inX8_lookAboard_X7 : ∀ w ∈ u_ws RX7 TX7 9, w ∈ wsX8_lookAboard := by decide +kernel
theorem nfX8_lookAboard_99 : (RX8, 99, (TX7 5).1, (TX7 5).2.1, (TX7 5).2.2.1) ∈ nwF := by decide +kernel
def fX8_lookAboard (z : Nat) (σ : ST) : Option (Int32 × ST) := (if (σ.1 5 4) < (σ.1 3 5) then bd (fX8_remember z σ) (fun u22 => bd (fX4_act z u22 5 (3 : Int32)) (fun u23 => some ((u23.1 5 4), u23))) else some ((-3 : Int32), σ))
section
variable {p : Program} {l : Launch} {e : Env} {s : State} {m : MethodId} {args : Array Value} {below : List Frame} {meth : Method} {c : Code} {G : GT}
set_option maxHeartbeats 4000000 in
set_option maxRecDepth 100000 in
theorem wX8_lookAboard (C0 : Cx p s m args meth c cX8_lookAboard RX8 1 (some .int) wsX8_lookAboard) (G0 : Gx G s) (hJ : gJ 80 G) (z : Nat) (σ : ST) (res : (Int32 × ST)) (h : fX8_lookAboard z σ = some res)  {H : Heap} {locs : List Loc} {ls : Array Slot} (hW : Wd cellX 80 G s.heap σ H locs) (hl : lv_has ls 1 [(0, .ref (aD G 0))]) : W p l e rX8_lookAboard s m args below meth c H locs 0 0 (MQ below (XQi cellX 80 G res.1 res.2) args s 0 0 (gA 80 G)) (F0 m 0 ls []) := by
  unfold fX8_lookAboard at h
  refine lv_aload_n C0.1 C0.2.1 dX8_lookAboard_0 rfl (lv_at hl 0 rfl) ?_
  refine x_get (v := .ref (aD G 5)) C0 G0 hW (cX_X8 rfl) (by decide) rfl 2 (by decide) inX8_lookAboard_X8 lkX8_lookAboard_26 rfl dX8_lookAboard_1 ?_
  refine x_getN (v := .int (σ.1 5 4)) C0 G0 hW (cX_X4 rfl) (by decide) rfl 4 (by decide) inX8_lookAboard_X4 nfX8_lookAboard_96 rfl dX8_lookAboard_4 ?_
  refine lv_aload_n C0.1 C0.2.1 dX8_lookAboard_7 rfl (lv_at hl 0 rfl) ?_
  refine x_get (v := .ref (aD G 3)) C0 G0 hW (cX_X8 rfl) (by decide) rfl 1 (by decide) inX8_lookAboard_X8 lkX8_lookAboard_19 rfl dX8_lookAboard_8 ?_
  refine x_getN (v := .int (σ.1 3 5)) C0 G0 hW (cX_X7 rfl) (by decide) rfl 5 (by decide) inX8_lookAboard_X7 nfX8_lookAboard_99 rfl dX8_lookAboard_11 ?_
  refine lv_icmp_lt (tgt := 20) C0.1 C0.2.1 dX8_lookAboard_14 (by decide) (fun c21 => ?_) (fun c21 => ?_)
  · rw [if_pos c21] at h
    refine lv_aload_n C0.1 C0.2.1 dX8_lookAboard_20 rfl (lv_at hl 0 rfl) ?_
    obtain ⟨u22, hu22, h⟩ := bd_some h
    refine x_kv (x_runV (As := []) (rest := []) C0 G0 hW (cX8_remember_met l hJ z σ _ hu22) (cwV 0 C0.2.2.2.1 gX8_lookAboard_X8_remember rfl rfl rfl hdvX8_remember ⟨Nat.le_of_ble_eq_true rfl, Nat.le_of_ble_eq_true rfl⟩) (cX_X8 rfl) (by decide) rfl rfl rfl hl (Nat.le_of_ble_eq_true rfl) dX8_lookAboard_21 ⟨Nat.le_refl 0, Nat.le_refl 0⟩) hW (fun H locs hW => ?_)
    refine lv_aload_n C0.1 C0.2.1 dX8_lookAboard_24 rfl (lv_at hl 0 rfl) ?_
    refine x_get (v := .ref (aD G 5)) C0 G0 hW (cX_X8 rfl) (by decide) rfl 2 (by decide) inX8_lookAboard_X8 lkX8_lookAboard_26 rfl dX8_lookAboard_25 ?_
    refine lv_aload_n C0.1 C0.2.1 dX8_lookAboard_28 rfl (lv_at hl 0 rfl) ?_
    refine x_get (v := .ref (aD G 3)) C0 G0 hW (cX_X8 rfl) (by decide) rfl 1 (by decide) inX8_lookAboard_X8 lkX8_lookAboard_19 rfl dX8_lookAboard_29 ?_
    refine lv_iconst (v := (3 : Int32)) C0.1 C0.2.1 dX8_lookAboard_32 (by decide) ?_
    obtain ⟨u23, hu23, h⟩ := bd_some h
    refine x_kv (x_runV (As := [.ref (aD G 3), .int (3 : Int32)]) (rest := []) C0 G0 hW (cX4_act_met l hJ z u22 5 (3 : Int32) _ hu23) (cwV 2 C0.2.2.2.1 gX8_lookAboard_X4_act rfl rfl rfl hdvX4_act ⟨Nat.le_of_ble_eq_true rfl, Nat.le_of_ble_eq_true rfl⟩) (cX_X4 rfl) (by decide) rfl rfl rfl hl (Nat.le_of_ble_eq_true rfl) dX8_lookAboard_33 ⟨Nat.le_refl 0, Nat.le_refl 0⟩) hW (fun H locs hW => ?_)
    refine lv_aload_n C0.1 C0.2.1 dX8_lookAboard_36 rfl (lv_at hl 0 rfl) ?_
    refine x_get (v := .ref (aD G 5)) C0 G0 hW (cX_X8 rfl) (by decide) rfl 2 (by decide) inX8_lookAboard_X8 lkX8_lookAboard_26 rfl dX8_lookAboard_37 ?_
    refine x_getN (v := .int (u23.1 5 4)) C0 G0 hW (cX_X4 rfl) (by decide) rfl 4 (by decide) inX8_lookAboard_X4 nfX8_lookAboard_96 rfl dX8_lookAboard_40 ?_
    cases h
    exact x_iret C0 hW dX8_lookAboard_43
  · rw [if_neg c21] at h
    refine lv_bipush (v := (-3 : Int32)) C0.1 C0.2.1 dX8_lookAboard_17 (by decide) ?_
    cases h
    exact x_iret C0 hW dX8_lookAboard_19
theorem cX8_lookAboard_met (l : Launch) {G : GT} (hJ : gJ 80 G) (z : Nat) (σ : ST)  (res : (Int32 × ST)) (h : fX8_lookAboard z σ = some res) : Met l yX8_lookAboard wsX8_lookAboard rX8_lookAboard (XPc cellX 80 G σ [.ref (aD G 0)]) (XQi cellX 80 G res.1 res.2) 0 0 (gA 80 G) :=
  x_met (ret := (some .int)) (maxL := 1) (by decide) rfl (Nat.le_of_ble_eq_true rfl) (fun p e s m args below meth c H locs ls C0 G0 hW hl => wX8_lookAboard C0 G0 hJ z σ res h hW hl)
end
/-! X8_said -/
def rX8_said : Room := { frames := 2, cells := 0, slots := 0, locals := 46 }
theorem hdvX8_said : yX8_said.cls = RX8 ∧ yX8_said.cls ≠ "java/lang/invoke/MethodHandle" ∧ yX8_said.cls ≠ "java/lang/invoke/VarHandle" ∧ (parseMethodDescriptor yX8_said.desc).map (fun d => d.parameters.length) = some 1 := by decide +kernel
theorem inX8_said_X8 : ∀ w ∈ u_ws RX8 TX8 10, w ∈ wsX8_said := by decide +kernel
theorem lkX8_said_26 : Cond.fieldLink RX8 26 (TX8 2).1 (TX8 2).2.1 (TX8 2).2.2.1 ∈ wsX8_said := by decide +kernel
theorem inX8_said_X4 : ∀ w ∈ u_ws RX4 TX4 6, w ∈ wsX8_said := by decide +kernel
theorem nfX8_said_115 : (RX8, 115, (TX4 5).1, (TX4 5).2.1, (TX4 5).2.2.1) ∈ nwF := by decide +kernel
theorem lkX8_said_19 : Cond.fieldLink RX8 19 (TX8 1).1 (TX8 1).2.1 (TX8 1).2.2.1 ∈ wsX8_said := by decide +kernel
def fX8_said (z : Nat) (σ : ST) (v1 : Int32) : Option Int32 := bd (fX8_isWithin z v1 (0 : Int32) (1 : Int32)) (fun u21 => (if u21 = 0 then some (-2 : Int32) else (if v1 < (σ.1 5 5) then bd (fX4_lowOf z σ 5 v1) (fun u24 => bd (fX4_highOf z σ 5 v1) (fun u25 => bd (fX7_partsFrom z σ u24 u25) (fun u26 => bd (fX7_partsFrom z σ (0 : Int32) (9 : Int32)) (fun u27 => some (u26 - (u27 - u26)))))) else some (0 : Int32))))
section
variable {p : Program} {l : Launch} {e : Env} {s : State} {m : MethodId} {args : Array Value} {below : List Frame} {meth : Method} {c : Code} {G : GT}
set_option maxHeartbeats 4000000 in
set_option maxRecDepth 100000 in
theorem wX8_said (C0 : Cx p s m args meth c cX8_said RX8 3 (some .int) wsX8_said) (G0 : Gx G s) (hJ : gJ 80 G) (z : Nat) (σ : ST) (v1 : Int32) (res : Int32) (h : fX8_said z σ v1 = some res)  {H : Heap} {locs : List Loc} {ls : Array Slot} (hW : Wd cellX 80 G s.heap σ H locs) (hl : lv_has ls 3 [(0, .ref (aD G 0)), (1, .int v1)]) : W p l e rX8_said s m args below meth c H locs 0 0 (MQ below (XQi cellX 80 G res σ) args s 0 0 (gA 80 G)) (F0 m 0 ls []) := by
  unfold fX8_said at h
  refine lv_iload_n C0.1 C0.2.1 dX8_said_0 rfl (lv_at hl 1 rfl) ?_
  refine lv_iconst (v := (0 : Int32)) C0.1 C0.2.1 dX8_said_1 (by decide) ?_
  refine lv_iconst (v := (1 : Int32)) C0.1 C0.2.1 dX8_said_2 (by decide) ?_
  obtain ⟨u21, hu21, h⟩ := bd_some h
  refine x_ki (r := u21) (x_runS (As := [.int v1, .int (0 : Int32), .int (1 : Int32)]) (rest := []) C0 G0 hW (cX8_isWithin_met l hJ z σ v1 (0 : Int32) (1 : Int32) _ hu21) (va_cwS 3 C0.2.2.2.1 gX8_said_X8_isWithin rfl rfl rfl hdsX8_isWithin ⟨Nat.le_of_ble_eq_true rfl, Nat.le_of_ble_eq_true rfl⟩) rfl rfl hl (Nat.le_of_ble_eq_true rfl) dX8_said_3 ⟨Nat.le_refl 0, Nat.le_refl 0⟩) hW (fun H locs hW => ?_)
  refine lv_if_ne (tgt := 12) C0.1 C0.2.1 dX8_said_6 (by decide) (fun c22 => ?_) (fun c22 => ?_)
  · rw [if_neg c22] at h
    refine lv_iload_n C0.1 C0.2.1 dX8_said_12 rfl (lv_at hl 1 rfl) ?_
    refine lv_aload_n C0.1 C0.2.1 dX8_said_13 rfl (lv_at hl 0 rfl) ?_
    refine x_get (v := .ref (aD G 5)) C0 G0 hW (cX_X8 rfl) (by decide) rfl 2 (by decide) inX8_said_X8 lkX8_said_26 rfl dX8_said_14 ?_
    refine x_getN (v := .int (σ.1 5 5)) C0 G0 hW (cX_X4 rfl) (by decide) rfl 5 (by decide) inX8_said_X4 nfX8_said_115 rfl dX8_said_17 ?_
    refine lv_icmp_lt (tgt := 25) C0.1 C0.2.1 dX8_said_20 (by decide) (fun c23 => ?_) (fun c23 => ?_)
    · rw [if_pos c23] at h
      refine lv_aload_n C0.1 C0.2.1 dX8_said_25 rfl (lv_at hl 0 rfl) ?_
      refine x_get (v := .ref (aD G 3)) C0 G0 hW (cX_X8 rfl) (by decide) rfl 1 (by decide) inX8_said_X8 lkX8_said_19 rfl dX8_said_26 ?_
      refine lv_aload_n C0.1 C0.2.1 dX8_said_29 rfl (lv_at hl 0 rfl) ?_
      refine x_get (v := .ref (aD G 5)) C0 G0 hW (cX_X8 rfl) (by decide) rfl 2 (by decide) inX8_said_X8 lkX8_said_26 rfl dX8_said_30 ?_
      refine lv_iload_n C0.1 C0.2.1 dX8_said_33 rfl (lv_at hl 1 rfl) ?_
      obtain ⟨u24, hu24, h⟩ := bd_some h
      refine x_ki (r := u24) (x_runV (As := [.int v1]) (rest := [.ref (aD G 3)]) C0 G0 hW (cX4_lowOf_met l hJ z σ 5 v1 _ hu24) (cwV 1 C0.2.2.2.1 gX8_said_X4_lowOf rfl rfl rfl hdvX4_lowOf ⟨Nat.le_of_ble_eq_true rfl, Nat.le_of_ble_eq_true rfl⟩) (cX_X4 rfl) (by decide) rfl rfl rfl hl (Nat.le_of_ble_eq_true rfl) dX8_said_34 ⟨Nat.le_refl 0, Nat.le_refl 0⟩) hW (fun H locs hW => ?_)
      refine lv_aload_n C0.1 C0.2.1 dX8_said_37 rfl (lv_at hl 0 rfl) ?_
      refine x_get (v := .ref (aD G 5)) C0 G0 hW (cX_X8 rfl) (by decide) rfl 2 (by decide) inX8_said_X8 lkX8_said_26 rfl dX8_said_38 ?_
      refine lv_iload_n C0.1 C0.2.1 dX8_said_41 rfl (lv_at hl 1 rfl) ?_
      obtain ⟨u25, hu25, h⟩ := bd_some h
      refine x_ki (r := u25) (x_runV (As := [.int v1]) (rest := [.int u24, .ref (aD G 3)]) C0 G0 hW (cX4_highOf_met l hJ z σ 5 v1 _ hu25) (cwV 1 C0.2.2.2.1 gX8_said_X4_highOf rfl rfl rfl hdvX4_highOf ⟨Nat.le_of_ble_eq_true rfl, Nat.le_of_ble_eq_true rfl⟩) (cX_X4 rfl) (by decide) rfl rfl rfl hl (Nat.le_of_ble_eq_true rfl) dX8_said_42 ⟨Nat.le_refl 0, Nat.le_refl 0⟩) hW (fun H locs hW => ?_)
      obtain ⟨u26, hu26, h⟩ := bd_some h
      refine x_ki (r := u26) (x_runV (As := [.int u24, .int u25]) (rest := []) C0 G0 hW (cX7_partsFrom_met l hJ z σ u24 u25 _ hu26) (cwV 2 C0.2.2.2.1 gX8_said_X7_partsFrom rfl rfl rfl hdvX7_partsFrom ⟨Nat.le_of_ble_eq_true rfl, Nat.le_of_ble_eq_true rfl⟩) (cX_X7 rfl) (by decide) rfl rfl rfl hl (Nat.le_of_ble_eq_true rfl) dX8_said_45 ⟨Nat.le_refl 0, Nat.le_refl 0⟩) hW (fun H locs hW => ?_)
      refine lv_istore_n (lv' := [(2, .int u26), (0, .ref (aD G 0)), (1, .int v1)]) C0.1 C0.2.1 dX8_said_48 rfl hl (by decide) rfl (fun ls hl => ?_)
      refine lv_iload_n C0.1 C0.2.1 dX8_said_49 rfl (lv_at hl 0 rfl) ?_
      refine lv_aload_n C0.1 C0.2.1 dX8_said_50 rfl (lv_at hl 1 rfl) ?_
      refine x_get (v := .ref (aD G 3)) C0 G0 hW (cX_X8 rfl) (by decide) rfl 1 (by decide) inX8_said_X8 lkX8_said_19 rfl dX8_said_51 ?_
      refine lv_iconst (v := (0 : Int32)) C0.1 C0.2.1 dX8_said_54 (by decide) ?_
      refine lv_bipush (v := (9 : Int32)) C0.1 C0.2.1 dX8_said_55 (by decide) ?_
      obtain ⟨u27, hu27, h⟩ := bd_some h
      refine x_ki (r := u27) (x_runV (As := [.int (0 : Int32), .int (9 : Int32)]) (rest := [.int u26]) C0 G0 hW (cX7_partsFrom_met l hJ z σ (0 : Int32) (9 : Int32) _ hu27) (cwV 2 C0.2.2.2.1 gX8_said_X7_partsFrom rfl rfl rfl hdvX7_partsFrom ⟨Nat.le_of_ble_eq_true rfl, Nat.le_of_ble_eq_true rfl⟩) (cX_X7 rfl) (by decide) rfl rfl rfl hl (Nat.le_of_ble_eq_true rfl) dX8_said_57 ⟨Nat.le_refl 0, Nat.le_refl 0⟩) hW (fun H locs hW => ?_)
      refine lv_iload_n C0.1 C0.2.1 dX8_said_60 rfl (lv_at hl 0 rfl) ?_
      refine lv_isub C0.1 C0.2.1 dX8_said_61 ?_
      refine lv_isub C0.1 C0.2.1 dX8_said_62 ?_
      cases h
      exact x_iret C0 hW dX8_said_63
    · rw [if_neg c23] at h
      refine lv_iconst (v := (0 : Int32)) C0.1 C0.2.1 dX8_said_23 (by decide) ?_
      cases h
      exact x_iret C0 hW dX8_said_24
  · rw [if_pos c22] at h
    refine lv_bipush (v := (-2 : Int32)) C0.1 C0.2.1 dX8_said_9 (by decide) ?_
    cases h
    exact x_iret C0 hW dX8_said_11
theorem cX8_said_met (l : Launch) {G : GT} (hJ : gJ 80 G) (z : Nat) (σ : ST) (v1 : Int32) (res : Int32) (h : fX8_said z σ v1 = some res) : Met l yX8_said wsX8_said rX8_said (XPc cellX 80 G σ [.ref (aD G 0), .int v1]) (XQi cellX 80 G res σ) 0 0 (gA 80 G) :=
  x_met (ret := (some .int)) (maxL := 3) (by decide) rfl (Nat.le_of_ble_eq_true rfl) (fun p e s m args below meth c H locs ls C0 G0 hW hl => wX8_said C0 G0 hJ z σ v1 res h hW hl)
end
/-! X8_search -/
def rX8_search : Room := { frames := 4, cells := 0, slots := 0, locals := 87 }
theorem hdvX8_search : yX8_search.cls = RX8 ∧ yX8_search.cls ≠ "java/lang/invoke/MethodHandle" ∧ yX8_search.cls ≠ "java/lang/invoke/VarHandle" ∧ (parseMethodDescriptor yX8_search.desc).map (fun d => d.parameters.length) = some 0 := by decide +kernel
theorem inX8_search_X8 : ∀ w ∈ u_ws RX8 TX8 10, w ∈ wsX8_search := by decide +kernel
theorem lkX8_search_10 : Cond.fieldLink RX8 10 (TX8 0).1 (TX8 0).2.1 (TX8 0).2.2.1 ∈ wsX8_search := by decide +kernel
theorem lkX8_search_19 : Cond.fieldLink RX8 19 (TX8 1).1 (TX8 1).2.1 (TX8 1).2.2.1 ∈ wsX8_search := by decide +kernel
theorem lkX8_search_26 : Cond.fieldLink RX8 26 (TX8 2).1 (TX8 2).2.1 (TX8 2).2.2.1 ∈ wsX8_search := by decide +kernel
theorem lkX8_search_86 : Cond.fieldLink RX8 86 (TX8 9).1 (TX8 9).2.1 (TX8 9).2.2.1 ∈ wsX8_search := by decide +kernel
theorem lkX8_search_90 : Cond.fieldLink RX8 90 (TX8 8).1 (TX8 8).2.1 (TX8 8).2.2.1 ∈ wsX8_search := by decide +kernel
def fX8_search (z : Nat) (σ : ST) : Option (Int32 × ST) := bd (fX6_firstFault z σ) (fun u21 => (if u21.1 = (-9 : Int32) then bd (fX7_take z u21.2) (fun u23 => bd (fX4_begin z u23 5) (fun u24 => lt (pI u24 0 9 (0 : Int32)) (fun s25 => lt (pI s25 0 8 (0 : Int32)) (fun s26 => bd (fX7_allParts z s26) (fun u27 => some (u27, s26)))))) else some ((-3 : Int32), u21.2)))
section
variable {p : Program} {l : Launch} {e : Env} {s : State} {m : MethodId} {args : Array Value} {below : List Frame} {meth : Method} {c : Code} {G : GT}
set_option maxHeartbeats 4000000 in
set_option maxRecDepth 100000 in
theorem wX8_search (C0 : Cx p s m args meth c cX8_search RX8 1 (some .int) wsX8_search) (G0 : Gx G s) (hJ : gJ 80 G) (z : Nat) (σ : ST) (res : (Int32 × ST)) (h : fX8_search z σ = some res)  {H : Heap} {locs : List Loc} {ls : Array Slot} (hW : Wd cellX 80 G s.heap σ H locs) (hl : lv_has ls 1 [(0, .ref (aD G 0))]) : W p l e rX8_search s m args below meth c H locs 0 0 (MQ below (XQi cellX 80 G res.1 res.2) args s 0 0 (gA 80 G)) (F0 m 0 ls []) := by
  unfold fX8_search at h
  refine lv_aload_n C0.1 C0.2.1 dX8_search_0 rfl (lv_at hl 0 rfl) ?_
  refine x_get (v := .ref (aD G 1)) C0 G0 hW (cX_X8 rfl) (by decide) rfl 0 (by decide) inX8_search_X8 lkX8_search_10 rfl dX8_search_1 ?_
  obtain ⟨u21, hu21, h⟩ := bd_some h
  refine x_ki (r := u21.1) (x_runV (As := []) (rest := []) C0 G0 hW (cX6_firstFault_met l hJ z σ _ hu21) (cwV 0 C0.2.2.2.1 gX8_search_X6_firstFault rfl rfl rfl hdvX6_firstFault ⟨Nat.le_of_ble_eq_true rfl, Nat.le_of_ble_eq_true rfl⟩) (cX_X6 rfl) (by decide) rfl rfl rfl hl (Nat.le_of_ble_eq_true rfl) dX8_search_4 ⟨Nat.le_refl 0, Nat.le_refl 0⟩) hW (fun H locs hW => ?_)
  refine lv_bipush (v := (-9 : Int32)) C0.1 C0.2.1 dX8_search_7 (by decide) ?_
  refine lv_icmp_eq (tgt := 15) C0.1 C0.2.1 dX8_search_9 (by decide) (fun c22 => ?_) (fun c22 => ?_)
  · rw [if_pos c22] at h
    refine lv_aload_n C0.1 C0.2.1 dX8_search_15 rfl (lv_at hl 0 rfl) ?_
    refine x_get (v := .ref (aD G 3)) C0 G0 hW (cX_X8 rfl) (by decide) rfl 1 (by decide) inX8_search_X8 lkX8_search_19 rfl dX8_search_16 ?_
    refine lv_aload_n C0.1 C0.2.1 dX8_search_19 rfl (lv_at hl 0 rfl) ?_
    refine x_get (v := .ref (aD G 1)) C0 G0 hW (cX_X8 rfl) (by decide) rfl 0 (by decide) inX8_search_X8 lkX8_search_10 rfl dX8_search_20 ?_
    obtain ⟨u23, hu23, h⟩ := bd_some h
    refine x_kv (x_runV (As := [.ref (aD G 1)]) (rest := []) C0 G0 hW (cX7_take_met l hJ z u21.2 _ hu23) (cwV 1 C0.2.2.2.1 gX8_search_X7_take rfl rfl rfl hdvX7_take ⟨Nat.le_of_ble_eq_true rfl, Nat.le_of_ble_eq_true rfl⟩) (cX_X7 rfl) (by decide) rfl rfl rfl hl (Nat.le_of_ble_eq_true rfl) dX8_search_23 ⟨Nat.le_refl 0, Nat.le_refl 0⟩) hW (fun H locs hW => ?_)
    refine lv_aload_n C0.1 C0.2.1 dX8_search_26 rfl (lv_at hl 0 rfl) ?_
    refine x_get (v := .ref (aD G 5)) C0 G0 hW (cX_X8 rfl) (by decide) rfl 2 (by decide) inX8_search_X8 lkX8_search_26 rfl dX8_search_27 ?_
    refine lv_aload_n C0.1 C0.2.1 dX8_search_30 rfl (lv_at hl 0 rfl) ?_
    refine x_get (v := .ref (aD G 3)) C0 G0 hW (cX_X8 rfl) (by decide) rfl 1 (by decide) inX8_search_X8 lkX8_search_19 rfl dX8_search_31 ?_
    obtain ⟨u24, hu24, h⟩ := bd_some h
    refine x_kv (x_runV (As := [.ref (aD G 3)]) (rest := []) C0 G0 hW (cX4_begin_met l hJ z u23 5 _ hu24) (cwV 1 C0.2.2.2.1 gX8_search_X4_begin rfl rfl rfl hdvX4_begin ⟨Nat.le_of_ble_eq_true rfl, Nat.le_of_ble_eq_true rfl⟩) (cX_X4 rfl) (by decide) rfl rfl rfl hl (Nat.le_of_ble_eq_true rfl) dX8_search_34 ⟨Nat.le_refl 0, Nat.le_refl 0⟩) hW (fun H locs hW => ?_)
    refine lv_aload_n C0.1 C0.2.1 dX8_search_37 rfl (lv_at hl 0 rfl) ?_
    refine lv_iconst (v := (0 : Int32)) C0.1 C0.2.1 dX8_search_38 (by decide) ?_
    refine x_putI (v := (0 : Int32)) C0 G0 hJ hW (cX_X8 rfl) (by decide) rfl 9 (by decide) inX8_search_X8 lkX8_search_86 tyX8 tyX8_ok nmX8 rfl rfl rfl (Nat.le_of_ble_eq_true rfl) (hu_X8_9 rfl) dX8_search_39 (fun H locs hW => ?_)
    obtain ⟨s25, es25, h⟩ := lt_some h
    rw [es25] at hW
    refine lv_aload_n C0.1 C0.2.1 dX8_search_42 rfl (lv_at hl 0 rfl) ?_
    refine lv_iconst (v := (0 : Int32)) C0.1 C0.2.1 dX8_search_43 (by decide) ?_
    refine x_putI (v := (0 : Int32)) C0 G0 hJ hW (cX_X8 rfl) (by decide) rfl 8 (by decide) inX8_search_X8 lkX8_search_90 tyX8 tyX8_ok nmX8 rfl rfl rfl (Nat.le_of_ble_eq_true rfl) (hu_X8_8 rfl) dX8_search_44 (fun H locs hW => ?_)
    obtain ⟨s26, es26, h⟩ := lt_some h
    rw [es26] at hW
    refine lv_aload_n C0.1 C0.2.1 dX8_search_47 rfl (lv_at hl 0 rfl) ?_
    refine x_get (v := .ref (aD G 3)) C0 G0 hW (cX_X8 rfl) (by decide) rfl 1 (by decide) inX8_search_X8 lkX8_search_19 rfl dX8_search_48 ?_
    obtain ⟨u27, hu27, h⟩ := bd_some h
    refine x_ki (r := u27) (x_runV (As := []) (rest := []) C0 G0 hW (cX7_allParts_met l hJ z s26 _ hu27) (cwV 0 C0.2.2.2.1 gX8_search_X7_allParts rfl rfl rfl hdvX7_allParts ⟨Nat.le_of_ble_eq_true rfl, Nat.le_of_ble_eq_true rfl⟩) (cX_X7 rfl) (by decide) rfl rfl rfl hl (Nat.le_of_ble_eq_true rfl) dX8_search_51 ⟨Nat.le_refl 0, Nat.le_refl 0⟩) hW (fun H locs hW => ?_)
    cases h
    exact x_iret C0 hW dX8_search_54
  · rw [if_neg c22] at h
    refine lv_bipush (v := (-3 : Int32)) C0.1 C0.2.1 dX8_search_12 (by decide) ?_
    cases h
    exact x_iret C0 hW dX8_search_14
theorem cX8_search_met (l : Launch) {G : GT} (hJ : gJ 80 G) (z : Nat) (σ : ST)  (res : (Int32 × ST)) (h : fX8_search z σ = some res) : Met l yX8_search wsX8_search rX8_search (XPc cellX 80 G σ [.ref (aD G 0)]) (XQi cellX 80 G res.1 res.2) 0 0 (gA 80 G) :=
  x_met (ret := (some .int)) (maxL := 1) (by decide) rfl (Nat.le_of_ble_eq_true rfl) (fun p e s m args below meth c H locs ls C0 G0 hW hl => wX8_search C0 G0 hJ z σ res h hW hl)
end
/-! X8_seed -/
def rX8_seed : Room := { frames := 0, cells := 0, slots := 0, locals := 0 }
theorem hdvX8_seed : yX8_seed.cls = RX8 ∧ yX8_seed.cls ≠ "java/lang/invoke/MethodHandle" ∧ yX8_seed.cls ≠ "java/lang/invoke/VarHandle" ∧ (parseMethodDescriptor yX8_seed.desc).map (fun d => d.parameters.length) = some 1 := by decide +kernel
theorem inX8_seed_X8 : ∀ w ∈ u_ws RX8 TX8 10, w ∈ wsX8_seed := by decide +kernel
theorem lkX8_seed_55 : Cond.fieldLink RX8 55 (TX8 7).1 (TX8 7).2.1 (TX8 7).2.2.1 ∈ wsX8_seed := by decide +kernel
theorem inX8_seed_X2 : ∀ w ∈ u_ws RX2 TX2 1, w ∈ wsX8_seed := by decide +kernel
theorem nfX8_seed_228 : (RX8, 228, (TX2 0).1, (TX2 0).2.1, (TX2 0).2.2.1) ∈ nwF := by decide +kernel
def fX8_seed (z : Nat) (σ : ST) (v1 : Int64) : Option (Int64 × ST) := lt (pL σ 79 0 v1) (fun s21 => some ((σ.2 79 0), s21))
section
variable {p : Program} {l : Launch} {e : Env} {s : State} {m : MethodId} {args : Array Value} {below : List Frame} {meth : Method} {c : Code} {G : GT}
set_option maxHeartbeats 4000000 in
set_option maxRecDepth 100000 in
theorem wX8_seed (C0 : Cx p s m args meth c cX8_seed RX8 5 (some .long) wsX8_seed) (G0 : Gx G s) (hJ : gJ 80 G) (z : Nat) (σ : ST) (v1 : Int64) (res : (Int64 × ST)) (h : fX8_seed z σ v1 = some res)  {H : Heap} {locs : List Loc} {ls : Array Slot} (hW : Wd cellX 80 G s.heap σ H locs) (hl : lv_has ls 5 [(0, .ref (aD G 0)), (1, .long v1)]) : W p l e rX8_seed s m args below meth c H locs 0 0 (MQ below (XQl cellX 80 G res.1 res.2) args s 0 0 (gA 80 G)) (F0 m 0 ls []) := by
  unfold fX8_seed at h
  refine lv_aload_n C0.1 C0.2.1 dX8_seed_0 rfl (lv_at hl 0 rfl) ?_
  refine x_get (v := .ref (aD G 79)) C0 G0 hW (cX_X8 rfl) (by decide) rfl 7 (by decide) inX8_seed_X8 lkX8_seed_55 rfl dX8_seed_1 ?_
  refine x_getN (v := .long (σ.2 79 0)) C0 G0 hW (cX_X2 rfl) (by decide) rfl 0 (by decide) inX8_seed_X2 nfX8_seed_228 rfl dX8_seed_4 ?_
  refine lv_lstore_n (lv' := [(3, .long (σ.2 79 0)), (0, .ref (aD G 0)), (1, .long v1)]) C0.1 C0.2.1 dX8_seed_7 rfl hl (by decide) rfl (fun ls hl => ?_)
  refine lv_aload_n C0.1 C0.2.1 dX8_seed_8 rfl (lv_at hl 1 rfl) ?_
  refine x_get (v := .ref (aD G 79)) C0 G0 hW (cX_X8 rfl) (by decide) rfl 7 (by decide) inX8_seed_X8 lkX8_seed_55 rfl dX8_seed_9 ?_
  refine lv_lload_n C0.1 C0.2.1 dX8_seed_12 rfl (lv_at hl 2 rfl) ?_
  refine x_putLN (v := v1) C0 G0 hJ hW (cX_X2 rfl) (by decide) rfl 0 (by decide) inX8_seed_X2 nfX8_seed_228 tyX2 tyX2_ok nmX2 rfl rfl rfl (Nat.le_of_ble_eq_true rfl) (hu_X2_0 rfl) dX8_seed_13 (fun H locs hW => ?_)
  obtain ⟨s21, es21, h⟩ := lt_some h
  rw [es21] at hW
  refine lv_lload_n C0.1 C0.2.1 dX8_seed_16 rfl (lv_at hl 0 rfl) ?_
  cases h
  exact x_lret C0 hW dX8_seed_17
theorem cX8_seed_met (l : Launch) {G : GT} (hJ : gJ 80 G) (z : Nat) (σ : ST) (v1 : Int64) (res : (Int64 × ST)) (h : fX8_seed z σ v1 = some res) : Met l yX8_seed wsX8_seed rX8_seed (XPc cellX 80 G σ [.ref (aD G 0), .long v1]) (XQl cellX 80 G res.1 res.2) 0 0 (gA 80 G) :=
  x_met (ret := (some .long)) (maxL := 5) (by decide) rfl (Nat.le_of_ble_eq_true rfl) (fun p e s m args below meth c H locs ls C0 G0 hW hl => wX8_seed C0 G0 hJ z σ v1 res h hW hl)
end
/-! X8_soon -/
def rX8_soon : Room := { frames := 16, cells := 0, slots := 0, locals := 462 }
theorem hdvX8_soon : yX8_soon.cls = RX8 ∧ yX8_soon.cls ≠ "java/lang/invoke/MethodHandle" ∧ yX8_soon.cls ≠ "java/lang/invoke/VarHandle" ∧ (parseMethodDescriptor yX8_soon.desc).map (fun d => d.parameters.length) = some 1 := by decide +kernel
theorem inX8_soon_X8 : ∀ w ∈ u_ws RX8 TX8 10, w ∈ wsX8_soon := by decide +kernel
theorem lkX8_soon_26 : Cond.fieldLink RX8 26 (TX8 2).1 (TX8 2).2.1 (TX8 2).2.2.1 ∈ wsX8_soon := by decide +kernel
theorem lkX8_soon_48 : Cond.fieldLink RX8 48 (TX8 6).1 (TX8 6).2.1 (TX8 6).2.2.1 ∈ wsX8_soon := by decide +kernel
theorem lkX8_soon_19 : Cond.fieldLink RX8 19 (TX8 1).1 (TX8 1).2.1 (TX8 1).2.2.1 ∈ wsX8_soon := by decide +kernel
theorem inX8_soon_X1 : ∀ w ∈ u_ws RX1 TX1 2, w ∈ wsX8_soon := by decide +kernel
theorem nfX8_soon_170 : (RX8, 170, (TX1 0).1, (TX1 0).2.1, (TX1 0).2.2.1) ∈ nwF := by decide +kernel
theorem kcX8_soon_179 : Cond.constantLong RX8 179 (10 : Int64) ∈ wsX8_soon := by decide +kernel
theorem kcX8_soon_156 : Cond.constantLong RX8 156 (100 : Int64) ∈ wsX8_soon := by decide +kernel
def fX8_soon_103 (z : Nat) (σ : ST) : Option (Int32 × ST) := some ((-9 : Int32), σ)
def fX8_soon_30 (z : Nat) (v1 : Int32) : Nat → ST → Int32 → Option (Int32 × ST)
  | 0 => fun _ _ => none
  | n + 1 => fun σ v2 => (if (4 : Int32) < v2 then fX8_soon_103 z σ else bd (fX8_isLeft z σ v2) (fun u26 => (if u26 = 0 then fX8_soon_103 z σ else bd (fX0_tryAll z σ 5 v2) (fun u28 => bd (fX0_likelier z u28) (fun u29 => nl (u29) none (fun k30 => gd (kX k30 == 1) ( bd (fX4_together z u28 5) (fun u31 => bd (fX8_power z (100 : Int64) v2) (fun u32 => (if ((u28.2 k30 0) * (10 : Int64)) < ((u31 * u32) * ((v1).toInt64)) then (fX8_soon_30 z v1 n) u28 (v2 + 1) else some (v2, u28)))))))))))
def fX8_soon (z : Nat) (σ : ST) (v1 : Int32) : Option (Int32 × ST) := bd (fX8_isWithin z v1 (1 : Int32) (10 : Int32)) (fun u21 => (if u21 = 0 then some ((-2 : Int32), σ) else bd (fX4_together z σ 5) (fun u23 => (if (0 : Int64) < u23 then fX8_soon_30 z v1 z σ (1 : Int32) else some ((-3 : Int32), σ)))))
section
variable {p : Program} {l : Launch} {e : Env} {s : State} {m : MethodId} {args : Array Value} {below : List Frame} {meth : Method} {c : Code} {G : GT}
set_option maxHeartbeats 4000000 in
set_option maxRecDepth 100000 in
theorem wX8_soon_103 (C0 : Cx p s m args meth c cX8_soon RX8 3 (some .int) wsX8_soon) (G0 : Gx G s) (hJ : gJ 80 G) (z : Nat) (σ : ST) (res : (Int32 × ST)) (h : fX8_soon_103 z σ = some res)  {H : Heap} {locs : List Loc} {ls : Array Slot} (hW : Wd cellX 80 G s.heap σ H locs) (hl : lv_has ls 3 []) : W p l e rX8_soon s m args below meth c H locs 0 0 (MQ below (XQi cellX 80 G res.1 res.2) args s 0 0 (gA 80 G)) (F0 m 103 ls []) := by
  unfold fX8_soon_103 at h
  refine lv_bipush (v := (-9 : Int32)) C0.1 C0.2.1 dX8_soon_103 (by decide) ?_
  cases h
  exact x_iret C0 hW dX8_soon_105
set_option maxHeartbeats 4000000 in
set_option maxRecDepth 100000 in
theorem wX8_soon_30 (C0 : Cx p s m args meth c cX8_soon RX8 3 (some .int) wsX8_soon) (G0 : Gx G s) (hJ : gJ 80 G) (z : Nat) (v1 : Int32) (n : Nat) (σ : ST) (v2 : Int32) (res : (Int32 × ST)) (h : fX8_soon_30 z v1 n σ v2 = some res)  {H : Heap} {locs : List Loc} {ls : Array Slot} (hW : Wd cellX 80 G s.heap σ H locs) (hl : lv_has ls 3 [(0, .ref (aD G 0)), (1, .int v1), (2, .int v2)]) : W p l e rX8_soon s m args below meth c H locs 0 0 (MQ below (XQi cellX 80 G res.1 res.2) args s 0 0 (gA 80 G)) (F0 m 30 ls []) := by
  induction n generalizing σ v2 H locs ls with
  | zero => cases h
  | succ n ih =>
    have hr30 : ∀ (σ : ST) (v2 : Int32), fX8_soon_30 z v1 n σ v2 = some res → ∀ (H : Heap) (locs : List Loc) (ls : Array Slot), Wd cellX 80 G s.heap σ H locs → lv_has ls 3 [(0, .ref (aD G 0)), (1, .int v1), (2, .int v2)] → W p l e rX8_soon s m args below meth c H locs 0 0 (MQ below (XQi cellX 80 G res.1 res.2) args s 0 0 (gA 80 G)) (F0 m 30 ls []) := fun σ v2 h H locs ls hW hl => ih σ v2 h hW hl
    clear ih
    unfold fX8_soon_30 at h
    refine lv_iload_n C0.1 C0.2.1 dX8_soon_30 rfl (lv_at hl 2 rfl) ?_
    refine lv_iconst (v := (4 : Int32)) C0.1 C0.2.1 dX8_soon_31 (by decide) ?_
    refine lv_icmp_gt (tgt := 103) C0.1 C0.2.1 dX8_soon_32 (by decide) (fun c25 => ?_) (fun c25 => ?_)
    · rw [if_pos c25] at h
      exact wX8_soon_103 C0 G0 hJ z σ _ h hW (lv_sub hl [] rfl)
    · rw [if_neg c25] at h
      refine lv_aload_n C0.1 C0.2.1 dX8_soon_35 rfl (lv_at hl 0 rfl) ?_
      refine lv_iload_n C0.1 C0.2.1 dX8_soon_36 rfl (lv_at hl 2 rfl) ?_
      obtain ⟨u26, hu26, h⟩ := bd_some h
      refine x_ki (r := u26) (x_runV (As := [.int v2]) (rest := []) C0 G0 hW (cX8_isLeft_met l hJ z σ v2 _ hu26) (cwV 1 C0.2.2.2.1 gX8_soon_X8_isLeft rfl rfl rfl hdvX8_isLeft ⟨Nat.le_of_ble_eq_true rfl, Nat.le_of_ble_eq_true rfl⟩) (cX_X8 rfl) (by decide) rfl rfl rfl hl (Nat.le_of_ble_eq_true rfl) dX8_soon_37 ⟨Nat.le_refl 0, Nat.le_refl 0⟩) hW (fun H locs hW => ?_)
      refine lv_if_eq (tgt := 103) C0.1 C0.2.1 dX8_soon_40 (by decide) (fun c27 => ?_) (fun c27 => ?_)
      · rw [if_pos c27] at h
        exact wX8_soon_103 C0 G0 hJ z σ _ h hW (lv_sub hl [] rfl)
      · rw [if_neg c27] at h
        refine lv_aload_n C0.1 C0.2.1 dX8_soon_43 rfl (lv_at hl 0 rfl) ?_
        refine x_get (v := .ref (aD G 57)) C0 G0 hW (cX_X8 rfl) (by decide) rfl 6 (by decide) inX8_soon_X8 lkX8_soon_48 rfl dX8_soon_44 ?_
        refine lv_aload_n C0.1 C0.2.1 dX8_soon_47 rfl (lv_at hl 0 rfl) ?_
        refine x_get (v := .ref (aD G 3)) C0 G0 hW (cX_X8 rfl) (by decide) rfl 1 (by decide) inX8_soon_X8 lkX8_soon_19 rfl dX8_soon_48 ?_
        refine lv_aload_n C0.1 C0.2.1 dX8_soon_51 rfl (lv_at hl 0 rfl) ?_
        refine x_get (v := .ref (aD G 5)) C0 G0 hW (cX_X8 rfl) (by decide) rfl 2 (by decide) inX8_soon_X8 lkX8_soon_26 rfl dX8_soon_52 ?_
        refine lv_iload_n C0.1 C0.2.1 dX8_soon_55 rfl (lv_at hl 2 rfl) ?_
        obtain ⟨u28, hu28, h⟩ := bd_some h
        refine x_kv (x_runV (As := [.ref (aD G 3), .ref (aD G 5), .int v2]) (rest := []) C0 G0 hW (cX0_tryAll_met l hJ z σ 5 v2 _ hu28) (cwV 3 C0.2.2.2.1 gX8_soon_X0_tryAll rfl rfl rfl hdvX0_tryAll ⟨Nat.le_of_ble_eq_true rfl, Nat.le_of_ble_eq_true rfl⟩) (cX_X0 rfl) (by decide) rfl rfl rfl hl (Nat.le_of_ble_eq_true rfl) dX8_soon_56 ⟨Nat.le_refl 0, Nat.le_refl 0⟩) hW (fun H locs hW => ?_)
        refine lv_aload_n C0.1 C0.2.1 dX8_soon_59 rfl (lv_at hl 0 rfl) ?_
        refine x_get (v := .ref (aD G 57)) C0 G0 hW (cX_X8 rfl) (by decide) rfl 6 (by decide) inX8_soon_X8 lkX8_soon_48 rfl dX8_soon_60 ?_
        obtain ⟨u29, hu29, h⟩ := bd_some h
        refine x_kr (r := u29) (x_runV (As := []) (rest := []) C0 G0 hW (cX0_likelier_met l hJ z u28 _ hu29) (cwV 0 C0.2.2.2.1 gX8_soon_X0_likelier rfl rfl rfl hdvX0_likelier ⟨Nat.le_of_ble_eq_true rfl, Nat.le_of_ble_eq_true rfl⟩) (cX_X0 rfl) (by decide) rfl rfl rfl hl (Nat.le_of_ble_eq_true rfl) dX8_soon_63 ⟨Nat.le_refl 0, Nat.le_refl 0⟩) hW (fun H locs hW => ?_)
        obtain ⟨k30, rfl, h⟩ := nl_some h
        obtain ⟨hk_k30, h⟩ := gd_some h
        have hk_k30 : kX k30 = 1 := eq_of_beq hk_k30
        refine x_getN (v := .long (u28.2 k30 0)) C0 G0 hW (cX_X1 hk_k30) (kX_lt hk_k30 (by decide)) rfl 0 (by decide) inX8_soon_X1 nfX8_soon_170 rfl dX8_soon_66 ?_
        refine lv_ldc2 (v := (10 : Int64)) C0.1 C0.2.1 C0.2.2.2.2.1 (C0.2.2.2.1 _ kcX8_soon_179) dX8_soon_69 ?_
        refine lv_lmul C0.1 C0.2.1 dX8_soon_72 ?_
        refine lv_aload_n C0.1 C0.2.1 dX8_soon_73 rfl (lv_at hl 0 rfl) ?_
        refine x_get (v := .ref (aD G 5)) C0 G0 hW (cX_X8 rfl) (by decide) rfl 2 (by decide) inX8_soon_X8 lkX8_soon_26 rfl dX8_soon_74 ?_
        obtain ⟨u31, hu31, h⟩ := bd_some h
        refine x_kl (r := u31) (x_runV (As := []) (rest := [.long ((u28.2 k30 0) * (10 : Int64))]) C0 G0 hW (cX4_together_met l hJ z u28 5 _ hu31) (cwV 0 C0.2.2.2.1 gX8_soon_X4_together rfl rfl rfl hdvX4_together ⟨Nat.le_of_ble_eq_true rfl, Nat.le_of_ble_eq_true rfl⟩) (cX_X4 rfl) (by decide) rfl rfl rfl hl (Nat.le_of_ble_eq_true rfl) dX8_soon_77 ⟨Nat.le_refl 0, Nat.le_refl 0⟩) hW (fun H locs hW => ?_)
        refine lv_ldc2 (v := (100 : Int64)) C0.1 C0.2.1 C0.2.2.2.2.1 (C0.2.2.2.1 _ kcX8_soon_156) dX8_soon_80 ?_
        refine lv_iload_n C0.1 C0.2.1 dX8_soon_83 rfl (lv_at hl 2 rfl) ?_
        obtain ⟨u32, hu32, h⟩ := bd_some h
        refine x_kl (r := u32) (x_runS (As := [.long (100 : Int64), .int v2]) (rest := [.long u31, .long ((u28.2 k30 0) * (10 : Int64))]) C0 G0 hW (cX8_power_met l hJ z u28 (100 : Int64) v2 _ hu32) (va_cwS 2 C0.2.2.2.1 gX8_soon_X8_power rfl rfl rfl hdsX8_power ⟨Nat.le_of_ble_eq_true rfl, Nat.le_of_ble_eq_true rfl⟩) rfl rfl hl (Nat.le_of_ble_eq_true rfl) dX8_soon_84 ⟨Nat.le_refl 0, Nat.le_refl 0⟩) hW (fun H locs hW => ?_)
        refine lv_lmul C0.1 C0.2.1 dX8_soon_87 ?_
        refine lv_iload_n C0.1 C0.2.1 dX8_soon_88 rfl (lv_at hl 1 rfl) ?_
        refine lv_i2l (v := ((v1).toInt64)) C0.1 C0.2.1 dX8_soon_89 rfl ?_
        refine lv_lmul C0.1 C0.2.1 dX8_soon_90 ?_
        refine x_lc_lt (tgt := 97) C0 dX8_soon_91 dX8_soon_92 (by decide) (fun c33 => ?_) (fun c33 => ?_)
        · rw [if_pos c33] at h
          refine lv_iinc (v := (v2 + 1)) (lv' := [(2, .int (v2 + 1)), (0, .ref (aD G 0)), (1, .int v1)]) C0.1 C0.2.1 dX8_soon_97 hl (k := 2) rfl rfl (by decide) rfl (fun ls hl => ?_)
          refine lv_goto (tgt := 30) C0.1 C0.2.1 dX8_soon_100 (by decide) ?_
          exact hr30 u28 (v2 + 1) h _ _ _ hW (lv_sub hl [1, 2, 0] rfl)
        · rw [if_neg c33] at h
          refine lv_iload_n C0.1 C0.2.1 dX8_soon_95 rfl (lv_at hl 2 rfl) ?_
          cases h
          exact x_iret C0 hW dX8_soon_96
set_option maxHeartbeats 4000000 in
set_option maxRecDepth 100000 in
theorem wX8_soon (C0 : Cx p s m args meth c cX8_soon RX8 3 (some .int) wsX8_soon) (G0 : Gx G s) (hJ : gJ 80 G) (z : Nat) (σ : ST) (v1 : Int32) (res : (Int32 × ST)) (h : fX8_soon z σ v1 = some res)  {H : Heap} {locs : List Loc} {ls : Array Slot} (hW : Wd cellX 80 G s.heap σ H locs) (hl : lv_has ls 3 [(0, .ref (aD G 0)), (1, .int v1)]) : W p l e rX8_soon s m args below meth c H locs 0 0 (MQ below (XQi cellX 80 G res.1 res.2) args s 0 0 (gA 80 G)) (F0 m 0 ls []) := by
  unfold fX8_soon at h
  refine lv_iload_n C0.1 C0.2.1 dX8_soon_0 rfl (lv_at hl 1 rfl) ?_
  refine lv_iconst (v := (1 : Int32)) C0.1 C0.2.1 dX8_soon_1 (by decide) ?_
  refine lv_bipush (v := (10 : Int32)) C0.1 C0.2.1 dX8_soon_2 (by decide) ?_
  obtain ⟨u21, hu21, h⟩ := bd_some h
  refine x_ki (r := u21) (x_runS (As := [.int v1, .int (1 : Int32), .int (10 : Int32)]) (rest := []) C0 G0 hW (cX8_isWithin_met l hJ z σ v1 (1 : Int32) (10 : Int32) _ hu21) (va_cwS 3 C0.2.2.2.1 gX8_soon_X8_isWithin rfl rfl rfl hdsX8_isWithin ⟨Nat.le_of_ble_eq_true rfl, Nat.le_of_ble_eq_true rfl⟩) rfl rfl hl (Nat.le_of_ble_eq_true rfl) dX8_soon_4 ⟨Nat.le_refl 0, Nat.le_refl 0⟩) hW (fun H locs hW => ?_)
  refine lv_if_ne (tgt := 13) C0.1 C0.2.1 dX8_soon_7 (by decide) (fun c22 => ?_) (fun c22 => ?_)
  · rw [if_neg c22] at h
    refine lv_aload_n C0.1 C0.2.1 dX8_soon_13 rfl (lv_at hl 0 rfl) ?_
    refine x_get (v := .ref (aD G 5)) C0 G0 hW (cX_X8 rfl) (by decide) rfl 2 (by decide) inX8_soon_X8 lkX8_soon_26 rfl dX8_soon_14 ?_
    obtain ⟨u23, hu23, h⟩ := bd_some h
    refine x_kl (r := u23) (x_runV (As := []) (rest := []) C0 G0 hW (cX4_together_met l hJ z σ 5 _ hu23) (cwV 0 C0.2.2.2.1 gX8_soon_X4_together rfl rfl rfl hdvX4_together ⟨Nat.le_of_ble_eq_true rfl, Nat.le_of_ble_eq_true rfl⟩) (cX_X4 rfl) (by decide) rfl rfl rfl hl (Nat.le_of_ble_eq_true rfl) dX8_soon_17 ⟨Nat.le_refl 0, Nat.le_refl 0⟩) hW (fun H locs hW => ?_)
    refine lv_lconst (v := (0 : Int64)) C0.1 C0.2.1 dX8_soon_20 (by decide) ?_
    refine x_lc_gt (tgt := 28) C0 dX8_soon_21 dX8_soon_22 (by decide) (fun c24 => ?_) (fun c24 => ?_)
    · rw [if_pos c24] at h
      refine lv_iconst (v := (1 : Int32)) C0.1 C0.2.1 dX8_soon_28 (by decide) ?_
      refine lv_istore_n (lv' := [(2, .int (1 : Int32)), (0, .ref (aD G 0)), (1, .int v1)]) C0.1 C0.2.1 dX8_soon_29 rfl hl (by decide) rfl (fun ls hl => ?_)
      exact wX8_soon_30 C0 G0 hJ z v1 z σ (1 : Int32) _ h hW (lv_sub hl [1, 2, 0] rfl)
    · rw [if_neg c24] at h
      refine lv_bipush (v := (-3 : Int32)) C0.1 C0.2.1 dX8_soon_25 (by decide) ?_
      cases h
      exact x_iret C0 hW dX8_soon_27
  · rw [if_pos c22] at h
    refine lv_bipush (v := (-2 : Int32)) C0.1 C0.2.1 dX8_soon_10 (by decide) ?_
    cases h
    exact x_iret C0 hW dX8_soon_12
theorem cX8_soon_met (l : Launch) {G : GT} (hJ : gJ 80 G) (z : Nat) (σ : ST) (v1 : Int32) (res : (Int32 × ST)) (h : fX8_soon z σ v1 = some res) : Met l yX8_soon wsX8_soon rX8_soon (XPc cellX 80 G σ [.ref (aD G 0), .int v1]) (XQi cellX 80 G res.1 res.2) 0 0 (gA 80 G) :=
  x_met (ret := (some .int)) (maxL := 3) (by decide) rfl (Nat.le_of_ble_eq_true rfl) (fun p e s m args below meth c H locs ls C0 G0 hW hl => wX8_soon C0 G0 hJ z σ v1 res h hW hl)
end
/-! X8_trials -/
def rX8_trials : Room := { frames := 4, cells := 0, slots := 0, locals := 94 }
theorem hdvX8_trials : yX8_trials.cls = RX8 ∧ yX8_trials.cls ≠ "java/lang/invoke/MethodHandle" ∧ yX8_trials.cls ≠ "java/lang/invoke/VarHandle" ∧ (parseMethodDescriptor yX8_trials.desc).map (fun d => d.parameters.length) = some 3 := by decide +kernel
theorem inX8_trials_X8 : ∀ w ∈ u_ws RX8 TX8 10, w ∈ wsX8_trials := by decide +kernel
theorem lkX8_trials_19 : Cond.fieldLink RX8 19 (TX8 1).1 (TX8 1).2.1 (TX8 1).2.2.1 ∈ wsX8_trials := by decide +kernel
def fX8_trials_66 (z : Nat) (r48 : ST → Int32 → Int32 → Option (Int32 × ST)) (σ : ST) (v1 : Int32) (v2 : Int32) (v3 : Int32) (v4 : Int32) (v5 : Int32) : Option (Int32 × ST) := r48 σ v4 (v5 + 1)
def fX8_trials_48 (z : Nat) (v1 : Int32) (v2 : Int32) (v3 : Int32) : Nat → ST → Int32 → Int32 → Option (Int32 × ST)
  | 0 => fun _ _ _ => none
  | n + 1 => fun σ v4 v5 => (if v1 ≤ v5 then some (v4, σ) else bd (fX8_isFound z σ v2 v3) (fun u30 => (if u30.1 = 0 then fX8_trials_66 z (fX8_trials_48 z v1 v2 v3 n) u30.2 v1 v2 v3 v4 v5 else fX8_trials_66 z (fX8_trials_48 z v1 v2 v3 n) u30.2 v1 v2 v3 (v4 + 1) v5)))
def fX8_trials_27 (z : Nat) (σ : ST) : Option (Int32 × ST) := some ((-2 : Int32), σ)
def fX8_trials (z : Nat) (σ : ST) (v1 : Int32) (v2 : Int32) (v3 : Int32) : Option (Int32 × ST) := bd (fX8_isWithin z v1 (1 : Int32) (30 : Int32)) (fun u21 => (if u21 = 0 then fX8_trials_27 z σ else bd (fX8_isWithin z v2 (1 : Int32) (4 : Int32)) (fun u23 => (if u23 = 0 then fX8_trials_27 z σ else bd (fX8_isRow z v2 v3) (fun u25 => (if u25 = 0 then fX8_trials_27 z σ else bd (fX7_allParts z σ) (fun u27 => (if 0 < u27 then fX8_trials_48 z v1 v2 v3 z σ (0 : Int32) (0 : Int32) else some ((0 : Int32), σ)))))))))
section
variable {p : Program} {l : Launch} {e : Env} {s : State} {m : MethodId} {args : Array Value} {below : List Frame} {meth : Method} {c : Code} {G : GT}
set_option maxHeartbeats 4000000 in
set_option maxRecDepth 100000 in
theorem wX8_trials_66 (C0 : Cx p s m args meth c cX8_trials RX8 6 (some .int) wsX8_trials) (G0 : Gx G s) (hJ : gJ 80 G) (z : Nat) (r48 : ST → Int32 → Int32 → Option (Int32 × ST)) (σ : ST) (v1 : Int32) (v2 : Int32) (v3 : Int32) (v4 : Int32) (v5 : Int32) (res : (Int32 × ST)) (h : fX8_trials_66 z r48 σ v1 v2 v3 v4 v5 = some res) (hr48 : ∀ (σ : ST) (v4 : Int32) (v5 : Int32), r48 σ v4 v5 = some res → ∀ (H : Heap) (locs : List Loc) (ls : Array Slot), Wd cellX 80 G s.heap σ H locs → lv_has ls 6 [(0, .ref (aD G 0)), (1, .int v1), (2, .int v2), (3, .int v3), (4, .int v4), (5, .int v5)] → W p l e rX8_trials s m args below meth c H locs 0 0 (MQ below (XQi cellX 80 G res.1 res.2) args s 0 0 (gA 80 G)) (F0 m 48 ls [])) {H : Heap} {locs : List Loc} {ls : Array Slot} (hW : Wd cellX 80 G s.heap σ H locs) (hl : lv_has ls 6 [(0, .ref (aD G 0)), (1, .int v1), (2, .int v2), (3, .int v3), (4, .int v4), (5, .int v5)]) : W p l e rX8_trials s m args below meth c H locs 0 0 (MQ below (XQi cellX 80 G res.1 res.2) args s 0 0 (gA 80 G)) (F0 m 66 ls []) := by
  unfold fX8_trials_66 at h
  refine lv_iinc (v := (v5 + 1)) (lv' := [(5, .int (v5 + 1)), (0, .ref (aD G 0)), (1, .int v1), (2, .int v2), (3, .int v3), (4, .int v4)]) C0.1 C0.2.1 dX8_trials_66 hl (k := 5) rfl rfl (by decide) rfl (fun ls hl => ?_)
  refine lv_goto (tgt := 48) C0.1 C0.2.1 dX8_trials_69 (by decide) ?_
  exact hr48 σ v4 (v5 + 1) h _ _ _ hW (lv_sub hl [1, 2, 3, 4, 5, 0] rfl)
set_option maxHeartbeats 4000000 in
set_option maxRecDepth 100000 in
theorem wX8_trials_48 (C0 : Cx p s m args meth c cX8_trials RX8 6 (some .int) wsX8_trials) (G0 : Gx G s) (hJ : gJ 80 G) (z : Nat) (v1 : Int32) (v2 : Int32) (v3 : Int32) (n : Nat) (σ : ST) (v4 : Int32) (v5 : Int32) (res : (Int32 × ST)) (h : fX8_trials_48 z v1 v2 v3 n σ v4 v5 = some res)  {H : Heap} {locs : List Loc} {ls : Array Slot} (hW : Wd cellX 80 G s.heap σ H locs) (hl : lv_has ls 6 [(0, .ref (aD G 0)), (1, .int v1), (2, .int v2), (3, .int v3), (4, .int v4), (5, .int v5)]) : W p l e rX8_trials s m args below meth c H locs 0 0 (MQ below (XQi cellX 80 G res.1 res.2) args s 0 0 (gA 80 G)) (F0 m 48 ls []) := by
  induction n generalizing σ v4 v5 H locs ls with
  | zero => cases h
  | succ n ih =>
    have hr48 : ∀ (σ : ST) (v4 : Int32) (v5 : Int32), fX8_trials_48 z v1 v2 v3 n σ v4 v5 = some res → ∀ (H : Heap) (locs : List Loc) (ls : Array Slot), Wd cellX 80 G s.heap σ H locs → lv_has ls 6 [(0, .ref (aD G 0)), (1, .int v1), (2, .int v2), (3, .int v3), (4, .int v4), (5, .int v5)] → W p l e rX8_trials s m args below meth c H locs 0 0 (MQ below (XQi cellX 80 G res.1 res.2) args s 0 0 (gA 80 G)) (F0 m 48 ls []) := fun σ v4 v5 h H locs ls hW hl => ih σ v4 v5 h hW hl
    clear ih
    unfold fX8_trials_48 at h
    refine lv_iload C0.1 C0.2.1 dX8_trials_48 (lv_at hl 5 rfl) ?_
    refine lv_iload_n C0.1 C0.2.1 dX8_trials_50 rfl (lv_at hl 1 rfl) ?_
    refine lv_icmp_ge (tgt := 72) C0.1 C0.2.1 dX8_trials_51 (by decide) (fun c29 => ?_) (fun c29 => ?_)
    · rw [if_pos c29] at h
      refine lv_iload C0.1 C0.2.1 dX8_trials_72 (lv_at hl 4 rfl) ?_
      cases h
      exact x_iret C0 hW dX8_trials_74
    · rw [if_neg c29] at h
      refine lv_aload_n C0.1 C0.2.1 dX8_trials_54 rfl (lv_at hl 0 rfl) ?_
      refine lv_iload_n C0.1 C0.2.1 dX8_trials_55 rfl (lv_at hl 2 rfl) ?_
      refine lv_iload_n C0.1 C0.2.1 dX8_trials_56 rfl (lv_at hl 3 rfl) ?_
      obtain ⟨u30, hu30, h⟩ := bd_some h
      refine x_ki (r := u30.1) (x_runV (As := [.int v2, .int v3]) (rest := []) C0 G0 hW (cX8_isFound_met l hJ z σ v2 v3 _ hu30) (cwV 2 C0.2.2.2.1 gX8_trials_X8_isFound rfl rfl rfl hdvX8_isFound ⟨Nat.le_of_ble_eq_true rfl, Nat.le_of_ble_eq_true rfl⟩) (cX_X8 rfl) (by decide) rfl rfl rfl hl (Nat.le_of_ble_eq_true rfl) dX8_trials_57 ⟨Nat.le_refl 0, Nat.le_refl 0⟩) hW (fun H locs hW => ?_)
      refine lv_if_eq (tgt := 66) C0.1 C0.2.1 dX8_trials_60 (by decide) (fun c31 => ?_) (fun c31 => ?_)
      · rw [if_pos c31] at h
        exact wX8_trials_66 C0 G0 hJ z (fX8_trials_48 z v1 v2 v3 n) u30.2 v1 v2 v3 v4 v5 _ h (by exact hr48) hW (lv_sub hl [0, 1, 2, 3, 4, 5] rfl)
      · rw [if_neg c31] at h
        refine lv_iinc (v := (v4 + 1)) (lv' := [(4, .int (v4 + 1)), (0, .ref (aD G 0)), (1, .int v1), (2, .int v2), (3, .int v3), (5, .int v5)]) C0.1 C0.2.1 dX8_trials_63 hl (k := 4) rfl rfl (by decide) rfl (fun ls hl => ?_)
        exact wX8_trials_66 C0 G0 hJ z (fX8_trials_48 z v1 v2 v3 n) u30.2 v1 v2 v3 (v4 + 1) v5 _ h (by exact hr48) hW (lv_sub hl [1, 2, 3, 4, 0, 5] rfl)
set_option maxHeartbeats 4000000 in
set_option maxRecDepth 100000 in
theorem wX8_trials_27 (C0 : Cx p s m args meth c cX8_trials RX8 6 (some .int) wsX8_trials) (G0 : Gx G s) (hJ : gJ 80 G) (z : Nat) (σ : ST) (res : (Int32 × ST)) (h : fX8_trials_27 z σ = some res)  {H : Heap} {locs : List Loc} {ls : Array Slot} (hW : Wd cellX 80 G s.heap σ H locs) (hl : lv_has ls 6 []) : W p l e rX8_trials s m args below meth c H locs 0 0 (MQ below (XQi cellX 80 G res.1 res.2) args s 0 0 (gA 80 G)) (F0 m 27 ls []) := by
  unfold fX8_trials_27 at h
  refine lv_bipush (v := (-2 : Int32)) C0.1 C0.2.1 dX8_trials_27 (by decide) ?_
  cases h
  exact x_iret C0 hW dX8_trials_29
set_option maxHeartbeats 4000000 in
set_option maxRecDepth 100000 in
theorem wX8_trials (C0 : Cx p s m args meth c cX8_trials RX8 6 (some .int) wsX8_trials) (G0 : Gx G s) (hJ : gJ 80 G) (z : Nat) (σ : ST) (v1 : Int32) (v2 : Int32) (v3 : Int32) (res : (Int32 × ST)) (h : fX8_trials z σ v1 v2 v3 = some res)  {H : Heap} {locs : List Loc} {ls : Array Slot} (hW : Wd cellX 80 G s.heap σ H locs) (hl : lv_has ls 6 [(0, .ref (aD G 0)), (1, .int v1), (2, .int v2), (3, .int v3)]) : W p l e rX8_trials s m args below meth c H locs 0 0 (MQ below (XQi cellX 80 G res.1 res.2) args s 0 0 (gA 80 G)) (F0 m 0 ls []) := by
  unfold fX8_trials at h
  refine lv_iload_n C0.1 C0.2.1 dX8_trials_0 rfl (lv_at hl 1 rfl) ?_
  refine lv_iconst (v := (1 : Int32)) C0.1 C0.2.1 dX8_trials_1 (by decide) ?_
  refine lv_bipush (v := (30 : Int32)) C0.1 C0.2.1 dX8_trials_2 (by decide) ?_
  obtain ⟨u21, hu21, h⟩ := bd_some h
  refine x_ki (r := u21) (x_runS (As := [.int v1, .int (1 : Int32), .int (30 : Int32)]) (rest := []) C0 G0 hW (cX8_isWithin_met l hJ z σ v1 (1 : Int32) (30 : Int32) _ hu21) (va_cwS 3 C0.2.2.2.1 gX8_trials_X8_isWithin rfl rfl rfl hdsX8_isWithin ⟨Nat.le_of_ble_eq_true rfl, Nat.le_of_ble_eq_true rfl⟩) rfl rfl hl (Nat.le_of_ble_eq_true rfl) dX8_trials_4 ⟨Nat.le_refl 0, Nat.le_refl 0⟩) hW (fun H locs hW => ?_)
  refine lv_if_eq (tgt := 27) C0.1 C0.2.1 dX8_trials_7 (by decide) (fun c22 => ?_) (fun c22 => ?_)
  · rw [if_pos c22] at h
    exact wX8_trials_27 C0 G0 hJ z σ _ h hW (lv_sub hl [] rfl)
  · rw [if_neg c22] at h
    refine lv_iload_n C0.1 C0.2.1 dX8_trials_10 rfl (lv_at hl 2 rfl) ?_
    refine lv_iconst (v := (1 : Int32)) C0.1 C0.2.1 dX8_trials_11 (by decide) ?_
    refine lv_iconst (v := (4 : Int32)) C0.1 C0.2.1 dX8_trials_12 (by decide) ?_
    obtain ⟨u23, hu23, h⟩ := bd_some h
    refine x_ki (r := u23) (x_runS (As := [.int v2, .int (1 : Int32), .int (4 : Int32)]) (rest := []) C0 G0 hW (cX8_isWithin_met l hJ z σ v2 (1 : Int32) (4 : Int32) _ hu23) (va_cwS 3 C0.2.2.2.1 gX8_trials_X8_isWithin rfl rfl rfl hdsX8_isWithin ⟨Nat.le_of_ble_eq_true rfl, Nat.le_of_ble_eq_true rfl⟩) rfl rfl hl (Nat.le_of_ble_eq_true rfl) dX8_trials_13 ⟨Nat.le_refl 0, Nat.le_refl 0⟩) hW (fun H locs hW => ?_)
    refine lv_if_eq (tgt := 27) C0.1 C0.2.1 dX8_trials_16 (by decide) (fun c24 => ?_) (fun c24 => ?_)
    · rw [if_pos c24] at h
      exact wX8_trials_27 C0 G0 hJ z σ _ h hW (lv_sub hl [] rfl)
    · rw [if_neg c24] at h
      refine lv_iload_n C0.1 C0.2.1 dX8_trials_19 rfl (lv_at hl 2 rfl) ?_
      refine lv_iload_n C0.1 C0.2.1 dX8_trials_20 rfl (lv_at hl 3 rfl) ?_
      obtain ⟨u25, hu25, h⟩ := bd_some h
      refine x_ki (r := u25) (x_runS (As := [.int v2, .int v3]) (rest := []) C0 G0 hW (cX8_isRow_met l hJ z σ v2 v3 _ hu25) (va_cwS 2 C0.2.2.2.1 gX8_trials_X8_isRow rfl rfl rfl hdsX8_isRow ⟨Nat.le_of_ble_eq_true rfl, Nat.le_of_ble_eq_true rfl⟩) rfl rfl hl (Nat.le_of_ble_eq_true rfl) dX8_trials_21 ⟨Nat.le_refl 0, Nat.le_refl 0⟩) hW (fun H locs hW => ?_)
      refine lv_if_ne (tgt := 30) C0.1 C0.2.1 dX8_trials_24 (by decide) (fun c26 => ?_) (fun c26 => ?_)
      · rw [if_neg c26] at h
        refine lv_aload_n C0.1 C0.2.1 dX8_trials_30 rfl (lv_at hl 0 rfl) ?_
        refine x_get (v := .ref (aD G 3)) C0 G0 hW (cX_X8 rfl) (by decide) rfl 1 (by decide) inX8_trials_X8 lkX8_trials_19 rfl dX8_trials_31 ?_
        obtain ⟨u27, hu27, h⟩ := bd_some h
        refine x_ki (r := u27) (x_runV (As := []) (rest := []) C0 G0 hW (cX7_allParts_met l hJ z σ _ hu27) (cwV 0 C0.2.2.2.1 gX8_trials_X7_allParts rfl rfl rfl hdvX7_allParts ⟨Nat.le_of_ble_eq_true rfl, Nat.le_of_ble_eq_true rfl⟩) (cX_X7 rfl) (by decide) rfl rfl rfl hl (Nat.le_of_ble_eq_true rfl) dX8_trials_34 ⟨Nat.le_refl 0, Nat.le_refl 0⟩) hW (fun H locs hW => ?_)
        refine lv_if_gt (tgt := 42) C0.1 C0.2.1 dX8_trials_37 (by decide) (fun c28 => ?_) (fun c28 => ?_)
        · rw [if_pos c28] at h
          refine lv_iconst (v := (0 : Int32)) C0.1 C0.2.1 dX8_trials_42 (by decide) ?_
          refine lv_istore (lv' := [(4, .int (0 : Int32)), (0, .ref (aD G 0)), (1, .int v1), (2, .int v2), (3, .int v3)]) C0.1 C0.2.1 dX8_trials_43 hl (by decide) rfl (fun ls hl => ?_)
          refine lv_iconst (v := (0 : Int32)) C0.1 C0.2.1 dX8_trials_45 (by decide) ?_
          refine lv_istore (lv' := [(5, .int (0 : Int32)), (4, .int (0 : Int32)), (0, .ref (aD G 0)), (1, .int v1), (2, .int v2), (3, .int v3)]) C0.1 C0.2.1 dX8_trials_46 hl (by decide) rfl (fun ls hl => ?_)
          exact wX8_trials_48 C0 G0 hJ z v1 v2 v3 z σ (0 : Int32) (0 : Int32) _ h hW (lv_sub hl [2, 3, 4, 5, 1, 0] rfl)
        · rw [if_neg c28] at h
          refine lv_iconst (v := (0 : Int32)) C0.1 C0.2.1 dX8_trials_40 (by decide) ?_
          cases h
          exact x_iret C0 hW dX8_trials_41
      · rw [if_pos c26] at h
        exact wX8_trials_27 C0 G0 hJ z σ _ h hW (lv_sub hl [] rfl)
theorem cX8_trials_met (l : Launch) {G : GT} (hJ : gJ 80 G) (z : Nat) (σ : ST) (v1 : Int32) (v2 : Int32) (v3 : Int32) (res : (Int32 × ST)) (h : fX8_trials z σ v1 v2 v3 = some res) : Met l yX8_trials wsX8_trials rX8_trials (XPc cellX 80 G σ [.ref (aD G 0), .int v1, .int v2, .int v3]) (XQi cellX 80 G res.1 res.2) 0 0 (gA 80 G) :=
  x_met (ret := (some .int)) (maxL := 6) (by decide) rfl (Nat.le_of_ble_eq_true rfl) (fun p e s m args below meth c H locs ls C0 G0 hW hl => wX8_trials C0 G0 hJ z σ v1 v2 v3 res h hW hl)
end
/-! X8_trust -/
def rX8_trust : Room := { frames := 3, cells := 0, slots := 0, locals := 66 }
theorem hdvX8_trust : yX8_trust.cls = RX8 ∧ yX8_trust.cls ≠ "java/lang/invoke/MethodHandle" ∧ yX8_trust.cls ≠ "java/lang/invoke/VarHandle" ∧ (parseMethodDescriptor yX8_trust.desc).map (fun d => d.parameters.length) = some 4 := by decide +kernel
theorem inX8_trust_X8 : ∀ w ∈ u_ws RX8 TX8 10, w ∈ wsX8_trust := by decide +kernel
theorem lkX8_trust_19 : Cond.fieldLink RX8 19 (TX8 1).1 (TX8 1).2.1 (TX8 1).2.2.1 ∈ wsX8_trust := by decide +kernel
theorem lkX8_trust_30 : Cond.fieldLink RX8 30 (TX8 3).1 (TX8 3).2.1 (TX8 3).2.2.1 ∈ wsX8_trust := by decide +kernel
theorem kcX8_trust_136 : Cond.constantLong RX8 136 (-3 : Int64) ∈ wsX8_trust := by decide +kernel
theorem kcX8_trust_130 : Cond.constantLong RX8 130 (-2 : Int64) ∈ wsX8_trust := by decide +kernel
def fX8_trust_54 (z : Nat) (σ : ST) (v2 : Int32) (v4 : Int32) : Nat → Int64 → Int32 → Option (Int64 × ST)
  | 0 => fun _ _ => none
  | n + 1 => fun v5 v7 => (if v2 < v7 then bd (fX4_together z σ 9) (fun u28 => bd (fX3_part z v5 u28 v4) (fun u29 => some (u29, σ))) else bd (fX4_of z σ 9 v7) (fun u30 => (fX8_trust_54 z σ v2 v4 n) (v5 + u30) (v7 + 1)))
def fX8_trust (z : Nat) (σ : ST) (v1 : Int32) (v2 : Int32) (v3 : Int32) (v4 : Int32) : Option (Int64 × ST) := bd (fX8_isSaying z v1 v2 v3) (fun u21 => (if u21 = 0 then some ((-2 : Int64), σ) else bd (fX7_allParts z σ) (fun u23 => (if 0 < u23 then bd (fX4_begin z σ 9) (fun u25 => bd (fX4_believe z u25 9 v1 v2 v3) (fun u26 => fX8_trust_54 z u26 v2 v4 z (0 : Int64) v1)) else some ((-3 : Int64), σ)))))
section
variable {p : Program} {l : Launch} {e : Env} {s : State} {m : MethodId} {args : Array Value} {below : List Frame} {meth : Method} {c : Code} {G : GT}
set_option maxHeartbeats 4000000 in
set_option maxRecDepth 100000 in
theorem wX8_trust_54 (C0 : Cx p s m args meth c cX8_trust RX8 8 (some .long) wsX8_trust) (G0 : Gx G s) (hJ : gJ 80 G) (z : Nat) (σ : ST) (v2 : Int32) (v4 : Int32) (n : Nat) (v5 : Int64) (v7 : Int32) (res : (Int64 × ST)) (h : fX8_trust_54 z σ v2 v4 n v5 v7 = some res)  {H : Heap} {locs : List Loc} {ls : Array Slot} (hW : Wd cellX 80 G s.heap σ H locs) (hl : lv_has ls 8 [(0, .ref (aD G 0)), (2, .int v2), (4, .int v4), (5, .long v5), (7, .int v7)]) : W p l e rX8_trust s m args below meth c H locs 0 0 (MQ below (XQl cellX 80 G res.1 res.2) args s 0 0 (gA 80 G)) (F0 m 54 ls []) := by
  induction n generalizing v5 v7 H locs ls with
  | zero => cases h
  | succ n ih =>
    have hr54 : ∀ (v5 : Int64) (v7 : Int32), fX8_trust_54 z σ v2 v4 n v5 v7 = some res → ∀ (H : Heap) (locs : List Loc) (ls : Array Slot), Wd cellX 80 G s.heap σ H locs → lv_has ls 8 [(0, .ref (aD G 0)), (2, .int v2), (4, .int v4), (5, .long v5), (7, .int v7)] → W p l e rX8_trust s m args below meth c H locs 0 0 (MQ below (XQl cellX 80 G res.1 res.2) args s 0 0 (gA 80 G)) (F0 m 54 ls []) := fun v5 v7 h H locs ls hW hl => ih v5 v7 h hW hl
    clear ih
    unfold fX8_trust_54 at h
    refine lv_iload C0.1 C0.2.1 dX8_trust_54 (lv_at hl 4 rfl) ?_
    refine lv_iload_n C0.1 C0.2.1 dX8_trust_56 rfl (lv_at hl 1 rfl) ?_
    refine lv_icmp_gt (tgt := 80) C0.1 C0.2.1 dX8_trust_57 (by decide) (fun c27 => ?_) (fun c27 => ?_)
    · rw [if_pos c27] at h
      refine lv_lload C0.1 C0.2.1 dX8_trust_80 (lv_at hl 3 rfl) ?_
      refine lv_aload_n C0.1 C0.2.1 dX8_trust_82 rfl (lv_at hl 0 rfl) ?_
      refine x_get (v := .ref (aD G 9)) C0 G0 hW (cX_X8 rfl) (by decide) rfl 3 (by decide) inX8_trust_X8 lkX8_trust_30 rfl dX8_trust_83 ?_
      obtain ⟨u28, hu28, h⟩ := bd_some h
      refine x_kl (r := u28) (x_runV (As := []) (rest := [.long v5]) C0 G0 hW (cX4_together_met l hJ z σ 9 _ hu28) (cwV 0 C0.2.2.2.1 gX8_trust_X4_together rfl rfl rfl hdvX4_together ⟨Nat.le_of_ble_eq_true rfl, Nat.le_of_ble_eq_true rfl⟩) (cX_X4 rfl) (by decide) rfl rfl rfl hl (Nat.le_of_ble_eq_true rfl) dX8_trust_86 ⟨Nat.le_refl 0, Nat.le_refl 0⟩) hW (fun H locs hW => ?_)
      refine lv_iload C0.1 C0.2.1 dX8_trust_89 (lv_at hl 2 rfl) ?_
      obtain ⟨u29, hu29, h⟩ := bd_some h
      refine x_kl (r := u29) (x_runS (As := [.long v5, .long u28, .int v4]) (rest := []) C0 G0 hW (cX3_part_met l hJ z σ v5 u28 v4 _ hu29) (va_cwS 3 C0.2.2.2.1 gX8_trust_X3_part rfl rfl rfl hdsX3_part ⟨Nat.le_of_ble_eq_true rfl, Nat.le_of_ble_eq_true rfl⟩) rfl rfl hl (Nat.le_of_ble_eq_true rfl) dX8_trust_91 ⟨Nat.le_refl 0, Nat.le_refl 0⟩) hW (fun H locs hW => ?_)
      cases h
      exact x_lret C0 hW dX8_trust_94
    · rw [if_neg c27] at h
      refine lv_lload C0.1 C0.2.1 dX8_trust_60 (lv_at hl 3 rfl) ?_
      refine lv_aload_n C0.1 C0.2.1 dX8_trust_62 rfl (lv_at hl 0 rfl) ?_
      refine x_get (v := .ref (aD G 9)) C0 G0 hW (cX_X8 rfl) (by decide) rfl 3 (by decide) inX8_trust_X8 lkX8_trust_30 rfl dX8_trust_63 ?_
      refine lv_iload C0.1 C0.2.1 dX8_trust_66 (lv_at hl 4 rfl) ?_
      obtain ⟨u30, hu30, h⟩ := bd_some h
      refine x_kl (r := u30) (x_runV (As := [.int v7]) (rest := [.long v5]) C0 G0 hW (cX4_of_met l hJ z σ 9 v7 _ hu30) (cwV 1 C0.2.2.2.1 gX8_trust_X4_of rfl rfl rfl hdvX4_of ⟨Nat.le_of_ble_eq_true rfl, Nat.le_of_ble_eq_true rfl⟩) (cX_X4 rfl) (by decide) rfl rfl rfl hl (Nat.le_of_ble_eq_true rfl) dX8_trust_68 ⟨Nat.le_refl 0, Nat.le_refl 0⟩) hW (fun H locs hW => ?_)
      refine lv_ladd C0.1 C0.2.1 dX8_trust_71 ?_
      refine lv_lstore (lv' := [(5, .long (v5 + u30)), (0, .ref (aD G 0)), (2, .int v2), (4, .int v4), (7, .int v7)]) C0.1 C0.2.1 dX8_trust_72 hl (by decide) rfl (fun ls hl => ?_)
      refine lv_iinc (v := (v7 + 1)) (lv' := [(7, .int (v7 + 1)), (5, .long (v5 + u30)), (0, .ref (aD G 0)), (2, .int v2), (4, .int v4)]) C0.1 C0.2.1 dX8_trust_74 hl (k := 4) rfl rfl (by decide) rfl (fun ls hl => ?_)
      refine lv_goto (tgt := 54) C0.1 C0.2.1 dX8_trust_77 (by decide) ?_
      exact hr54 (v5 + u30) (v7 + 1) h _ _ _ hW (lv_sub hl [2, 3, 4, 1, 0] rfl)
set_option maxHeartbeats 4000000 in
set_option maxRecDepth 100000 in
theorem wX8_trust (C0 : Cx p s m args meth c cX8_trust RX8 8 (some .long) wsX8_trust) (G0 : Gx G s) (hJ : gJ 80 G) (z : Nat) (σ : ST) (v1 : Int32) (v2 : Int32) (v3 : Int32) (v4 : Int32) (res : (Int64 × ST)) (h : fX8_trust z σ v1 v2 v3 v4 = some res)  {H : Heap} {locs : List Loc} {ls : Array Slot} (hW : Wd cellX 80 G s.heap σ H locs) (hl : lv_has ls 8 [(0, .ref (aD G 0)), (1, .int v1), (2, .int v2), (3, .int v3), (4, .int v4)]) : W p l e rX8_trust s m args below meth c H locs 0 0 (MQ below (XQl cellX 80 G res.1 res.2) args s 0 0 (gA 80 G)) (F0 m 0 ls []) := by
  unfold fX8_trust at h
  refine lv_iload_n C0.1 C0.2.1 dX8_trust_0 rfl (lv_at hl 1 rfl) ?_
  refine lv_iload_n C0.1 C0.2.1 dX8_trust_1 rfl (lv_at hl 2 rfl) ?_
  refine lv_iload_n C0.1 C0.2.1 dX8_trust_2 rfl (lv_at hl 3 rfl) ?_
  obtain ⟨u21, hu21, h⟩ := bd_some h
  refine x_ki (r := u21) (x_runS (As := [.int v1, .int v2, .int v3]) (rest := []) C0 G0 hW (cX8_isSaying_met l hJ z σ v1 v2 v3 _ hu21) (va_cwS 3 C0.2.2.2.1 gX8_trust_X8_isSaying rfl rfl rfl hdsX8_isSaying ⟨Nat.le_of_ble_eq_true rfl, Nat.le_of_ble_eq_true rfl⟩) rfl rfl hl (Nat.le_of_ble_eq_true rfl) dX8_trust_3 ⟨Nat.le_refl 0, Nat.le_refl 0⟩) hW (fun H locs hW => ?_)
  refine lv_if_ne (tgt := 13) C0.1 C0.2.1 dX8_trust_6 (by decide) (fun c22 => ?_) (fun c22 => ?_)
  · rw [if_neg c22] at h
    refine lv_aload_n C0.1 C0.2.1 dX8_trust_13 rfl (lv_at hl 0 rfl) ?_
    refine x_get (v := .ref (aD G 3)) C0 G0 hW (cX_X8 rfl) (by decide) rfl 1 (by decide) inX8_trust_X8 lkX8_trust_19 rfl dX8_trust_14 ?_
    obtain ⟨u23, hu23, h⟩ := bd_some h
    refine x_ki (r := u23) (x_runV (As := []) (rest := []) C0 G0 hW (cX7_allParts_met l hJ z σ _ hu23) (cwV 0 C0.2.2.2.1 gX8_trust_X7_allParts rfl rfl rfl hdvX7_allParts ⟨Nat.le_of_ble_eq_true rfl, Nat.le_of_ble_eq_true rfl⟩) (cX_X7 rfl) (by decide) rfl rfl rfl hl (Nat.le_of_ble_eq_true rfl) dX8_trust_17 ⟨Nat.le_refl 0, Nat.le_refl 0⟩) hW (fun H locs hW => ?_)
    refine lv_if_gt (tgt := 27) C0.1 C0.2.1 dX8_trust_20 (by decide) (fun c24 => ?_) (fun c24 => ?_)
    · rw [if_pos c24] at h
      refine lv_aload_n C0.1 C0.2.1 dX8_trust_27 rfl (lv_at hl 0 rfl) ?_
      refine x_get (v := .ref (aD G 9)) C0 G0 hW (cX_X8 rfl) (by decide) rfl 3 (by decide) inX8_trust_X8 lkX8_trust_30 rfl dX8_trust_28 ?_
      refine lv_aload_n C0.1 C0.2.1 dX8_trust_31 rfl (lv_at hl 0 rfl) ?_
      refine x_get (v := .ref (aD G 3)) C0 G0 hW (cX_X8 rfl) (by decide) rfl 1 (by decide) inX8_trust_X8 lkX8_trust_19 rfl dX8_trust_32 ?_
      obtain ⟨u25, hu25, h⟩ := bd_some h
      refine x_kv (x_runV (As := [.ref (aD G 3)]) (rest := []) C0 G0 hW (cX4_begin_met l hJ z σ 9 _ hu25) (cwV 1 C0.2.2.2.1 gX8_trust_X4_begin rfl rfl rfl hdvX4_begin ⟨Nat.le_of_ble_eq_true rfl, Nat.le_of_ble_eq_true rfl⟩) (cX_X4 rfl) (by decide) rfl rfl rfl hl (Nat.le_of_ble_eq_true rfl) dX8_trust_35 ⟨Nat.le_refl 0, Nat.le_refl 0⟩) hW (fun H locs hW => ?_)
      refine lv_aload_n C0.1 C0.2.1 dX8_trust_38 rfl (lv_at hl 0 rfl) ?_
      refine x_get (v := .ref (aD G 9)) C0 G0 hW (cX_X8 rfl) (by decide) rfl 3 (by decide) inX8_trust_X8 lkX8_trust_30 rfl dX8_trust_39 ?_
      refine lv_iload_n C0.1 C0.2.1 dX8_trust_42 rfl (lv_at hl 1 rfl) ?_
      refine lv_iload_n C0.1 C0.2.1 dX8_trust_43 rfl (lv_at hl 2 rfl) ?_
      refine lv_iload_n C0.1 C0.2.1 dX8_trust_44 rfl (lv_at hl 3 rfl) ?_
      obtain ⟨u26, hu26, h⟩ := bd_some h
      refine x_kv (x_runV (As := [.int v1, .int v2, .int v3]) (rest := []) C0 G0 hW (cX4_believe_met l hJ z u25 9 v1 v2 v3 _ hu26) (cwV 3 C0.2.2.2.1 gX8_trust_X4_believe rfl rfl rfl hdvX4_believe ⟨Nat.le_of_ble_eq_true rfl, Nat.le_of_ble_eq_true rfl⟩) (cX_X4 rfl) (by decide) rfl rfl rfl hl (Nat.le_of_ble_eq_true rfl) dX8_trust_45 ⟨Nat.le_refl 0, Nat.le_refl 0⟩) hW (fun H locs hW => ?_)
      refine lv_lconst (v := (0 : Int64)) C0.1 C0.2.1 dX8_trust_48 (by decide) ?_
      refine lv_lstore (lv' := [(5, .long (0 : Int64)), (0, .ref (aD G 0)), (1, .int v1), (2, .int v2), (3, .int v3), (4, .int v4)]) C0.1 C0.2.1 dX8_trust_49 hl (by decide) rfl (fun ls hl => ?_)
      refine lv_iload_n C0.1 C0.2.1 dX8_trust_51 rfl (lv_at hl 2 rfl) ?_
      refine lv_istore (lv' := [(7, .int v1), (5, .long (0 : Int64)), (0, .ref (aD G 0)), (1, .int v1), (2, .int v2), (3, .int v3), (4, .int v4)]) C0.1 C0.2.1 dX8_trust_52 hl (by decide) rfl (fun ls hl => ?_)
      exact wX8_trust_54 C0 G0 hJ z u26 v2 v4 z (0 : Int64) v1 _ h hW (lv_sub hl [2, 4, 6, 1, 0] rfl)
    · rw [if_neg c24] at h
      refine lv_ldc2 (v := (-3 : Int64)) C0.1 C0.2.1 C0.2.2.2.2.1 (C0.2.2.2.1 _ kcX8_trust_136) dX8_trust_23 ?_
      cases h
      exact x_lret C0 hW dX8_trust_26
  · rw [if_pos c22] at h
    refine lv_ldc2 (v := (-2 : Int64)) C0.1 C0.2.1 C0.2.2.2.2.1 (C0.2.2.2.1 _ kcX8_trust_130) dX8_trust_9 ?_
    cases h
    exact x_lret C0 hW dX8_trust_12
theorem cX8_trust_met (l : Launch) {G : GT} (hJ : gJ 80 G) (z : Nat) (σ : ST) (v1 : Int32) (v2 : Int32) (v3 : Int32) (v4 : Int32) (res : (Int64 × ST)) (h : fX8_trust z σ v1 v2 v3 v4 = some res) : Met l yX8_trust wsX8_trust rX8_trust (XPc cellX 80 G σ [.ref (aD G 0), .int v1, .int v2, .int v3, .int v4]) (XQl cellX 80 G res.1 res.2) 0 0 (gA 80 G) :=
  x_met (ret := (some .long)) (maxL := 8) (by decide) rfl (Nat.le_of_ble_eq_true rfl) (fun p e s m args below meth c H locs ls C0 G0 hW hl => wX8_trust C0 G0 hJ z σ v1 v2 v3 v4 res h hW hl)
end
/-! X8_undo -/
def rX8_undo : Room := { frames := 3, cells := 0, slots := 0, locals := 66 }
theorem hdvX8_undo : yX8_undo.cls = RX8 ∧ yX8_undo.cls ≠ "java/lang/invoke/MethodHandle" ∧ yX8_undo.cls ≠ "java/lang/invoke/VarHandle" ∧ (parseMethodDescriptor yX8_undo.desc).map (fun d => d.parameters.length) = some 0 := by decide +kernel
theorem inX8_undo_X8 : ∀ w ∈ u_ws RX8 TX8 10, w ∈ wsX8_undo := by decide +kernel
theorem lkX8_undo_86 : Cond.fieldLink RX8 86 (TX8 9).1 (TX8 9).2.1 (TX8 9).2.2.1 ∈ wsX8_undo := by decide +kernel
theorem lkX8_undo_38 : Cond.fieldLink RX8 38 (TX8 4).1 (TX8 4).2.1 (TX8 4).2.2.1 ∈ wsX8_undo := by decide +kernel
theorem lkX8_undo_26 : Cond.fieldLink RX8 26 (TX8 2).1 (TX8 2).2.1 (TX8 2).2.2.1 ∈ wsX8_undo := by decide +kernel
def fX8_undo (z : Nat) (σ : ST) : Option (Int32 × ST) := (if 0 < (σ.1 0 9) then lt (pI σ 0 9 ((σ.1 0 9) - (1 : Int32))) (fun s22 => bd (fX5_give z s22 13 (s22.1 0 9) 5) (fun u23 => some ((u23.1 0 9), u23))) else some ((-3 : Int32), σ))
section
variable {p : Program} {l : Launch} {e : Env} {s : State} {m : MethodId} {args : Array Value} {below : List Frame} {meth : Method} {c : Code} {G : GT}
set_option maxHeartbeats 4000000 in
set_option maxRecDepth 100000 in
theorem wX8_undo (C0 : Cx p s m args meth c cX8_undo RX8 1 (some .int) wsX8_undo) (G0 : Gx G s) (hJ : gJ 80 G) (z : Nat) (σ : ST) (res : (Int32 × ST)) (h : fX8_undo z σ = some res)  {H : Heap} {locs : List Loc} {ls : Array Slot} (hW : Wd cellX 80 G s.heap σ H locs) (hl : lv_has ls 1 [(0, .ref (aD G 0))]) : W p l e rX8_undo s m args below meth c H locs 0 0 (MQ below (XQi cellX 80 G res.1 res.2) args s 0 0 (gA 80 G)) (F0 m 0 ls []) := by
  unfold fX8_undo at h
  refine lv_aload_n C0.1 C0.2.1 dX8_undo_0 rfl (lv_at hl 0 rfl) ?_
  refine x_get (v := .int (σ.1 0 9)) C0 G0 hW (cX_X8 rfl) (by decide) rfl 9 (by decide) inX8_undo_X8 lkX8_undo_86 rfl dX8_undo_1 ?_
  refine lv_if_gt (tgt := 10) C0.1 C0.2.1 dX8_undo_4 (by decide) (fun c21 => ?_) (fun c21 => ?_)
  · rw [if_pos c21] at h
    refine lv_aload_n C0.1 C0.2.1 dX8_undo_10 rfl (lv_at hl 0 rfl) ?_
    refine lv_dup C0.1 C0.2.1 dX8_undo_11 rfl ?_
    refine x_get (v := .int (σ.1 0 9)) C0 G0 hW (cX_X8 rfl) (by decide) rfl 9 (by decide) inX8_undo_X8 lkX8_undo_86 rfl dX8_undo_12 ?_
    refine lv_iconst (v := (1 : Int32)) C0.1 C0.2.1 dX8_undo_15 (by decide) ?_
    refine lv_isub C0.1 C0.2.1 dX8_undo_16 ?_
    refine x_putI (v := ((σ.1 0 9) - (1 : Int32))) C0 G0 hJ hW (cX_X8 rfl) (by decide) rfl 9 (by decide) inX8_undo_X8 lkX8_undo_86 tyX8 tyX8_ok nmX8 rfl rfl rfl (Nat.le_of_ble_eq_true rfl) (hu_X8_9 rfl) dX8_undo_17 (fun H locs hW => ?_)
    obtain ⟨s22, es22, h⟩ := lt_some h
    rw [es22] at hW
    refine lv_aload_n C0.1 C0.2.1 dX8_undo_20 rfl (lv_at hl 0 rfl) ?_
    refine x_get (v := .ref (aD G 13)) C0 G0 hW (cX_X8 rfl) (by decide) rfl 4 (by decide) inX8_undo_X8 lkX8_undo_38 rfl dX8_undo_21 ?_
    refine lv_aload_n C0.1 C0.2.1 dX8_undo_24 rfl (lv_at hl 0 rfl) ?_
    refine x_get (v := .int (s22.1 0 9)) C0 G0 hW (cX_X8 rfl) (by decide) rfl 9 (by decide) inX8_undo_X8 lkX8_undo_86 rfl dX8_undo_25 ?_
    refine lv_aload_n C0.1 C0.2.1 dX8_undo_28 rfl (lv_at hl 0 rfl) ?_
    refine x_get (v := .ref (aD G 5)) C0 G0 hW (cX_X8 rfl) (by decide) rfl 2 (by decide) inX8_undo_X8 lkX8_undo_26 rfl dX8_undo_29 ?_
    obtain ⟨u23, hu23, h⟩ := bd_some h
    refine x_kv (x_runV (As := [.int (s22.1 0 9), .ref (aD G 5)]) (rest := []) C0 G0 hW (cX5_give_met l hJ z s22 13 (s22.1 0 9) 5 _ hu23) (cwV 2 C0.2.2.2.1 gX8_undo_X5_give rfl rfl rfl hdvX5_give ⟨Nat.le_of_ble_eq_true rfl, Nat.le_of_ble_eq_true rfl⟩) (cX_X5 rfl) (by decide) rfl rfl rfl hl (Nat.le_of_ble_eq_true rfl) dX8_undo_32 ⟨Nat.le_refl 0, Nat.le_refl 0⟩) hW (fun H locs hW => ?_)
    refine lv_aload_n C0.1 C0.2.1 dX8_undo_35 rfl (lv_at hl 0 rfl) ?_
    refine x_get (v := .int (u23.1 0 9)) C0 G0 hW (cX_X8 rfl) (by decide) rfl 9 (by decide) inX8_undo_X8 lkX8_undo_86 rfl dX8_undo_36 ?_
    cases h
    exact x_iret C0 hW dX8_undo_39
  · rw [if_neg c21] at h
    refine lv_bipush (v := (-3 : Int32)) C0.1 C0.2.1 dX8_undo_7 (by decide) ?_
    cases h
    exact x_iret C0 hW dX8_undo_9
theorem cX8_undo_met (l : Launch) {G : GT} (hJ : gJ 80 G) (z : Nat) (σ : ST)  (res : (Int32 × ST)) (h : fX8_undo z σ = some res) : Met l yX8_undo wsX8_undo rX8_undo (XPc cellX 80 G σ [.ref (aD G 0)]) (XQi cellX 80 G res.1 res.2) 0 0 (gA 80 G) :=
  x_met (ret := (some .int)) (maxL := 1) (by decide) rfl (Nat.le_of_ble_eq_true rfl) (fun p e s m args below meth c H locs ls C0 G0 hW hl => wX8_undo C0 G0 hJ z σ res h hW hl)
end
/-! X8_weight -/
def rX8_weight : Room := { frames := 1, cells := 0, slots := 0, locals := 22 }
theorem hdvX8_weight : yX8_weight.cls = RX8 ∧ yX8_weight.cls ≠ "java/lang/invoke/MethodHandle" ∧ yX8_weight.cls ≠ "java/lang/invoke/VarHandle" ∧ (parseMethodDescriptor yX8_weight.desc).map (fun d => d.parameters.length) = some 1 := by decide +kernel
theorem kcX8_weight_130 : Cond.constantLong RX8 130 (-2 : Int64) ∈ wsX8_weight := by decide +kernel
theorem inX8_weight_X8 : ∀ w ∈ u_ws RX8 TX8 10, w ∈ wsX8_weight := by decide +kernel
theorem lkX8_weight_26 : Cond.fieldLink RX8 26 (TX8 2).1 (TX8 2).2.1 (TX8 2).2.2.1 ∈ wsX8_weight := by decide +kernel
def fX8_weight_24 (z : Nat) (σ : ST) (t0 : Int64) : Option Int64 := some t0
def fX8_weight (z : Nat) (σ : ST) (v1 : Int32) : Option Int64 := bd (fX8_isWithin z v1 (0 : Int32) (10 : Int32)) (fun u21 => (if u21 = 0 then fX8_weight_24 z σ (-2 : Int64) else bd (fX4_of z σ 5 v1) (fun u23 => fX8_weight_24 z σ u23)))
section
variable {p : Program} {l : Launch} {e : Env} {s : State} {m : MethodId} {args : Array Value} {below : List Frame} {meth : Method} {c : Code} {G : GT}
set_option maxHeartbeats 4000000 in
set_option maxRecDepth 100000 in
theorem wX8_weight_24 (C0 : Cx p s m args meth c cX8_weight RX8 2 (some .long) wsX8_weight) (G0 : Gx G s) (hJ : gJ 80 G) (z : Nat) (σ : ST) (t0 : Int64) (res : Int64) (h : fX8_weight_24 z σ t0 = some res)  {H : Heap} {locs : List Loc} {ls : Array Slot} (hW : Wd cellX 80 G s.heap σ H locs) (hl : lv_has ls 2 []) : W p l e rX8_weight s m args below meth c H locs 0 0 (MQ below (XQl cellX 80 G res σ) args s 0 0 (gA 80 G)) (F0 m 24 ls [.long t0]) := by
  unfold fX8_weight_24 at h
  cases h
  exact x_lret C0 hW dX8_weight_24
set_option maxHeartbeats 4000000 in
set_option maxRecDepth 100000 in
theorem wX8_weight (C0 : Cx p s m args meth c cX8_weight RX8 2 (some .long) wsX8_weight) (G0 : Gx G s) (hJ : gJ 80 G) (z : Nat) (σ : ST) (v1 : Int32) (res : Int64) (h : fX8_weight z σ v1 = some res)  {H : Heap} {locs : List Loc} {ls : Array Slot} (hW : Wd cellX 80 G s.heap σ H locs) (hl : lv_has ls 2 [(0, .ref (aD G 0)), (1, .int v1)]) : W p l e rX8_weight s m args below meth c H locs 0 0 (MQ below (XQl cellX 80 G res σ) args s 0 0 (gA 80 G)) (F0 m 0 ls []) := by
  unfold fX8_weight at h
  refine lv_iload_n C0.1 C0.2.1 dX8_weight_0 rfl (lv_at hl 1 rfl) ?_
  refine lv_iconst (v := (0 : Int32)) C0.1 C0.2.1 dX8_weight_1 (by decide) ?_
  refine lv_bipush (v := (10 : Int32)) C0.1 C0.2.1 dX8_weight_2 (by decide) ?_
  obtain ⟨u21, hu21, h⟩ := bd_some h
  refine x_ki (r := u21) (x_runS (As := [.int v1, .int (0 : Int32), .int (10 : Int32)]) (rest := []) C0 G0 hW (cX8_isWithin_met l hJ z σ v1 (0 : Int32) (10 : Int32) _ hu21) (va_cwS 3 C0.2.2.2.1 gX8_weight_X8_isWithin rfl rfl rfl hdsX8_isWithin ⟨Nat.le_of_ble_eq_true rfl, Nat.le_of_ble_eq_true rfl⟩) rfl rfl hl (Nat.le_of_ble_eq_true rfl) dX8_weight_4 ⟨Nat.le_refl 0, Nat.le_refl 0⟩) hW (fun H locs hW => ?_)
  refine lv_if_eq (tgt := 21) C0.1 C0.2.1 dX8_weight_7 (by decide) (fun c22 => ?_) (fun c22 => ?_)
  · rw [if_pos c22] at h
    refine lv_ldc2 (v := (-2 : Int64)) C0.1 C0.2.1 C0.2.2.2.2.1 (C0.2.2.2.1 _ kcX8_weight_130) dX8_weight_21 ?_
    exact wX8_weight_24 C0 G0 hJ z σ (-2 : Int64) _ h hW (lv_sub hl [] rfl)
  · rw [if_neg c22] at h
    refine lv_aload_n C0.1 C0.2.1 dX8_weight_10 rfl (lv_at hl 0 rfl) ?_
    refine x_get (v := .ref (aD G 5)) C0 G0 hW (cX_X8 rfl) (by decide) rfl 2 (by decide) inX8_weight_X8 lkX8_weight_26 rfl dX8_weight_11 ?_
    refine lv_iload_n C0.1 C0.2.1 dX8_weight_14 rfl (lv_at hl 1 rfl) ?_
    obtain ⟨u23, hu23, h⟩ := bd_some h
    refine x_kl (r := u23) (x_runV (As := [.int v1]) (rest := []) C0 G0 hW (cX4_of_met l hJ z σ 5 v1 _ hu23) (cwV 1 C0.2.2.2.1 gX8_weight_X4_of rfl rfl rfl hdvX4_of ⟨Nat.le_of_ble_eq_true rfl, Nat.le_of_ble_eq_true rfl⟩) (cX_X4 rfl) (by decide) rfl rfl rfl hl (Nat.le_of_ble_eq_true rfl) dX8_weight_15 ⟨Nat.le_refl 0, Nat.le_refl 0⟩) hW (fun H locs hW => ?_)
    refine lv_goto (tgt := 24) C0.1 C0.2.1 dX8_weight_18 (by decide) ?_
    exact wX8_weight_24 C0 G0 hJ z σ u23 _ h hW (lv_sub hl [] rfl)
theorem cX8_weight_met (l : Launch) {G : GT} (hJ : gJ 80 G) (z : Nat) (σ : ST) (v1 : Int32) (res : Int64) (h : fX8_weight z σ v1 = some res) : Met l yX8_weight wsX8_weight rX8_weight (XPc cellX 80 G σ [.ref (aD G 0), .int v1]) (XQl cellX 80 G res σ) 0 0 (gA 80 G) :=
  x_met (ret := (some .long)) (maxL := 2) (by decide) rfl (Nat.le_of_ble_eq_true rfl) (fun p e s m args below meth c H locs ls C0 G0 hW hl => wX8_weight C0 G0 hJ z σ v1 res h hW hl)
end
/-! X8_wipe -/
def rX8_wipe : Room := { frames := 1, cells := 0, slots := 0, locals := 21 }
theorem hdvX8_wipe : yX8_wipe.cls = RX8 ∧ yX8_wipe.cls ≠ "java/lang/invoke/MethodHandle" ∧ yX8_wipe.cls ≠ "java/lang/invoke/VarHandle" ∧ (parseMethodDescriptor yX8_wipe.desc).map (fun d => d.parameters.length) = some 0 := by decide +kernel
theorem inX8_wipe_X8 : ∀ w ∈ u_ws RX8 TX8 10, w ∈ wsX8_wipe := by decide +kernel
theorem lkX8_wipe_10 : Cond.fieldLink RX8 10 (TX8 0).1 (TX8 0).2.1 (TX8 0).2.2.1 ∈ wsX8_wipe := by decide +kernel
def fX8_wipe (z : Nat) (σ : ST) : Option (Int32 × ST) := bd (fX6_clear z σ) (fun u21 => some (u21.1, u21.2))
section
variable {p : Program} {l : Launch} {e : Env} {s : State} {m : MethodId} {args : Array Value} {below : List Frame} {meth : Method} {c : Code} {G : GT}
set_option maxHeartbeats 4000000 in
set_option maxRecDepth 100000 in
theorem wX8_wipe (C0 : Cx p s m args meth c cX8_wipe RX8 1 (some .int) wsX8_wipe) (G0 : Gx G s) (hJ : gJ 80 G) (z : Nat) (σ : ST) (res : (Int32 × ST)) (h : fX8_wipe z σ = some res)  {H : Heap} {locs : List Loc} {ls : Array Slot} (hW : Wd cellX 80 G s.heap σ H locs) (hl : lv_has ls 1 [(0, .ref (aD G 0))]) : W p l e rX8_wipe s m args below meth c H locs 0 0 (MQ below (XQi cellX 80 G res.1 res.2) args s 0 0 (gA 80 G)) (F0 m 0 ls []) := by
  unfold fX8_wipe at h
  refine lv_aload_n C0.1 C0.2.1 dX8_wipe_0 rfl (lv_at hl 0 rfl) ?_
  refine x_get (v := .ref (aD G 1)) C0 G0 hW (cX_X8 rfl) (by decide) rfl 0 (by decide) inX8_wipe_X8 lkX8_wipe_10 rfl dX8_wipe_1 ?_
  obtain ⟨u21, hu21, h⟩ := bd_some h
  refine x_ki (r := u21.1) (x_runV (As := []) (rest := []) C0 G0 hW (cX6_clear_met l hJ z σ _ hu21) (cwV 0 C0.2.2.2.1 gX8_wipe_X6_clear rfl rfl rfl hdvX6_clear ⟨Nat.le_of_ble_eq_true rfl, Nat.le_of_ble_eq_true rfl⟩) (cX_X6 rfl) (by decide) rfl rfl rfl hl (Nat.le_of_ble_eq_true rfl) dX8_wipe_4 ⟨Nat.le_refl 0, Nat.le_refl 0⟩) hW (fun H locs hW => ?_)
  cases h
  exact x_iret C0 hW dX8_wipe_7
theorem cX8_wipe_met (l : Launch) {G : GT} (hJ : gJ 80 G) (z : Nat) (σ : ST)  (res : (Int32 × ST)) (h : fX8_wipe z σ = some res) : Met l yX8_wipe wsX8_wipe rX8_wipe (XPc cellX 80 G σ [.ref (aD G 0)]) (XQi cellX 80 G res.1 res.2) 0 0 (gA 80 G) :=
  x_met (ret := (some .int)) (maxL := 1) (by decide) rfl (Nat.le_of_ble_eq_true rfl) (fun p e s m args below meth c H locs ls C0 G0 hW hl => wX8_wipe C0 G0 hJ z σ res h hW hl)
end
/-! X8_withSecond -/
def rX8_withSecond : Room := { frames := 15, cells := 0, slots := 0, locals := 439 }
theorem hdvX8_withSecond : yX8_withSecond.cls = RX8 ∧ yX8_withSecond.cls ≠ "java/lang/invoke/MethodHandle" ∧ yX8_withSecond.cls ≠ "java/lang/invoke/VarHandle" ∧ (parseMethodDescriptor yX8_withSecond.desc).map (fun d => d.parameters.length) = some 2 := by decide +kernel
theorem inX8_withSecond_X8 : ∀ w ∈ u_ws RX8 TX8 10, w ∈ wsX8_withSecond := by decide +kernel
theorem lkX8_withSecond_19 : Cond.fieldLink RX8 19 (TX8 1).1 (TX8 1).2.1 (TX8 1).2.2.1 ∈ wsX8_withSecond := by decide +kernel
theorem inX8_withSecond_X7 : ∀ w ∈ u_ws RX7 TX7 9, w ∈ wsX8_withSecond := by decide +kernel
theorem nfX8_withSecond_188 : (RX8, 188, (TX7 6).1, (TX7 6).2.1, (TX7 6).2.2.1) ∈ nwF := by decide +kernel
theorem lkX8_withSecond_48 : Cond.fieldLink RX8 48 (TX8 6).1 (TX8 6).2.1 (TX8 6).2.2.1 ∈ wsX8_withSecond := by decide +kernel
theorem lkX8_withSecond_26 : Cond.fieldLink RX8 26 (TX8 2).1 (TX8 2).2.1 (TX8 2).2.2.1 ∈ wsX8_withSecond := by decide +kernel
theorem inX8_withSecond_X0 : ∀ w ∈ u_ws RX0 TX0 5, w ∈ wsX8_withSecond := by decide +kernel
theorem nfX8_withSecond_194 : (RX8, 194, (TX0 3).1, (TX0 3).2.1, (TX0 3).2.2.1) ∈ nwF := by decide +kernel
theorem inX8_withSecond_X1 : ∀ w ∈ u_ws RX1 TX1 2, w ∈ wsX8_withSecond := by decide +kernel
theorem nfX8_withSecond_170 : (RX8, 170, (TX1 0).1, (TX1 0).2.1, (TX1 0).2.2.1) ∈ nwF := by decide +kernel
theorem kcX8_withSecond_197 : Cond.constantLong RX8 197 (1000 : Int64) ∈ wsX8_withSecond := by decide +kernel
theorem kcX8_withSecond_130 : Cond.constantLong RX8 130 (-2 : Int64) ∈ wsX8_withSecond := by decide +kernel
theorem kcX8_withSecond_136 : Cond.constantLong RX8 136 (-3 : Int64) ∈ wsX8_withSecond := by decide +kernel
def fX8_withSecond_33 (z : Nat) (σ : ST) : Option (Int64 × ST) := some ((-3 : Int64), σ)
def fX8_withSecond (z : Nat) (σ : ST) (v1 : Int32) (v2 : Int32) : Option (Int64 × ST) := bd (fX8_isWithin z v1 (1 : Int32) (2 : Int32)) (fun u21 => (if u21 = 0 then some ((-2 : Int64), σ) else (if (σ.1 3 6) = (-9 : Int32) then fX8_withSecond_33 z σ else bd (fX8_isLeft z σ v1) (fun u24 => (if u24 = 0 then fX8_withSecond_33 z σ else bd (fX0_tryTogether z σ 5 v1) (fun u26 => bd (fX4_together z u26 5) (fun u27 => bd (fX8_power z (1000 : Int64) v1) (fun u28 => bd (fX3_part z (u26.2 78 0) (u27 * u28) v2) (fun u29 => some (u29, u26))))))))))
section
variable {p : Program} {l : Launch} {e : Env} {s : State} {m : MethodId} {args : Array Value} {below : List Frame} {meth : Method} {c : Code} {G : GT}
set_option maxHeartbeats 4000000 in
set_option maxRecDepth 100000 in
theorem wX8_withSecond_33 (C0 : Cx p s m args meth c cX8_withSecond RX8 3 (some .long) wsX8_withSecond) (G0 : Gx G s) (hJ : gJ 80 G) (z : Nat) (σ : ST) (res : (Int64 × ST)) (h : fX8_withSecond_33 z σ = some res)  {H : Heap} {locs : List Loc} {ls : Array Slot} (hW : Wd cellX 80 G s.heap σ H locs) (hl : lv_has ls 3 []) : W p l e rX8_withSecond s m args below meth c H locs 0 0 (MQ below (XQl cellX 80 G res.1 res.2) args s 0 0 (gA 80 G)) (F0 m 33 ls []) := by
  unfold fX8_withSecond_33 at h
  refine lv_ldc2 (v := (-3 : Int64)) C0.1 C0.2.1 C0.2.2.2.2.1 (C0.2.2.2.1 _ kcX8_withSecond_136) dX8_withSecond_33 ?_
  cases h
  exact x_lret C0 hW dX8_withSecond_36
set_option maxHeartbeats 4000000 in
set_option maxRecDepth 100000 in
theorem wX8_withSecond (C0 : Cx p s m args meth c cX8_withSecond RX8 3 (some .long) wsX8_withSecond) (G0 : Gx G s) (hJ : gJ 80 G) (z : Nat) (σ : ST) (v1 : Int32) (v2 : Int32) (res : (Int64 × ST)) (h : fX8_withSecond z σ v1 v2 = some res)  {H : Heap} {locs : List Loc} {ls : Array Slot} (hW : Wd cellX 80 G s.heap σ H locs) (hl : lv_has ls 3 [(0, .ref (aD G 0)), (1, .int v1), (2, .int v2)]) : W p l e rX8_withSecond s m args below meth c H locs 0 0 (MQ below (XQl cellX 80 G res.1 res.2) args s 0 0 (gA 80 G)) (F0 m 0 ls []) := by
  unfold fX8_withSecond at h
  refine lv_iload_n C0.1 C0.2.1 dX8_withSecond_0 rfl (lv_at hl 1 rfl) ?_
  refine lv_iconst (v := (1 : Int32)) C0.1 C0.2.1 dX8_withSecond_1 (by decide) ?_
  refine lv_iconst (v := (2 : Int32)) C0.1 C0.2.1 dX8_withSecond_2 (by decide) ?_
  obtain ⟨u21, hu21, h⟩ := bd_some h
  refine x_ki (r := u21) (x_runS (As := [.int v1, .int (1 : Int32), .int (2 : Int32)]) (rest := []) C0 G0 hW (cX8_isWithin_met l hJ z σ v1 (1 : Int32) (2 : Int32) _ hu21) (va_cwS 3 C0.2.2.2.1 gX8_withSecond_X8_isWithin rfl rfl rfl hdsX8_isWithin ⟨Nat.le_of_ble_eq_true rfl, Nat.le_of_ble_eq_true rfl⟩) rfl rfl hl (Nat.le_of_ble_eq_true rfl) dX8_withSecond_3 ⟨Nat.le_refl 0, Nat.le_refl 0⟩) hW (fun H locs hW => ?_)
  refine lv_if_ne (tgt := 13) C0.1 C0.2.1 dX8_withSecond_6 (by decide) (fun c22 => ?_) (fun c22 => ?_)
  · rw [if_neg c22] at h
    refine lv_aload_n C0.1 C0.2.1 dX8_withSecond_13 rfl (lv_at hl 0 rfl) ?_
    refine x_get (v := .ref (aD G 3)) C0 G0 hW (cX_X8 rfl) (by decide) rfl 1 (by decide) inX8_withSecond_X8 lkX8_withSecond_19 rfl dX8_withSecond_14 ?_
    refine x_getN (v := .int (σ.1 3 6)) C0 G0 hW (cX_X7 rfl) (by decide) rfl 6 (by decide) inX8_withSecond_X7 nfX8_withSecond_188 rfl dX8_withSecond_17 ?_
    refine lv_bipush (v := (-9 : Int32)) C0.1 C0.2.1 dX8_withSecond_20 (by decide) ?_
    refine lv_icmp_eq (tgt := 33) C0.1 C0.2.1 dX8_withSecond_22 (by decide) (fun c23 => ?_) (fun c23 => ?_)
    · rw [if_pos c23] at h
      exact wX8_withSecond_33 C0 G0 hJ z σ _ h hW (lv_sub hl [] rfl)
    · rw [if_neg c23] at h
      refine lv_aload_n C0.1 C0.2.1 dX8_withSecond_25 rfl (lv_at hl 0 rfl) ?_
      refine lv_iload_n C0.1 C0.2.1 dX8_withSecond_26 rfl (lv_at hl 1 rfl) ?_
      obtain ⟨u24, hu24, h⟩ := bd_some h
      refine x_ki (r := u24) (x_runV (As := [.int v1]) (rest := []) C0 G0 hW (cX8_isLeft_met l hJ z σ v1 _ hu24) (cwV 1 C0.2.2.2.1 gX8_withSecond_X8_isLeft rfl rfl rfl hdvX8_isLeft ⟨Nat.le_of_ble_eq_true rfl, Nat.le_of_ble_eq_true rfl⟩) (cX_X8 rfl) (by decide) rfl rfl rfl hl (Nat.le_of_ble_eq_true rfl) dX8_withSecond_27 ⟨Nat.le_refl 0, Nat.le_refl 0⟩) hW (fun H locs hW => ?_)
      refine lv_if_ne (tgt := 37) C0.1 C0.2.1 dX8_withSecond_30 (by decide) (fun c25 => ?_) (fun c25 => ?_)
      · rw [if_neg c25] at h
        refine lv_aload_n C0.1 C0.2.1 dX8_withSecond_37 rfl (lv_at hl 0 rfl) ?_
        refine x_get (v := .ref (aD G 57)) C0 G0 hW (cX_X8 rfl) (by decide) rfl 6 (by decide) inX8_withSecond_X8 lkX8_withSecond_48 rfl dX8_withSecond_38 ?_
        refine lv_aload_n C0.1 C0.2.1 dX8_withSecond_41 rfl (lv_at hl 0 rfl) ?_
        refine x_get (v := .ref (aD G 3)) C0 G0 hW (cX_X8 rfl) (by decide) rfl 1 (by decide) inX8_withSecond_X8 lkX8_withSecond_19 rfl dX8_withSecond_42 ?_
        refine lv_aload_n C0.1 C0.2.1 dX8_withSecond_45 rfl (lv_at hl 0 rfl) ?_
        refine x_get (v := .ref (aD G 5)) C0 G0 hW (cX_X8 rfl) (by decide) rfl 2 (by decide) inX8_withSecond_X8 lkX8_withSecond_26 rfl dX8_withSecond_46 ?_
        refine lv_iload_n C0.1 C0.2.1 dX8_withSecond_49 rfl (lv_at hl 1 rfl) ?_
        obtain ⟨u26, hu26, h⟩ := bd_some h
        refine x_kv (x_runV (As := [.ref (aD G 3), .ref (aD G 5), .int v1]) (rest := []) C0 G0 hW (cX0_tryTogether_met l hJ z σ 5 v1 _ hu26) (cwV 3 C0.2.2.2.1 gX8_withSecond_X0_tryTogether rfl rfl rfl hdvX0_tryTogether ⟨Nat.le_of_ble_eq_true rfl, Nat.le_of_ble_eq_true rfl⟩) (cX_X0 rfl) (by decide) rfl rfl rfl hl (Nat.le_of_ble_eq_true rfl) dX8_withSecond_50 ⟨Nat.le_refl 0, Nat.le_refl 0⟩) hW (fun H locs hW => ?_)
        refine lv_aload_n C0.1 C0.2.1 dX8_withSecond_53 rfl (lv_at hl 0 rfl) ?_
        refine x_get (v := .ref (aD G 57)) C0 G0 hW (cX_X8 rfl) (by decide) rfl 6 (by decide) inX8_withSecond_X8 lkX8_withSecond_48 rfl dX8_withSecond_54 ?_
        refine x_getN (v := .ref (aD G 78)) C0 G0 hW (cX_X0 rfl) (by decide) rfl 3 (by decide) inX8_withSecond_X0 nfX8_withSecond_194 rfl dX8_withSecond_57 ?_
        refine x_getN (v := .long (u26.2 78 0)) C0 G0 hW (cX_X1 rfl) (by decide) rfl 0 (by decide) inX8_withSecond_X1 nfX8_withSecond_170 rfl dX8_withSecond_60 ?_
        refine lv_aload_n C0.1 C0.2.1 dX8_withSecond_63 rfl (lv_at hl 0 rfl) ?_
        refine x_get (v := .ref (aD G 5)) C0 G0 hW (cX_X8 rfl) (by decide) rfl 2 (by decide) inX8_withSecond_X8 lkX8_withSecond_26 rfl dX8_withSecond_64 ?_
        obtain ⟨u27, hu27, h⟩ := bd_some h
        refine x_kl (r := u27) (x_runV (As := []) (rest := [.long (u26.2 78 0)]) C0 G0 hW (cX4_together_met l hJ z u26 5 _ hu27) (cwV 0 C0.2.2.2.1 gX8_withSecond_X4_together rfl rfl rfl hdvX4_together ⟨Nat.le_of_ble_eq_true rfl, Nat.le_of_ble_eq_true rfl⟩) (cX_X4 rfl) (by decide) rfl rfl rfl hl (Nat.le_of_ble_eq_true rfl) dX8_withSecond_67 ⟨Nat.le_refl 0, Nat.le_refl 0⟩) hW (fun H locs hW => ?_)
        refine lv_ldc2 (v := (1000 : Int64)) C0.1 C0.2.1 C0.2.2.2.2.1 (C0.2.2.2.1 _ kcX8_withSecond_197) dX8_withSecond_70 ?_
        refine lv_iload_n C0.1 C0.2.1 dX8_withSecond_73 rfl (lv_at hl 1 rfl) ?_
        obtain ⟨u28, hu28, h⟩ := bd_some h
        refine x_kl (r := u28) (x_runS (As := [.long (1000 : Int64), .int v1]) (rest := [.long u27, .long (u26.2 78 0)]) C0 G0 hW (cX8_power_met l hJ z u26 (1000 : Int64) v1 _ hu28) (va_cwS 2 C0.2.2.2.1 gX8_withSecond_X8_power rfl rfl rfl hdsX8_power ⟨Nat.le_of_ble_eq_true rfl, Nat.le_of_ble_eq_true rfl⟩) rfl rfl hl (Nat.le_of_ble_eq_true rfl) dX8_withSecond_74 ⟨Nat.le_refl 0, Nat.le_refl 0⟩) hW (fun H locs hW => ?_)
        refine lv_lmul C0.1 C0.2.1 dX8_withSecond_77 ?_
        refine lv_iload_n C0.1 C0.2.1 dX8_withSecond_78 rfl (lv_at hl 2 rfl) ?_
        obtain ⟨u29, hu29, h⟩ := bd_some h
        refine x_kl (r := u29) (x_runS (As := [.long (u26.2 78 0), .long (u27 * u28), .int v2]) (rest := []) C0 G0 hW (cX3_part_met l hJ z u26 (u26.2 78 0) (u27 * u28) v2 _ hu29) (va_cwS 3 C0.2.2.2.1 gX8_withSecond_X3_part rfl rfl rfl hdsX3_part ⟨Nat.le_of_ble_eq_true rfl, Nat.le_of_ble_eq_true rfl⟩) rfl rfl hl (Nat.le_of_ble_eq_true rfl) dX8_withSecond_79 ⟨Nat.le_refl 0, Nat.le_refl 0⟩) hW (fun H locs hW => ?_)
        cases h
        exact x_lret C0 hW dX8_withSecond_82
      · rw [if_pos c25] at h
        exact wX8_withSecond_33 C0 G0 hJ z σ _ h hW (lv_sub hl [] rfl)
  · rw [if_pos c22] at h
    refine lv_ldc2 (v := (-2 : Int64)) C0.1 C0.2.1 C0.2.2.2.2.1 (C0.2.2.2.1 _ kcX8_withSecond_130) dX8_withSecond_9 ?_
    cases h
    exact x_lret C0 hW dX8_withSecond_12
theorem cX8_withSecond_met (l : Launch) {G : GT} (hJ : gJ 80 G) (z : Nat) (σ : ST) (v1 : Int32) (v2 : Int32) (res : (Int64 × ST)) (h : fX8_withSecond z σ v1 v2 = some res) : Met l yX8_withSecond wsX8_withSecond rX8_withSecond (XPc cellX 80 G σ [.ref (aD G 0), .int v1, .int v2]) (XQl cellX 80 G res.1 res.2) 0 0 (gA 80 G) :=
  x_met (ret := (some .long)) (maxL := 3) (by decide) rfl (Nat.le_of_ble_eq_true rfl) (fun p e s m args below meth c H locs ls C0 G0 hW hl => wX8_withSecond C0 G0 hJ z σ v1 v2 res h hW hl)
end
/-! X8_write -/
def rX8_write : Room := { frames := 1, cells := 0, slots := 0, locals := 22 }
theorem hdvX8_write : yX8_write.cls = RX8 ∧ yX8_write.cls ≠ "java/lang/invoke/MethodHandle" ∧ yX8_write.cls ≠ "java/lang/invoke/VarHandle" ∧ (parseMethodDescriptor yX8_write.desc).map (fun d => d.parameters.length) = some 1 := by decide +kernel
theorem inX8_write_X8 : ∀ w ∈ u_ws RX8 TX8 10, w ∈ wsX8_write := by decide +kernel
theorem lkX8_write_10 : Cond.fieldLink RX8 10 (TX8 0).1 (TX8 0).2.1 (TX8 0).2.2.1 ∈ wsX8_write := by decide +kernel
def fX8_write_37 (z : Nat) (σ : ST) (t0 : Int32) : Option (Int32 × ST) := some (t0, σ)
def fX8_write (z : Nat) (σ : ST) (v1 : Int32) : Option (Int32 × ST) := bd (fX8_isWithin z v1 (0 : Int32) (255 : Int32)) (fun u21 => (if u21 = 0 then some ((-2 : Int32), σ) else bd (fX6_isFull z σ) (fun u23 => (if u23 = 0 then bd (fX6_add z σ v1) (fun u25 => fX8_write_37 z u25.2 u25.1) else fX8_write_37 z σ (-4 : Int32)))))
section
variable {p : Program} {l : Launch} {e : Env} {s : State} {m : MethodId} {args : Array Value} {below : List Frame} {meth : Method} {c : Code} {G : GT}
set_option maxHeartbeats 4000000 in
set_option maxRecDepth 100000 in
theorem wX8_write_37 (C0 : Cx p s m args meth c cX8_write RX8 2 (some .int) wsX8_write) (G0 : Gx G s) (hJ : gJ 80 G) (z : Nat) (σ : ST) (t0 : Int32) (res : (Int32 × ST)) (h : fX8_write_37 z σ t0 = some res)  {H : Heap} {locs : List Loc} {ls : Array Slot} (hW : Wd cellX 80 G s.heap σ H locs) (hl : lv_has ls 2 []) : W p l e rX8_write s m args below meth c H locs 0 0 (MQ below (XQi cellX 80 G res.1 res.2) args s 0 0 (gA 80 G)) (F0 m 37 ls [.int t0]) := by
  unfold fX8_write_37 at h
  cases h
  exact x_iret C0 hW dX8_write_37
set_option maxHeartbeats 4000000 in
set_option maxRecDepth 100000 in
theorem wX8_write (C0 : Cx p s m args meth c cX8_write RX8 2 (some .int) wsX8_write) (G0 : Gx G s) (hJ : gJ 80 G) (z : Nat) (σ : ST) (v1 : Int32) (res : (Int32 × ST)) (h : fX8_write z σ v1 = some res)  {H : Heap} {locs : List Loc} {ls : Array Slot} (hW : Wd cellX 80 G s.heap σ H locs) (hl : lv_has ls 2 [(0, .ref (aD G 0)), (1, .int v1)]) : W p l e rX8_write s m args below meth c H locs 0 0 (MQ below (XQi cellX 80 G res.1 res.2) args s 0 0 (gA 80 G)) (F0 m 0 ls []) := by
  unfold fX8_write at h
  refine lv_iload_n C0.1 C0.2.1 dX8_write_0 rfl (lv_at hl 1 rfl) ?_
  refine lv_iconst (v := (0 : Int32)) C0.1 C0.2.1 dX8_write_1 (by decide) ?_
  refine lv_sipush (v := (255 : Int32)) C0.1 C0.2.1 dX8_write_2 (by decide) ?_
  obtain ⟨u21, hu21, h⟩ := bd_some h
  refine x_ki (r := u21) (x_runS (As := [.int v1, .int (0 : Int32), .int (255 : Int32)]) (rest := []) C0 G0 hW (cX8_isWithin_met l hJ z σ v1 (0 : Int32) (255 : Int32) _ hu21) (va_cwS 3 C0.2.2.2.1 gX8_write_X8_isWithin rfl rfl rfl hdsX8_isWithin ⟨Nat.le_of_ble_eq_true rfl, Nat.le_of_ble_eq_true rfl⟩) rfl rfl hl (Nat.le_of_ble_eq_true rfl) dX8_write_5 ⟨Nat.le_refl 0, Nat.le_refl 0⟩) hW (fun H locs hW => ?_)
  refine lv_if_ne (tgt := 14) C0.1 C0.2.1 dX8_write_8 (by decide) (fun c22 => ?_) (fun c22 => ?_)
  · rw [if_neg c22] at h
    refine lv_aload_n C0.1 C0.2.1 dX8_write_14 rfl (lv_at hl 0 rfl) ?_
    refine x_get (v := .ref (aD G 1)) C0 G0 hW (cX_X8 rfl) (by decide) rfl 0 (by decide) inX8_write_X8 lkX8_write_10 rfl dX8_write_15 ?_
    obtain ⟨u23, hu23, h⟩ := bd_some h
    refine x_ki (r := u23) (x_runV (As := []) (rest := []) C0 G0 hW (cX6_isFull_met l hJ z σ _ hu23) (cwV 0 C0.2.2.2.1 gX8_write_X6_isFull rfl rfl rfl hdvX6_isFull ⟨Nat.le_of_ble_eq_true rfl, Nat.le_of_ble_eq_true rfl⟩) (cX_X6 rfl) (by decide) rfl rfl rfl hl (Nat.le_of_ble_eq_true rfl) dX8_write_18 ⟨Nat.le_refl 0, Nat.le_refl 0⟩) hW (fun H locs hW => ?_)
    refine lv_if_eq (tgt := 29) C0.1 C0.2.1 dX8_write_21 (by decide) (fun c24 => ?_) (fun c24 => ?_)
    · rw [if_pos c24] at h
      refine lv_aload_n C0.1 C0.2.1 dX8_write_29 rfl (lv_at hl 0 rfl) ?_
      refine x_get (v := .ref (aD G 1)) C0 G0 hW (cX_X8 rfl) (by decide) rfl 0 (by decide) inX8_write_X8 lkX8_write_10 rfl dX8_write_30 ?_
      refine lv_iload_n C0.1 C0.2.1 dX8_write_33 rfl (lv_at hl 1 rfl) ?_
      obtain ⟨u25, hu25, h⟩ := bd_some h
      refine x_ki (r := u25.1) (x_runV (As := [.int v1]) (rest := []) C0 G0 hW (cX6_add_met l hJ z σ v1 _ hu25) (cwV 1 C0.2.2.2.1 gX8_write_X6_add rfl rfl rfl hdvX6_add ⟨Nat.le_of_ble_eq_true rfl, Nat.le_of_ble_eq_true rfl⟩) (cX_X6 rfl) (by decide) rfl rfl rfl hl (Nat.le_of_ble_eq_true rfl) dX8_write_34 ⟨Nat.le_refl 0, Nat.le_refl 0⟩) hW (fun H locs hW => ?_)
      exact wX8_write_37 C0 G0 hJ z u25.2 u25.1 _ h hW (lv_sub hl [] rfl)
    · rw [if_neg c24] at h
      refine lv_bipush (v := (-4 : Int32)) C0.1 C0.2.1 dX8_write_24 (by decide) ?_
      refine lv_goto (tgt := 37) C0.1 C0.2.1 dX8_write_26 (by decide) ?_
      exact wX8_write_37 C0 G0 hJ z σ (-4 : Int32) _ h hW (lv_sub hl [] rfl)
  · rw [if_pos c22] at h
    refine lv_bipush (v := (-2 : Int32)) C0.1 C0.2.1 dX8_write_11 (by decide) ?_
    cases h
    exact x_iret C0 hW dX8_write_13
theorem cX8_write_met (l : Launch) {G : GT} (hJ : gJ 80 G) (z : Nat) (σ : ST) (v1 : Int32) (res : (Int32 × ST)) (h : fX8_write z σ v1 = some res) : Met l yX8_write wsX8_write rX8_write (XPc cellX 80 G σ [.ref (aD G 0), .int v1]) (XQi cellX 80 G res.1 res.2) 0 0 (gA 80 G) :=
  x_met (ret := (some .int)) (maxL := 2) (by decide) rfl (Nat.le_of_ble_eq_true rfl) (fun p e s m args below meth c H locs ls C0 G0 hW hl => wX8_write C0 G0 hJ z σ v1 res h hW hl)
end

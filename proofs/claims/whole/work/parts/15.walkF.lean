/-! X9_in -/
def rX9_in : Room := { frames := 0, cells := 0, slots := 0, locals := 0 }
theorem hdsX9_in : yX9_in.cls ≠ "java/lang/invoke/MethodHandle" ∧ yX9_in.cls ≠ "java/lang/invoke/VarHandle" ∧ (parseMethodDescriptor yX9_in.desc).map (fun d => d.parameters.length) = some 3 := by decide +kernel
def fX9_in_18 (z : Nat) (t0 : Int32) : Option Int32 := gd (zok t0) ( some t0)
def fX9_in_17 (z : Nat) : Option Int32 := fX9_in_18 z (0 : Int32)
def fX9_in (z : Nat) (v0 : Int64) (v2 : Int64) (v4 : Int64) : Option Int32 := (if v0 < v2 then fX9_in_17 z else (if v4 < v0 then fX9_in_17 z else fX9_in_18 z (1 : Int32)))
section
variable {p : Program} {l : Launch} {e : Env} {s : State} {m : MethodId} {args : Array Value} {below : List Frame} {meth : Method} {c : Code} {G : GT}
set_option maxHeartbeats 4000000 in
set_option maxRecDepth 100000 in
theorem wX9_in_18 (C0 : Cx p s m args meth c cX9_in RX9 6 (some .boolean) wsX9_in) {σ : ST} (G0 : Gx G s) (hJ : gJ 13 G) (z : Nat) (t0 : Int32) (res : Int32) (h : fX9_in_18 z t0 = some res)  {H : Heap} {locs : List Loc} {ls : Array Slot} (hW : Wd cellM 13 G s.heap σ H locs) (hl : lv_has ls 6 []) : W p l e rX9_in s m args below meth c H locs 0 0 (MQ below (XQi cellM 13 G res σ) args s 0 0 (gA 13 G)) (F0 m 18 ls [.int t0]) := by
  unfold fX9_in_18 at h
  obtain ⟨g23, h⟩ := gd_some h
  cases h
  exact x_zret C0 hW g23 dX9_in_18
set_option maxHeartbeats 4000000 in
set_option maxRecDepth 100000 in
theorem wX9_in_17 (C0 : Cx p s m args meth c cX9_in RX9 6 (some .boolean) wsX9_in) {σ : ST} (G0 : Gx G s) (hJ : gJ 13 G) (z : Nat) (res : Int32) (h : fX9_in_17 z = some res)  {H : Heap} {locs : List Loc} {ls : Array Slot} (hW : Wd cellM 13 G s.heap σ H locs) (hl : lv_has ls 6 []) : W p l e rX9_in s m args below meth c H locs 0 0 (MQ below (XQi cellM 13 G res σ) args s 0 0 (gA 13 G)) (F0 m 17 ls []) := by
  unfold fX9_in_17 at h
  refine lv_iconst (v := (0 : Int32)) C0.1 C0.2.1 dX9_in_17 (by decide) ?_
  exact wX9_in_18 C0 G0 hJ z (0 : Int32) _ h hW (lv_sub hl [] rfl)
set_option maxHeartbeats 4000000 in
set_option maxRecDepth 100000 in
theorem wX9_in (C0 : Cx p s m args meth c cX9_in RX9 6 (some .boolean) wsX9_in) {σ : ST} (G0 : Gx G s) (hJ : gJ 13 G) (z : Nat) (v0 : Int64) (v2 : Int64) (v4 : Int64) (res : Int32) (h : fX9_in z v0 v2 v4 = some res)  {H : Heap} {locs : List Loc} {ls : Array Slot} (hW : Wd cellM 13 G s.heap σ H locs) (hl : lv_has ls 6 [(0, .long v0), (2, .long v2), (4, .long v4)]) : W p l e rX9_in s m args below meth c H locs 0 0 (MQ below (XQi cellM 13 G res σ) args s 0 0 (gA 13 G)) (F0 m 0 ls []) := by
  unfold fX9_in at h
  refine lv_lload_n C0.1 C0.2.1 dX9_in_0 rfl (lv_at hl 0 rfl) ?_
  refine lv_lload_n C0.1 C0.2.1 dX9_in_1 rfl (lv_at hl 1 rfl) ?_
  refine x_lc_lt (tgt := 17) C0 dX9_in_2 dX9_in_3 (by decide) (fun c21 => ?_) (fun c21 => ?_)
  · rw [if_pos c21] at h
    exact wX9_in_17 C0 G0 hJ z _ h hW (lv_sub hl [] rfl)
  · rw [if_neg c21] at h
    refine lv_lload_n C0.1 C0.2.1 dX9_in_6 rfl (lv_at hl 0 rfl) ?_
    refine lv_lload C0.1 C0.2.1 dX9_in_7 (lv_at hl 2 rfl) ?_
    refine x_lc_gt (tgt := 17) C0 dX9_in_9 dX9_in_10 (by decide) (fun c22 => ?_) (fun c22 => ?_)
    · rw [if_pos c22] at h
      exact wX9_in_17 C0 G0 hJ z _ h hW (lv_sub hl [] rfl)
    · rw [if_neg c22] at h
      refine lv_iconst (v := (1 : Int32)) C0.1 C0.2.1 dX9_in_13 (by decide) ?_
      refine lv_goto (tgt := 18) C0.1 C0.2.1 dX9_in_14 (by decide) ?_
      exact wX9_in_18 C0 G0 hJ z (1 : Int32) _ h hW (lv_sub hl [] rfl)
theorem cX9_in_met (l : Launch) {G : GT} (hJ : gJ 13 G) (z : Nat) (σ : ST) (v0 : Int64) (v2 : Int64) (v4 : Int64) (res : Int32) (h : fX9_in z v0 v2 v4 = some res) : Met l yX9_in wsX9_in rX9_in (XPc cellM 13 G σ [.long v0, .long v2, .long v4]) (XQi cellM 13 G res σ) 0 0 (gA 13 G) :=
  x_met (ret := (some .boolean)) (maxL := 6) (by decide) rfl (Nat.le_of_ble_eq_true rfl) (fun p e s m args below meth c H locs ls C0 G0 hW hl => wX9_in C0 G0 hJ z v0 v2 v4 res h hW hl)
end
/-! X9_again -/
def rX9_again : Room := { frames := 1, cells := 0, slots := 0, locals := 25 }
theorem hdvX9_again : yX9_again.cls = RX9 ∧ yX9_again.cls ≠ "java/lang/invoke/MethodHandle" ∧ yX9_again.cls ≠ "java/lang/invoke/VarHandle" ∧ (parseMethodDescriptor yX9_again.desc).map (fun d => d.parameters.length) = some 1 := by decide +kernel
theorem inX9_again_X9 : ∀ w ∈ u_ws RX9 TX9 29, w ∈ wsX9_again := by decide +kernel
theorem lkX9_again_38 : Cond.fieldLink RX9 38 (TX9 26).1 (TX9 26).2.1 (TX9 26).2.2.1 ∈ wsX9_again := by decide +kernel
theorem lkX9_again_19 : Cond.fieldLink RX9 19 (TX9 14).1 (TX9 14).2.1 (TX9 14).2.2.1 ∈ wsX9_again := by decide +kernel
theorem lkX9_again_42 : Cond.fieldLink RX9 42 (TX9 27).1 (TX9 27).2.1 (TX9 27).2.2.1 ∈ wsX9_again := by decide +kernel
theorem lkX9_again_119 : Cond.fieldLink RX9 119 (TX9 21).1 (TX9 21).2.1 (TX9 21).2.2.1 ∈ wsX9_again := by decide +kernel
theorem lkX9_again_23 : Cond.fieldLink RX9 23 (TX9 15).1 (TX9 15).2.1 (TX9 15).2.2.1 ∈ wsX9_again := by decide +kernel
theorem lkX9_again_45 : Cond.fieldLink RX9 45 (TX9 28).1 (TX9 28).2.1 (TX9 28).2.2.1 ∈ wsX9_again := by decide +kernel
def fX9_again_57 (z : Nat) (v1 : Int32) : Nat → ST → Int32 → Option (Int32 × ST)
  | 0 => fun _ _ => none
  | n + 1 => fun σ v2 => (if (9 : Int32) ≤ v2 then lt (pI σ 0 21 (0 : Int32)) (fun s30 => gd (inb (1 : Int32) 9) ( some ((s30.1 5 ((1 : Int32)).toNatClampNeg), s30))) else gd (inb (((9 : Int32) * v1) + v2) 18) ( gd (inb v2 9) ( lt (pI σ 5 (v2).toNatClampNeg (σ.1 12 ((((9 : Int32) * v1) + v2)).toNatClampNeg)) (fun s34 => (fX9_again_57 z v1 n) s34 (v2 + 1)))))
def fX9_again_26 (z : Nat) (v1 : Int32) : Nat → ST → Int32 → Option (Int32 × ST)
  | 0 => fun _ _ => none
  | n + 1 => fun σ v2 => (if (11 : Int32) ≤ v2 then fX9_again_57 z v1 z σ (0 : Int32) else gd (inb (((11 : Int32) * v1) + v2) 22) ( gd (inb v2 33) ( lt (pL σ 4 (v2).toNatClampNeg (σ.2 11 ((((11 : Int32) * v1) + v2)).toNatClampNeg)) (fun s28 => (fX9_again_26 z v1 n) s28 (v2 + 1)))))
def fX9_again (z : Nat) (σ : ST) (v1 : Int32) : Option (Int32 × ST) := bd (fX9_in z ((v1).toInt64) (0 : Int64) (1 : Int64)) (fun u21 => (if u21 = 0 then some ((-1 : Int32), σ) else gd (inb v1 2) ( (if (σ.1 10 (v1).toNatClampNeg) = 0 then some ((-3 : Int32), σ) else fX9_again_26 z v1 z σ (0 : Int32)))))
section
variable {p : Program} {l : Launch} {e : Env} {s : State} {m : MethodId} {args : Array Value} {below : List Frame} {meth : Method} {c : Code} {G : GT}
set_option maxHeartbeats 4000000 in
set_option maxRecDepth 100000 in
theorem wX9_again_57 (C0 : Cx p s m args meth c cX9_again RX9 3 (some .int) wsX9_again) (G0 : Gx G s) (hJ : gJ 13 G) (z : Nat) (v1 : Int32) (n : Nat) (σ : ST) (v2 : Int32) (res : (Int32 × ST)) (h : fX9_again_57 z v1 n σ v2 = some res)  {H : Heap} {locs : List Loc} {ls : Array Slot} (hW : Wd cellM 13 G s.heap σ H locs) (hl : lv_has ls 3 [(0, .ref (aD G 0)), (1, .int v1), (2, .int v2)]) : W p l e rX9_again s m args below meth c H locs 0 0 (MQ below (XQi cellM 13 G res.1 res.2) args s 0 0 (gA 13 G)) (F0 m 57 ls []) := by
  induction n generalizing σ v2 H locs ls with
  | zero => cases h
  | succ n ih =>
    have hr57 : ∀ (σ : ST) (v2 : Int32), fX9_again_57 z v1 n σ v2 = some res → ∀ (H : Heap) (locs : List Loc) (ls : Array Slot), Wd cellM 13 G s.heap σ H locs → lv_has ls 3 [(0, .ref (aD G 0)), (1, .int v1), (2, .int v2)] → W p l e rX9_again s m args below meth c H locs 0 0 (MQ below (XQi cellM 13 G res.1 res.2) args s 0 0 (gA 13 G)) (F0 m 57 ls []) := fun σ v2 h H locs ls hW hl => ih σ v2 h hW hl
    clear ih
    unfold fX9_again_57 at h
    refine lv_iload_n C0.1 C0.2.1 dX9_again_57 rfl (lv_at hl 2 rfl) ?_
    refine lv_bipush (v := (9 : Int32)) C0.1 C0.2.1 dX9_again_58 (by decide) ?_
    refine lv_icmp_ge (tgt := 86) C0.1 C0.2.1 dX9_again_60 (by decide) (fun c29 => ?_) (fun c29 => ?_)
    · rw [if_pos c29] at h
      refine lv_aload_n C0.1 C0.2.1 dX9_again_86 rfl (lv_at hl 0 rfl) ?_
      refine lv_iconst (v := (0 : Int32)) C0.1 C0.2.1 dX9_again_87 (by decide) ?_
      refine x_putI (v := (0 : Int32)) C0 G0 hJ hW cM_0 (by decide) rfl 21 (by decide) inX9_again_X9 lkX9_again_119 tyX9 tyX9_ok nmX9 rfl rfl rfl (Nat.le_of_ble_eq_true rfl) hu_X9_21 dX9_again_88 (fun H locs hW => ?_)
      obtain ⟨s30, es30, h⟩ := lt_some h
      rw [es30] at hW
      refine lv_aload_n C0.1 C0.2.1 dX9_again_91 rfl (lv_at hl 0 rfl) ?_
      refine x_get (v := .ref (aD G 5)) C0 G0 hW cM_0 (by decide) rfl 15 (by decide) inX9_again_X9 lkX9_again_23 rfl dX9_again_92 ?_
      refine lv_iconst (v := (1 : Int32)) C0.1 C0.2.1 dX9_again_95 (by decide) ?_
      obtain ⟨g31, h⟩ := gd_some h
      refine x_iald C0 G0 hW cM_5 (by decide) g31 dX9_again_96 ?_
      cases h
      exact x_iret C0 hW dX9_again_97
    · rw [if_neg c29] at h
      refine lv_aload_n C0.1 C0.2.1 dX9_again_63 rfl (lv_at hl 0 rfl) ?_
      refine x_get (v := .ref (aD G 5)) C0 G0 hW cM_0 (by decide) rfl 15 (by decide) inX9_again_X9 lkX9_again_23 rfl dX9_again_64 ?_
      refine lv_iload_n C0.1 C0.2.1 dX9_again_67 rfl (lv_at hl 2 rfl) ?_
      refine lv_aload_n C0.1 C0.2.1 dX9_again_68 rfl (lv_at hl 0 rfl) ?_
      refine x_get (v := .ref (aD G 12)) C0 G0 hW cM_0 (by decide) rfl 28 (by decide) inX9_again_X9 lkX9_again_45 rfl dX9_again_69 ?_
      refine lv_bipush (v := (9 : Int32)) C0.1 C0.2.1 dX9_again_72 (by decide) ?_
      refine lv_iload_n C0.1 C0.2.1 dX9_again_74 rfl (lv_at hl 1 rfl) ?_
      refine lv_imul C0.1 C0.2.1 dX9_again_75 ?_
      refine lv_iload_n C0.1 C0.2.1 dX9_again_76 rfl (lv_at hl 2 rfl) ?_
      refine lv_iadd C0.1 C0.2.1 dX9_again_77 ?_
      obtain ⟨g32, h⟩ := gd_some h
      refine x_iald C0 G0 hW cM_12 (by decide) g32 dX9_again_78 ?_
      obtain ⟨g33, h⟩ := gd_some h
      refine x_iast C0 G0 hJ hW (fun f g => cM_5) (by decide) g33 dX9_again_79 (fun H locs hW => ?_)
      obtain ⟨s34, es34, h⟩ := lt_some h
      rw [es34] at hW
      refine lv_iinc (v := (v2 + 1)) (lv' := [(2, .int (v2 + 1)), (0, .ref (aD G 0)), (1, .int v1)]) C0.1 C0.2.1 dX9_again_80 hl (k := 2) rfl rfl (by decide) rfl (fun ls hl => ?_)
      refine lv_goto (tgt := 57) C0.1 C0.2.1 dX9_again_83 (by decide) ?_
      exact hr57 s34 (v2 + 1) h _ _ _ hW (lv_sub hl [1, 2, 0] rfl)
set_option maxHeartbeats 4000000 in
set_option maxRecDepth 100000 in
theorem wX9_again_26 (C0 : Cx p s m args meth c cX9_again RX9 3 (some .int) wsX9_again) (G0 : Gx G s) (hJ : gJ 13 G) (z : Nat) (v1 : Int32) (n : Nat) (σ : ST) (v2 : Int32) (res : (Int32 × ST)) (h : fX9_again_26 z v1 n σ v2 = some res)  {H : Heap} {locs : List Loc} {ls : Array Slot} (hW : Wd cellM 13 G s.heap σ H locs) (hl : lv_has ls 3 [(0, .ref (aD G 0)), (1, .int v1), (2, .int v2)]) : W p l e rX9_again s m args below meth c H locs 0 0 (MQ below (XQi cellM 13 G res.1 res.2) args s 0 0 (gA 13 G)) (F0 m 26 ls []) := by
  induction n generalizing σ v2 H locs ls with
  | zero => cases h
  | succ n ih =>
    have hr26 : ∀ (σ : ST) (v2 : Int32), fX9_again_26 z v1 n σ v2 = some res → ∀ (H : Heap) (locs : List Loc) (ls : Array Slot), Wd cellM 13 G s.heap σ H locs → lv_has ls 3 [(0, .ref (aD G 0)), (1, .int v1), (2, .int v2)] → W p l e rX9_again s m args below meth c H locs 0 0 (MQ below (XQi cellM 13 G res.1 res.2) args s 0 0 (gA 13 G)) (F0 m 26 ls []) := fun σ v2 h H locs ls hW hl => ih σ v2 h hW hl
    clear ih
    unfold fX9_again_26 at h
    refine lv_iload_n C0.1 C0.2.1 dX9_again_26 rfl (lv_at hl 2 rfl) ?_
    refine lv_bipush (v := (11 : Int32)) C0.1 C0.2.1 dX9_again_27 (by decide) ?_
    refine lv_icmp_ge (tgt := 55) C0.1 C0.2.1 dX9_again_29 (by decide) (fun c25 => ?_) (fun c25 => ?_)
    · rw [if_pos c25] at h
      refine lv_iconst (v := (0 : Int32)) C0.1 C0.2.1 dX9_again_55 (by decide) ?_
      refine lv_istore_n (lv' := [(2, .int (0 : Int32)), (0, .ref (aD G 0)), (1, .int v1)]) C0.1 C0.2.1 dX9_again_56 rfl hl (by decide) rfl (fun ls hl => ?_)
      exact wX9_again_57 C0 G0 hJ z v1 z σ (0 : Int32) _ h hW (lv_sub hl [1, 2, 0] rfl)
    · rw [if_neg c25] at h
      refine lv_aload_n C0.1 C0.2.1 dX9_again_32 rfl (lv_at hl 0 rfl) ?_
      refine x_get (v := .ref (aD G 4)) C0 G0 hW cM_0 (by decide) rfl 14 (by decide) inX9_again_X9 lkX9_again_19 rfl dX9_again_33 ?_
      refine lv_iload_n C0.1 C0.2.1 dX9_again_36 rfl (lv_at hl 2 rfl) ?_
      refine lv_aload_n C0.1 C0.2.1 dX9_again_37 rfl (lv_at hl 0 rfl) ?_
      refine x_get (v := .ref (aD G 11)) C0 G0 hW cM_0 (by decide) rfl 27 (by decide) inX9_again_X9 lkX9_again_42 rfl dX9_again_38 ?_
      refine lv_bipush (v := (11 : Int32)) C0.1 C0.2.1 dX9_again_41 (by decide) ?_
      refine lv_iload_n C0.1 C0.2.1 dX9_again_43 rfl (lv_at hl 1 rfl) ?_
      refine lv_imul C0.1 C0.2.1 dX9_again_44 ?_
      refine lv_iload_n C0.1 C0.2.1 dX9_again_45 rfl (lv_at hl 2 rfl) ?_
      refine lv_iadd C0.1 C0.2.1 dX9_again_46 ?_
      obtain ⟨g26, h⟩ := gd_some h
      refine x_lald C0 G0 hW cM_11 (by decide) g26 dX9_again_47 ?_
      obtain ⟨g27, h⟩ := gd_some h
      refine x_last C0 G0 hJ hW (fun f g => cM_4) (by decide) g27 dX9_again_48 (fun H locs hW => ?_)
      obtain ⟨s28, es28, h⟩ := lt_some h
      rw [es28] at hW
      refine lv_iinc (v := (v2 + 1)) (lv' := [(2, .int (v2 + 1)), (0, .ref (aD G 0)), (1, .int v1)]) C0.1 C0.2.1 dX9_again_49 hl (k := 2) rfl rfl (by decide) rfl (fun ls hl => ?_)
      refine lv_goto (tgt := 26) C0.1 C0.2.1 dX9_again_52 (by decide) ?_
      exact hr26 s28 (v2 + 1) h _ _ _ hW (lv_sub hl [1, 2, 0] rfl)
set_option maxHeartbeats 4000000 in
set_option maxRecDepth 100000 in
theorem wX9_again (C0 : Cx p s m args meth c cX9_again RX9 3 (some .int) wsX9_again) (G0 : Gx G s) (hJ : gJ 13 G) (z : Nat) (σ : ST) (v1 : Int32) (res : (Int32 × ST)) (h : fX9_again z σ v1 = some res)  {H : Heap} {locs : List Loc} {ls : Array Slot} (hW : Wd cellM 13 G s.heap σ H locs) (hl : lv_has ls 3 [(0, .ref (aD G 0)), (1, .int v1)]) : W p l e rX9_again s m args below meth c H locs 0 0 (MQ below (XQi cellM 13 G res.1 res.2) args s 0 0 (gA 13 G)) (F0 m 0 ls []) := by
  unfold fX9_again at h
  refine lv_iload_n C0.1 C0.2.1 dX9_again_0 rfl (lv_at hl 1 rfl) ?_
  refine lv_i2l (v := ((v1).toInt64)) C0.1 C0.2.1 dX9_again_1 rfl ?_
  refine lv_lconst (v := (0 : Int64)) C0.1 C0.2.1 dX9_again_2 (by decide) ?_
  refine lv_lconst (v := (1 : Int64)) C0.1 C0.2.1 dX9_again_3 (by decide) ?_
  obtain ⟨u21, hu21, h⟩ := bd_some h
  refine x_ki (r := u21) (x_runS (As := [.long ((v1).toInt64), .long (0 : Int64), .long (1 : Int64)]) (rest := []) C0 G0 hW (cX9_in_met l hJ z σ ((v1).toInt64) (0 : Int64) (1 : Int64) _ hu21) (va_cwS 3 C0.2.2.2.1 gX9_again_X9_in rfl rfl rfl hdsX9_in ⟨Nat.le_of_ble_eq_true rfl, Nat.le_of_ble_eq_true rfl⟩) rfl rfl hl (Nat.le_of_ble_eq_true rfl) dX9_again_4 ⟨Nat.le_refl 0, Nat.le_refl 0⟩) hW (fun H locs hW => ?_)
  refine lv_if_ne (tgt := 12) C0.1 C0.2.1 dX9_again_7 (by decide) (fun c22 => ?_) (fun c22 => ?_)
  · rw [if_neg c22] at h
    refine lv_aload_n C0.1 C0.2.1 dX9_again_12 rfl (lv_at hl 0 rfl) ?_
    refine x_get (v := .ref (aD G 10)) C0 G0 hW cM_0 (by decide) rfl 26 (by decide) inX9_again_X9 lkX9_again_38 rfl dX9_again_13 ?_
    refine lv_iload_n C0.1 C0.2.1 dX9_again_16 rfl (lv_at hl 1 rfl) ?_
    obtain ⟨g23, h⟩ := gd_some h
    refine x_zald C0 G0 hW cM_10 (by decide) g23 dX9_again_17 ?_
    refine lv_if_ne (tgt := 24) C0.1 C0.2.1 dX9_again_18 (by decide) (fun c24 => ?_) (fun c24 => ?_)
    · rw [if_neg c24] at h
      refine lv_iconst (v := (0 : Int32)) C0.1 C0.2.1 dX9_again_24 (by decide) ?_
      refine lv_istore_n (lv' := [(2, .int (0 : Int32)), (0, .ref (aD G 0)), (1, .int v1)]) C0.1 C0.2.1 dX9_again_25 rfl hl (by decide) rfl (fun ls hl => ?_)
      exact wX9_again_26 C0 G0 hJ z v1 z σ (0 : Int32) _ h hW (lv_sub hl [1, 2, 0] rfl)
    · rw [if_pos c24] at h
      refine lv_bipush (v := (-3 : Int32)) C0.1 C0.2.1 dX9_again_21 (by decide) ?_
      cases h
      exact x_iret C0 hW dX9_again_23
  · rw [if_pos c22] at h
    refine lv_iconst (v := (-1 : Int32)) C0.1 C0.2.1 dX9_again_10 (by decide) ?_
    cases h
    exact x_iret C0 hW dX9_again_11
theorem cX9_again_met (l : Launch) {G : GT} (hJ : gJ 13 G) (z : Nat) (σ : ST) (v1 : Int32) (res : (Int32 × ST)) (h : fX9_again z σ v1 = some res) : Met l yX9_again wsX9_again rX9_again (XPc cellM 13 G σ [.ref (aD G 0), .int v1]) (XQi cellM 13 G res.1 res.2) 0 0 (gA 13 G) :=
  x_met (ret := (some .int)) (maxL := 3) (by decide) rfl (Nat.le_of_ble_eq_true rfl) (fun p e s m args below meth c H locs ls C0 G0 hW hl => wX9_again C0 G0 hJ z σ v1 res h hW hl)
end
/-! X9_allParts -/
def rX9_allParts : Room := { frames := 0, cells := 0, slots := 0, locals := 0 }
theorem hdvX9_allParts : yX9_allParts.cls = RX9 ∧ yX9_allParts.cls ≠ "java/lang/invoke/MethodHandle" ∧ yX9_allParts.cls ≠ "java/lang/invoke/VarHandle" ∧ (parseMethodDescriptor yX9_allParts.desc).map (fun d => d.parameters.length) = some 0 := by decide +kernel
theorem inX9_allParts_X9 : ∀ w ∈ u_ws RX9 TX9 29, w ∈ wsX9_allParts := by decide +kernel
theorem lkX9_allParts_7 : Cond.fieldLink RX9 7 (TX9 9).1 (TX9 9).2.1 (TX9 9).2.2.1 ∈ wsX9_allParts := by decide +kernel
def fX9_allParts_4 (z : Nat) (σ : ST) : Nat → Int32 → Int32 → Option Int32
  | 0 => fun _ _ => none
  | n + 1 => fun v1 v2 => (if (11 : Int32) ≤ v2 then some v1 else gd (inb v2 11) ( (fX9_allParts_4 z σ n) (v1 + (σ.1 1 (v2).toNatClampNeg)) (v2 + 1)))
def fX9_allParts (z : Nat) (σ : ST) : Option Int32 := fX9_allParts_4 z σ z (0 : Int32) (0 : Int32)
section
variable {p : Program} {l : Launch} {e : Env} {s : State} {m : MethodId} {args : Array Value} {below : List Frame} {meth : Method} {c : Code} {G : GT}
set_option maxHeartbeats 4000000 in
set_option maxRecDepth 100000 in
theorem wX9_allParts_4 (C0 : Cx p s m args meth c cX9_allParts RX9 3 (some .int) wsX9_allParts) (G0 : Gx G s) (hJ : gJ 13 G) (z : Nat) (σ : ST) (n : Nat) (v1 : Int32) (v2 : Int32) (res : Int32) (h : fX9_allParts_4 z σ n v1 v2 = some res)  {H : Heap} {locs : List Loc} {ls : Array Slot} (hW : Wd cellM 13 G s.heap σ H locs) (hl : lv_has ls 3 [(0, .ref (aD G 0)), (1, .int v1), (2, .int v2)]) : W p l e rX9_allParts s m args below meth c H locs 0 0 (MQ below (XQi cellM 13 G res σ) args s 0 0 (gA 13 G)) (F0 m 4 ls []) := by
  induction n generalizing v1 v2 H locs ls with
  | zero => cases h
  | succ n ih =>
    have hr4 : ∀ (v1 : Int32) (v2 : Int32), fX9_allParts_4 z σ n v1 v2 = some res → ∀ (H : Heap) (locs : List Loc) (ls : Array Slot), Wd cellM 13 G s.heap σ H locs → lv_has ls 3 [(0, .ref (aD G 0)), (1, .int v1), (2, .int v2)] → W p l e rX9_allParts s m args below meth c H locs 0 0 (MQ below (XQi cellM 13 G res σ) args s 0 0 (gA 13 G)) (F0 m 4 ls []) := fun v1 v2 h H locs ls hW hl => ih v1 v2 h hW hl
    clear ih
    unfold fX9_allParts_4 at h
    refine lv_iload_n C0.1 C0.2.1 dX9_allParts_4 rfl (lv_at hl 2 rfl) ?_
    refine lv_bipush (v := (11 : Int32)) C0.1 C0.2.1 dX9_allParts_5 (by decide) ?_
    refine lv_icmp_ge (tgt := 25) C0.1 C0.2.1 dX9_allParts_7 (by decide) (fun c21 => ?_) (fun c21 => ?_)
    · rw [if_pos c21] at h
      refine lv_iload_n C0.1 C0.2.1 dX9_allParts_25 rfl (lv_at hl 1 rfl) ?_
      cases h
      exact x_iret C0 hW dX9_allParts_26
    · rw [if_neg c21] at h
      refine lv_iload_n C0.1 C0.2.1 dX9_allParts_10 rfl (lv_at hl 1 rfl) ?_
      refine lv_aload_n C0.1 C0.2.1 dX9_allParts_11 rfl (lv_at hl 0 rfl) ?_
      refine x_get (v := .ref (aD G 1)) C0 G0 hW cM_0 (by decide) rfl 9 (by decide) inX9_allParts_X9 lkX9_allParts_7 rfl dX9_allParts_12 ?_
      refine lv_iload_n C0.1 C0.2.1 dX9_allParts_15 rfl (lv_at hl 2 rfl) ?_
      obtain ⟨g22, h⟩ := gd_some h
      refine x_iald C0 G0 hW cM_1 (by decide) g22 dX9_allParts_16 ?_
      refine lv_iadd C0.1 C0.2.1 dX9_allParts_17 ?_
      refine lv_istore_n (lv' := [(1, .int (v1 + (σ.1 1 (v2).toNatClampNeg))), (0, .ref (aD G 0)), (2, .int v2)]) C0.1 C0.2.1 dX9_allParts_18 rfl hl (by decide) rfl (fun ls hl => ?_)
      refine lv_iinc (v := (v2 + 1)) (lv' := [(2, .int (v2 + 1)), (1, .int (v1 + (σ.1 1 (v2).toNatClampNeg))), (0, .ref (aD G 0))]) C0.1 C0.2.1 dX9_allParts_19 hl (k := 2) rfl rfl (by decide) rfl (fun ls hl => ?_)
      refine lv_goto (tgt := 4) C0.1 C0.2.1 dX9_allParts_22 (by decide) ?_
      exact hr4 (v1 + (σ.1 1 (v2).toNatClampNeg)) (v2 + 1) h _ _ _ hW (lv_sub hl [2, 1, 0] rfl)
set_option maxHeartbeats 4000000 in
set_option maxRecDepth 100000 in
theorem wX9_allParts (C0 : Cx p s m args meth c cX9_allParts RX9 3 (some .int) wsX9_allParts) (G0 : Gx G s) (hJ : gJ 13 G) (z : Nat) (σ : ST) (res : Int32) (h : fX9_allParts z σ = some res)  {H : Heap} {locs : List Loc} {ls : Array Slot} (hW : Wd cellM 13 G s.heap σ H locs) (hl : lv_has ls 3 [(0, .ref (aD G 0))]) : W p l e rX9_allParts s m args below meth c H locs 0 0 (MQ below (XQi cellM 13 G res σ) args s 0 0 (gA 13 G)) (F0 m 0 ls []) := by
  unfold fX9_allParts at h
  refine lv_iconst (v := (0 : Int32)) C0.1 C0.2.1 dX9_allParts_0 (by decide) ?_
  refine lv_istore_n (lv' := [(1, .int (0 : Int32)), (0, .ref (aD G 0))]) C0.1 C0.2.1 dX9_allParts_1 rfl hl (by decide) rfl (fun ls hl => ?_)
  refine lv_iconst (v := (0 : Int32)) C0.1 C0.2.1 dX9_allParts_2 (by decide) ?_
  refine lv_istore_n (lv' := [(2, .int (0 : Int32)), (1, .int (0 : Int32)), (0, .ref (aD G 0))]) C0.1 C0.2.1 dX9_allParts_3 rfl hl (by decide) rfl (fun ls hl => ?_)
  exact wX9_allParts_4 C0 G0 hJ z σ z (0 : Int32) (0 : Int32) _ h hW (lv_sub hl [2, 1, 0] rfl)
theorem cX9_allParts_met (l : Launch) {G : GT} (hJ : gJ 13 G) (z : Nat) (σ : ST)  (res : Int32) (h : fX9_allParts z σ = some res) : Met l yX9_allParts wsX9_allParts rX9_allParts (XPc cellM 13 G σ [.ref (aD G 0)]) (XQi cellM 13 G res σ) 0 0 (gA 13 G) :=
  x_met (ret := (some .int)) (maxL := 3) (by decide) rfl (Nat.le_of_ble_eq_true rfl) (fun p e s m args below meth c H locs ls C0 G0 hW hl => wX9_allParts C0 G0 hJ z σ res h hW hl)
end
/-! X9_sumOf -/
def rX9_sumOf : Room := { frames := 0, cells := 0, slots := 0, locals := 0 }
theorem hdvX9_sumOf : yX9_sumOf.cls = RX9 ∧ yX9_sumOf.cls ≠ "java/lang/invoke/MethodHandle" ∧ yX9_sumOf.cls ≠ "java/lang/invoke/VarHandle" ∧ (parseMethodDescriptor yX9_sumOf.desc).map (fun d => d.parameters.length) = some 1 := by decide +kernel
theorem inX9_sumOf_X9 : ∀ w ∈ u_ws RX9 TX9 29, w ∈ wsX9_sumOf := by decide +kernel
theorem lkX9_sumOf_19 : Cond.fieldLink RX9 19 (TX9 14).1 (TX9 14).2.1 (TX9 14).2.2.1 ∈ wsX9_sumOf := by decide +kernel
def fX9_sumOf_5 (z : Nat) (σ : ST) (v1 : Int32) : Nat → Int64 → Int32 → Option Int64
  | 0 => fun _ _ => none
  | n + 1 => fun v2 v4 => (if (11 : Int32) ≤ v4 then some v2 else gd (inb (((11 : Int32) * v1) + v4) 33) ( (fX9_sumOf_5 z σ v1 n) (v2 + (σ.2 4 ((((11 : Int32) * v1) + v4)).toNatClampNeg)) (v4 + 1)))
def fX9_sumOf (z : Nat) (σ : ST) (v1 : Int32) : Option Int64 := fX9_sumOf_5 z σ v1 z (0 : Int64) (0 : Int32)
section
variable {p : Program} {l : Launch} {e : Env} {s : State} {m : MethodId} {args : Array Value} {below : List Frame} {meth : Method} {c : Code} {G : GT}
set_option maxHeartbeats 4000000 in
set_option maxRecDepth 100000 in
theorem wX9_sumOf_5 (C0 : Cx p s m args meth c cX9_sumOf RX9 5 (some .long) wsX9_sumOf) (G0 : Gx G s) (hJ : gJ 13 G) (z : Nat) (σ : ST) (v1 : Int32) (n : Nat) (v2 : Int64) (v4 : Int32) (res : Int64) (h : fX9_sumOf_5 z σ v1 n v2 v4 = some res)  {H : Heap} {locs : List Loc} {ls : Array Slot} (hW : Wd cellM 13 G s.heap σ H locs) (hl : lv_has ls 5 [(0, .ref (aD G 0)), (1, .int v1), (2, .long v2), (4, .int v4)]) : W p l e rX9_sumOf s m args below meth c H locs 0 0 (MQ below (XQl cellM 13 G res σ) args s 0 0 (gA 13 G)) (F0 m 5 ls []) := by
  induction n generalizing v2 v4 H locs ls with
  | zero => cases h
  | succ n ih =>
    have hr5 : ∀ (v2 : Int64) (v4 : Int32), fX9_sumOf_5 z σ v1 n v2 v4 = some res → ∀ (H : Heap) (locs : List Loc) (ls : Array Slot), Wd cellM 13 G s.heap σ H locs → lv_has ls 5 [(0, .ref (aD G 0)), (1, .int v1), (2, .long v2), (4, .int v4)] → W p l e rX9_sumOf s m args below meth c H locs 0 0 (MQ below (XQl cellM 13 G res σ) args s 0 0 (gA 13 G)) (F0 m 5 ls []) := fun v2 v4 h H locs ls hW hl => ih v2 v4 h hW hl
    clear ih
    unfold fX9_sumOf_5 at h
    refine lv_iload C0.1 C0.2.1 dX9_sumOf_5 (lv_at hl 3 rfl) ?_
    refine lv_bipush (v := (11 : Int32)) C0.1 C0.2.1 dX9_sumOf_7 (by decide) ?_
    refine lv_icmp_ge (tgt := 33) C0.1 C0.2.1 dX9_sumOf_9 (by decide) (fun c21 => ?_) (fun c21 => ?_)
    · rw [if_pos c21] at h
      refine lv_lload_n C0.1 C0.2.1 dX9_sumOf_33 rfl (lv_at hl 2 rfl) ?_
      cases h
      exact x_lret C0 hW dX9_sumOf_34
    · rw [if_neg c21] at h
      refine lv_lload_n C0.1 C0.2.1 dX9_sumOf_12 rfl (lv_at hl 2 rfl) ?_
      refine lv_aload_n C0.1 C0.2.1 dX9_sumOf_13 rfl (lv_at hl 0 rfl) ?_
      refine x_get (v := .ref (aD G 4)) C0 G0 hW cM_0 (by decide) rfl 14 (by decide) inX9_sumOf_X9 lkX9_sumOf_19 rfl dX9_sumOf_14 ?_
      refine lv_bipush (v := (11 : Int32)) C0.1 C0.2.1 dX9_sumOf_17 (by decide) ?_
      refine lv_iload_n C0.1 C0.2.1 dX9_sumOf_19 rfl (lv_at hl 1 rfl) ?_
      refine lv_imul C0.1 C0.2.1 dX9_sumOf_20 ?_
      refine lv_iload C0.1 C0.2.1 dX9_sumOf_21 (lv_at hl 3 rfl) ?_
      refine lv_iadd C0.1 C0.2.1 dX9_sumOf_23 ?_
      obtain ⟨g22, h⟩ := gd_some h
      refine x_lald C0 G0 hW cM_4 (by decide) g22 dX9_sumOf_24 ?_
      refine lv_ladd C0.1 C0.2.1 dX9_sumOf_25 ?_
      refine lv_lstore_n (lv' := [(2, .long (v2 + (σ.2 4 ((((11 : Int32) * v1) + v4)).toNatClampNeg))), (0, .ref (aD G 0)), (1, .int v1), (4, .int v4)]) C0.1 C0.2.1 dX9_sumOf_26 rfl hl (by decide) rfl (fun ls hl => ?_)
      refine lv_iinc (v := (v4 + 1)) (lv' := [(4, .int (v4 + 1)), (2, .long (v2 + (σ.2 4 ((((11 : Int32) * v1) + v4)).toNatClampNeg))), (0, .ref (aD G 0)), (1, .int v1)]) C0.1 C0.2.1 dX9_sumOf_27 hl (k := 3) rfl rfl (by decide) rfl (fun ls hl => ?_)
      refine lv_goto (tgt := 5) C0.1 C0.2.1 dX9_sumOf_30 (by decide) ?_
      exact hr5 (v2 + (σ.2 4 ((((11 : Int32) * v1) + v4)).toNatClampNeg)) (v4 + 1) h _ _ _ hW (lv_sub hl [2, 3, 1, 0] rfl)
set_option maxHeartbeats 4000000 in
set_option maxRecDepth 100000 in
theorem wX9_sumOf (C0 : Cx p s m args meth c cX9_sumOf RX9 5 (some .long) wsX9_sumOf) (G0 : Gx G s) (hJ : gJ 13 G) (z : Nat) (σ : ST) (v1 : Int32) (res : Int64) (h : fX9_sumOf z σ v1 = some res)  {H : Heap} {locs : List Loc} {ls : Array Slot} (hW : Wd cellM 13 G s.heap σ H locs) (hl : lv_has ls 5 [(0, .ref (aD G 0)), (1, .int v1)]) : W p l e rX9_sumOf s m args below meth c H locs 0 0 (MQ below (XQl cellM 13 G res σ) args s 0 0 (gA 13 G)) (F0 m 0 ls []) := by
  unfold fX9_sumOf at h
  refine lv_lconst (v := (0 : Int64)) C0.1 C0.2.1 dX9_sumOf_0 (by decide) ?_
  refine lv_lstore_n (lv' := [(2, .long (0 : Int64)), (0, .ref (aD G 0)), (1, .int v1)]) C0.1 C0.2.1 dX9_sumOf_1 rfl hl (by decide) rfl (fun ls hl => ?_)
  refine lv_iconst (v := (0 : Int32)) C0.1 C0.2.1 dX9_sumOf_2 (by decide) ?_
  refine lv_istore (lv' := [(4, .int (0 : Int32)), (2, .long (0 : Int64)), (0, .ref (aD G 0)), (1, .int v1)]) C0.1 C0.2.1 dX9_sumOf_3 hl (by decide) rfl (fun ls hl => ?_)
  exact wX9_sumOf_5 C0 G0 hJ z σ v1 z (0 : Int64) (0 : Int32) _ h hW (lv_sub hl [2, 3, 1, 0] rfl)
theorem cX9_sumOf_met (l : Launch) {G : GT} (hJ : gJ 13 G) (z : Nat) (σ : ST) (v1 : Int32) (res : Int64) (h : fX9_sumOf z σ v1 = some res) : Met l yX9_sumOf wsX9_sumOf rX9_sumOf (XPc cellM 13 G σ [.ref (aD G 0), .int v1]) (XQl cellM 13 G res σ) 0 0 (gA 13 G) :=
  x_met (ret := (some .long)) (maxL := 5) (by decide) rfl (Nat.le_of_ble_eq_true rfl) (fun p e s m args below meth c H locs ls C0 G0 hW hl => wX9_sumOf C0 G0 hJ z σ v1 res h hW hl)
end
/-! X9_allTimes -/
def rX9_allTimes : Room := { frames := 1, cells := 0, slots := 0, locals := 24 }
theorem hdvX9_allTimes : yX9_allTimes.cls = RX9 ∧ yX9_allTimes.cls ≠ "java/lang/invoke/MethodHandle" ∧ yX9_allTimes.cls ≠ "java/lang/invoke/VarHandle" ∧ (parseMethodDescriptor yX9_allTimes.desc).map (fun d => d.parameters.length) = some 2 := by decide +kernel
def fX9_allTimes_9 (z : Nat) (σ : ST) (v1 : Int32) (v2 : Int32) : Nat → Int64 → Int32 → Option Int64
  | 0 => fun _ _ => none
  | n + 1 => fun v3 v5 => (if v1 ≤ v5 then some v3 else (fX9_allTimes_9 z σ v1 v2 n) (v3 * ((v2).toInt64)) (v5 + 1))
def fX9_allTimes (z : Nat) (σ : ST) (v1 : Int32) (v2 : Int32) : Option Int64 := bd (fX9_sumOf z σ (0 : Int32)) (fun u21 => fX9_allTimes_9 z σ v1 v2 z u21 (0 : Int32))
section
variable {p : Program} {l : Launch} {e : Env} {s : State} {m : MethodId} {args : Array Value} {below : List Frame} {meth : Method} {c : Code} {G : GT}
set_option maxHeartbeats 4000000 in
set_option maxRecDepth 100000 in
theorem wX9_allTimes_9 (C0 : Cx p s m args meth c cX9_allTimes RX9 6 (some .long) wsX9_allTimes) (G0 : Gx G s) (hJ : gJ 13 G) (z : Nat) (σ : ST) (v1 : Int32) (v2 : Int32) (n : Nat) (v3 : Int64) (v5 : Int32) (res : Int64) (h : fX9_allTimes_9 z σ v1 v2 n v3 v5 = some res)  {H : Heap} {locs : List Loc} {ls : Array Slot} (hW : Wd cellM 13 G s.heap σ H locs) (hl : lv_has ls 6 [(1, .int v1), (2, .int v2), (3, .long v3), (5, .int v5)]) : W p l e rX9_allTimes s m args below meth c H locs 0 0 (MQ below (XQl cellM 13 G res σ) args s 0 0 (gA 13 G)) (F0 m 9 ls []) := by
  induction n generalizing v3 v5 H locs ls with
  | zero => cases h
  | succ n ih =>
    have hr9 : ∀ (v3 : Int64) (v5 : Int32), fX9_allTimes_9 z σ v1 v2 n v3 v5 = some res → ∀ (H : Heap) (locs : List Loc) (ls : Array Slot), Wd cellM 13 G s.heap σ H locs → lv_has ls 6 [(1, .int v1), (2, .int v2), (3, .long v3), (5, .int v5)] → W p l e rX9_allTimes s m args below meth c H locs 0 0 (MQ below (XQl cellM 13 G res σ) args s 0 0 (gA 13 G)) (F0 m 9 ls []) := fun v3 v5 h H locs ls hW hl => ih v3 v5 h hW hl
    clear ih
    unfold fX9_allTimes_9 at h
    refine lv_iload C0.1 C0.2.1 dX9_allTimes_9 (lv_at hl 3 rfl) ?_
    refine lv_iload_n C0.1 C0.2.1 dX9_allTimes_11 rfl (lv_at hl 0 rfl) ?_
    refine lv_icmp_ge (tgt := 26) C0.1 C0.2.1 dX9_allTimes_12 (by decide) (fun c22 => ?_) (fun c22 => ?_)
    · rw [if_pos c22] at h
      refine lv_lload_n C0.1 C0.2.1 dX9_allTimes_26 rfl (lv_at hl 2 rfl) ?_
      cases h
      exact x_lret C0 hW dX9_allTimes_27
    · rw [if_neg c22] at h
      refine lv_lload_n C0.1 C0.2.1 dX9_allTimes_15 rfl (lv_at hl 2 rfl) ?_
      refine lv_iload_n C0.1 C0.2.1 dX9_allTimes_16 rfl (lv_at hl 1 rfl) ?_
      refine lv_i2l (v := ((v2).toInt64)) C0.1 C0.2.1 dX9_allTimes_17 rfl ?_
      refine lv_lmul C0.1 C0.2.1 dX9_allTimes_18 ?_
      refine lv_lstore_n (lv' := [(3, .long (v3 * ((v2).toInt64))), (1, .int v1), (2, .int v2), (5, .int v5)]) C0.1 C0.2.1 dX9_allTimes_19 rfl hl (by decide) rfl (fun ls hl => ?_)
      refine lv_iinc (v := (v5 + 1)) (lv' := [(5, .int (v5 + 1)), (3, .long (v3 * ((v2).toInt64))), (1, .int v1), (2, .int v2)]) C0.1 C0.2.1 dX9_allTimes_20 hl (k := 3) rfl rfl (by decide) rfl (fun ls hl => ?_)
      refine lv_goto (tgt := 9) C0.1 C0.2.1 dX9_allTimes_23 (by decide) ?_
      exact hr9 (v3 * ((v2).toInt64)) (v5 + 1) h _ _ _ hW (lv_sub hl [2, 3, 1, 0] rfl)
set_option maxHeartbeats 4000000 in
set_option maxRecDepth 100000 in
theorem wX9_allTimes (C0 : Cx p s m args meth c cX9_allTimes RX9 6 (some .long) wsX9_allTimes) (G0 : Gx G s) (hJ : gJ 13 G) (z : Nat) (σ : ST) (v1 : Int32) (v2 : Int32) (res : Int64) (h : fX9_allTimes z σ v1 v2 = some res)  {H : Heap} {locs : List Loc} {ls : Array Slot} (hW : Wd cellM 13 G s.heap σ H locs) (hl : lv_has ls 6 [(0, .ref (aD G 0)), (1, .int v1), (2, .int v2)]) : W p l e rX9_allTimes s m args below meth c H locs 0 0 (MQ below (XQl cellM 13 G res σ) args s 0 0 (gA 13 G)) (F0 m 0 ls []) := by
  unfold fX9_allTimes at h
  refine lv_aload_n C0.1 C0.2.1 dX9_allTimes_0 rfl (lv_at hl 0 rfl) ?_
  refine lv_iconst (v := (0 : Int32)) C0.1 C0.2.1 dX9_allTimes_1 (by decide) ?_
  obtain ⟨u21, hu21, h⟩ := bd_some h
  refine x_kl (r := u21) (x_runV (As := [.int (0 : Int32)]) (rest := []) C0 G0 hW (cX9_sumOf_met l hJ z σ (0 : Int32) _ hu21) (cwV 1 C0.2.2.2.1 gX9_allTimes_X9_sumOf rfl rfl rfl hdvX9_sumOf ⟨Nat.le_of_ble_eq_true rfl, Nat.le_of_ble_eq_true rfl⟩) cM_0 (by decide) rfl rfl rfl hl (Nat.le_of_ble_eq_true rfl) dX9_allTimes_2 ⟨Nat.le_refl 0, Nat.le_refl 0⟩) hW (fun H locs hW => ?_)
  refine lv_lstore_n (lv' := [(3, .long u21), (0, .ref (aD G 0)), (1, .int v1), (2, .int v2)]) C0.1 C0.2.1 dX9_allTimes_5 rfl hl (by decide) rfl (fun ls hl => ?_)
  refine lv_iconst (v := (0 : Int32)) C0.1 C0.2.1 dX9_allTimes_6 (by decide) ?_
  refine lv_istore (lv' := [(5, .int (0 : Int32)), (3, .long u21), (0, .ref (aD G 0)), (1, .int v1), (2, .int v2)]) C0.1 C0.2.1 dX9_allTimes_7 hl (by decide) rfl (fun ls hl => ?_)
  exact wX9_allTimes_9 C0 G0 hJ z σ v1 v2 z u21 (0 : Int32) _ h hW (lv_sub hl [3, 4, 1, 0] rfl)
theorem cX9_allTimes_met (l : Launch) {G : GT} (hJ : gJ 13 G) (z : Nat) (σ : ST) (v1 : Int32) (v2 : Int32) (res : Int64) (h : fX9_allTimes z σ v1 v2 = some res) : Met l yX9_allTimes wsX9_allTimes rX9_allTimes (XPc cellM 13 G σ [.ref (aD G 0), .int v1, .int v2]) (XQl cellM 13 G res σ) 0 0 (gA 13 G) :=
  x_met (ret := (some .long)) (maxL := 6) (by decide) rfl (Nat.le_of_ble_eq_true rfl) (fun p e s m args below meth c H locs ls C0 G0 hW hl => wX9_allTimes C0 G0 hJ z σ v1 v2 res h hW hl)
end
/-! X9_canLook -/
def rX9_canLook : Room := { frames := 1, cells := 0, slots := 0, locals := 24 }
theorem hdvX9_canLook : yX9_canLook.cls = RX9 ∧ yX9_canLook.cls ≠ "java/lang/invoke/MethodHandle" ∧ yX9_canLook.cls ≠ "java/lang/invoke/VarHandle" ∧ (parseMethodDescriptor yX9_canLook.desc).map (fun d => d.parameters.length) = some 1 := by decide +kernel
theorem inX9_canLook_X9 : ∀ w ∈ u_ws RX9 TX9 29, w ∈ wsX9_canLook := by decide +kernel
theorem lkX9_canLook_23 : Cond.fieldLink RX9 23 (TX9 15).1 (TX9 15).2.1 (TX9 15).2.2.1 ∈ wsX9_canLook := by decide +kernel
theorem lkX9_canLook_48 : Cond.fieldLink RX9 48 (TX9 5).1 (TX9 5).2.1 (TX9 5).2.2.1 ∈ wsX9_canLook := by decide +kernel
def fX9_canLook_30 (z : Nat) (σ : ST) (t0 : Int32) : Option Int32 := gd (zok t0) ( some t0)
def fX9_canLook_29 (z : Nat) (σ : ST) : Option Int32 := fX9_canLook_30 z σ (0 : Int32)
def fX9_canLook (z : Nat) (σ : ST) (v1 : Int32) : Option Int32 := bd (fX9_sumOf z σ (0 : Int32)) (fun u21 => (if u21 ≤ (0 : Int64) then fX9_canLook_29 z σ else gd (inb (1 : Int32) 9) ( (if (σ.1 0 5) < ((σ.1 5 ((1 : Int32)).toNatClampNeg) + v1) then fX9_canLook_29 z σ else fX9_canLook_30 z σ (1 : Int32)))))
section
variable {p : Program} {l : Launch} {e : Env} {s : State} {m : MethodId} {args : Array Value} {below : List Frame} {meth : Method} {c : Code} {G : GT}
set_option maxHeartbeats 4000000 in
set_option maxRecDepth 100000 in
theorem wX9_canLook_30 (C0 : Cx p s m args meth c cX9_canLook RX9 2 (some .boolean) wsX9_canLook) (G0 : Gx G s) (hJ : gJ 13 G) (z : Nat) (σ : ST) (t0 : Int32) (res : Int32) (h : fX9_canLook_30 z σ t0 = some res)  {H : Heap} {locs : List Loc} {ls : Array Slot} (hW : Wd cellM 13 G s.heap σ H locs) (hl : lv_has ls 2 []) : W p l e rX9_canLook s m args below meth c H locs 0 0 (MQ below (XQi cellM 13 G res σ) args s 0 0 (gA 13 G)) (F0 m 30 ls [.int t0]) := by
  unfold fX9_canLook_30 at h
  obtain ⟨g25, h⟩ := gd_some h
  cases h
  exact x_zret C0 hW g25 dX9_canLook_30
set_option maxHeartbeats 4000000 in
set_option maxRecDepth 100000 in
theorem wX9_canLook_29 (C0 : Cx p s m args meth c cX9_canLook RX9 2 (some .boolean) wsX9_canLook) (G0 : Gx G s) (hJ : gJ 13 G) (z : Nat) (σ : ST) (res : Int32) (h : fX9_canLook_29 z σ = some res)  {H : Heap} {locs : List Loc} {ls : Array Slot} (hW : Wd cellM 13 G s.heap σ H locs) (hl : lv_has ls 2 []) : W p l e rX9_canLook s m args below meth c H locs 0 0 (MQ below (XQi cellM 13 G res σ) args s 0 0 (gA 13 G)) (F0 m 29 ls []) := by
  unfold fX9_canLook_29 at h
  refine lv_iconst (v := (0 : Int32)) C0.1 C0.2.1 dX9_canLook_29 (by decide) ?_
  exact wX9_canLook_30 C0 G0 hJ z σ (0 : Int32) _ h hW (lv_sub hl [] rfl)
set_option maxHeartbeats 4000000 in
set_option maxRecDepth 100000 in
theorem wX9_canLook (C0 : Cx p s m args meth c cX9_canLook RX9 2 (some .boolean) wsX9_canLook) (G0 : Gx G s) (hJ : gJ 13 G) (z : Nat) (σ : ST) (v1 : Int32) (res : Int32) (h : fX9_canLook z σ v1 = some res)  {H : Heap} {locs : List Loc} {ls : Array Slot} (hW : Wd cellM 13 G s.heap σ H locs) (hl : lv_has ls 2 [(0, .ref (aD G 0)), (1, .int v1)]) : W p l e rX9_canLook s m args below meth c H locs 0 0 (MQ below (XQi cellM 13 G res σ) args s 0 0 (gA 13 G)) (F0 m 0 ls []) := by
  unfold fX9_canLook at h
  refine lv_aload_n C0.1 C0.2.1 dX9_canLook_0 rfl (lv_at hl 0 rfl) ?_
  refine lv_iconst (v := (0 : Int32)) C0.1 C0.2.1 dX9_canLook_1 (by decide) ?_
  obtain ⟨u21, hu21, h⟩ := bd_some h
  refine x_kl (r := u21) (x_runV (As := [.int (0 : Int32)]) (rest := []) C0 G0 hW (cX9_sumOf_met l hJ z σ (0 : Int32) _ hu21) (cwV 1 C0.2.2.2.1 gX9_canLook_X9_sumOf rfl rfl rfl hdvX9_sumOf ⟨Nat.le_of_ble_eq_true rfl, Nat.le_of_ble_eq_true rfl⟩) cM_0 (by decide) rfl rfl rfl hl (Nat.le_of_ble_eq_true rfl) dX9_canLook_2 ⟨Nat.le_refl 0, Nat.le_refl 0⟩) hW (fun H locs hW => ?_)
  refine lv_lconst (v := (0 : Int64)) C0.1 C0.2.1 dX9_canLook_5 (by decide) ?_
  refine x_lc_le (tgt := 29) C0 dX9_canLook_6 dX9_canLook_7 (by decide) (fun c22 => ?_) (fun c22 => ?_)
  · rw [if_pos c22] at h
    exact wX9_canLook_29 C0 G0 hJ z σ _ h hW (lv_sub hl [] rfl)
  · rw [if_neg c22] at h
    refine lv_aload_n C0.1 C0.2.1 dX9_canLook_10 rfl (lv_at hl 0 rfl) ?_
    refine x_get (v := .ref (aD G 5)) C0 G0 hW cM_0 (by decide) rfl 15 (by decide) inX9_canLook_X9 lkX9_canLook_23 rfl dX9_canLook_11 ?_
    refine lv_iconst (v := (1 : Int32)) C0.1 C0.2.1 dX9_canLook_14 (by decide) ?_
    obtain ⟨g23, h⟩ := gd_some h
    refine x_iald C0 G0 hW cM_5 (by decide) g23 dX9_canLook_15 ?_
    refine lv_iload_n C0.1 C0.2.1 dX9_canLook_16 rfl (lv_at hl 1 rfl) ?_
    refine lv_iadd C0.1 C0.2.1 dX9_canLook_17 ?_
    refine lv_aload_n C0.1 C0.2.1 dX9_canLook_18 rfl (lv_at hl 0 rfl) ?_
    refine x_get (v := .int (σ.1 0 5)) C0 G0 hW cM_0 (by decide) rfl 5 (by decide) inX9_canLook_X9 lkX9_canLook_48 rfl dX9_canLook_19 ?_
    refine lv_icmp_gt (tgt := 29) C0.1 C0.2.1 dX9_canLook_22 (by decide) (fun c24 => ?_) (fun c24 => ?_)
    · rw [if_pos c24] at h
      exact wX9_canLook_29 C0 G0 hJ z σ _ h hW (lv_sub hl [] rfl)
    · rw [if_neg c24] at h
      refine lv_iconst (v := (1 : Int32)) C0.1 C0.2.1 dX9_canLook_25 (by decide) ?_
      refine lv_goto (tgt := 30) C0.1 C0.2.1 dX9_canLook_26 (by decide) ?_
      exact wX9_canLook_30 C0 G0 hJ z σ (1 : Int32) _ h hW (lv_sub hl [] rfl)
theorem cX9_canLook_met (l : Launch) {G : GT} (hJ : gJ 13 G) (z : Nat) (σ : ST) (v1 : Int32) (res : Int32) (h : fX9_canLook z σ v1 = some res) : Met l yX9_canLook wsX9_canLook rX9_canLook (XPc cellM 13 G σ [.ref (aD G 0), .int v1]) (XQi cellM 13 G res σ) 0 0 (gA 13 G) :=
  x_met (ret := (some .boolean)) (maxL := 2) (by decide) rfl (Nat.le_of_ble_eq_true rfl) (fun p e s m args below meth c H locs ls C0 G0 hW hl => wX9_canLook C0 G0 hJ z σ v1 res h hW hl)
end
/-! X9_tenTo -/
def rX9_tenTo : Room := { frames := 0, cells := 0, slots := 0, locals := 0 }
theorem hdsX9_tenTo : yX9_tenTo.cls ≠ "java/lang/invoke/MethodHandle" ∧ yX9_tenTo.cls ≠ "java/lang/invoke/VarHandle" ∧ (parseMethodDescriptor yX9_tenTo.desc).map (fun d => d.parameters.length) = some 1 := by decide +kernel
def fX9_tenTo_4 (z : Nat) (v0 : Int32) : Nat → Int32 → Int32 → Option Int32
  | 0 => fun _ _ => none
  | n + 1 => fun v1 v2 => (if v0 ≤ v2 then some v1 else (fX9_tenTo_4 z v0 n) (v1 * (10 : Int32)) (v2 + 1))
def fX9_tenTo (z : Nat) (v0 : Int32) : Option Int32 := fX9_tenTo_4 z v0 z (1 : Int32) (0 : Int32)
section
variable {p : Program} {l : Launch} {e : Env} {s : State} {m : MethodId} {args : Array Value} {below : List Frame} {meth : Method} {c : Code} {G : GT}
set_option maxHeartbeats 4000000 in
set_option maxRecDepth 100000 in
theorem wX9_tenTo_4 (C0 : Cx p s m args meth c cX9_tenTo RX9 3 (some .int) wsX9_tenTo) {σ : ST} (G0 : Gx G s) (hJ : gJ 13 G) (z : Nat) (v0 : Int32) (n : Nat) (v1 : Int32) (v2 : Int32) (res : Int32) (h : fX9_tenTo_4 z v0 n v1 v2 = some res)  {H : Heap} {locs : List Loc} {ls : Array Slot} (hW : Wd cellM 13 G s.heap σ H locs) (hl : lv_has ls 3 [(0, .int v0), (1, .int v1), (2, .int v2)]) : W p l e rX9_tenTo s m args below meth c H locs 0 0 (MQ below (XQi cellM 13 G res σ) args s 0 0 (gA 13 G)) (F0 m 4 ls []) := by
  induction n generalizing v1 v2 H locs ls with
  | zero => cases h
  | succ n ih =>
    have hr4 : ∀ (v1 : Int32) (v2 : Int32), fX9_tenTo_4 z v0 n v1 v2 = some res → ∀ (H : Heap) (locs : List Loc) (ls : Array Slot), Wd cellM 13 G s.heap σ H locs → lv_has ls 3 [(0, .int v0), (1, .int v1), (2, .int v2)] → W p l e rX9_tenTo s m args below meth c H locs 0 0 (MQ below (XQi cellM 13 G res σ) args s 0 0 (gA 13 G)) (F0 m 4 ls []) := fun v1 v2 h H locs ls hW hl => ih v1 v2 h hW hl
    clear ih
    unfold fX9_tenTo_4 at h
    refine lv_iload_n C0.1 C0.2.1 dX9_tenTo_4 rfl (lv_at hl 2 rfl) ?_
    refine lv_iload_n C0.1 C0.2.1 dX9_tenTo_5 rfl (lv_at hl 0 rfl) ?_
    refine lv_icmp_ge (tgt := 20) C0.1 C0.2.1 dX9_tenTo_6 (by decide) (fun c21 => ?_) (fun c21 => ?_)
    · rw [if_pos c21] at h
      refine lv_iload_n C0.1 C0.2.1 dX9_tenTo_20 rfl (lv_at hl 1 rfl) ?_
      cases h
      exact x_iret C0 hW dX9_tenTo_21
    · rw [if_neg c21] at h
      refine lv_iload_n C0.1 C0.2.1 dX9_tenTo_9 rfl (lv_at hl 1 rfl) ?_
      refine lv_bipush (v := (10 : Int32)) C0.1 C0.2.1 dX9_tenTo_10 (by decide) ?_
      refine lv_imul C0.1 C0.2.1 dX9_tenTo_12 ?_
      refine lv_istore_n (lv' := [(1, .int (v1 * (10 : Int32))), (0, .int v0), (2, .int v2)]) C0.1 C0.2.1 dX9_tenTo_13 rfl hl (by decide) rfl (fun ls hl => ?_)
      refine lv_iinc (v := (v2 + 1)) (lv' := [(2, .int (v2 + 1)), (1, .int (v1 * (10 : Int32))), (0, .int v0)]) C0.1 C0.2.1 dX9_tenTo_14 hl (k := 2) rfl rfl (by decide) rfl (fun ls hl => ?_)
      refine lv_goto (tgt := 4) C0.1 C0.2.1 dX9_tenTo_17 (by decide) ?_
      exact hr4 (v1 * (10 : Int32)) (v2 + 1) h _ _ _ hW (lv_sub hl [2, 1, 0] rfl)
set_option maxHeartbeats 4000000 in
set_option maxRecDepth 100000 in
theorem wX9_tenTo (C0 : Cx p s m args meth c cX9_tenTo RX9 3 (some .int) wsX9_tenTo) {σ : ST} (G0 : Gx G s) (hJ : gJ 13 G) (z : Nat) (v0 : Int32) (res : Int32) (h : fX9_tenTo z v0 = some res)  {H : Heap} {locs : List Loc} {ls : Array Slot} (hW : Wd cellM 13 G s.heap σ H locs) (hl : lv_has ls 3 [(0, .int v0)]) : W p l e rX9_tenTo s m args below meth c H locs 0 0 (MQ below (XQi cellM 13 G res σ) args s 0 0 (gA 13 G)) (F0 m 0 ls []) := by
  unfold fX9_tenTo at h
  refine lv_iconst (v := (1 : Int32)) C0.1 C0.2.1 dX9_tenTo_0 (by decide) ?_
  refine lv_istore_n (lv' := [(1, .int (1 : Int32)), (0, .int v0)]) C0.1 C0.2.1 dX9_tenTo_1 rfl hl (by decide) rfl (fun ls hl => ?_)
  refine lv_iconst (v := (0 : Int32)) C0.1 C0.2.1 dX9_tenTo_2 (by decide) ?_
  refine lv_istore_n (lv' := [(2, .int (0 : Int32)), (1, .int (1 : Int32)), (0, .int v0)]) C0.1 C0.2.1 dX9_tenTo_3 rfl hl (by decide) rfl (fun ls hl => ?_)
  exact wX9_tenTo_4 C0 G0 hJ z v0 z (1 : Int32) (0 : Int32) _ h hW (lv_sub hl [2, 1, 0] rfl)
theorem cX9_tenTo_met (l : Launch) {G : GT} (hJ : gJ 13 G) (z : Nat) (σ : ST) (v0 : Int32) (res : Int32) (h : fX9_tenTo z v0 = some res) : Met l yX9_tenTo wsX9_tenTo rX9_tenTo (XPc cellM 13 G σ [.int v0]) (XQi cellM 13 G res σ) 0 0 (gA 13 G) :=
  x_met (ret := (some .int)) (maxL := 3) (by decide) rfl (Nat.le_of_ble_eq_true rfl) (fun p e s m args below meth c H locs ls C0 G0 hW hl => wX9_tenTo C0 G0 hJ z v0 res h hW hl)
end
/-! X9_isRow -/
def rX9_isRow : Room := { frames := 1, cells := 0, slots := 0, locals := 25 }
theorem hdsX9_isRow : yX9_isRow.cls ≠ "java/lang/invoke/MethodHandle" ∧ yX9_isRow.cls ≠ "java/lang/invoke/VarHandle" ∧ (parseMethodDescriptor yX9_isRow.desc).map (fun d => d.parameters.length) = some 2 := by decide +kernel
theorem kcX9_isRow_161 : Cond.constantLong RX9 161 (4 : Int64) ∈ wsX9_isRow := by decide +kernel
def fX9_isRow_70 (z : Nat) (v2 : Int32) : Option Int32 := gd (zok v2) ( some v2)
def fX9_isRow_63 (z : Nat) (r36 : Int32 → Int32 → Option Int32) (v0 : Int32) (v1 : Int32) (v3 : Int32) (t0 : Int32) : Option Int32 := r36 t0 (v3 + 1)
def fX9_isRow_36 (z : Nat) (v0 : Int32) (v1 : Int32) : Nat → Int32 → Int32 → Option Int32
  | 0 => fun _ _ => none
  | n + 1 => fun v2 v3 => (if v0 ≤ v3 then fX9_isRow_70 z v2 else (if v2 = 0 then fX9_isRow_70 z v2 else bd (fX9_tenTo z v3) (fun u28 => gd (nz u28) ( gd (nz (10 : Int32)) ( (if (4 : Int32) ≤ ((v1 / u28) - (v1 / u28) / (10 : Int32) * (10 : Int32)) then fX9_isRow_63 z (fX9_isRow_36 z v0 v1 n) v0 v1 v3 (0 : Int32) else fX9_isRow_63 z (fX9_isRow_36 z v0 v1 n) v0 v1 v3 (1 : Int32)))))))
def fX9_isRow_33 (z : Nat) (v0 : Int32) (v1 : Int32) (t0 : Int32) : Option Int32 := fX9_isRow_36 z v0 v1 z t0 (0 : Int32)
def fX9_isRow_32 (z : Nat) (v0 : Int32) (v1 : Int32) : Option Int32 := fX9_isRow_33 z v0 v1 (0 : Int32)
def fX9_isRow (z : Nat) (v0 : Int32) (v1 : Int32) : Option Int32 := bd (fX9_in z ((v0).toInt64) (1 : Int64) (4 : Int64)) (fun u21 => (if u21 = 0 then fX9_isRow_32 z v0 v1 else bd (fX9_tenTo z v0) (fun u23 => bd (fX9_in z ((v1).toInt64) (0 : Int64) (((u23 - (1 : Int32))).toInt64)) (fun u24 => (if u24 = 0 then fX9_isRow_32 z v0 v1 else fX9_isRow_33 z v0 v1 (1 : Int32))))))
section
variable {p : Program} {l : Launch} {e : Env} {s : State} {m : MethodId} {args : Array Value} {below : List Frame} {meth : Method} {c : Code} {G : GT}
set_option maxHeartbeats 4000000 in
set_option maxRecDepth 100000 in
theorem wX9_isRow_70 (C0 : Cx p s m args meth c cX9_isRow RX9 4 (some .boolean) wsX9_isRow) {σ : ST} (G0 : Gx G s) (hJ : gJ 13 G) (z : Nat) (v2 : Int32) (res : Int32) (h : fX9_isRow_70 z v2 = some res)  {H : Heap} {locs : List Loc} {ls : Array Slot} (hW : Wd cellM 13 G s.heap σ H locs) (hl : lv_has ls 4 [(2, .int v2)]) : W p l e rX9_isRow s m args below meth c H locs 0 0 (MQ below (XQi cellM 13 G res σ) args s 0 0 (gA 13 G)) (F0 m 70 ls []) := by
  unfold fX9_isRow_70 at h
  refine lv_iload_n C0.1 C0.2.1 dX9_isRow_70 rfl (lv_at hl 0 rfl) ?_
  obtain ⟨g32, h⟩ := gd_some h
  cases h
  exact x_zret C0 hW g32 dX9_isRow_71
set_option maxHeartbeats 4000000 in
set_option maxRecDepth 100000 in
theorem wX9_isRow_63 (C0 : Cx p s m args meth c cX9_isRow RX9 4 (some .boolean) wsX9_isRow) {σ : ST} (G0 : Gx G s) (hJ : gJ 13 G) (z : Nat) (r36 : Int32 → Int32 → Option Int32) (v0 : Int32) (v1 : Int32) (v3 : Int32) (t0 : Int32) (res : Int32) (h : fX9_isRow_63 z r36 v0 v1 v3 t0 = some res) (hr36 : ∀ (v2 : Int32) (v3 : Int32), r36 v2 v3 = some res → ∀ (H : Heap) (locs : List Loc) (ls : Array Slot), Wd cellM 13 G s.heap σ H locs → lv_has ls 4 [(0, .int v0), (1, .int v1), (2, .int v2), (3, .int v3)] → W p l e rX9_isRow s m args below meth c H locs 0 0 (MQ below (XQi cellM 13 G res σ) args s 0 0 (gA 13 G)) (F0 m 36 ls [])) {H : Heap} {locs : List Loc} {ls : Array Slot} (hW : Wd cellM 13 G s.heap σ H locs) (hl : lv_has ls 4 [(0, .int v0), (1, .int v1), (3, .int v3)]) : W p l e rX9_isRow s m args below meth c H locs 0 0 (MQ below (XQi cellM 13 G res σ) args s 0 0 (gA 13 G)) (F0 m 63 ls [.int t0]) := by
  unfold fX9_isRow_63 at h
  refine lv_istore_n (lv' := [(2, .int t0), (0, .int v0), (1, .int v1), (3, .int v3)]) C0.1 C0.2.1 dX9_isRow_63 rfl hl (by decide) rfl (fun ls hl => ?_)
  refine lv_iinc (v := (v3 + 1)) (lv' := [(3, .int (v3 + 1)), (2, .int t0), (0, .int v0), (1, .int v1)]) C0.1 C0.2.1 dX9_isRow_64 hl (k := 3) rfl rfl (by decide) rfl (fun ls hl => ?_)
  refine lv_goto (tgt := 36) C0.1 C0.2.1 dX9_isRow_67 (by decide) ?_
  exact hr36 t0 (v3 + 1) h _ _ _ hW (lv_sub hl [2, 3, 1, 0] rfl)
set_option maxHeartbeats 4000000 in
set_option maxRecDepth 100000 in
theorem wX9_isRow_36 (C0 : Cx p s m args meth c cX9_isRow RX9 4 (some .boolean) wsX9_isRow) {σ : ST} (G0 : Gx G s) (hJ : gJ 13 G) (z : Nat) (v0 : Int32) (v1 : Int32) (n : Nat) (v2 : Int32) (v3 : Int32) (res : Int32) (h : fX9_isRow_36 z v0 v1 n v2 v3 = some res)  {H : Heap} {locs : List Loc} {ls : Array Slot} (hW : Wd cellM 13 G s.heap σ H locs) (hl : lv_has ls 4 [(0, .int v0), (1, .int v1), (2, .int v2), (3, .int v3)]) : W p l e rX9_isRow s m args below meth c H locs 0 0 (MQ below (XQi cellM 13 G res σ) args s 0 0 (gA 13 G)) (F0 m 36 ls []) := by
  induction n generalizing v2 v3 H locs ls with
  | zero => cases h
  | succ n ih =>
    have hr36 : ∀ (v2 : Int32) (v3 : Int32), fX9_isRow_36 z v0 v1 n v2 v3 = some res → ∀ (H : Heap) (locs : List Loc) (ls : Array Slot), Wd cellM 13 G s.heap σ H locs → lv_has ls 4 [(0, .int v0), (1, .int v1), (2, .int v2), (3, .int v3)] → W p l e rX9_isRow s m args below meth c H locs 0 0 (MQ below (XQi cellM 13 G res σ) args s 0 0 (gA 13 G)) (F0 m 36 ls []) := fun v2 v3 h H locs ls hW hl => ih v2 v3 h hW hl
    clear ih
    unfold fX9_isRow_36 at h
    refine lv_iload_n C0.1 C0.2.1 dX9_isRow_36 rfl (lv_at hl 3 rfl) ?_
    refine lv_iload_n C0.1 C0.2.1 dX9_isRow_37 rfl (lv_at hl 0 rfl) ?_
    refine lv_icmp_ge (tgt := 70) C0.1 C0.2.1 dX9_isRow_38 (by decide) (fun c26 => ?_) (fun c26 => ?_)
    · rw [if_pos c26] at h
      exact wX9_isRow_70 C0 G0 hJ z v2 _ h hW (lv_sub hl [2] rfl)
    · rw [if_neg c26] at h
      refine lv_iload_n C0.1 C0.2.1 dX9_isRow_41 rfl (lv_at hl 2 rfl) ?_
      refine lv_if_eq (tgt := 70) C0.1 C0.2.1 dX9_isRow_42 (by decide) (fun c27 => ?_) (fun c27 => ?_)
      · rw [if_pos c27] at h
        exact wX9_isRow_70 C0 G0 hJ z v2 _ h hW (lv_sub hl [2] rfl)
      · rw [if_neg c27] at h
        refine lv_iload_n C0.1 C0.2.1 dX9_isRow_45 rfl (lv_at hl 1 rfl) ?_
        refine lv_iload_n C0.1 C0.2.1 dX9_isRow_46 rfl (lv_at hl 3 rfl) ?_
        obtain ⟨u28, hu28, h⟩ := bd_some h
        refine x_ki (r := u28) (x_runS (As := [.int v3]) (rest := [.int v1]) C0 G0 hW (cX9_tenTo_met l hJ z σ v3 _ hu28) (va_cwS 1 C0.2.2.2.1 gX9_isRow_X9_tenTo rfl rfl rfl hdsX9_tenTo ⟨Nat.le_of_ble_eq_true rfl, Nat.le_of_ble_eq_true rfl⟩) rfl rfl hl (Nat.le_of_ble_eq_true rfl) dX9_isRow_47 ⟨Nat.le_refl 0, Nat.le_refl 0⟩) hW (fun H locs hW => ?_)
        obtain ⟨g29, h⟩ := gd_some h
        refine lv_idiv C0.1 C0.2.1 dX9_isRow_50 (nz_of g29) ?_
        refine lv_bipush (v := (10 : Int32)) C0.1 C0.2.1 dX9_isRow_51 (by decide) ?_
        obtain ⟨g30, h⟩ := gd_some h
        refine lv_irem C0.1 C0.2.1 dX9_isRow_53 (nz_of g30) ?_
        refine lv_iconst (v := (4 : Int32)) C0.1 C0.2.1 dX9_isRow_54 (by decide) ?_
        refine lv_icmp_ge (tgt := 62) C0.1 C0.2.1 dX9_isRow_55 (by decide) (fun c31 => ?_) (fun c31 => ?_)
        · rw [if_pos c31] at h
          refine lv_iconst (v := (0 : Int32)) C0.1 C0.2.1 dX9_isRow_62 (by decide) ?_
          exact wX9_isRow_63 C0 G0 hJ z (fX9_isRow_36 z v0 v1 n) v0 v1 v3 (0 : Int32) _ h (by exact hr36) hW (lv_sub hl [0, 1, 3] rfl)
        · rw [if_neg c31] at h
          refine lv_iconst (v := (1 : Int32)) C0.1 C0.2.1 dX9_isRow_58 (by decide) ?_
          refine lv_goto (tgt := 63) C0.1 C0.2.1 dX9_isRow_59 (by decide) ?_
          exact wX9_isRow_63 C0 G0 hJ z (fX9_isRow_36 z v0 v1 n) v0 v1 v3 (1 : Int32) _ h (by exact hr36) hW (lv_sub hl [0, 1, 3] rfl)
set_option maxHeartbeats 4000000 in
set_option maxRecDepth 100000 in
theorem wX9_isRow_33 (C0 : Cx p s m args meth c cX9_isRow RX9 4 (some .boolean) wsX9_isRow) {σ : ST} (G0 : Gx G s) (hJ : gJ 13 G) (z : Nat) (v0 : Int32) (v1 : Int32) (t0 : Int32) (res : Int32) (h : fX9_isRow_33 z v0 v1 t0 = some res)  {H : Heap} {locs : List Loc} {ls : Array Slot} (hW : Wd cellM 13 G s.heap σ H locs) (hl : lv_has ls 4 [(0, .int v0), (1, .int v1)]) : W p l e rX9_isRow s m args below meth c H locs 0 0 (MQ below (XQi cellM 13 G res σ) args s 0 0 (gA 13 G)) (F0 m 33 ls [.int t0]) := by
  unfold fX9_isRow_33 at h
  refine lv_istore_n (lv' := [(2, .int t0), (0, .int v0), (1, .int v1)]) C0.1 C0.2.1 dX9_isRow_33 rfl hl (by decide) rfl (fun ls hl => ?_)
  refine lv_iconst (v := (0 : Int32)) C0.1 C0.2.1 dX9_isRow_34 (by decide) ?_
  refine lv_istore_n (lv' := [(3, .int (0 : Int32)), (2, .int t0), (0, .int v0), (1, .int v1)]) C0.1 C0.2.1 dX9_isRow_35 rfl hl (by decide) rfl (fun ls hl => ?_)
  exact wX9_isRow_36 C0 G0 hJ z v0 v1 z t0 (0 : Int32) _ h hW (lv_sub hl [2, 3, 1, 0] rfl)
set_option maxHeartbeats 4000000 in
set_option maxRecDepth 100000 in
theorem wX9_isRow_32 (C0 : Cx p s m args meth c cX9_isRow RX9 4 (some .boolean) wsX9_isRow) {σ : ST} (G0 : Gx G s) (hJ : gJ 13 G) (z : Nat) (v0 : Int32) (v1 : Int32) (res : Int32) (h : fX9_isRow_32 z v0 v1 = some res)  {H : Heap} {locs : List Loc} {ls : Array Slot} (hW : Wd cellM 13 G s.heap σ H locs) (hl : lv_has ls 4 [(0, .int v0), (1, .int v1)]) : W p l e rX9_isRow s m args below meth c H locs 0 0 (MQ below (XQi cellM 13 G res σ) args s 0 0 (gA 13 G)) (F0 m 32 ls []) := by
  unfold fX9_isRow_32 at h
  refine lv_iconst (v := (0 : Int32)) C0.1 C0.2.1 dX9_isRow_32 (by decide) ?_
  exact wX9_isRow_33 C0 G0 hJ z v0 v1 (0 : Int32) _ h hW (lv_sub hl [0, 1] rfl)
set_option maxHeartbeats 4000000 in
set_option maxRecDepth 100000 in
theorem wX9_isRow (C0 : Cx p s m args meth c cX9_isRow RX9 4 (some .boolean) wsX9_isRow) {σ : ST} (G0 : Gx G s) (hJ : gJ 13 G) (z : Nat) (v0 : Int32) (v1 : Int32) (res : Int32) (h : fX9_isRow z v0 v1 = some res)  {H : Heap} {locs : List Loc} {ls : Array Slot} (hW : Wd cellM 13 G s.heap σ H locs) (hl : lv_has ls 4 [(0, .int v0), (1, .int v1)]) : W p l e rX9_isRow s m args below meth c H locs 0 0 (MQ below (XQi cellM 13 G res σ) args s 0 0 (gA 13 G)) (F0 m 0 ls []) := by
  unfold fX9_isRow at h
  refine lv_iload_n C0.1 C0.2.1 dX9_isRow_0 rfl (lv_at hl 0 rfl) ?_
  refine lv_i2l (v := ((v0).toInt64)) C0.1 C0.2.1 dX9_isRow_1 rfl ?_
  refine lv_lconst (v := (1 : Int64)) C0.1 C0.2.1 dX9_isRow_2 (by decide) ?_
  refine lv_ldc2 (v := (4 : Int64)) C0.1 C0.2.1 C0.2.2.2.2.1 (C0.2.2.2.1 _ kcX9_isRow_161) dX9_isRow_3 ?_
  obtain ⟨u21, hu21, h⟩ := bd_some h
  refine x_ki (r := u21) (x_runS (As := [.long ((v0).toInt64), .long (1 : Int64), .long (4 : Int64)]) (rest := []) C0 G0 hW (cX9_in_met l hJ z σ ((v0).toInt64) (1 : Int64) (4 : Int64) _ hu21) (va_cwS 3 C0.2.2.2.1 gX9_isRow_X9_in rfl rfl rfl hdsX9_in ⟨Nat.le_of_ble_eq_true rfl, Nat.le_of_ble_eq_true rfl⟩) rfl rfl hl (Nat.le_of_ble_eq_true rfl) dX9_isRow_6 ⟨Nat.le_refl 0, Nat.le_refl 0⟩) hW (fun H locs hW => ?_)
  refine lv_if_eq (tgt := 32) C0.1 C0.2.1 dX9_isRow_9 (by decide) (fun c22 => ?_) (fun c22 => ?_)
  · rw [if_pos c22] at h
    exact wX9_isRow_32 C0 G0 hJ z v0 v1 _ h hW (lv_sub hl [0, 1] rfl)
  · rw [if_neg c22] at h
    refine lv_iload_n C0.1 C0.2.1 dX9_isRow_12 rfl (lv_at hl 1 rfl) ?_
    refine lv_i2l (v := ((v1).toInt64)) C0.1 C0.2.1 dX9_isRow_13 rfl ?_
    refine lv_lconst (v := (0 : Int64)) C0.1 C0.2.1 dX9_isRow_14 (by decide) ?_
    refine lv_iload_n C0.1 C0.2.1 dX9_isRow_15 rfl (lv_at hl 0 rfl) ?_
    obtain ⟨u23, hu23, h⟩ := bd_some h
    refine x_ki (r := u23) (x_runS (As := [.int v0]) (rest := [.long (0 : Int64), .long ((v1).toInt64)]) C0 G0 hW (cX9_tenTo_met l hJ z σ v0 _ hu23) (va_cwS 1 C0.2.2.2.1 gX9_isRow_X9_tenTo rfl rfl rfl hdsX9_tenTo ⟨Nat.le_of_ble_eq_true rfl, Nat.le_of_ble_eq_true rfl⟩) rfl rfl hl (Nat.le_of_ble_eq_true rfl) dX9_isRow_16 ⟨Nat.le_refl 0, Nat.le_refl 0⟩) hW (fun H locs hW => ?_)
    refine lv_iconst (v := (1 : Int32)) C0.1 C0.2.1 dX9_isRow_19 (by decide) ?_
    refine lv_isub C0.1 C0.2.1 dX9_isRow_20 ?_
    refine lv_i2l (v := (((u23 - (1 : Int32))).toInt64)) C0.1 C0.2.1 dX9_isRow_21 rfl ?_
    obtain ⟨u24, hu24, h⟩ := bd_some h
    refine x_ki (r := u24) (x_runS (As := [.long ((v1).toInt64), .long (0 : Int64), .long (((u23 - (1 : Int32))).toInt64)]) (rest := []) C0 G0 hW (cX9_in_met l hJ z σ ((v1).toInt64) (0 : Int64) (((u23 - (1 : Int32))).toInt64) _ hu24) (va_cwS 3 C0.2.2.2.1 gX9_isRow_X9_in rfl rfl rfl hdsX9_in ⟨Nat.le_of_ble_eq_true rfl, Nat.le_of_ble_eq_true rfl⟩) rfl rfl hl (Nat.le_of_ble_eq_true rfl) dX9_isRow_22 ⟨Nat.le_refl 0, Nat.le_refl 0⟩) hW (fun H locs hW => ?_)
    refine lv_if_eq (tgt := 32) C0.1 C0.2.1 dX9_isRow_25 (by decide) (fun c25 => ?_) (fun c25 => ?_)
    · rw [if_pos c25] at h
      exact wX9_isRow_32 C0 G0 hJ z v0 v1 _ h hW (lv_sub hl [0, 1] rfl)
    · rw [if_neg c25] at h
      refine lv_iconst (v := (1 : Int32)) C0.1 C0.2.1 dX9_isRow_28 (by decide) ?_
      refine lv_goto (tgt := 33) C0.1 C0.2.1 dX9_isRow_29 (by decide) ?_
      exact wX9_isRow_33 C0 G0 hJ z v0 v1 (1 : Int32) _ h hW (lv_sub hl [0, 1] rfl)
theorem cX9_isRow_met (l : Launch) {G : GT} (hJ : gJ 13 G) (z : Nat) (σ : ST) (v0 : Int32) (v1 : Int32) (res : Int32) (h : fX9_isRow z v0 v1 = some res) : Met l yX9_isRow wsX9_isRow rX9_isRow (XPc cellM 13 G σ [.int v0, .int v1]) (XQi cellM 13 G res σ) 0 0 (gA 13 G) :=
  x_met (ret := (some .boolean)) (maxL := 4) (by decide) rfl (Nat.le_of_ble_eq_true rfl) (fun p e s m args below meth c H locs ls C0 G0 hW hl => wX9_isRow C0 G0 hJ z v0 v1 res h hW hl)
end
/-! X9_lay -/
def rX9_lay : Room := { frames := 0, cells := 0, slots := 0, locals := 0 }
theorem hdvX9_lay : yX9_lay.cls = RX9 ∧ yX9_lay.cls ≠ "java/lang/invoke/MethodHandle" ∧ yX9_lay.cls ≠ "java/lang/invoke/VarHandle" ∧ (parseMethodDescriptor yX9_lay.desc).map (fun d => d.parameters.length) = some 2 := by decide +kernel
theorem inX9_lay_X9 : ∀ w ∈ u_ws RX9 TX9 29, w ∈ wsX9_lay := by decide +kernel
theorem lkX9_lay_19 : Cond.fieldLink RX9 19 (TX9 14).1 (TX9 14).2.1 (TX9 14).2.2.1 ∈ wsX9_lay := by decide +kernel
def fX9_lay_2 (z : Nat) (v1 : Int32) (v2 : Int32) : Nat → ST → Int32 → Option ST
  | 0 => fun _ _ => none
  | n + 1 => fun σ v3 => (if (11 : Int32) ≤ v3 then some σ else gd (inb (((11 : Int32) * v1) + v3) 33) ( gd (inb (((11 : Int32) * v2) + v3) 33) ( lt (pL σ 4 ((((11 : Int32) * v2) + v3)).toNatClampNeg (σ.2 4 ((((11 : Int32) * v1) + v3)).toNatClampNeg)) (fun s24 => (fX9_lay_2 z v1 v2 n) s24 (v3 + 1)))))
def fX9_lay (z : Nat) (σ : ST) (v1 : Int32) (v2 : Int32) : Option ST := fX9_lay_2 z v1 v2 z σ (0 : Int32)
section
variable {p : Program} {l : Launch} {e : Env} {s : State} {m : MethodId} {args : Array Value} {below : List Frame} {meth : Method} {c : Code} {G : GT}
set_option maxHeartbeats 4000000 in
set_option maxRecDepth 100000 in
theorem wX9_lay_2 (C0 : Cx p s m args meth c cX9_lay RX9 4 none wsX9_lay) (G0 : Gx G s) (hJ : gJ 13 G) (z : Nat) (v1 : Int32) (v2 : Int32) (n : Nat) (σ : ST) (v3 : Int32) (res : ST) (h : fX9_lay_2 z v1 v2 n σ v3 = some res)  {H : Heap} {locs : List Loc} {ls : Array Slot} (hW : Wd cellM 13 G s.heap σ H locs) (hl : lv_has ls 4 [(0, .ref (aD G 0)), (1, .int v1), (2, .int v2), (3, .int v3)]) : W p l e rX9_lay s m args below meth c H locs 0 0 (MQ below (XQv cellM 13 G res) args s 0 0 (gA 13 G)) (F0 m 2 ls []) := by
  induction n generalizing σ v3 H locs ls with
  | zero => cases h
  | succ n ih =>
    have hr2 : ∀ (σ : ST) (v3 : Int32), fX9_lay_2 z v1 v2 n σ v3 = some res → ∀ (H : Heap) (locs : List Loc) (ls : Array Slot), Wd cellM 13 G s.heap σ H locs → lv_has ls 4 [(0, .ref (aD G 0)), (1, .int v1), (2, .int v2), (3, .int v3)] → W p l e rX9_lay s m args below meth c H locs 0 0 (MQ below (XQv cellM 13 G res) args s 0 0 (gA 13 G)) (F0 m 2 ls []) := fun σ v3 h H locs ls hW hl => ih σ v3 h hW hl
    clear ih
    unfold fX9_lay_2 at h
    refine lv_iload_n C0.1 C0.2.1 dX9_lay_2 rfl (lv_at hl 3 rfl) ?_
    refine lv_bipush (v := (11 : Int32)) C0.1 C0.2.1 dX9_lay_3 (by decide) ?_
    refine lv_icmp_ge (tgt := 36) C0.1 C0.2.1 dX9_lay_5 (by decide) (fun c21 => ?_) (fun c21 => ?_)
    · rw [if_pos c21] at h
      cases h
      exact x_vret C0 hW dX9_lay_36
    · rw [if_neg c21] at h
      refine lv_aload_n C0.1 C0.2.1 dX9_lay_8 rfl (lv_at hl 0 rfl) ?_
      refine x_get (v := .ref (aD G 4)) C0 G0 hW cM_0 (by decide) rfl 14 (by decide) inX9_lay_X9 lkX9_lay_19 rfl dX9_lay_9 ?_
      refine lv_bipush (v := (11 : Int32)) C0.1 C0.2.1 dX9_lay_12 (by decide) ?_
      refine lv_iload_n C0.1 C0.2.1 dX9_lay_14 rfl (lv_at hl 2 rfl) ?_
      refine lv_imul C0.1 C0.2.1 dX9_lay_15 ?_
      refine lv_iload_n C0.1 C0.2.1 dX9_lay_16 rfl (lv_at hl 3 rfl) ?_
      refine lv_iadd C0.1 C0.2.1 dX9_lay_17 ?_
      refine lv_aload_n C0.1 C0.2.1 dX9_lay_18 rfl (lv_at hl 0 rfl) ?_
      refine x_get (v := .ref (aD G 4)) C0 G0 hW cM_0 (by decide) rfl 14 (by decide) inX9_lay_X9 lkX9_lay_19 rfl dX9_lay_19 ?_
      refine lv_bipush (v := (11 : Int32)) C0.1 C0.2.1 dX9_lay_22 (by decide) ?_
      refine lv_iload_n C0.1 C0.2.1 dX9_lay_24 rfl (lv_at hl 1 rfl) ?_
      refine lv_imul C0.1 C0.2.1 dX9_lay_25 ?_
      refine lv_iload_n C0.1 C0.2.1 dX9_lay_26 rfl (lv_at hl 3 rfl) ?_
      refine lv_iadd C0.1 C0.2.1 dX9_lay_27 ?_
      obtain ⟨g22, h⟩ := gd_some h
      refine x_lald C0 G0 hW cM_4 (by decide) g22 dX9_lay_28 ?_
      obtain ⟨g23, h⟩ := gd_some h
      refine x_last C0 G0 hJ hW (fun f g => cM_4) (by decide) g23 dX9_lay_29 (fun H locs hW => ?_)
      obtain ⟨s24, es24, h⟩ := lt_some h
      rw [es24] at hW
      refine lv_iinc (v := (v3 + 1)) (lv' := [(3, .int (v3 + 1)), (0, .ref (aD G 0)), (1, .int v1), (2, .int v2)]) C0.1 C0.2.1 dX9_lay_30 hl (k := 3) rfl rfl (by decide) rfl (fun ls hl => ?_)
      refine lv_goto (tgt := 2) C0.1 C0.2.1 dX9_lay_33 (by decide) ?_
      exact hr2 s24 (v3 + 1) h _ _ _ hW (lv_sub hl [1, 2, 3, 0] rfl)
set_option maxHeartbeats 4000000 in
set_option maxRecDepth 100000 in
theorem wX9_lay (C0 : Cx p s m args meth c cX9_lay RX9 4 none wsX9_lay) (G0 : Gx G s) (hJ : gJ 13 G) (z : Nat) (σ : ST) (v1 : Int32) (v2 : Int32) (res : ST) (h : fX9_lay z σ v1 v2 = some res)  {H : Heap} {locs : List Loc} {ls : Array Slot} (hW : Wd cellM 13 G s.heap σ H locs) (hl : lv_has ls 4 [(0, .ref (aD G 0)), (1, .int v1), (2, .int v2)]) : W p l e rX9_lay s m args below meth c H locs 0 0 (MQ below (XQv cellM 13 G res) args s 0 0 (gA 13 G)) (F0 m 0 ls []) := by
  unfold fX9_lay at h
  refine lv_iconst (v := (0 : Int32)) C0.1 C0.2.1 dX9_lay_0 (by decide) ?_
  refine lv_istore_n (lv' := [(3, .int (0 : Int32)), (0, .ref (aD G 0)), (1, .int v1), (2, .int v2)]) C0.1 C0.2.1 dX9_lay_1 rfl hl (by decide) rfl (fun ls hl => ?_)
  exact wX9_lay_2 C0 G0 hJ z v1 v2 z σ (0 : Int32) _ h hW (lv_sub hl [1, 2, 3, 0] rfl)
theorem cX9_lay_met (l : Launch) {G : GT} (hJ : gJ 13 G) (z : Nat) (σ : ST) (v1 : Int32) (v2 : Int32) (res : ST) (h : fX9_lay z σ v1 v2 = some res) : Met l yX9_lay wsX9_lay rX9_lay (XPc cellM 13 G σ [.ref (aD G 0), .int v1, .int v2]) (XQv cellM 13 G res) 0 0 (gA 13 G) :=
  x_met (ret := none) (maxL := 4) (by decide) rfl (Nat.le_of_ble_eq_true rfl) (fun p e s m args below meth c H locs ls C0 G0 hW hl => wX9_lay C0 G0 hJ z σ v1 v2 res h hW hl)
end
/-! X9_to -/
def rX9_to : Room := { frames := 0, cells := 0, slots := 0, locals := 0 }
theorem hdsX9_to : yX9_to.cls ≠ "java/lang/invoke/MethodHandle" ∧ yX9_to.cls ≠ "java/lang/invoke/VarHandle" ∧ (parseMethodDescriptor yX9_to.desc).map (fun d => d.parameters.length) = some 2 := by decide +kernel
def fX9_to_44 (z : Nat) (t0 : Int32) : Option Int32 := some t0
def fX9_to_23 (z : Nat) (t0 : Int32) : Option Int32 := (if 0 ≤ t0 then (if t0 ≤ (9 : Int32) then fX9_to_44 z t0 else fX9_to_44 z (9 : Int32)) else fX9_to_44 z (0 : Int32))
def fX9_to (z : Nat) (v0 : Int32) (v1 : Int32) : Option Int32 := (if v1 = (1 : Int32) then fX9_to_23 z (v0 + (1 : Int32)) else (if v1 = (2 : Int32) then fX9_to_23 z (v0 - (1 : Int32)) else fX9_to_23 z v0))
section
variable {p : Program} {l : Launch} {e : Env} {s : State} {m : MethodId} {args : Array Value} {below : List Frame} {meth : Method} {c : Code} {G : GT}
set_option maxHeartbeats 4000000 in
set_option maxRecDepth 100000 in
theorem wX9_to_44 (C0 : Cx p s m args meth c cX9_to RX9 3 (some .int) wsX9_to) {σ : ST} (G0 : Gx G s) (hJ : gJ 13 G) (z : Nat) (t0 : Int32) (res : Int32) (h : fX9_to_44 z t0 = some res)  {H : Heap} {locs : List Loc} {ls : Array Slot} (hW : Wd cellM 13 G s.heap σ H locs) (hl : lv_has ls 3 []) : W p l e rX9_to s m args below meth c H locs 0 0 (MQ below (XQi cellM 13 G res σ) args s 0 0 (gA 13 G)) (F0 m 44 ls [.int t0]) := by
  unfold fX9_to_44 at h
  cases h
  exact x_iret C0 hW dX9_to_44
set_option maxHeartbeats 4000000 in
set_option maxRecDepth 100000 in
theorem wX9_to_23 (C0 : Cx p s m args meth c cX9_to RX9 3 (some .int) wsX9_to) {σ : ST} (G0 : Gx G s) (hJ : gJ 13 G) (z : Nat) (t0 : Int32) (res : Int32) (h : fX9_to_23 z t0 = some res)  {H : Heap} {locs : List Loc} {ls : Array Slot} (hW : Wd cellM 13 G s.heap σ H locs) (hl : lv_has ls 3 []) : W p l e rX9_to s m args below meth c H locs 0 0 (MQ below (XQi cellM 13 G res σ) args s 0 0 (gA 13 G)) (F0 m 23 ls [.int t0]) := by
  unfold fX9_to_23 at h
  refine lv_istore_n (lv' := [(2, .int t0)]) C0.1 C0.2.1 dX9_to_23 rfl hl (by decide) rfl (fun ls hl => ?_)
  refine lv_iload_n C0.1 C0.2.1 dX9_to_24 rfl (lv_at hl 0 rfl) ?_
  refine lv_if_ge (tgt := 32) C0.1 C0.2.1 dX9_to_25 (by decide) (fun c23 => ?_) (fun c23 => ?_)
  · rw [if_pos c23] at h
    refine lv_iload_n C0.1 C0.2.1 dX9_to_32 rfl (lv_at hl 0 rfl) ?_
    refine lv_bipush (v := (9 : Int32)) C0.1 C0.2.1 dX9_to_33 (by decide) ?_
    refine lv_icmp_le (tgt := 43) C0.1 C0.2.1 dX9_to_35 (by decide) (fun c24 => ?_) (fun c24 => ?_)
    · rw [if_pos c24] at h
      refine lv_iload_n C0.1 C0.2.1 dX9_to_43 rfl (lv_at hl 0 rfl) ?_
      exact wX9_to_44 C0 G0 hJ z t0 _ h hW (lv_sub hl [] rfl)
    · rw [if_neg c24] at h
      refine lv_bipush (v := (9 : Int32)) C0.1 C0.2.1 dX9_to_38 (by decide) ?_
      refine lv_goto (tgt := 44) C0.1 C0.2.1 dX9_to_40 (by decide) ?_
      exact wX9_to_44 C0 G0 hJ z (9 : Int32) _ h hW (lv_sub hl [] rfl)
  · rw [if_neg c23] at h
    refine lv_iconst (v := (0 : Int32)) C0.1 C0.2.1 dX9_to_28 (by decide) ?_
    refine lv_goto (tgt := 44) C0.1 C0.2.1 dX9_to_29 (by decide) ?_
    exact wX9_to_44 C0 G0 hJ z (0 : Int32) _ h hW (lv_sub hl [] rfl)
set_option maxHeartbeats 4000000 in
set_option maxRecDepth 100000 in
theorem wX9_to (C0 : Cx p s m args meth c cX9_to RX9 3 (some .int) wsX9_to) {σ : ST} (G0 : Gx G s) (hJ : gJ 13 G) (z : Nat) (v0 : Int32) (v1 : Int32) (res : Int32) (h : fX9_to z v0 v1 = some res)  {H : Heap} {locs : List Loc} {ls : Array Slot} (hW : Wd cellM 13 G s.heap σ H locs) (hl : lv_has ls 3 [(0, .int v0), (1, .int v1)]) : W p l e rX9_to s m args below meth c H locs 0 0 (MQ below (XQi cellM 13 G res σ) args s 0 0 (gA 13 G)) (F0 m 0 ls []) := by
  unfold fX9_to at h
  refine lv_iload_n C0.1 C0.2.1 dX9_to_0 rfl (lv_at hl 1 rfl) ?_
  refine lv_iconst (v := (1 : Int32)) C0.1 C0.2.1 dX9_to_1 (by decide) ?_
  refine lv_icmp_ne (tgt := 11) C0.1 C0.2.1 dX9_to_2 (by decide) (fun c21 => ?_) (fun c21 => ?_)
  · rw [if_neg c21] at h
    refine lv_iload_n C0.1 C0.2.1 dX9_to_11 rfl (lv_at hl 1 rfl) ?_
    refine lv_iconst (v := (2 : Int32)) C0.1 C0.2.1 dX9_to_12 (by decide) ?_
    refine lv_icmp_ne (tgt := 22) C0.1 C0.2.1 dX9_to_13 (by decide) (fun c22 => ?_) (fun c22 => ?_)
    · rw [if_neg c22] at h
      refine lv_iload_n C0.1 C0.2.1 dX9_to_22 rfl (lv_at hl 0 rfl) ?_
      exact wX9_to_23 C0 G0 hJ z v0 _ h hW (lv_sub hl [] rfl)
    · rw [if_pos c22] at h
      refine lv_iload_n C0.1 C0.2.1 dX9_to_16 rfl (lv_at hl 0 rfl) ?_
      refine lv_iconst (v := (1 : Int32)) C0.1 C0.2.1 dX9_to_17 (by decide) ?_
      refine lv_isub C0.1 C0.2.1 dX9_to_18 ?_
      refine lv_goto (tgt := 23) C0.1 C0.2.1 dX9_to_19 (by decide) ?_
      exact wX9_to_23 C0 G0 hJ z (v0 - (1 : Int32)) _ h hW (lv_sub hl [] rfl)
  · rw [if_pos c21] at h
    refine lv_iload_n C0.1 C0.2.1 dX9_to_5 rfl (lv_at hl 0 rfl) ?_
    refine lv_iconst (v := (1 : Int32)) C0.1 C0.2.1 dX9_to_6 (by decide) ?_
    refine lv_iadd C0.1 C0.2.1 dX9_to_7 ?_
    refine lv_goto (tgt := 23) C0.1 C0.2.1 dX9_to_8 (by decide) ?_
    exact wX9_to_23 C0 G0 hJ z (v0 + (1 : Int32)) _ h hW (lv_sub hl [] rfl)
theorem cX9_to_met (l : Launch) {G : GT} (hJ : gJ 13 G) (z : Nat) (σ : ST) (v0 : Int32) (v1 : Int32) (res : Int32) (h : fX9_to z v0 v1 = some res) : Met l yX9_to wsX9_to rX9_to (XPc cellM 13 G σ [.int v0, .int v1]) (XQi cellM 13 G res σ) 0 0 (gA 13 G) :=
  x_met (ret := (some .int)) (maxL := 3) (by decide) rfl (Nat.le_of_ble_eq_true rfl) (fun p e s m args below meth c H locs ls C0 G0 hW hl => wX9_to C0 G0 hJ z v0 v1 res h hW hl)
end
/-! X9_lookAt -/
def rX9_lookAt : Room := { frames := 0, cells := 0, slots := 0, locals := 0 }
theorem hdvX9_lookAt : yX9_lookAt.cls = RX9 ∧ yX9_lookAt.cls ≠ "java/lang/invoke/MethodHandle" ∧ yX9_lookAt.cls ≠ "java/lang/invoke/VarHandle" ∧ (parseMethodDescriptor yX9_lookAt.desc).map (fun d => d.parameters.length) = some 2 := by decide +kernel
theorem inX9_lookAt_X9 : ∀ w ∈ u_ws RX9 TX9 29, w ∈ wsX9_lookAt := by decide +kernel
theorem lkX9_lookAt_100 : Cond.fieldLink RX9 100 (TX9 2).1 (TX9 2).2.1 (TX9 2).2.2.1 ∈ wsX9_lookAt := by decide +kernel
theorem lkX9_lookAt_103 : Cond.fieldLink RX9 103 (TX9 3).1 (TX9 3).2.1 (TX9 3).2.2.1 ∈ wsX9_lookAt := by decide +kernel
theorem lkX9_lookAt_19 : Cond.fieldLink RX9 19 (TX9 14).1 (TX9 14).2.1 (TX9 14).2.2.1 ∈ wsX9_lookAt := by decide +kernel
def fX9_lookAt_40 (z : Nat) (r5 : ST → Int64 → Int32 → Option (Int64 × ST)) (σ : ST) (v1 : Int32) (v2 : Int32) (v3 : Int64) (v5 : Int32) (t0 : Int32) : Option (Int64 × ST) := gd (inb (((11 : Int32) * v1) + v5) 33) ( gd (inb (((11 : Int32) * v1) + v5) 33) ( gd (inb (((11 : Int32) * v1) + v5) 33) ( lt (pL σ 4 ((((11 : Int32) * v1) + v5)).toNatClampNeg ((σ.2 4 ((((11 : Int32) * v1) + v5)).toNatClampNeg) * ((((10 : Int32) - t0)).toInt64))) (fun s27 => r5 s27 (v3 + ((σ.2 4 ((((11 : Int32) * v1) + v5)).toNatClampNeg) * ((t0).toInt64))) (v5 + 1)))))
def fX9_lookAt_5 (z : Nat) (v1 : Int32) (v2 : Int32) : Nat → ST → Int64 → Int32 → Option (Int64 × ST)
  | 0 => fun _ _ _ => none
  | n + 1 => fun σ v3 v5 => (if (11 : Int32) ≤ v5 then some (v3, σ) else (if v5 = v2 then (if v5 = (10 : Int32) then fX9_lookAt_40 z (fX9_lookAt_5 z v1 v2 n) σ v1 v2 v3 v5 (σ.1 0 3) else fX9_lookAt_40 z (fX9_lookAt_5 z v1 v2 n) σ v1 v2 v3 v5 (σ.1 0 2)) else fX9_lookAt_40 z (fX9_lookAt_5 z v1 v2 n) σ v1 v2 v3 v5 (0 : Int32)))
def fX9_lookAt (z : Nat) (σ : ST) (v1 : Int32) (v2 : Int32) : Option (Int64 × ST) := fX9_lookAt_5 z v1 v2 z σ (0 : Int64) (0 : Int32)
section
variable {p : Program} {l : Launch} {e : Env} {s : State} {m : MethodId} {args : Array Value} {below : List Frame} {meth : Method} {c : Code} {G : GT}
set_option maxHeartbeats 4000000 in
set_option maxRecDepth 100000 in
theorem wX9_lookAt_40 (C0 : Cx p s m args meth c cX9_lookAt RX9 7 (some .long) wsX9_lookAt) (G0 : Gx G s) (hJ : gJ 13 G) (z : Nat) (r5 : ST → Int64 → Int32 → Option (Int64 × ST)) (σ : ST) (v1 : Int32) (v2 : Int32) (v3 : Int64) (v5 : Int32) (t0 : Int32) (res : (Int64 × ST)) (h : fX9_lookAt_40 z r5 σ v1 v2 v3 v5 t0 = some res) (hr5 : ∀ (σ : ST) (v3 : Int64) (v5 : Int32), r5 σ v3 v5 = some res → ∀ (H : Heap) (locs : List Loc) (ls : Array Slot), Wd cellM 13 G s.heap σ H locs → lv_has ls 7 [(0, .ref (aD G 0)), (1, .int v1), (2, .int v2), (3, .long v3), (5, .int v5)] → W p l e rX9_lookAt s m args below meth c H locs 0 0 (MQ below (XQl cellM 13 G res.1 res.2) args s 0 0 (gA 13 G)) (F0 m 5 ls [])) {H : Heap} {locs : List Loc} {ls : Array Slot} (hW : Wd cellM 13 G s.heap σ H locs) (hl : lv_has ls 7 [(0, .ref (aD G 0)), (1, .int v1), (2, .int v2), (3, .long v3), (5, .int v5)]) : W p l e rX9_lookAt s m args below meth c H locs 0 0 (MQ below (XQl cellM 13 G res.1 res.2) args s 0 0 (gA 13 G)) (F0 m 40 ls [.int t0]) := by
  unfold fX9_lookAt_40 at h
  refine lv_istore (lv' := [(6, .int t0), (0, .ref (aD G 0)), (1, .int v1), (2, .int v2), (3, .long v3), (5, .int v5)]) C0.1 C0.2.1 dX9_lookAt_40 hl (by decide) rfl (fun ls hl => ?_)
  refine lv_lload_n C0.1 C0.2.1 dX9_lookAt_42 rfl (lv_at hl 4 rfl) ?_
  refine lv_aload_n C0.1 C0.2.1 dX9_lookAt_43 rfl (lv_at hl 1 rfl) ?_
  refine x_get (v := .ref (aD G 4)) C0 G0 hW cM_0 (by decide) rfl 14 (by decide) inX9_lookAt_X9 lkX9_lookAt_19 rfl dX9_lookAt_44 ?_
  refine lv_bipush (v := (11 : Int32)) C0.1 C0.2.1 dX9_lookAt_47 (by decide) ?_
  refine lv_iload_n C0.1 C0.2.1 dX9_lookAt_49 rfl (lv_at hl 2 rfl) ?_
  refine lv_imul C0.1 C0.2.1 dX9_lookAt_50 ?_
  refine lv_iload C0.1 C0.2.1 dX9_lookAt_51 (lv_at hl 5 rfl) ?_
  refine lv_iadd C0.1 C0.2.1 dX9_lookAt_53 ?_
  obtain ⟨g24, h⟩ := gd_some h
  refine x_lald C0 G0 hW cM_4 (by decide) g24 dX9_lookAt_54 ?_
  refine lv_iload C0.1 C0.2.1 dX9_lookAt_55 (lv_at hl 0 rfl) ?_
  refine lv_i2l (v := ((t0).toInt64)) C0.1 C0.2.1 dX9_lookAt_57 rfl ?_
  refine lv_lmul C0.1 C0.2.1 dX9_lookAt_58 ?_
  refine lv_ladd C0.1 C0.2.1 dX9_lookAt_59 ?_
  refine lv_lstore_n (lv' := [(3, .long (v3 + ((σ.2 4 ((((11 : Int32) * v1) + v5)).toNatClampNeg) * ((t0).toInt64)))), (6, .int t0), (0, .ref (aD G 0)), (1, .int v1), (2, .int v2), (5, .int v5)]) C0.1 C0.2.1 dX9_lookAt_60 rfl hl (by decide) rfl (fun ls hl => ?_)
  refine lv_aload_n C0.1 C0.2.1 dX9_lookAt_61 rfl (lv_at hl 2 rfl) ?_
  refine x_get (v := .ref (aD G 4)) C0 G0 hW cM_0 (by decide) rfl 14 (by decide) inX9_lookAt_X9 lkX9_lookAt_19 rfl dX9_lookAt_62 ?_
  refine lv_bipush (v := (11 : Int32)) C0.1 C0.2.1 dX9_lookAt_65 (by decide) ?_
  refine lv_iload_n C0.1 C0.2.1 dX9_lookAt_67 rfl (lv_at hl 3 rfl) ?_
  refine lv_imul C0.1 C0.2.1 dX9_lookAt_68 ?_
  refine lv_iload C0.1 C0.2.1 dX9_lookAt_69 (lv_at hl 5 rfl) ?_
  refine lv_iadd C0.1 C0.2.1 dX9_lookAt_71 ?_
  refine lv_dup2_11 C0.1 C0.2.1 dX9_lookAt_72 rfl rfl ?_
  obtain ⟨g25, h⟩ := gd_some h
  refine x_lald C0 G0 hW cM_4 (by decide) g25 dX9_lookAt_73 ?_
  refine lv_bipush (v := (10 : Int32)) C0.1 C0.2.1 dX9_lookAt_74 (by decide) ?_
  refine lv_iload C0.1 C0.2.1 dX9_lookAt_76 (lv_at hl 1 rfl) ?_
  refine lv_isub C0.1 C0.2.1 dX9_lookAt_78 ?_
  refine lv_i2l (v := ((((10 : Int32) - t0)).toInt64)) C0.1 C0.2.1 dX9_lookAt_79 rfl ?_
  refine lv_lmul C0.1 C0.2.1 dX9_lookAt_80 ?_
  obtain ⟨g26, h⟩ := gd_some h
  refine x_last C0 G0 hJ hW (fun f g => cM_4) (by decide) g26 dX9_lookAt_81 (fun H locs hW => ?_)
  obtain ⟨s27, es27, h⟩ := lt_some h
  rw [es27] at hW
  refine lv_iinc (v := (v5 + 1)) (lv' := [(5, .int (v5 + 1)), (3, .long (v3 + ((σ.2 4 ((((11 : Int32) * v1) + v5)).toNatClampNeg) * ((t0).toInt64)))), (6, .int t0), (0, .ref (aD G 0)), (1, .int v1), (2, .int v2)]) C0.1 C0.2.1 dX9_lookAt_82 hl (k := 5) rfl rfl (by decide) rfl (fun ls hl => ?_)
  refine lv_goto (tgt := 5) C0.1 C0.2.1 dX9_lookAt_85 (by decide) ?_
  exact hr5 s27 (v3 + ((σ.2 4 ((((11 : Int32) * v1) + v5)).toNatClampNeg) * ((t0).toInt64))) (v5 + 1) h _ _ _ hW (lv_sub hl [3, 4, 5, 1, 0] rfl)
set_option maxHeartbeats 4000000 in
set_option maxRecDepth 100000 in
theorem wX9_lookAt_5 (C0 : Cx p s m args meth c cX9_lookAt RX9 7 (some .long) wsX9_lookAt) (G0 : Gx G s) (hJ : gJ 13 G) (z : Nat) (v1 : Int32) (v2 : Int32) (n : Nat) (σ : ST) (v3 : Int64) (v5 : Int32) (res : (Int64 × ST)) (h : fX9_lookAt_5 z v1 v2 n σ v3 v5 = some res)  {H : Heap} {locs : List Loc} {ls : Array Slot} (hW : Wd cellM 13 G s.heap σ H locs) (hl : lv_has ls 7 [(0, .ref (aD G 0)), (1, .int v1), (2, .int v2), (3, .long v3), (5, .int v5)]) : W p l e rX9_lookAt s m args below meth c H locs 0 0 (MQ below (XQl cellM 13 G res.1 res.2) args s 0 0 (gA 13 G)) (F0 m 5 ls []) := by
  induction n generalizing σ v3 v5 H locs ls with
  | zero => cases h
  | succ n ih =>
    have hr5 : ∀ (σ : ST) (v3 : Int64) (v5 : Int32), fX9_lookAt_5 z v1 v2 n σ v3 v5 = some res → ∀ (H : Heap) (locs : List Loc) (ls : Array Slot), Wd cellM 13 G s.heap σ H locs → lv_has ls 7 [(0, .ref (aD G 0)), (1, .int v1), (2, .int v2), (3, .long v3), (5, .int v5)] → W p l e rX9_lookAt s m args below meth c H locs 0 0 (MQ below (XQl cellM 13 G res.1 res.2) args s 0 0 (gA 13 G)) (F0 m 5 ls []) := fun σ v3 v5 h H locs ls hW hl => ih σ v3 v5 h hW hl
    clear ih
    unfold fX9_lookAt_5 at h
    refine lv_iload C0.1 C0.2.1 dX9_lookAt_5 (lv_at hl 4 rfl) ?_
    refine lv_bipush (v := (11 : Int32)) C0.1 C0.2.1 dX9_lookAt_7 (by decide) ?_
    refine lv_icmp_ge (tgt := 88) C0.1 C0.2.1 dX9_lookAt_9 (by decide) (fun c21 => ?_) (fun c21 => ?_)
    · rw [if_pos c21] at h
      refine lv_lload_n C0.1 C0.2.1 dX9_lookAt_88 rfl (lv_at hl 3 rfl) ?_
      cases h
      exact x_lret C0 hW dX9_lookAt_89
    · rw [if_neg c21] at h
      refine lv_iload C0.1 C0.2.1 dX9_lookAt_12 (lv_at hl 4 rfl) ?_
      refine lv_iload_n C0.1 C0.2.1 dX9_lookAt_14 rfl (lv_at hl 2 rfl) ?_
      refine lv_icmp_eq (tgt := 22) C0.1 C0.2.1 dX9_lookAt_15 (by decide) (fun c22 => ?_) (fun c22 => ?_)
      · rw [if_pos c22] at h
        refine lv_iload C0.1 C0.2.1 dX9_lookAt_22 (lv_at hl 4 rfl) ?_
        refine lv_bipush (v := (10 : Int32)) C0.1 C0.2.1 dX9_lookAt_24 (by decide) ?_
        refine lv_icmp_ne (tgt := 36) C0.1 C0.2.1 dX9_lookAt_26 (by decide) (fun c23 => ?_) (fun c23 => ?_)
        · rw [if_neg c23] at h
          refine lv_aload_n C0.1 C0.2.1 dX9_lookAt_36 rfl (lv_at hl 0 rfl) ?_
          refine x_get (v := .int (σ.1 0 2)) C0 G0 hW cM_0 (by decide) rfl 2 (by decide) inX9_lookAt_X9 lkX9_lookAt_100 rfl dX9_lookAt_37 ?_
          exact wX9_lookAt_40 C0 G0 hJ z (fX9_lookAt_5 z v1 v2 n) σ v1 v2 v3 v5 (σ.1 0 2) _ h (by exact hr5) hW (lv_sub hl [0, 1, 2, 3, 4] rfl)
        · rw [if_pos c23] at h
          refine lv_aload_n C0.1 C0.2.1 dX9_lookAt_29 rfl (lv_at hl 0 rfl) ?_
          refine x_get (v := .int (σ.1 0 3)) C0 G0 hW cM_0 (by decide) rfl 3 (by decide) inX9_lookAt_X9 lkX9_lookAt_103 rfl dX9_lookAt_30 ?_
          refine lv_goto (tgt := 40) C0.1 C0.2.1 dX9_lookAt_33 (by decide) ?_
          exact wX9_lookAt_40 C0 G0 hJ z (fX9_lookAt_5 z v1 v2 n) σ v1 v2 v3 v5 (σ.1 0 3) _ h (by exact hr5) hW (lv_sub hl [0, 1, 2, 3, 4] rfl)
      · rw [if_neg c22] at h
        refine lv_iconst (v := (0 : Int32)) C0.1 C0.2.1 dX9_lookAt_18 (by decide) ?_
        refine lv_goto (tgt := 40) C0.1 C0.2.1 dX9_lookAt_19 (by decide) ?_
        exact wX9_lookAt_40 C0 G0 hJ z (fX9_lookAt_5 z v1 v2 n) σ v1 v2 v3 v5 (0 : Int32) _ h (by exact hr5) hW (lv_sub hl [0, 1, 2, 3, 4] rfl)
set_option maxHeartbeats 4000000 in
set_option maxRecDepth 100000 in
theorem wX9_lookAt (C0 : Cx p s m args meth c cX9_lookAt RX9 7 (some .long) wsX9_lookAt) (G0 : Gx G s) (hJ : gJ 13 G) (z : Nat) (σ : ST) (v1 : Int32) (v2 : Int32) (res : (Int64 × ST)) (h : fX9_lookAt z σ v1 v2 = some res)  {H : Heap} {locs : List Loc} {ls : Array Slot} (hW : Wd cellM 13 G s.heap σ H locs) (hl : lv_has ls 7 [(0, .ref (aD G 0)), (1, .int v1), (2, .int v2)]) : W p l e rX9_lookAt s m args below meth c H locs 0 0 (MQ below (XQl cellM 13 G res.1 res.2) args s 0 0 (gA 13 G)) (F0 m 0 ls []) := by
  unfold fX9_lookAt at h
  refine lv_lconst (v := (0 : Int64)) C0.1 C0.2.1 dX9_lookAt_0 (by decide) ?_
  refine lv_lstore_n (lv' := [(3, .long (0 : Int64)), (0, .ref (aD G 0)), (1, .int v1), (2, .int v2)]) C0.1 C0.2.1 dX9_lookAt_1 rfl hl (by decide) rfl (fun ls hl => ?_)
  refine lv_iconst (v := (0 : Int32)) C0.1 C0.2.1 dX9_lookAt_2 (by decide) ?_
  refine lv_istore (lv' := [(5, .int (0 : Int32)), (3, .long (0 : Int64)), (0, .ref (aD G 0)), (1, .int v1), (2, .int v2)]) C0.1 C0.2.1 dX9_lookAt_3 hl (by decide) rfl (fun ls hl => ?_)
  exact wX9_lookAt_5 C0 G0 hJ z v1 v2 z σ (0 : Int64) (0 : Int32) _ h hW (lv_sub hl [2, 3, 4, 1, 0] rfl)
theorem cX9_lookAt_met (l : Launch) {G : GT} (hJ : gJ 13 G) (z : Nat) (σ : ST) (v1 : Int32) (v2 : Int32) (res : (Int64 × ST)) (h : fX9_lookAt z σ v1 v2 = some res) : Met l yX9_lookAt wsX9_lookAt rX9_lookAt (XPc cellM 13 G σ [.ref (aD G 0), .int v1, .int v2]) (XQl cellM 13 G res.1 res.2) 0 0 (gA 13 G) :=
  x_met (ret := (some .long)) (maxL := 7) (by decide) rfl (Nat.le_of_ble_eq_true rfl) (fun p e s m args below meth c H locs ls C0 G0 hW hl => wX9_lookAt C0 G0 hJ z σ v1 v2 res h hW hl)
end
/-! X9_drift -/
def rX9_drift : Room := { frames := 1, cells := 0, slots := 0, locals := 22 }
theorem hdvX9_drift : yX9_drift.cls = RX9 ∧ yX9_drift.cls ≠ "java/lang/invoke/MethodHandle" ∧ yX9_drift.cls ≠ "java/lang/invoke/VarHandle" ∧ (parseMethodDescriptor yX9_drift.desc).map (fun d => d.parameters.length) = some 2 := by decide +kernel
theorem inX9_drift_X9 : ∀ w ∈ u_ws RX9 TX9 29, w ∈ wsX9_drift := by decide +kernel
theorem lkX9_drift_29 : Cond.fieldLink RX9 29 (TX9 20).1 (TX9 20).2.1 (TX9 20).2.2.1 ∈ wsX9_drift := by decide +kernel
theorem lkX9_drift_19 : Cond.fieldLink RX9 19 (TX9 14).1 (TX9 14).2.1 (TX9 14).2.2.1 ∈ wsX9_drift := by decide +kernel
theorem lkX9_drift_94 : Cond.fieldLink RX9 94 (TX9 0).1 (TX9 0).2.1 (TX9 0).2.2.1 ∈ wsX9_drift := by decide +kernel
theorem lkX9_drift_97 : Cond.fieldLink RX9 97 (TX9 1).1 (TX9 1).2.1 (TX9 1).2.2.1 ∈ wsX9_drift := by decide +kernel
theorem kcX9_drift_128 : Cond.constantLong RX9 128 (10 : Int64) ∈ wsX9_drift := by decide +kernel
theorem lkX9_drift_48 : Cond.fieldLink RX9 48 (TX9 5).1 (TX9 5).2.1 (TX9 5).2.2.1 ∈ wsX9_drift := by decide +kernel
def fX9_drift_175 (z : Nat) (r139 : ST → Int32 → Option ST) (σ : ST) (v2 : Int32) (v3 : Int32) (v4 : Int32) (t0 : Int64) (t1 : Int32) : Option ST := gd (inb t1 33) ( lt (pL σ 4 (t1).toNatClampNeg t0) (fun s46 => r139 s46 (v4 + 1)))
def fX9_drift_139 (z : Nat) (v2 : Int32) (v3 : Int32) : Nat → ST → Int32 → Option ST
  | 0 => fun _ _ => none
  | n + 1 => fun σ v4 => (if (10 : Int32) ≤ v4 then gd (inb (v3 + (10 : Int32)) 33) ( gd (inb (v3 + (10 : Int32)) 33) ( lt (pL σ 4 ((v3 + (10 : Int32))).toNatClampNeg ((σ.2 4 ((v3 + (10 : Int32))).toNatClampNeg) * (10 : Int64))) (fun s42 => some s42))) else (if (v2 + (1 : Int32)) = (σ.1 0 5) then fX9_drift_175 z (fX9_drift_139 z v2 v3 n) σ v2 v3 v4 (0 : Int64) (v3 + v4) else gd (inb v4 10) ( fX9_drift_175 z (fX9_drift_139 z v2 v3 n) σ v2 v3 v4 (σ.2 7 (v4).toNatClampNeg) (v3 + v4))))
def fX9_drift_32 (z : Nat) (v2 : Int32) (v3 : Int32) : Nat → ST → Int32 → Option ST
  | 0 => fun _ _ => none
  | n + 1 => fun σ v4 => (if (10 : Int32) ≤ v4 then fX9_drift_139 z v2 v3 z σ (0 : Int32) else bd (fX9_to z v4 (1 : Int32)) (fun u25 => gd (inb u25 10) ( gd (inb (v3 + v4) 33) ( gd (inb u25 10) ( lt (pL σ 7 (u25).toNatClampNeg ((σ.2 7 (u25).toNatClampNeg) + ((σ.2 4 ((v3 + v4)).toNatClampNeg) * (((σ.1 0 0)).toInt64)))) (fun s29 => bd (fX9_to z v4 (2 : Int32)) (fun u30 => gd (inb u30 10) ( gd (inb (v3 + v4) 33) ( gd (inb u30 10) ( lt (pL s29 7 (u30).toNatClampNeg ((s29.2 7 (u30).toNatClampNeg) + ((s29.2 4 ((v3 + v4)).toNatClampNeg) * (((s29.1 0 1)).toInt64)))) (fun s34 => gd (inb v4 10) ( gd (inb (v3 + v4) 33) ( gd (inb v4 10) ( lt (pL s34 7 (v4).toNatClampNeg ((s34.2 7 (v4).toNatClampNeg) + ((s34.2 4 ((v3 + v4)).toNatClampNeg) * (((((10 : Int32) - (s34.1 0 0)) - (s34.1 0 1))).toInt64)))) (fun s38 => (fX9_drift_32 z v2 v3 n) s38 (v4 + 1))))))))))))))))
def fX9_drift_8 (z : Nat) (v2 : Int32) (v3 : Int32) : Nat → ST → Int32 → Option ST
  | 0 => fun _ _ => none
  | n + 1 => fun σ v4 => (if (10 : Int32) ≤ v4 then fX9_drift_32 z v2 v3 z σ (0 : Int32) else gd (inb v4 10) ( lt (pL σ 7 (v4).toNatClampNeg (0 : Int64)) (fun s23 => (fX9_drift_8 z v2 v3 n) s23 (v4 + 1))))
def fX9_drift (z : Nat) (σ : ST) (v1 : Int32) (v2 : Int32) : Option ST := fX9_drift_8 z v2 ((11 : Int32) * v1) z σ (0 : Int32)
section
variable {p : Program} {l : Launch} {e : Env} {s : State} {m : MethodId} {args : Array Value} {below : List Frame} {meth : Method} {c : Code} {G : GT}
set_option maxHeartbeats 4000000 in
set_option maxRecDepth 100000 in
theorem wX9_drift_175 (C0 : Cx p s m args meth c cX9_drift RX9 5 none wsX9_drift) (G0 : Gx G s) (hJ : gJ 13 G) (z : Nat) (r139 : ST → Int32 → Option ST) (σ : ST) (v2 : Int32) (v3 : Int32) (v4 : Int32) (t0 : Int64) (t1 : Int32) (res : ST) (h : fX9_drift_175 z r139 σ v2 v3 v4 t0 t1 = some res) (hr139 : ∀ (σ : ST) (v4 : Int32), r139 σ v4 = some res → ∀ (H : Heap) (locs : List Loc) (ls : Array Slot), Wd cellM 13 G s.heap σ H locs → lv_has ls 5 [(0, .ref (aD G 0)), (2, .int v2), (3, .int v3), (4, .int v4)] → W p l e rX9_drift s m args below meth c H locs 0 0 (MQ below (XQv cellM 13 G res) args s 0 0 (gA 13 G)) (F0 m 139 ls [])) {H : Heap} {locs : List Loc} {ls : Array Slot} (hW : Wd cellM 13 G s.heap σ H locs) (hl : lv_has ls 5 [(0, .ref (aD G 0)), (2, .int v2), (3, .int v3), (4, .int v4)]) : W p l e rX9_drift s m args below meth c H locs 0 0 (MQ below (XQv cellM 13 G res) args s 0 0 (gA 13 G)) (F0 m 175 ls [.long t0, .int t1, .ref (aD G 4)]) := by
  unfold fX9_drift_175 at h
  obtain ⟨g45, h⟩ := gd_some h
  refine x_last C0 G0 hJ hW (fun f g => cM_4) (by decide) g45 dX9_drift_175 (fun H locs hW => ?_)
  obtain ⟨s46, es46, h⟩ := lt_some h
  rw [es46] at hW
  refine lv_iinc (v := (v4 + 1)) (lv' := [(4, .int (v4 + 1)), (0, .ref (aD G 0)), (2, .int v2), (3, .int v3)]) C0.1 C0.2.1 dX9_drift_176 hl (k := 3) rfl rfl (by decide) rfl (fun ls hl => ?_)
  refine lv_goto (tgt := 139) C0.1 C0.2.1 dX9_drift_179 (by decide) ?_
  exact hr139 s46 (v4 + 1) h _ _ _ hW (lv_sub hl [1, 2, 3, 0] rfl)
set_option maxHeartbeats 4000000 in
set_option maxRecDepth 100000 in
theorem wX9_drift_139 (C0 : Cx p s m args meth c cX9_drift RX9 5 none wsX9_drift) (G0 : Gx G s) (hJ : gJ 13 G) (z : Nat) (v2 : Int32) (v3 : Int32) (n : Nat) (σ : ST) (v4 : Int32) (res : ST) (h : fX9_drift_139 z v2 v3 n σ v4 = some res)  {H : Heap} {locs : List Loc} {ls : Array Slot} (hW : Wd cellM 13 G s.heap σ H locs) (hl : lv_has ls 5 [(0, .ref (aD G 0)), (2, .int v2), (3, .int v3), (4, .int v4)]) : W p l e rX9_drift s m args below meth c H locs 0 0 (MQ below (XQv cellM 13 G res) args s 0 0 (gA 13 G)) (F0 m 139 ls []) := by
  induction n generalizing σ v4 H locs ls with
  | zero => cases h
  | succ n ih =>
    have hr139 : ∀ (σ : ST) (v4 : Int32), fX9_drift_139 z v2 v3 n σ v4 = some res → ∀ (H : Heap) (locs : List Loc) (ls : Array Slot), Wd cellM 13 G s.heap σ H locs → lv_has ls 5 [(0, .ref (aD G 0)), (2, .int v2), (3, .int v3), (4, .int v4)] → W p l e rX9_drift s m args below meth c H locs 0 0 (MQ below (XQv cellM 13 G res) args s 0 0 (gA 13 G)) (F0 m 139 ls []) := fun σ v4 h H locs ls hW hl => ih σ v4 h hW hl
    clear ih
    unfold fX9_drift_139 at h
    refine lv_iload C0.1 C0.2.1 dX9_drift_139 (lv_at hl 3 rfl) ?_
    refine lv_bipush (v := (10 : Int32)) C0.1 C0.2.1 dX9_drift_141 (by decide) ?_
    refine lv_icmp_ge (tgt := 182) C0.1 C0.2.1 dX9_drift_143 (by decide) (fun c39 => ?_) (fun c39 => ?_)
    · rw [if_pos c39] at h
      refine lv_aload_n C0.1 C0.2.1 dX9_drift_182 rfl (lv_at hl 0 rfl) ?_
      refine x_get (v := .ref (aD G 4)) C0 G0 hW cM_0 (by decide) rfl 14 (by decide) inX9_drift_X9 lkX9_drift_19 rfl dX9_drift_183 ?_
      refine lv_iload_n C0.1 C0.2.1 dX9_drift_186 rfl (lv_at hl 2 rfl) ?_
      refine lv_bipush (v := (10 : Int32)) C0.1 C0.2.1 dX9_drift_187 (by decide) ?_
      refine lv_iadd C0.1 C0.2.1 dX9_drift_189 ?_
      refine lv_dup2_11 C0.1 C0.2.1 dX9_drift_190 rfl rfl ?_
      obtain ⟨g40, h⟩ := gd_some h
      refine x_lald C0 G0 hW cM_4 (by decide) g40 dX9_drift_191 ?_
      refine lv_ldc2 (v := (10 : Int64)) C0.1 C0.2.1 C0.2.2.2.2.1 (C0.2.2.2.1 _ kcX9_drift_128) dX9_drift_192 ?_
      refine lv_lmul C0.1 C0.2.1 dX9_drift_195 ?_
      obtain ⟨g41, h⟩ := gd_some h
      refine x_last C0 G0 hJ hW (fun f g => cM_4) (by decide) g41 dX9_drift_196 (fun H locs hW => ?_)
      obtain ⟨s42, es42, h⟩ := lt_some h
      rw [es42] at hW
      cases h
      exact x_vret C0 hW dX9_drift_197
    · rw [if_neg c39] at h
      refine lv_aload_n C0.1 C0.2.1 dX9_drift_146 rfl (lv_at hl 0 rfl) ?_
      refine x_get (v := .ref (aD G 4)) C0 G0 hW cM_0 (by decide) rfl 14 (by decide) inX9_drift_X9 lkX9_drift_19 rfl dX9_drift_147 ?_
      refine lv_iload_n C0.1 C0.2.1 dX9_drift_150 rfl (lv_at hl 2 rfl) ?_
      refine lv_iload C0.1 C0.2.1 dX9_drift_151 (lv_at hl 3 rfl) ?_
      refine lv_iadd C0.1 C0.2.1 dX9_drift_153 ?_
      refine lv_iload_n C0.1 C0.2.1 dX9_drift_154 rfl (lv_at hl 1 rfl) ?_
      refine lv_iconst (v := (1 : Int32)) C0.1 C0.2.1 dX9_drift_155 (by decide) ?_
      refine lv_iadd C0.1 C0.2.1 dX9_drift_156 ?_
      refine lv_aload_n C0.1 C0.2.1 dX9_drift_157 rfl (lv_at hl 0 rfl) ?_
      refine x_get (v := .int (σ.1 0 5)) C0 G0 hW cM_0 (by decide) rfl 5 (by decide) inX9_drift_X9 lkX9_drift_48 rfl dX9_drift_158 ?_
      refine lv_icmp_ne (tgt := 168) C0.1 C0.2.1 dX9_drift_161 (by decide) (fun c43 => ?_) (fun c43 => ?_)
      · rw [if_neg c43] at h
        refine lv_aload_n C0.1 C0.2.1 dX9_drift_168 rfl (lv_at hl 0 rfl) ?_
        refine x_get (v := .ref (aD G 7)) C0 G0 hW cM_0 (by decide) rfl 20 (by decide) inX9_drift_X9 lkX9_drift_29 rfl dX9_drift_169 ?_
        refine lv_iload C0.1 C0.2.1 dX9_drift_172 (lv_at hl 3 rfl) ?_
        obtain ⟨g44, h⟩ := gd_some h
        refine x_lald C0 G0 hW cM_7 (by decide) g44 dX9_drift_174 ?_
        exact wX9_drift_175 C0 G0 hJ z (fX9_drift_139 z v2 v3 n) σ v2 v3 v4 (σ.2 7 (v4).toNatClampNeg) (v3 + v4) _ h (by exact hr139) hW (lv_sub hl [0, 1, 2, 3] rfl)
      · rw [if_pos c43] at h
        refine lv_lconst (v := (0 : Int64)) C0.1 C0.2.1 dX9_drift_164 (by decide) ?_
        refine lv_goto (tgt := 175) C0.1 C0.2.1 dX9_drift_165 (by decide) ?_
        exact wX9_drift_175 C0 G0 hJ z (fX9_drift_139 z v2 v3 n) σ v2 v3 v4 (0 : Int64) (v3 + v4) _ h (by exact hr139) hW (lv_sub hl [0, 1, 2, 3] rfl)
set_option maxHeartbeats 4000000 in
set_option maxRecDepth 100000 in
theorem wX9_drift_32 (C0 : Cx p s m args meth c cX9_drift RX9 5 none wsX9_drift) (G0 : Gx G s) (hJ : gJ 13 G) (z : Nat) (v2 : Int32) (v3 : Int32) (n : Nat) (σ : ST) (v4 : Int32) (res : ST) (h : fX9_drift_32 z v2 v3 n σ v4 = some res)  {H : Heap} {locs : List Loc} {ls : Array Slot} (hW : Wd cellM 13 G s.heap σ H locs) (hl : lv_has ls 5 [(0, .ref (aD G 0)), (2, .int v2), (3, .int v3), (4, .int v4)]) : W p l e rX9_drift s m args below meth c H locs 0 0 (MQ below (XQv cellM 13 G res) args s 0 0 (gA 13 G)) (F0 m 32 ls []) := by
  induction n generalizing σ v4 H locs ls with
  | zero => cases h
  | succ n ih =>
    have hr32 : ∀ (σ : ST) (v4 : Int32), fX9_drift_32 z v2 v3 n σ v4 = some res → ∀ (H : Heap) (locs : List Loc) (ls : Array Slot), Wd cellM 13 G s.heap σ H locs → lv_has ls 5 [(0, .ref (aD G 0)), (2, .int v2), (3, .int v3), (4, .int v4)] → W p l e rX9_drift s m args below meth c H locs 0 0 (MQ below (XQv cellM 13 G res) args s 0 0 (gA 13 G)) (F0 m 32 ls []) := fun σ v4 h H locs ls hW hl => ih σ v4 h hW hl
    clear ih
    unfold fX9_drift_32 at h
    refine lv_iload C0.1 C0.2.1 dX9_drift_32 (lv_at hl 3 rfl) ?_
    refine lv_bipush (v := (10 : Int32)) C0.1 C0.2.1 dX9_drift_34 (by decide) ?_
    refine lv_icmp_ge (tgt := 136) C0.1 C0.2.1 dX9_drift_36 (by decide) (fun c24 => ?_) (fun c24 => ?_)
    · rw [if_pos c24] at h
      refine lv_iconst (v := (0 : Int32)) C0.1 C0.2.1 dX9_drift_136 (by decide) ?_
      refine lv_istore (lv' := [(4, .int (0 : Int32)), (0, .ref (aD G 0)), (2, .int v2), (3, .int v3)]) C0.1 C0.2.1 dX9_drift_137 hl (by decide) rfl (fun ls hl => ?_)
      exact wX9_drift_139 C0 G0 hJ z v2 v3 z σ (0 : Int32) _ h hW (lv_sub hl [1, 2, 3, 0] rfl)
    · rw [if_neg c24] at h
      refine lv_aload_n C0.1 C0.2.1 dX9_drift_39 rfl (lv_at hl 0 rfl) ?_
      refine x_get (v := .ref (aD G 7)) C0 G0 hW cM_0 (by decide) rfl 20 (by decide) inX9_drift_X9 lkX9_drift_29 rfl dX9_drift_40 ?_
      refine lv_iload C0.1 C0.2.1 dX9_drift_43 (lv_at hl 3 rfl) ?_
      refine lv_iconst (v := (1 : Int32)) C0.1 C0.2.1 dX9_drift_45 (by decide) ?_
      obtain ⟨u25, hu25, h⟩ := bd_some h
      refine x_ki (r := u25) (x_runS (As := [.int v4, .int (1 : Int32)]) (rest := [.ref (aD G 7)]) C0 G0 hW (cX9_to_met l hJ z σ v4 (1 : Int32) _ hu25) (va_cwS 2 C0.2.2.2.1 gX9_drift_X9_to rfl rfl rfl hdsX9_to ⟨Nat.le_of_ble_eq_true rfl, Nat.le_of_ble_eq_true rfl⟩) rfl rfl hl (Nat.le_of_ble_eq_true rfl) dX9_drift_46 ⟨Nat.le_refl 0, Nat.le_refl 0⟩) hW (fun H locs hW => ?_)
      refine lv_dup2_11 C0.1 C0.2.1 dX9_drift_49 rfl rfl ?_
      obtain ⟨g26, h⟩ := gd_some h
      refine x_lald C0 G0 hW cM_7 (by decide) g26 dX9_drift_50 ?_
      refine lv_aload_n C0.1 C0.2.1 dX9_drift_51 rfl (lv_at hl 0 rfl) ?_
      refine x_get (v := .ref (aD G 4)) C0 G0 hW cM_0 (by decide) rfl 14 (by decide) inX9_drift_X9 lkX9_drift_19 rfl dX9_drift_52 ?_
      refine lv_iload_n C0.1 C0.2.1 dX9_drift_55 rfl (lv_at hl 2 rfl) ?_
      refine lv_iload C0.1 C0.2.1 dX9_drift_56 (lv_at hl 3 rfl) ?_
      refine lv_iadd C0.1 C0.2.1 dX9_drift_58 ?_
      obtain ⟨g27, h⟩ := gd_some h
      refine x_lald C0 G0 hW cM_4 (by decide) g27 dX9_drift_59 ?_
      refine lv_aload_n C0.1 C0.2.1 dX9_drift_60 rfl (lv_at hl 0 rfl) ?_
      refine x_get (v := .int (σ.1 0 0)) C0 G0 hW cM_0 (by decide) rfl 0 (by decide) inX9_drift_X9 lkX9_drift_94 rfl dX9_drift_61 ?_
      refine lv_i2l (v := (((σ.1 0 0)).toInt64)) C0.1 C0.2.1 dX9_drift_64 rfl ?_
      refine lv_lmul C0.1 C0.2.1 dX9_drift_65 ?_
      refine lv_ladd C0.1 C0.2.1 dX9_drift_66 ?_
      obtain ⟨g28, h⟩ := gd_some h
      refine x_last C0 G0 hJ hW (fun f g => cM_7) (by decide) g28 dX9_drift_67 (fun H locs hW => ?_)
      obtain ⟨s29, es29, h⟩ := lt_some h
      rw [es29] at hW
      refine lv_aload_n C0.1 C0.2.1 dX9_drift_68 rfl (lv_at hl 0 rfl) ?_
      refine x_get (v := .ref (aD G 7)) C0 G0 hW cM_0 (by decide) rfl 20 (by decide) inX9_drift_X9 lkX9_drift_29 rfl dX9_drift_69 ?_
      refine lv_iload C0.1 C0.2.1 dX9_drift_72 (lv_at hl 3 rfl) ?_
      refine lv_iconst (v := (2 : Int32)) C0.1 C0.2.1 dX9_drift_74 (by decide) ?_
      obtain ⟨u30, hu30, h⟩ := bd_some h
      refine x_ki (r := u30) (x_runS (As := [.int v4, .int (2 : Int32)]) (rest := [.ref (aD G 7)]) C0 G0 hW (cX9_to_met l hJ z s29 v4 (2 : Int32) _ hu30) (va_cwS 2 C0.2.2.2.1 gX9_drift_X9_to rfl rfl rfl hdsX9_to ⟨Nat.le_of_ble_eq_true rfl, Nat.le_of_ble_eq_true rfl⟩) rfl rfl hl (Nat.le_of_ble_eq_true rfl) dX9_drift_75 ⟨Nat.le_refl 0, Nat.le_refl 0⟩) hW (fun H locs hW => ?_)
      refine lv_dup2_11 C0.1 C0.2.1 dX9_drift_78 rfl rfl ?_
      obtain ⟨g31, h⟩ := gd_some h
      refine x_lald C0 G0 hW cM_7 (by decide) g31 dX9_drift_79 ?_
      refine lv_aload_n C0.1 C0.2.1 dX9_drift_80 rfl (lv_at hl 0 rfl) ?_
      refine x_get (v := .ref (aD G 4)) C0 G0 hW cM_0 (by decide) rfl 14 (by decide) inX9_drift_X9 lkX9_drift_19 rfl dX9_drift_81 ?_
      refine lv_iload_n C0.1 C0.2.1 dX9_drift_84 rfl (lv_at hl 2 rfl) ?_
      refine lv_iload C0.1 C0.2.1 dX9_drift_85 (lv_at hl 3 rfl) ?_
      refine lv_iadd C0.1 C0.2.1 dX9_drift_87 ?_
      obtain ⟨g32, h⟩ := gd_some h
      refine x_lald C0 G0 hW cM_4 (by decide) g32 dX9_drift_88 ?_
      refine lv_aload_n C0.1 C0.2.1 dX9_drift_89 rfl (lv_at hl 0 rfl) ?_
      refine x_get (v := .int (s29.1 0 1)) C0 G0 hW cM_0 (by decide) rfl 1 (by decide) inX9_drift_X9 lkX9_drift_97 rfl dX9_drift_90 ?_
      refine lv_i2l (v := (((s29.1 0 1)).toInt64)) C0.1 C0.2.1 dX9_drift_93 rfl ?_
      refine lv_lmul C0.1 C0.2.1 dX9_drift_94 ?_
      refine lv_ladd C0.1 C0.2.1 dX9_drift_95 ?_
      obtain ⟨g33, h⟩ := gd_some h
      refine x_last C0 G0 hJ hW (fun f g => cM_7) (by decide) g33 dX9_drift_96 (fun H locs hW => ?_)
      obtain ⟨s34, es34, h⟩ := lt_some h
      rw [es34] at hW
      refine lv_aload_n C0.1 C0.2.1 dX9_drift_97 rfl (lv_at hl 0 rfl) ?_
      refine x_get (v := .ref (aD G 7)) C0 G0 hW cM_0 (by decide) rfl 20 (by decide) inX9_drift_X9 lkX9_drift_29 rfl dX9_drift_98 ?_
      refine lv_iload C0.1 C0.2.1 dX9_drift_101 (lv_at hl 3 rfl) ?_
      refine lv_dup2_11 C0.1 C0.2.1 dX9_drift_103 rfl rfl ?_
      obtain ⟨g35, h⟩ := gd_some h
      refine x_lald C0 G0 hW cM_7 (by decide) g35 dX9_drift_104 ?_
      refine lv_aload_n C0.1 C0.2.1 dX9_drift_105 rfl (lv_at hl 0 rfl) ?_
      refine x_get (v := .ref (aD G 4)) C0 G0 hW cM_0 (by decide) rfl 14 (by decide) inX9_drift_X9 lkX9_drift_19 rfl dX9_drift_106 ?_
      refine lv_iload_n C0.1 C0.2.1 dX9_drift_109 rfl (lv_at hl 2 rfl) ?_
      refine lv_iload C0.1 C0.2.1 dX9_drift_110 (lv_at hl 3 rfl) ?_
      refine lv_iadd C0.1 C0.2.1 dX9_drift_112 ?_
      obtain ⟨g36, h⟩ := gd_some h
      refine x_lald C0 G0 hW cM_4 (by decide) g36 dX9_drift_113 ?_
      refine lv_bipush (v := (10 : Int32)) C0.1 C0.2.1 dX9_drift_114 (by decide) ?_
      refine lv_aload_n C0.1 C0.2.1 dX9_drift_116 rfl (lv_at hl 0 rfl) ?_
      refine x_get (v := .int (s34.1 0 0)) C0 G0 hW cM_0 (by decide) rfl 0 (by decide) inX9_drift_X9 lkX9_drift_94 rfl dX9_drift_117 ?_
      refine lv_isub C0.1 C0.2.1 dX9_drift_120 ?_
      refine lv_aload_n C0.1 C0.2.1 dX9_drift_121 rfl (lv_at hl 0 rfl) ?_
      refine x_get (v := .int (s34.1 0 1)) C0 G0 hW cM_0 (by decide) rfl 1 (by decide) inX9_drift_X9 lkX9_drift_97 rfl dX9_drift_122 ?_
      refine lv_isub C0.1 C0.2.1 dX9_drift_125 ?_
      refine lv_i2l (v := (((((10 : Int32) - (s34.1 0 0)) - (s34.1 0 1))).toInt64)) C0.1 C0.2.1 dX9_drift_126 rfl ?_
      refine lv_lmul C0.1 C0.2.1 dX9_drift_127 ?_
      refine lv_ladd C0.1 C0.2.1 dX9_drift_128 ?_
      obtain ⟨g37, h⟩ := gd_some h
      refine x_last C0 G0 hJ hW (fun f g => cM_7) (by decide) g37 dX9_drift_129 (fun H locs hW => ?_)
      obtain ⟨s38, es38, h⟩ := lt_some h
      rw [es38] at hW
      refine lv_iinc (v := (v4 + 1)) (lv' := [(4, .int (v4 + 1)), (0, .ref (aD G 0)), (2, .int v2), (3, .int v3)]) C0.1 C0.2.1 dX9_drift_130 hl (k := 3) rfl rfl (by decide) rfl (fun ls hl => ?_)
      refine lv_goto (tgt := 32) C0.1 C0.2.1 dX9_drift_133 (by decide) ?_
      exact hr32 s38 (v4 + 1) h _ _ _ hW (lv_sub hl [1, 2, 3, 0] rfl)
set_option maxHeartbeats 4000000 in
set_option maxRecDepth 100000 in
theorem wX9_drift_8 (C0 : Cx p s m args meth c cX9_drift RX9 5 none wsX9_drift) (G0 : Gx G s) (hJ : gJ 13 G) (z : Nat) (v2 : Int32) (v3 : Int32) (n : Nat) (σ : ST) (v4 : Int32) (res : ST) (h : fX9_drift_8 z v2 v3 n σ v4 = some res)  {H : Heap} {locs : List Loc} {ls : Array Slot} (hW : Wd cellM 13 G s.heap σ H locs) (hl : lv_has ls 5 [(0, .ref (aD G 0)), (2, .int v2), (3, .int v3), (4, .int v4)]) : W p l e rX9_drift s m args below meth c H locs 0 0 (MQ below (XQv cellM 13 G res) args s 0 0 (gA 13 G)) (F0 m 8 ls []) := by
  induction n generalizing σ v4 H locs ls with
  | zero => cases h
  | succ n ih =>
    have hr8 : ∀ (σ : ST) (v4 : Int32), fX9_drift_8 z v2 v3 n σ v4 = some res → ∀ (H : Heap) (locs : List Loc) (ls : Array Slot), Wd cellM 13 G s.heap σ H locs → lv_has ls 5 [(0, .ref (aD G 0)), (2, .int v2), (3, .int v3), (4, .int v4)] → W p l e rX9_drift s m args below meth c H locs 0 0 (MQ below (XQv cellM 13 G res) args s 0 0 (gA 13 G)) (F0 m 8 ls []) := fun σ v4 h H locs ls hW hl => ih σ v4 h hW hl
    clear ih
    unfold fX9_drift_8 at h
    refine lv_iload C0.1 C0.2.1 dX9_drift_8 (lv_at hl 3 rfl) ?_
    refine lv_bipush (v := (10 : Int32)) C0.1 C0.2.1 dX9_drift_10 (by decide) ?_
    refine lv_icmp_ge (tgt := 29) C0.1 C0.2.1 dX9_drift_12 (by decide) (fun c21 => ?_) (fun c21 => ?_)
    · rw [if_pos c21] at h
      refine lv_iconst (v := (0 : Int32)) C0.1 C0.2.1 dX9_drift_29 (by decide) ?_
      refine lv_istore (lv' := [(4, .int (0 : Int32)), (0, .ref (aD G 0)), (2, .int v2), (3, .int v3)]) C0.1 C0.2.1 dX9_drift_30 hl (by decide) rfl (fun ls hl => ?_)
      exact wX9_drift_32 C0 G0 hJ z v2 v3 z σ (0 : Int32) _ h hW (lv_sub hl [1, 2, 3, 0] rfl)
    · rw [if_neg c21] at h
      refine lv_aload_n C0.1 C0.2.1 dX9_drift_15 rfl (lv_at hl 0 rfl) ?_
      refine x_get (v := .ref (aD G 7)) C0 G0 hW cM_0 (by decide) rfl 20 (by decide) inX9_drift_X9 lkX9_drift_29 rfl dX9_drift_16 ?_
      refine lv_iload C0.1 C0.2.1 dX9_drift_19 (lv_at hl 3 rfl) ?_
      refine lv_lconst (v := (0 : Int64)) C0.1 C0.2.1 dX9_drift_21 (by decide) ?_
      obtain ⟨g22, h⟩ := gd_some h
      refine x_last C0 G0 hJ hW (fun f g => cM_7) (by decide) g22 dX9_drift_22 (fun H locs hW => ?_)
      obtain ⟨s23, es23, h⟩ := lt_some h
      rw [es23] at hW
      refine lv_iinc (v := (v4 + 1)) (lv' := [(4, .int (v4 + 1)), (0, .ref (aD G 0)), (2, .int v2), (3, .int v3)]) C0.1 C0.2.1 dX9_drift_23 hl (k := 3) rfl rfl (by decide) rfl (fun ls hl => ?_)
      refine lv_goto (tgt := 8) C0.1 C0.2.1 dX9_drift_26 (by decide) ?_
      exact hr8 s23 (v4 + 1) h _ _ _ hW (lv_sub hl [1, 2, 3, 0] rfl)
set_option maxHeartbeats 4000000 in
set_option maxRecDepth 100000 in
theorem wX9_drift (C0 : Cx p s m args meth c cX9_drift RX9 5 none wsX9_drift) (G0 : Gx G s) (hJ : gJ 13 G) (z : Nat) (σ : ST) (v1 : Int32) (v2 : Int32) (res : ST) (h : fX9_drift z σ v1 v2 = some res)  {H : Heap} {locs : List Loc} {ls : Array Slot} (hW : Wd cellM 13 G s.heap σ H locs) (hl : lv_has ls 5 [(0, .ref (aD G 0)), (1, .int v1), (2, .int v2)]) : W p l e rX9_drift s m args below meth c H locs 0 0 (MQ below (XQv cellM 13 G res) args s 0 0 (gA 13 G)) (F0 m 0 ls []) := by
  unfold fX9_drift at h
  refine lv_bipush (v := (11 : Int32)) C0.1 C0.2.1 dX9_drift_0 (by decide) ?_
  refine lv_iload_n C0.1 C0.2.1 dX9_drift_2 rfl (lv_at hl 1 rfl) ?_
  refine lv_imul C0.1 C0.2.1 dX9_drift_3 ?_
  refine lv_istore_n (lv' := [(3, .int ((11 : Int32) * v1)), (0, .ref (aD G 0)), (1, .int v1), (2, .int v2)]) C0.1 C0.2.1 dX9_drift_4 rfl hl (by decide) rfl (fun ls hl => ?_)
  refine lv_iconst (v := (0 : Int32)) C0.1 C0.2.1 dX9_drift_5 (by decide) ?_
  refine lv_istore (lv' := [(4, .int (0 : Int32)), (3, .int ((11 : Int32) * v1)), (0, .ref (aD G 0)), (1, .int v1), (2, .int v2)]) C0.1 C0.2.1 dX9_drift_6 hl (by decide) rfl (fun ls hl => ?_)
  exact wX9_drift_8 C0 G0 hJ z v2 ((11 : Int32) * v1) z σ (0 : Int32) _ h hW (lv_sub hl [2, 4, 1, 0] rfl)
theorem cX9_drift_met (l : Launch) {G : GT} (hJ : gJ 13 G) (z : Nat) (σ : ST) (v1 : Int32) (v2 : Int32) (res : ST) (h : fX9_drift z σ v1 v2 = some res) : Met l yX9_drift wsX9_drift rX9_drift (XPc cellM 13 G σ [.ref (aD G 0), .int v1, .int v2]) (XQv cellM 13 G res) 0 0 (gA 13 G) :=
  x_met (ret := none) (maxL := 5) (by decide) rfl (Nat.le_of_ble_eq_true rfl) (fun p e s m args below meth c H locs ls C0 G0 hW hl => wX9_drift C0 G0 hJ z σ v1 v2 res h hW hl)
end
/-! X9_foundBy -/
def rX9_foundBy : Room := { frames := 2, cells := 0, slots := 0, locals := 46 }
theorem hdvX9_foundBy : yX9_foundBy.cls = RX9 ∧ yX9_foundBy.cls ≠ "java/lang/invoke/MethodHandle" ∧ yX9_foundBy.cls ≠ "java/lang/invoke/VarHandle" ∧ (parseMethodDescriptor yX9_foundBy.desc).map (fun d => d.parameters.length) = some 2 := by decide +kernel
theorem inX9_foundBy_X9 : ∀ w ∈ u_ws RX9 TX9 29, w ∈ wsX9_foundBy := by decide +kernel
theorem lkX9_foundBy_23 : Cond.fieldLink RX9 23 (TX9 15).1 (TX9 15).2.1 (TX9 15).2.2.1 ∈ wsX9_foundBy := by decide +kernel
theorem kcX9_foundBy_170 : Cond.constantLong RX9 170 (100 : Int64) ∈ wsX9_foundBy := by decide +kernel
theorem kcX9_foundBy_128 : Cond.constantLong RX9 128 (10 : Int64) ∈ wsX9_foundBy := by decide +kernel
def fX9_foundBy_81 (z : Nat) (r19 : ST → Int32 → Int64 → Int32 → Option (Int64 × ST)) (σ : ST) (v1 : Int32) (v2 : Int32) (v3 : Int32) (v6 : Int32) (t0 : Int32) (t1 : Int32) (t3 : Int64) (t4 : Int64) : Option (Int64 × ST) := bd (fX9_lookAt z σ t1 t0) (fun u30 => gd (inb (1 : Int32) 9) ( bd (fX9_drift z u30.2 (1 : Int32) ((u30.2.1 5 ((1 : Int32)).toNatClampNeg) + v6)) (fun u32 => r19 u32 v3 (t4 + (t3 * u30.1)) (v6 + 1))))
def fX9_foundBy_57 (z : Nat) (r19 : ST → Int32 → Int64 → Int32 → Option (Int64 × ST)) (σ : ST) (v1 : Int32) (v2 : Int32) (v4 : Int64) (v6 : Int32) (v7 : Int32) (t0 : Int32) : Option (Int64 × ST) := (if v7 = (3 : Int32) then fX9_foundBy_81 z r19 σ v1 v2 t0 v6 (10 : Int32) (1 : Int32) (10 : Int64) ((100 : Int64) * v4) else fX9_foundBy_81 z r19 σ v1 v2 t0 v6 t0 (1 : Int32) (10 : Int64) ((100 : Int64) * v4))
def fX9_foundBy_19 (z : Nat) (v1 : Int32) (v2 : Int32) : Nat → ST → Int32 → Int64 → Int32 → Option (Int64 × ST)
  | 0 => fun _ _ _ _ => none
  | n + 1 => fun σ v3 v4 v6 => (if v1 ≤ v6 then some (v4, σ) else bd (fX9_tenTo z ((v1 - (1 : Int32)) - v6)) (fun u24 => gd (nz u24) ( gd (nz (10 : Int32)) ( (if ((v2 / u24) - (v2 / u24) / (10 : Int32) * (10 : Int32)) = (3 : Int32) then fX9_foundBy_57 z (fX9_foundBy_19 z v1 v2 n) σ v1 v2 v4 v6 ((v2 / u24) - (v2 / u24) / (10 : Int32) * (10 : Int32)) v3 else bd (fX9_to z v3 ((v2 / u24) - (v2 / u24) / (10 : Int32) * (10 : Int32))) (fun u28 => fX9_foundBy_57 z (fX9_foundBy_19 z v1 v2 n) σ v1 v2 v4 v6 ((v2 / u24) - (v2 / u24) / (10 : Int32) * (10 : Int32)) u28))))))
def fX9_foundBy (z : Nat) (σ : ST) (v1 : Int32) (v2 : Int32) : Option (Int64 × ST) := bd (fX9_lay z σ (0 : Int32) (1 : Int32)) (fun u21 => gd (inb (0 : Int32) 9) ( fX9_foundBy_19 z v1 v2 z u21 (u21.1 5 ((0 : Int32)).toNatClampNeg) (0 : Int64) (0 : Int32)))
section
variable {p : Program} {l : Launch} {e : Env} {s : State} {m : MethodId} {args : Array Value} {below : List Frame} {meth : Method} {c : Code} {G : GT}
set_option maxHeartbeats 4000000 in
set_option maxRecDepth 100000 in
theorem wX9_foundBy_81 (C0 : Cx p s m args meth c cX9_foundBy RX9 8 (some .long) wsX9_foundBy) (G0 : Gx G s) (hJ : gJ 13 G) (z : Nat) (r19 : ST → Int32 → Int64 → Int32 → Option (Int64 × ST)) (σ : ST) (v1 : Int32) (v2 : Int32) (v3 : Int32) (v6 : Int32) (t0 : Int32) (t1 : Int32) (t3 : Int64) (t4 : Int64) (res : (Int64 × ST)) (h : fX9_foundBy_81 z r19 σ v1 v2 v3 v6 t0 t1 t3 t4 = some res) (hr19 : ∀ (σ : ST) (v3 : Int32) (v4 : Int64) (v6 : Int32), r19 σ v3 v4 v6 = some res → ∀ (H : Heap) (locs : List Loc) (ls : Array Slot), Wd cellM 13 G s.heap σ H locs → lv_has ls 8 [(0, .ref (aD G 0)), (1, .int v1), (2, .int v2), (3, .int v3), (4, .long v4), (6, .int v6)] → W p l e rX9_foundBy s m args below meth c H locs 0 0 (MQ below (XQl cellM 13 G res.1 res.2) args s 0 0 (gA 13 G)) (F0 m 19 ls [])) {H : Heap} {locs : List Loc} {ls : Array Slot} (hW : Wd cellM 13 G s.heap σ H locs) (hl : lv_has ls 8 [(0, .ref (aD G 0)), (1, .int v1), (2, .int v2), (3, .int v3), (6, .int v6)]) : W p l e rX9_foundBy s m args below meth c H locs 0 0 (MQ below (XQl cellM 13 G res.1 res.2) args s 0 0 (gA 13 G)) (F0 m 81 ls [.int t0, .int t1, .ref (aD G 0), .long t3, .long t4]) := by
  unfold fX9_foundBy_81 at h
  obtain ⟨u30, hu30, h⟩ := bd_some h
  refine x_kl (r := u30.1) (x_runV (As := [.int t1, .int t0]) (rest := [.long t3, .long t4]) C0 G0 hW (cX9_lookAt_met l hJ z σ t1 t0 _ hu30) (cwV 2 C0.2.2.2.1 gX9_foundBy_X9_lookAt rfl rfl rfl hdvX9_lookAt ⟨Nat.le_of_ble_eq_true rfl, Nat.le_of_ble_eq_true rfl⟩) cM_0 (by decide) rfl rfl rfl hl (Nat.le_of_ble_eq_true rfl) dX9_foundBy_81 ⟨Nat.le_refl 0, Nat.le_refl 0⟩) hW (fun H locs hW => ?_)
  refine lv_lmul C0.1 C0.2.1 dX9_foundBy_84 ?_
  refine lv_ladd C0.1 C0.2.1 dX9_foundBy_85 ?_
  refine lv_lstore (lv' := [(4, .long (t4 + (t3 * u30.1))), (0, .ref (aD G 0)), (1, .int v1), (2, .int v2), (3, .int v3), (6, .int v6)]) C0.1 C0.2.1 dX9_foundBy_86 hl (by decide) rfl (fun ls hl => ?_)
  refine lv_aload_n C0.1 C0.2.1 dX9_foundBy_88 rfl (lv_at hl 1 rfl) ?_
  refine lv_iconst (v := (1 : Int32)) C0.1 C0.2.1 dX9_foundBy_89 (by decide) ?_
  refine lv_aload_n C0.1 C0.2.1 dX9_foundBy_90 rfl (lv_at hl 1 rfl) ?_
  refine x_get (v := .ref (aD G 5)) C0 G0 hW cM_0 (by decide) rfl 15 (by decide) inX9_foundBy_X9 lkX9_foundBy_23 rfl dX9_foundBy_91 ?_
  refine lv_iconst (v := (1 : Int32)) C0.1 C0.2.1 dX9_foundBy_94 (by decide) ?_
  obtain ⟨g31, h⟩ := gd_some h
  refine x_iald C0 G0 hW cM_5 (by decide) g31 dX9_foundBy_95 ?_
  refine lv_iload C0.1 C0.2.1 dX9_foundBy_96 (lv_at hl 5 rfl) ?_
  refine lv_iadd C0.1 C0.2.1 dX9_foundBy_98 ?_
  obtain ⟨u32, hu32, h⟩ := bd_some h
  refine x_kv (x_runV (As := [.int (1 : Int32), .int ((u30.2.1 5 ((1 : Int32)).toNatClampNeg) + v6)]) (rest := []) C0 G0 hW (cX9_drift_met l hJ z u30.2 (1 : Int32) ((u30.2.1 5 ((1 : Int32)).toNatClampNeg) + v6) _ hu32) (cwV 2 C0.2.2.2.1 gX9_foundBy_X9_drift rfl rfl rfl hdvX9_drift ⟨Nat.le_of_ble_eq_true rfl, Nat.le_of_ble_eq_true rfl⟩) cM_0 (by decide) rfl rfl rfl hl (Nat.le_of_ble_eq_true rfl) dX9_foundBy_99 ⟨Nat.le_refl 0, Nat.le_refl 0⟩) hW (fun H locs hW => ?_)
  refine lv_iinc (v := (v6 + 1)) (lv' := [(6, .int (v6 + 1)), (4, .long (t4 + (t3 * u30.1))), (0, .ref (aD G 0)), (1, .int v1), (2, .int v2), (3, .int v3)]) C0.1 C0.2.1 dX9_foundBy_102 hl (k := 5) rfl rfl (by decide) rfl (fun ls hl => ?_)
  refine lv_goto (tgt := 19) C0.1 C0.2.1 dX9_foundBy_105 (by decide) ?_
  exact hr19 u32 v3 (t4 + (t3 * u30.1)) (v6 + 1) h _ _ _ hW (lv_sub hl [2, 3, 4, 5, 1, 0] rfl)
set_option maxHeartbeats 4000000 in
set_option maxRecDepth 100000 in
theorem wX9_foundBy_57 (C0 : Cx p s m args meth c cX9_foundBy RX9 8 (some .long) wsX9_foundBy) (G0 : Gx G s) (hJ : gJ 13 G) (z : Nat) (r19 : ST → Int32 → Int64 → Int32 → Option (Int64 × ST)) (σ : ST) (v1 : Int32) (v2 : Int32) (v4 : Int64) (v6 : Int32) (v7 : Int32) (t0 : Int32) (res : (Int64 × ST)) (h : fX9_foundBy_57 z r19 σ v1 v2 v4 v6 v7 t0 = some res) (hr19 : ∀ (σ : ST) (v3 : Int32) (v4 : Int64) (v6 : Int32), r19 σ v3 v4 v6 = some res → ∀ (H : Heap) (locs : List Loc) (ls : Array Slot), Wd cellM 13 G s.heap σ H locs → lv_has ls 8 [(0, .ref (aD G 0)), (1, .int v1), (2, .int v2), (3, .int v3), (4, .long v4), (6, .int v6)] → W p l e rX9_foundBy s m args below meth c H locs 0 0 (MQ below (XQl cellM 13 G res.1 res.2) args s 0 0 (gA 13 G)) (F0 m 19 ls [])) {H : Heap} {locs : List Loc} {ls : Array Slot} (hW : Wd cellM 13 G s.heap σ H locs) (hl : lv_has ls 8 [(0, .ref (aD G 0)), (1, .int v1), (2, .int v2), (4, .long v4), (6, .int v6), (7, .int v7)]) : W p l e rX9_foundBy s m args below meth c H locs 0 0 (MQ below (XQl cellM 13 G res.1 res.2) args s 0 0 (gA 13 G)) (F0 m 57 ls [.int t0]) := by
  unfold fX9_foundBy_57 at h
  refine lv_istore_n (lv' := [(3, .int t0), (0, .ref (aD G 0)), (1, .int v1), (2, .int v2), (4, .long v4), (6, .int v6), (7, .int v7)]) C0.1 C0.2.1 dX9_foundBy_57 rfl hl (by decide) rfl (fun ls hl => ?_)
  refine lv_ldc2 (v := (100 : Int64)) C0.1 C0.2.1 C0.2.2.2.2.1 (C0.2.2.2.1 _ kcX9_foundBy_170) dX9_foundBy_58 ?_
  refine lv_lload C0.1 C0.2.1 dX9_foundBy_61 (lv_at hl 4 rfl) ?_
  refine lv_lmul C0.1 C0.2.1 dX9_foundBy_63 ?_
  refine lv_ldc2 (v := (10 : Int64)) C0.1 C0.2.1 C0.2.2.2.2.1 (C0.2.2.2.1 _ kcX9_foundBy_128) dX9_foundBy_64 ?_
  refine lv_aload_n C0.1 C0.2.1 dX9_foundBy_67 rfl (lv_at hl 1 rfl) ?_
  refine lv_iconst (v := (1 : Int32)) C0.1 C0.2.1 dX9_foundBy_68 (by decide) ?_
  refine lv_iload C0.1 C0.2.1 dX9_foundBy_69 (lv_at hl 6 rfl) ?_
  refine lv_iconst (v := (3 : Int32)) C0.1 C0.2.1 dX9_foundBy_71 (by decide) ?_
  refine lv_icmp_ne (tgt := 80) C0.1 C0.2.1 dX9_foundBy_72 (by decide) (fun c29 => ?_) (fun c29 => ?_)
  · rw [if_neg c29] at h
    refine lv_iload_n C0.1 C0.2.1 dX9_foundBy_80 rfl (lv_at hl 0 rfl) ?_
    exact wX9_foundBy_81 C0 G0 hJ z r19 σ v1 v2 t0 v6 t0 (1 : Int32) (10 : Int64) ((100 : Int64) * v4) _ h (by exact hr19) hW (lv_sub hl [1, 2, 3, 0, 5] rfl)
  · rw [if_pos c29] at h
    refine lv_bipush (v := (10 : Int32)) C0.1 C0.2.1 dX9_foundBy_75 (by decide) ?_
    refine lv_goto (tgt := 81) C0.1 C0.2.1 dX9_foundBy_77 (by decide) ?_
    exact wX9_foundBy_81 C0 G0 hJ z r19 σ v1 v2 t0 v6 (10 : Int32) (1 : Int32) (10 : Int64) ((100 : Int64) * v4) _ h (by exact hr19) hW (lv_sub hl [1, 2, 3, 0, 5] rfl)
set_option maxHeartbeats 4000000 in
set_option maxRecDepth 100000 in
theorem wX9_foundBy_19 (C0 : Cx p s m args meth c cX9_foundBy RX9 8 (some .long) wsX9_foundBy) (G0 : Gx G s) (hJ : gJ 13 G) (z : Nat) (v1 : Int32) (v2 : Int32) (n : Nat) (σ : ST) (v3 : Int32) (v4 : Int64) (v6 : Int32) (res : (Int64 × ST)) (h : fX9_foundBy_19 z v1 v2 n σ v3 v4 v6 = some res)  {H : Heap} {locs : List Loc} {ls : Array Slot} (hW : Wd cellM 13 G s.heap σ H locs) (hl : lv_has ls 8 [(0, .ref (aD G 0)), (1, .int v1), (2, .int v2), (3, .int v3), (4, .long v4), (6, .int v6)]) : W p l e rX9_foundBy s m args below meth c H locs 0 0 (MQ below (XQl cellM 13 G res.1 res.2) args s 0 0 (gA 13 G)) (F0 m 19 ls []) := by
  induction n generalizing σ v3 v4 v6 H locs ls with
  | zero => cases h
  | succ n ih =>
    have hr19 : ∀ (σ : ST) (v3 : Int32) (v4 : Int64) (v6 : Int32), fX9_foundBy_19 z v1 v2 n σ v3 v4 v6 = some res → ∀ (H : Heap) (locs : List Loc) (ls : Array Slot), Wd cellM 13 G s.heap σ H locs → lv_has ls 8 [(0, .ref (aD G 0)), (1, .int v1), (2, .int v2), (3, .int v3), (4, .long v4), (6, .int v6)] → W p l e rX9_foundBy s m args below meth c H locs 0 0 (MQ below (XQl cellM 13 G res.1 res.2) args s 0 0 (gA 13 G)) (F0 m 19 ls []) := fun σ v3 v4 v6 h H locs ls hW hl => ih σ v3 v4 v6 h hW hl
    clear ih
    unfold fX9_foundBy_19 at h
    refine lv_iload C0.1 C0.2.1 dX9_foundBy_19 (lv_at hl 5 rfl) ?_
    refine lv_iload_n C0.1 C0.2.1 dX9_foundBy_21 rfl (lv_at hl 1 rfl) ?_
    refine lv_icmp_ge (tgt := 108) C0.1 C0.2.1 dX9_foundBy_22 (by decide) (fun c23 => ?_) (fun c23 => ?_)
    · rw [if_pos c23] at h
      refine lv_lload C0.1 C0.2.1 dX9_foundBy_108 (lv_at hl 4 rfl) ?_
      cases h
      exact x_lret C0 hW dX9_foundBy_110
    · rw [if_neg c23] at h
      refine lv_iload_n C0.1 C0.2.1 dX9_foundBy_25 rfl (lv_at hl 2 rfl) ?_
      refine lv_iload_n C0.1 C0.2.1 dX9_foundBy_26 rfl (lv_at hl 1 rfl) ?_
      refine lv_iconst (v := (1 : Int32)) C0.1 C0.2.1 dX9_foundBy_27 (by decide) ?_
      refine lv_isub C0.1 C0.2.1 dX9_foundBy_28 ?_
      refine lv_iload C0.1 C0.2.1 dX9_foundBy_29 (lv_at hl 5 rfl) ?_
      refine lv_isub C0.1 C0.2.1 dX9_foundBy_31 ?_
      obtain ⟨u24, hu24, h⟩ := bd_some h
      refine x_ki (r := u24) (x_runS (As := [.int ((v1 - (1 : Int32)) - v6)]) (rest := [.int v2]) C0 G0 hW (cX9_tenTo_met l hJ z σ ((v1 - (1 : Int32)) - v6) _ hu24) (va_cwS 1 C0.2.2.2.1 gX9_foundBy_X9_tenTo rfl rfl rfl hdsX9_tenTo ⟨Nat.le_of_ble_eq_true rfl, Nat.le_of_ble_eq_true rfl⟩) rfl rfl hl (Nat.le_of_ble_eq_true rfl) dX9_foundBy_32 ⟨Nat.le_refl 0, Nat.le_refl 0⟩) hW (fun H locs hW => ?_)
      obtain ⟨g25, h⟩ := gd_some h
      refine lv_idiv C0.1 C0.2.1 dX9_foundBy_35 (nz_of g25) ?_
      refine lv_bipush (v := (10 : Int32)) C0.1 C0.2.1 dX9_foundBy_36 (by decide) ?_
      obtain ⟨g26, h⟩ := gd_some h
      refine lv_irem C0.1 C0.2.1 dX9_foundBy_38 (nz_of g26) ?_
      refine lv_istore (lv' := [(7, .int ((v2 / u24) - (v2 / u24) / (10 : Int32) * (10 : Int32))), (0, .ref (aD G 0)), (1, .int v1), (2, .int v2), (3, .int v3), (4, .long v4), (6, .int v6)]) C0.1 C0.2.1 dX9_foundBy_39 hl (by decide) rfl (fun ls hl => ?_)
      refine lv_iload C0.1 C0.2.1 dX9_foundBy_41 (lv_at hl 0 rfl) ?_
      refine lv_iconst (v := (3 : Int32)) C0.1 C0.2.1 dX9_foundBy_43 (by decide) ?_
      refine lv_icmp_ne (tgt := 51) C0.1 C0.2.1 dX9_foundBy_44 (by decide) (fun c27 => ?_) (fun c27 => ?_)
      · rw [if_neg c27] at h
        refine lv_iload_n C0.1 C0.2.1 dX9_foundBy_51 rfl (lv_at hl 4 rfl) ?_
        refine lv_iload C0.1 C0.2.1 dX9_foundBy_52 (lv_at hl 0 rfl) ?_
        obtain ⟨u28, hu28, h⟩ := bd_some h
        refine x_ki (r := u28) (x_runS (As := [.int v3, .int ((v2 / u24) - (v2 / u24) / (10 : Int32) * (10 : Int32))]) (rest := []) C0 G0 hW (cX9_to_met l hJ z σ v3 ((v2 / u24) - (v2 / u24) / (10 : Int32) * (10 : Int32)) _ hu28) (va_cwS 2 C0.2.2.2.1 gX9_foundBy_X9_to rfl rfl rfl hdsX9_to ⟨Nat.le_of_ble_eq_true rfl, Nat.le_of_ble_eq_true rfl⟩) rfl rfl hl (Nat.le_of_ble_eq_true rfl) dX9_foundBy_54 ⟨Nat.le_refl 0, Nat.le_refl 0⟩) hW (fun H locs hW => ?_)
        exact wX9_foundBy_57 C0 G0 hJ z (fX9_foundBy_19 z v1 v2 n) σ v1 v2 v4 v6 ((v2 / u24) - (v2 / u24) / (10 : Int32) * (10 : Int32)) u28 _ h (by exact hr19) hW (lv_sub hl [1, 2, 3, 5, 6, 0] rfl)
      · rw [if_pos c27] at h
        refine lv_iload_n C0.1 C0.2.1 dX9_foundBy_47 rfl (lv_at hl 4 rfl) ?_
        refine lv_goto (tgt := 57) C0.1 C0.2.1 dX9_foundBy_48 (by decide) ?_
        exact wX9_foundBy_57 C0 G0 hJ z (fX9_foundBy_19 z v1 v2 n) σ v1 v2 v4 v6 ((v2 / u24) - (v2 / u24) / (10 : Int32) * (10 : Int32)) v3 _ h (by exact hr19) hW (lv_sub hl [1, 2, 3, 5, 6, 0] rfl)
set_option maxHeartbeats 4000000 in
set_option maxRecDepth 100000 in
theorem wX9_foundBy (C0 : Cx p s m args meth c cX9_foundBy RX9 8 (some .long) wsX9_foundBy) (G0 : Gx G s) (hJ : gJ 13 G) (z : Nat) (σ : ST) (v1 : Int32) (v2 : Int32) (res : (Int64 × ST)) (h : fX9_foundBy z σ v1 v2 = some res)  {H : Heap} {locs : List Loc} {ls : Array Slot} (hW : Wd cellM 13 G s.heap σ H locs) (hl : lv_has ls 8 [(0, .ref (aD G 0)), (1, .int v1), (2, .int v2)]) : W p l e rX9_foundBy s m args below meth c H locs 0 0 (MQ below (XQl cellM 13 G res.1 res.2) args s 0 0 (gA 13 G)) (F0 m 0 ls []) := by
  unfold fX9_foundBy at h
  refine lv_aload_n C0.1 C0.2.1 dX9_foundBy_0 rfl (lv_at hl 0 rfl) ?_
  refine lv_iconst (v := (0 : Int32)) C0.1 C0.2.1 dX9_foundBy_1 (by decide) ?_
  refine lv_iconst (v := (1 : Int32)) C0.1 C0.2.1 dX9_foundBy_2 (by decide) ?_
  obtain ⟨u21, hu21, h⟩ := bd_some h
  refine x_kv (x_runV (As := [.int (0 : Int32), .int (1 : Int32)]) (rest := []) C0 G0 hW (cX9_lay_met l hJ z σ (0 : Int32) (1 : Int32) _ hu21) (cwV 2 C0.2.2.2.1 gX9_foundBy_X9_lay rfl rfl rfl hdvX9_lay ⟨Nat.le_of_ble_eq_true rfl, Nat.le_of_ble_eq_true rfl⟩) cM_0 (by decide) rfl rfl rfl hl (Nat.le_of_ble_eq_true rfl) dX9_foundBy_3 ⟨Nat.le_refl 0, Nat.le_refl 0⟩) hW (fun H locs hW => ?_)
  refine lv_aload_n C0.1 C0.2.1 dX9_foundBy_6 rfl (lv_at hl 0 rfl) ?_
  refine x_get (v := .ref (aD G 5)) C0 G0 hW cM_0 (by decide) rfl 15 (by decide) inX9_foundBy_X9 lkX9_foundBy_23 rfl dX9_foundBy_7 ?_
  refine lv_iconst (v := (0 : Int32)) C0.1 C0.2.1 dX9_foundBy_10 (by decide) ?_
  obtain ⟨g22, h⟩ := gd_some h
  refine x_iald C0 G0 hW cM_5 (by decide) g22 dX9_foundBy_11 ?_
  refine lv_istore_n (lv' := [(3, .int (u21.1 5 ((0 : Int32)).toNatClampNeg)), (0, .ref (aD G 0)), (1, .int v1), (2, .int v2)]) C0.1 C0.2.1 dX9_foundBy_12 rfl hl (by decide) rfl (fun ls hl => ?_)
  refine lv_lconst (v := (0 : Int64)) C0.1 C0.2.1 dX9_foundBy_13 (by decide) ?_
  refine lv_lstore (lv' := [(4, .long (0 : Int64)), (3, .int (u21.1 5 ((0 : Int32)).toNatClampNeg)), (0, .ref (aD G 0)), (1, .int v1), (2, .int v2)]) C0.1 C0.2.1 dX9_foundBy_14 hl (by decide) rfl (fun ls hl => ?_)
  refine lv_iconst (v := (0 : Int32)) C0.1 C0.2.1 dX9_foundBy_16 (by decide) ?_
  refine lv_istore (lv' := [(6, .int (0 : Int32)), (4, .long (0 : Int64)), (3, .int (u21.1 5 ((0 : Int32)).toNatClampNeg)), (0, .ref (aD G 0)), (1, .int v1), (2, .int v2)]) C0.1 C0.2.1 dX9_foundBy_17 hl (by decide) rfl (fun ls hl => ?_)
  exact wX9_foundBy_19 C0 G0 hJ z v1 v2 z u21 (u21.1 5 ((0 : Int32)).toNatClampNeg) (0 : Int64) (0 : Int32) _ h hW (lv_sub hl [3, 4, 5, 2, 1, 0] rfl)
theorem cX9_foundBy_met (l : Launch) {G : GT} (hJ : gJ 13 G) (z : Nat) (σ : ST) (v1 : Int32) (v2 : Int32) (res : (Int64 × ST)) (h : fX9_foundBy z σ v1 v2 = some res) : Met l yX9_foundBy wsX9_foundBy rX9_foundBy (XPc cellM 13 G σ [.ref (aD G 0), .int v1, .int v2]) (XQl cellM 13 G res.1 res.2) 0 0 (gA 13 G) :=
  x_met (ret := (some .long)) (maxL := 8) (by decide) rfl (Nat.le_of_ble_eq_true rfl) (fun p e s m args below meth c H locs ls C0 G0 hW hl => wX9_foundBy C0 G0 hJ z σ v1 v2 res h hW hl)
end
/-! X9_bestBy -/
def rX9_bestBy : Room := { frames := 3, cells := 0, slots := 0, locals := 73 }
theorem hdvX9_bestBy : yX9_bestBy.cls = RX9 ∧ yX9_bestBy.cls ≠ "java/lang/invoke/MethodHandle" ∧ yX9_bestBy.cls ≠ "java/lang/invoke/VarHandle" ∧ (parseMethodDescriptor yX9_bestBy.desc).map (fun d => d.parameters.length) = some 2 := by decide +kernel
theorem kcX9_bestBy_190 : Cond.constantLong RX9 190 (-1 : Int64) ∈ wsX9_bestBy := by decide +kernel
theorem inX9_bestBy_X9 : ∀ w ∈ u_ws RX9 TX9 29, w ∈ wsX9_bestBy := by decide +kernel
theorem lkX9_bestBy_192 : Cond.fieldLink RX9 192 (TX9 24).1 (TX9 24).2.1 (TX9 24).2.2.1 ∈ wsX9_bestBy := by decide +kernel
def fX9_bestBy_129 (z : Nat) (r12 : ST → Int64 → Int32 → Option (Int64 × ST)) (σ : ST) (v1 : Int32) (v2 : Int32) (v5 : Int32) (t0 : Int64) : Option (Int64 × ST) := r12 σ t0 (v5 + 1)
def fX9_bestBy_113 (z : Nat) (r12 : ST → Int64 → Int32 → Option (Int64 × ST)) (σ : ST) (v1 : Int32) (v2 : Int32) (v3 : Int64) (v5 : Int32) (v8 : Int64) (t0 : Int32) : Option (Int64 × ST) := lt (pI σ 0 24 t0) (fun s35 => (if v8 ≤ v3 then fX9_bestBy_129 z r12 s35 v1 v2 v5 v3 else fX9_bestBy_129 z r12 s35 v1 v2 v5 v8))
def fX9_bestBy_94 (z : Nat) (r12 : ST → Int64 → Int32 → Option (Int64 × ST)) (σ : ST) (v1 : Int32) (v2 : Int32) (v3 : Int64) (v5 : Int32) (t0 : Int64) : Option (Int64 × ST) := (if t0 ≤ v3 then fX9_bestBy_113 z r12 σ v1 v2 v3 v5 t0 (σ.1 0 24) else fX9_bestBy_113 z r12 σ v1 v2 v3 v5 t0 v5)
def fX9_bestBy_74 (z : Nat) (r12 : ST → Int64 → Int32 → Option (Int64 × ST)) (σ : ST) (v1 : Int32) (v2 : Int32) (v3 : Int64) (v5 : Int32) (t0 : Int32) : Option (Int64 × ST) := (if t0 = 0 then fX9_bestBy_94 z r12 σ v1 v2 v3 v5 (-1 : Int64) else bd (fX9_foundBy z σ v1 v5) (fun u33 => fX9_bestBy_94 z r12 u33.2 v1 v2 v3 v5 u33.1))
def fX9_bestBy_73 (z : Nat) (r12 : ST → Int64 → Int32 → Option (Int64 × ST)) (σ : ST) (v1 : Int32) (v2 : Int32) (v3 : Int64) (v5 : Int32) : Option (Int64 × ST) := fX9_bestBy_74 z r12 σ v1 v2 v3 v5 (0 : Int32)
def fX9_bestBy_69 (z : Nat) (r12 : ST → Int64 → Int32 → Option (Int64 × ST)) (σ : ST) (v1 : Int32) (v2 : Int32) (v3 : Int64) (v5 : Int32) : Option (Int64 × ST) := fX9_bestBy_74 z r12 σ v1 v2 v3 v5 (1 : Int32)
def fX9_bestBy_64 (z : Nat) (r12 : ST → Int64 → Int32 → Option (Int64 × ST)) (σ : ST) (v1 : Int32) (v2 : Int32) (v3 : Int64) (v5 : Int32) (v6 : Int32) (t0 : Int32) : Option (Int64 × ST) := (if t0 = v6 then fX9_bestBy_69 z r12 σ v1 v2 v3 v5 else fX9_bestBy_73 z r12 σ v1 v2 v3 v5)
def fX9_bestBy_39 (z : Nat) (r12 : ST → Int64 → Int32 → Option (Int64 × ST)) (σ : ST) (v1 : Int32) (v2 : Int32) (v3 : Int64) (v5 : Int32) (t0 : Int32) : Option (Int64 × ST) := bd (fX9_isRow z v1 v5) (fun u27 => (if u27 = 0 then fX9_bestBy_73 z r12 σ v1 v2 v3 v5 else (if v2 = 0 then fX9_bestBy_69 z r12 σ v1 v2 v3 v5 else (if v2 = (1 : Int32) then fX9_bestBy_64 z r12 σ v1 v2 v3 v5 t0 (1 : Int32) else fX9_bestBy_64 z r12 σ v1 v2 v3 v5 t0 (0 : Int32)))))
def fX9_bestBy_12 (z : Nat) (v1 : Int32) (v2 : Int32) : Nat → ST → Int64 → Int32 → Option (Int64 × ST)
  | 0 => fun _ _ _ => none
  | n + 1 => fun σ v3 v5 => bd (fX9_tenTo z v1) (fun u22 => (if u22 ≤ v5 then some (v3, σ) else bd (fX9_tenTo z (v1 - (1 : Int32))) (fun u24 => gd (nz u24) ( (if (v5 / u24) = (3 : Int32) then fX9_bestBy_39 z (fX9_bestBy_12 z v1 v2 n) σ v1 v2 v3 v5 (1 : Int32) else fX9_bestBy_39 z (fX9_bestBy_12 z v1 v2 n) σ v1 v2 v3 v5 (0 : Int32))))))
def fX9_bestBy (z : Nat) (σ : ST) (v1 : Int32) (v2 : Int32) : Option (Int64 × ST) := lt (pI σ 0 24 (0 : Int32)) (fun s21 => fX9_bestBy_12 z v1 v2 z s21 (-1 : Int64) (0 : Int32))
section
variable {p : Program} {l : Launch} {e : Env} {s : State} {m : MethodId} {args : Array Value} {below : List Frame} {meth : Method} {c : Code} {G : GT}
set_option maxHeartbeats 4000000 in
set_option maxRecDepth 100000 in
theorem wX9_bestBy_129 (C0 : Cx p s m args meth c cX9_bestBy RX9 10 (some .long) wsX9_bestBy) (G0 : Gx G s) (hJ : gJ 13 G) (z : Nat) (r12 : ST → Int64 → Int32 → Option (Int64 × ST)) (σ : ST) (v1 : Int32) (v2 : Int32) (v5 : Int32) (t0 : Int64) (res : (Int64 × ST)) (h : fX9_bestBy_129 z r12 σ v1 v2 v5 t0 = some res) (hr12 : ∀ (σ : ST) (v3 : Int64) (v5 : Int32), r12 σ v3 v5 = some res → ∀ (H : Heap) (locs : List Loc) (ls : Array Slot), Wd cellM 13 G s.heap σ H locs → lv_has ls 10 [(0, .ref (aD G 0)), (1, .int v1), (2, .int v2), (3, .long v3), (5, .int v5)] → W p l e rX9_bestBy s m args below meth c H locs 0 0 (MQ below (XQl cellM 13 G res.1 res.2) args s 0 0 (gA 13 G)) (F0 m 12 ls [])) {H : Heap} {locs : List Loc} {ls : Array Slot} (hW : Wd cellM 13 G s.heap σ H locs) (hl : lv_has ls 10 [(0, .ref (aD G 0)), (1, .int v1), (2, .int v2), (5, .int v5)]) : W p l e rX9_bestBy s m args below meth c H locs 0 0 (MQ below (XQl cellM 13 G res.1 res.2) args s 0 0 (gA 13 G)) (F0 m 129 ls [.long t0]) := by
  unfold fX9_bestBy_129 at h
  refine lv_lstore_n (lv' := [(3, .long t0), (0, .ref (aD G 0)), (1, .int v1), (2, .int v2), (5, .int v5)]) C0.1 C0.2.1 dX9_bestBy_129 rfl hl (by decide) rfl (fun ls hl => ?_)
  refine lv_iinc (v := (v5 + 1)) (lv' := [(5, .int (v5 + 1)), (3, .long t0), (0, .ref (aD G 0)), (1, .int v1), (2, .int v2)]) C0.1 C0.2.1 dX9_bestBy_130 hl (k := 4) rfl rfl (by decide) rfl (fun ls hl => ?_)
  refine lv_goto (tgt := 12) C0.1 C0.2.1 dX9_bestBy_133 (by decide) ?_
  exact hr12 σ t0 (v5 + 1) h _ _ _ hW (lv_sub hl [2, 3, 4, 1, 0] rfl)
set_option maxHeartbeats 4000000 in
set_option maxRecDepth 100000 in
theorem wX9_bestBy_113 (C0 : Cx p s m args meth c cX9_bestBy RX9 10 (some .long) wsX9_bestBy) (G0 : Gx G s) (hJ : gJ 13 G) (z : Nat) (r12 : ST → Int64 → Int32 → Option (Int64 × ST)) (σ : ST) (v1 : Int32) (v2 : Int32) (v3 : Int64) (v5 : Int32) (v8 : Int64) (t0 : Int32) (res : (Int64 × ST)) (h : fX9_bestBy_113 z r12 σ v1 v2 v3 v5 v8 t0 = some res) (hr12 : ∀ (σ : ST) (v3 : Int64) (v5 : Int32), r12 σ v3 v5 = some res → ∀ (H : Heap) (locs : List Loc) (ls : Array Slot), Wd cellM 13 G s.heap σ H locs → lv_has ls 10 [(0, .ref (aD G 0)), (1, .int v1), (2, .int v2), (3, .long v3), (5, .int v5)] → W p l e rX9_bestBy s m args below meth c H locs 0 0 (MQ below (XQl cellM 13 G res.1 res.2) args s 0 0 (gA 13 G)) (F0 m 12 ls [])) {H : Heap} {locs : List Loc} {ls : Array Slot} (hW : Wd cellM 13 G s.heap σ H locs) (hl : lv_has ls 10 [(0, .ref (aD G 0)), (1, .int v1), (2, .int v2), (3, .long v3), (5, .int v5), (8, .long v8)]) : W p l e rX9_bestBy s m args below meth c H locs 0 0 (MQ below (XQl cellM 13 G res.1 res.2) args s 0 0 (gA 13 G)) (F0 m 113 ls [.int t0, .ref (aD G 0)]) := by
  unfold fX9_bestBy_113 at h
  refine x_putI (v := t0) C0 G0 hJ hW cM_0 (by decide) rfl 24 (by decide) inX9_bestBy_X9 lkX9_bestBy_192 tyX9 tyX9_ok nmX9 rfl rfl rfl (Nat.le_of_ble_eq_true rfl) hu_X9_24 dX9_bestBy_113 (fun H locs hW => ?_)
  obtain ⟨s35, es35, h⟩ := lt_some h
  rw [es35] at hW
  refine lv_lload C0.1 C0.2.1 dX9_bestBy_116 (lv_at hl 5 rfl) ?_
  refine lv_lload_n C0.1 C0.2.1 dX9_bestBy_118 rfl (lv_at hl 3 rfl) ?_
  refine x_lc_le (tgt := 128) C0 dX9_bestBy_119 dX9_bestBy_120 (by decide) (fun c36 => ?_) (fun c36 => ?_)
  · rw [if_pos c36] at h
    refine lv_lload_n C0.1 C0.2.1 dX9_bestBy_128 rfl (lv_at hl 3 rfl) ?_
    exact wX9_bestBy_129 C0 G0 hJ z r12 s35 v1 v2 v5 v3 _ h (by exact hr12) hW (lv_sub hl [0, 1, 2, 4] rfl)
  · rw [if_neg c36] at h
    refine lv_lload C0.1 C0.2.1 dX9_bestBy_123 (lv_at hl 5 rfl) ?_
    refine lv_goto (tgt := 129) C0.1 C0.2.1 dX9_bestBy_125 (by decide) ?_
    exact wX9_bestBy_129 C0 G0 hJ z r12 s35 v1 v2 v5 v8 _ h (by exact hr12) hW (lv_sub hl [0, 1, 2, 4] rfl)
set_option maxHeartbeats 4000000 in
set_option maxRecDepth 100000 in
theorem wX9_bestBy_94 (C0 : Cx p s m args meth c cX9_bestBy RX9 10 (some .long) wsX9_bestBy) (G0 : Gx G s) (hJ : gJ 13 G) (z : Nat) (r12 : ST → Int64 → Int32 → Option (Int64 × ST)) (σ : ST) (v1 : Int32) (v2 : Int32) (v3 : Int64) (v5 : Int32) (t0 : Int64) (res : (Int64 × ST)) (h : fX9_bestBy_94 z r12 σ v1 v2 v3 v5 t0 = some res) (hr12 : ∀ (σ : ST) (v3 : Int64) (v5 : Int32), r12 σ v3 v5 = some res → ∀ (H : Heap) (locs : List Loc) (ls : Array Slot), Wd cellM 13 G s.heap σ H locs → lv_has ls 10 [(0, .ref (aD G 0)), (1, .int v1), (2, .int v2), (3, .long v3), (5, .int v5)] → W p l e rX9_bestBy s m args below meth c H locs 0 0 (MQ below (XQl cellM 13 G res.1 res.2) args s 0 0 (gA 13 G)) (F0 m 12 ls [])) {H : Heap} {locs : List Loc} {ls : Array Slot} (hW : Wd cellM 13 G s.heap σ H locs) (hl : lv_has ls 10 [(0, .ref (aD G 0)), (1, .int v1), (2, .int v2), (3, .long v3), (5, .int v5)]) : W p l e rX9_bestBy s m args below meth c H locs 0 0 (MQ below (XQl cellM 13 G res.1 res.2) args s 0 0 (gA 13 G)) (F0 m 94 ls [.long t0]) := by
  unfold fX9_bestBy_94 at h
  refine lv_lstore (lv' := [(8, .long t0), (0, .ref (aD G 0)), (1, .int v1), (2, .int v2), (3, .long v3), (5, .int v5)]) C0.1 C0.2.1 dX9_bestBy_94 hl (by decide) rfl (fun ls hl => ?_)
  refine lv_aload_n C0.1 C0.2.1 dX9_bestBy_96 rfl (lv_at hl 1 rfl) ?_
  refine lv_lload C0.1 C0.2.1 dX9_bestBy_97 (lv_at hl 0 rfl) ?_
  refine lv_lload_n C0.1 C0.2.1 dX9_bestBy_99 rfl (lv_at hl 4 rfl) ?_
  refine x_lc_le (tgt := 109) C0 dX9_bestBy_100 dX9_bestBy_101 (by decide) (fun c34 => ?_) (fun c34 => ?_)
  · rw [if_pos c34] at h
    refine lv_aload_n C0.1 C0.2.1 dX9_bestBy_109 rfl (lv_at hl 1 rfl) ?_
    refine x_get (v := .int (σ.1 0 24)) C0 G0 hW cM_0 (by decide) rfl 24 (by decide) inX9_bestBy_X9 lkX9_bestBy_192 rfl dX9_bestBy_110 ?_
    exact wX9_bestBy_113 C0 G0 hJ z r12 σ v1 v2 v3 v5 t0 (σ.1 0 24) _ h (by exact hr12) hW (lv_sub hl [1, 2, 3, 4, 5, 0] rfl)
  · rw [if_neg c34] at h
    refine lv_iload C0.1 C0.2.1 dX9_bestBy_104 (lv_at hl 5 rfl) ?_
    refine lv_goto (tgt := 113) C0.1 C0.2.1 dX9_bestBy_106 (by decide) ?_
    exact wX9_bestBy_113 C0 G0 hJ z r12 σ v1 v2 v3 v5 t0 v5 _ h (by exact hr12) hW (lv_sub hl [1, 2, 3, 4, 5, 0] rfl)
set_option maxHeartbeats 4000000 in
set_option maxRecDepth 100000 in
theorem wX9_bestBy_74 (C0 : Cx p s m args meth c cX9_bestBy RX9 10 (some .long) wsX9_bestBy) (G0 : Gx G s) (hJ : gJ 13 G) (z : Nat) (r12 : ST → Int64 → Int32 → Option (Int64 × ST)) (σ : ST) (v1 : Int32) (v2 : Int32) (v3 : Int64) (v5 : Int32) (t0 : Int32) (res : (Int64 × ST)) (h : fX9_bestBy_74 z r12 σ v1 v2 v3 v5 t0 = some res) (hr12 : ∀ (σ : ST) (v3 : Int64) (v5 : Int32), r12 σ v3 v5 = some res → ∀ (H : Heap) (locs : List Loc) (ls : Array Slot), Wd cellM 13 G s.heap σ H locs → lv_has ls 10 [(0, .ref (aD G 0)), (1, .int v1), (2, .int v2), (3, .long v3), (5, .int v5)] → W p l e rX9_bestBy s m args below meth c H locs 0 0 (MQ below (XQl cellM 13 G res.1 res.2) args s 0 0 (gA 13 G)) (F0 m 12 ls [])) {H : Heap} {locs : List Loc} {ls : Array Slot} (hW : Wd cellM 13 G s.heap σ H locs) (hl : lv_has ls 10 [(0, .ref (aD G 0)), (1, .int v1), (2, .int v2), (3, .long v3), (5, .int v5)]) : W p l e rX9_bestBy s m args below meth c H locs 0 0 (MQ below (XQl cellM 13 G res.1 res.2) args s 0 0 (gA 13 G)) (F0 m 74 ls [.int t0]) := by
  unfold fX9_bestBy_74 at h
  refine lv_istore (lv' := [(7, .int t0), (0, .ref (aD G 0)), (1, .int v1), (2, .int v2), (3, .long v3), (5, .int v5)]) C0.1 C0.2.1 dX9_bestBy_74 hl (by decide) rfl (fun ls hl => ?_)
  refine lv_iload C0.1 C0.2.1 dX9_bestBy_76 (lv_at hl 0 rfl) ?_
  refine lv_if_eq (tgt := 91) C0.1 C0.2.1 dX9_bestBy_78 (by decide) (fun c32 => ?_) (fun c32 => ?_)
  · rw [if_pos c32] at h
    refine lv_ldc2 (v := (-1 : Int64)) C0.1 C0.2.1 C0.2.2.2.2.1 (C0.2.2.2.1 _ kcX9_bestBy_190) dX9_bestBy_91 ?_
    exact wX9_bestBy_94 C0 G0 hJ z r12 σ v1 v2 v3 v5 (-1 : Int64) _ h (by exact hr12) hW (lv_sub hl [1, 2, 3, 4, 5] rfl)
  · rw [if_neg c32] at h
    refine lv_aload_n C0.1 C0.2.1 dX9_bestBy_81 rfl (lv_at hl 1 rfl) ?_
    refine lv_iload_n C0.1 C0.2.1 dX9_bestBy_82 rfl (lv_at hl 2 rfl) ?_
    refine lv_iload C0.1 C0.2.1 dX9_bestBy_83 (lv_at hl 5 rfl) ?_
    obtain ⟨u33, hu33, h⟩ := bd_some h
    refine x_kl (r := u33.1) (x_runV (As := [.int v1, .int v5]) (rest := []) C0 G0 hW (cX9_foundBy_met l hJ z σ v1 v5 _ hu33) (cwV 2 C0.2.2.2.1 gX9_bestBy_X9_foundBy rfl rfl rfl hdvX9_foundBy ⟨Nat.le_of_ble_eq_true rfl, Nat.le_of_ble_eq_true rfl⟩) cM_0 (by decide) rfl rfl rfl hl (Nat.le_of_ble_eq_true rfl) dX9_bestBy_85 ⟨Nat.le_refl 0, Nat.le_refl 0⟩) hW (fun H locs hW => ?_)
    refine lv_goto (tgt := 94) C0.1 C0.2.1 dX9_bestBy_88 (by decide) ?_
    exact wX9_bestBy_94 C0 G0 hJ z r12 u33.2 v1 v2 v3 v5 u33.1 _ h (by exact hr12) hW (lv_sub hl [1, 2, 3, 4, 5] rfl)
set_option maxHeartbeats 4000000 in
set_option maxRecDepth 100000 in
theorem wX9_bestBy_73 (C0 : Cx p s m args meth c cX9_bestBy RX9 10 (some .long) wsX9_bestBy) (G0 : Gx G s) (hJ : gJ 13 G) (z : Nat) (r12 : ST → Int64 → Int32 → Option (Int64 × ST)) (σ : ST) (v1 : Int32) (v2 : Int32) (v3 : Int64) (v5 : Int32) (res : (Int64 × ST)) (h : fX9_bestBy_73 z r12 σ v1 v2 v3 v5 = some res) (hr12 : ∀ (σ : ST) (v3 : Int64) (v5 : Int32), r12 σ v3 v5 = some res → ∀ (H : Heap) (locs : List Loc) (ls : Array Slot), Wd cellM 13 G s.heap σ H locs → lv_has ls 10 [(0, .ref (aD G 0)), (1, .int v1), (2, .int v2), (3, .long v3), (5, .int v5)] → W p l e rX9_bestBy s m args below meth c H locs 0 0 (MQ below (XQl cellM 13 G res.1 res.2) args s 0 0 (gA 13 G)) (F0 m 12 ls [])) {H : Heap} {locs : List Loc} {ls : Array Slot} (hW : Wd cellM 13 G s.heap σ H locs) (hl : lv_has ls 10 [(0, .ref (aD G 0)), (1, .int v1), (2, .int v2), (3, .long v3), (5, .int v5)]) : W p l e rX9_bestBy s m args below meth c H locs 0 0 (MQ below (XQl cellM 13 G res.1 res.2) args s 0 0 (gA 13 G)) (F0 m 73 ls []) := by
  unfold fX9_bestBy_73 at h
  refine lv_iconst (v := (0 : Int32)) C0.1 C0.2.1 dX9_bestBy_73 (by decide) ?_
  exact wX9_bestBy_74 C0 G0 hJ z r12 σ v1 v2 v3 v5 (0 : Int32) _ h (by exact hr12) hW (lv_sub hl [0, 1, 2, 3, 4] rfl)
set_option maxHeartbeats 4000000 in
set_option maxRecDepth 100000 in
theorem wX9_bestBy_69 (C0 : Cx p s m args meth c cX9_bestBy RX9 10 (some .long) wsX9_bestBy) (G0 : Gx G s) (hJ : gJ 13 G) (z : Nat) (r12 : ST → Int64 → Int32 → Option (Int64 × ST)) (σ : ST) (v1 : Int32) (v2 : Int32) (v3 : Int64) (v5 : Int32) (res : (Int64 × ST)) (h : fX9_bestBy_69 z r12 σ v1 v2 v3 v5 = some res) (hr12 : ∀ (σ : ST) (v3 : Int64) (v5 : Int32), r12 σ v3 v5 = some res → ∀ (H : Heap) (locs : List Loc) (ls : Array Slot), Wd cellM 13 G s.heap σ H locs → lv_has ls 10 [(0, .ref (aD G 0)), (1, .int v1), (2, .int v2), (3, .long v3), (5, .int v5)] → W p l e rX9_bestBy s m args below meth c H locs 0 0 (MQ below (XQl cellM 13 G res.1 res.2) args s 0 0 (gA 13 G)) (F0 m 12 ls [])) {H : Heap} {locs : List Loc} {ls : Array Slot} (hW : Wd cellM 13 G s.heap σ H locs) (hl : lv_has ls 10 [(0, .ref (aD G 0)), (1, .int v1), (2, .int v2), (3, .long v3), (5, .int v5)]) : W p l e rX9_bestBy s m args below meth c H locs 0 0 (MQ below (XQl cellM 13 G res.1 res.2) args s 0 0 (gA 13 G)) (F0 m 69 ls []) := by
  unfold fX9_bestBy_69 at h
  refine lv_iconst (v := (1 : Int32)) C0.1 C0.2.1 dX9_bestBy_69 (by decide) ?_
  refine lv_goto (tgt := 74) C0.1 C0.2.1 dX9_bestBy_70 (by decide) ?_
  exact wX9_bestBy_74 C0 G0 hJ z r12 σ v1 v2 v3 v5 (1 : Int32) _ h (by exact hr12) hW (lv_sub hl [0, 1, 2, 3, 4] rfl)
set_option maxHeartbeats 4000000 in
set_option maxRecDepth 100000 in
theorem wX9_bestBy_64 (C0 : Cx p s m args meth c cX9_bestBy RX9 10 (some .long) wsX9_bestBy) (G0 : Gx G s) (hJ : gJ 13 G) (z : Nat) (r12 : ST → Int64 → Int32 → Option (Int64 × ST)) (σ : ST) (v1 : Int32) (v2 : Int32) (v3 : Int64) (v5 : Int32) (v6 : Int32) (t0 : Int32) (res : (Int64 × ST)) (h : fX9_bestBy_64 z r12 σ v1 v2 v3 v5 v6 t0 = some res) (hr12 : ∀ (σ : ST) (v3 : Int64) (v5 : Int32), r12 σ v3 v5 = some res → ∀ (H : Heap) (locs : List Loc) (ls : Array Slot), Wd cellM 13 G s.heap σ H locs → lv_has ls 10 [(0, .ref (aD G 0)), (1, .int v1), (2, .int v2), (3, .long v3), (5, .int v5)] → W p l e rX9_bestBy s m args below meth c H locs 0 0 (MQ below (XQl cellM 13 G res.1 res.2) args s 0 0 (gA 13 G)) (F0 m 12 ls [])) {H : Heap} {locs : List Loc} {ls : Array Slot} (hW : Wd cellM 13 G s.heap σ H locs) (hl : lv_has ls 10 [(0, .ref (aD G 0)), (1, .int v1), (2, .int v2), (3, .long v3), (5, .int v5), (6, .int v6)]) : W p l e rX9_bestBy s m args below meth c H locs 0 0 (MQ below (XQl cellM 13 G res.1 res.2) args s 0 0 (gA 13 G)) (F0 m 64 ls [.int t0]) := by
  unfold fX9_bestBy_64 at h
  refine lv_iload C0.1 C0.2.1 dX9_bestBy_64 (lv_at hl 5 rfl) ?_
  refine lv_icmp_ne (tgt := 73) C0.1 C0.2.1 dX9_bestBy_66 (by decide) (fun c31 => ?_) (fun c31 => ?_)
  · rw [if_neg c31] at h
    exact wX9_bestBy_73 C0 G0 hJ z r12 σ v1 v2 v3 v5 _ h (by exact hr12) hW (lv_sub hl [0, 1, 2, 3, 4] rfl)
  · rw [if_pos c31] at h
    exact wX9_bestBy_69 C0 G0 hJ z r12 σ v1 v2 v3 v5 _ h (by exact hr12) hW (lv_sub hl [0, 1, 2, 3, 4] rfl)
set_option maxHeartbeats 4000000 in
set_option maxRecDepth 100000 in
theorem wX9_bestBy_39 (C0 : Cx p s m args meth c cX9_bestBy RX9 10 (some .long) wsX9_bestBy) (G0 : Gx G s) (hJ : gJ 13 G) (z : Nat) (r12 : ST → Int64 → Int32 → Option (Int64 × ST)) (σ : ST) (v1 : Int32) (v2 : Int32) (v3 : Int64) (v5 : Int32) (t0 : Int32) (res : (Int64 × ST)) (h : fX9_bestBy_39 z r12 σ v1 v2 v3 v5 t0 = some res) (hr12 : ∀ (σ : ST) (v3 : Int64) (v5 : Int32), r12 σ v3 v5 = some res → ∀ (H : Heap) (locs : List Loc) (ls : Array Slot), Wd cellM 13 G s.heap σ H locs → lv_has ls 10 [(0, .ref (aD G 0)), (1, .int v1), (2, .int v2), (3, .long v3), (5, .int v5)] → W p l e rX9_bestBy s m args below meth c H locs 0 0 (MQ below (XQl cellM 13 G res.1 res.2) args s 0 0 (gA 13 G)) (F0 m 12 ls [])) {H : Heap} {locs : List Loc} {ls : Array Slot} (hW : Wd cellM 13 G s.heap σ H locs) (hl : lv_has ls 10 [(0, .ref (aD G 0)), (1, .int v1), (2, .int v2), (3, .long v3), (5, .int v5)]) : W p l e rX9_bestBy s m args below meth c H locs 0 0 (MQ below (XQl cellM 13 G res.1 res.2) args s 0 0 (gA 13 G)) (F0 m 39 ls [.int t0]) := by
  unfold fX9_bestBy_39 at h
  refine lv_istore (lv' := [(6, .int t0), (0, .ref (aD G 0)), (1, .int v1), (2, .int v2), (3, .long v3), (5, .int v5)]) C0.1 C0.2.1 dX9_bestBy_39 hl (by decide) rfl (fun ls hl => ?_)
  refine lv_iload_n C0.1 C0.2.1 dX9_bestBy_41 rfl (lv_at hl 2 rfl) ?_
  refine lv_iload C0.1 C0.2.1 dX9_bestBy_42 (lv_at hl 5 rfl) ?_
  obtain ⟨u27, hu27, h⟩ := bd_some h
  refine x_ki (r := u27) (x_runS (As := [.int v1, .int v5]) (rest := []) C0 G0 hW (cX9_isRow_met l hJ z σ v1 v5 _ hu27) (va_cwS 2 C0.2.2.2.1 gX9_bestBy_X9_isRow rfl rfl rfl hdsX9_isRow ⟨Nat.le_of_ble_eq_true rfl, Nat.le_of_ble_eq_true rfl⟩) rfl rfl hl (Nat.le_of_ble_eq_true rfl) dX9_bestBy_44 ⟨Nat.le_refl 0, Nat.le_refl 0⟩) hW (fun H locs hW => ?_)
  refine lv_if_eq (tgt := 73) C0.1 C0.2.1 dX9_bestBy_47 (by decide) (fun c28 => ?_) (fun c28 => ?_)
  · rw [if_pos c28] at h
    exact wX9_bestBy_73 C0 G0 hJ z r12 σ v1 v2 v3 v5 _ h (by exact hr12) hW (lv_sub hl [1, 2, 3, 4, 5] rfl)
  · rw [if_neg c28] at h
    refine lv_iload_n C0.1 C0.2.1 dX9_bestBy_50 rfl (lv_at hl 3 rfl) ?_
    refine lv_if_eq (tgt := 69) C0.1 C0.2.1 dX9_bestBy_51 (by decide) (fun c29 => ?_) (fun c29 => ?_)
    · rw [if_pos c29] at h
      exact wX9_bestBy_69 C0 G0 hJ z r12 σ v1 v2 v3 v5 _ h (by exact hr12) hW (lv_sub hl [1, 2, 3, 4, 5] rfl)
    · rw [if_neg c29] at h
      refine lv_iload_n C0.1 C0.2.1 dX9_bestBy_54 rfl (lv_at hl 3 rfl) ?_
      refine lv_iconst (v := (1 : Int32)) C0.1 C0.2.1 dX9_bestBy_55 (by decide) ?_
      refine lv_icmp_ne (tgt := 63) C0.1 C0.2.1 dX9_bestBy_56 (by decide) (fun c30 => ?_) (fun c30 => ?_)
      · rw [if_neg c30] at h
        refine lv_iconst (v := (0 : Int32)) C0.1 C0.2.1 dX9_bestBy_63 (by decide) ?_
        exact wX9_bestBy_64 C0 G0 hJ z r12 σ v1 v2 v3 v5 t0 (0 : Int32) _ h (by exact hr12) hW (lv_sub hl [1, 2, 3, 4, 5, 0] rfl)
      · rw [if_pos c30] at h
        refine lv_iconst (v := (1 : Int32)) C0.1 C0.2.1 dX9_bestBy_59 (by decide) ?_
        refine lv_goto (tgt := 64) C0.1 C0.2.1 dX9_bestBy_60 (by decide) ?_
        exact wX9_bestBy_64 C0 G0 hJ z r12 σ v1 v2 v3 v5 t0 (1 : Int32) _ h (by exact hr12) hW (lv_sub hl [1, 2, 3, 4, 5, 0] rfl)
set_option maxHeartbeats 4000000 in
set_option maxRecDepth 100000 in
theorem wX9_bestBy_12 (C0 : Cx p s m args meth c cX9_bestBy RX9 10 (some .long) wsX9_bestBy) (G0 : Gx G s) (hJ : gJ 13 G) (z : Nat) (v1 : Int32) (v2 : Int32) (n : Nat) (σ : ST) (v3 : Int64) (v5 : Int32) (res : (Int64 × ST)) (h : fX9_bestBy_12 z v1 v2 n σ v3 v5 = some res)  {H : Heap} {locs : List Loc} {ls : Array Slot} (hW : Wd cellM 13 G s.heap σ H locs) (hl : lv_has ls 10 [(0, .ref (aD G 0)), (1, .int v1), (2, .int v2), (3, .long v3), (5, .int v5)]) : W p l e rX9_bestBy s m args below meth c H locs 0 0 (MQ below (XQl cellM 13 G res.1 res.2) args s 0 0 (gA 13 G)) (F0 m 12 ls []) := by
  induction n generalizing σ v3 v5 H locs ls with
  | zero => cases h
  | succ n ih =>
    have hr12 : ∀ (σ : ST) (v3 : Int64) (v5 : Int32), fX9_bestBy_12 z v1 v2 n σ v3 v5 = some res → ∀ (H : Heap) (locs : List Loc) (ls : Array Slot), Wd cellM 13 G s.heap σ H locs → lv_has ls 10 [(0, .ref (aD G 0)), (1, .int v1), (2, .int v2), (3, .long v3), (5, .int v5)] → W p l e rX9_bestBy s m args below meth c H locs 0 0 (MQ below (XQl cellM 13 G res.1 res.2) args s 0 0 (gA 13 G)) (F0 m 12 ls []) := fun σ v3 v5 h H locs ls hW hl => ih σ v3 v5 h hW hl
    clear ih
    unfold fX9_bestBy_12 at h
    refine lv_iload C0.1 C0.2.1 dX9_bestBy_12 (lv_at hl 4 rfl) ?_
    refine lv_iload_n C0.1 C0.2.1 dX9_bestBy_14 rfl (lv_at hl 1 rfl) ?_
    obtain ⟨u22, hu22, h⟩ := bd_some h
    refine x_ki (r := u22) (x_runS (As := [.int v1]) (rest := [.int v5]) C0 G0 hW (cX9_tenTo_met l hJ z σ v1 _ hu22) (va_cwS 1 C0.2.2.2.1 gX9_bestBy_X9_tenTo rfl rfl rfl hdsX9_tenTo ⟨Nat.le_of_ble_eq_true rfl, Nat.le_of_ble_eq_true rfl⟩) rfl rfl hl (Nat.le_of_ble_eq_true rfl) dX9_bestBy_15 ⟨Nat.le_refl 0, Nat.le_refl 0⟩) hW (fun H locs hW => ?_)
    refine lv_icmp_ge (tgt := 136) C0.1 C0.2.1 dX9_bestBy_18 (by decide) (fun c23 => ?_) (fun c23 => ?_)
    · rw [if_pos c23] at h
      refine lv_lload_n C0.1 C0.2.1 dX9_bestBy_136 rfl (lv_at hl 3 rfl) ?_
      cases h
      exact x_lret C0 hW dX9_bestBy_137
    · rw [if_neg c23] at h
      refine lv_iload C0.1 C0.2.1 dX9_bestBy_21 (lv_at hl 4 rfl) ?_
      refine lv_iload_n C0.1 C0.2.1 dX9_bestBy_23 rfl (lv_at hl 1 rfl) ?_
      refine lv_iconst (v := (1 : Int32)) C0.1 C0.2.1 dX9_bestBy_24 (by decide) ?_
      refine lv_isub C0.1 C0.2.1 dX9_bestBy_25 ?_
      obtain ⟨u24, hu24, h⟩ := bd_some h
      refine x_ki (r := u24) (x_runS (As := [.int (v1 - (1 : Int32))]) (rest := [.int v5]) C0 G0 hW (cX9_tenTo_met l hJ z σ (v1 - (1 : Int32)) _ hu24) (va_cwS 1 C0.2.2.2.1 gX9_bestBy_X9_tenTo rfl rfl rfl hdsX9_tenTo ⟨Nat.le_of_ble_eq_true rfl, Nat.le_of_ble_eq_true rfl⟩) rfl rfl hl (Nat.le_of_ble_eq_true rfl) dX9_bestBy_26 ⟨Nat.le_refl 0, Nat.le_refl 0⟩) hW (fun H locs hW => ?_)
      obtain ⟨g25, h⟩ := gd_some h
      refine lv_idiv C0.1 C0.2.1 dX9_bestBy_29 (nz_of g25) ?_
      refine lv_iconst (v := (3 : Int32)) C0.1 C0.2.1 dX9_bestBy_30 (by decide) ?_
      refine lv_icmp_ne (tgt := 38) C0.1 C0.2.1 dX9_bestBy_31 (by decide) (fun c26 => ?_) (fun c26 => ?_)
      · rw [if_neg c26] at h
        refine lv_iconst (v := (0 : Int32)) C0.1 C0.2.1 dX9_bestBy_38 (by decide) ?_
        exact wX9_bestBy_39 C0 G0 hJ z (fX9_bestBy_12 z v1 v2 n) σ v1 v2 v3 v5 (0 : Int32) _ h (by exact hr12) hW (lv_sub hl [0, 1, 2, 3, 4] rfl)
      · rw [if_pos c26] at h
        refine lv_iconst (v := (1 : Int32)) C0.1 C0.2.1 dX9_bestBy_34 (by decide) ?_
        refine lv_goto (tgt := 39) C0.1 C0.2.1 dX9_bestBy_35 (by decide) ?_
        exact wX9_bestBy_39 C0 G0 hJ z (fX9_bestBy_12 z v1 v2 n) σ v1 v2 v3 v5 (1 : Int32) _ h (by exact hr12) hW (lv_sub hl [0, 1, 2, 3, 4] rfl)
set_option maxHeartbeats 4000000 in
set_option maxRecDepth 100000 in
theorem wX9_bestBy (C0 : Cx p s m args meth c cX9_bestBy RX9 10 (some .long) wsX9_bestBy) (G0 : Gx G s) (hJ : gJ 13 G) (z : Nat) (σ : ST) (v1 : Int32) (v2 : Int32) (res : (Int64 × ST)) (h : fX9_bestBy z σ v1 v2 = some res)  {H : Heap} {locs : List Loc} {ls : Array Slot} (hW : Wd cellM 13 G s.heap σ H locs) (hl : lv_has ls 10 [(0, .ref (aD G 0)), (1, .int v1), (2, .int v2)]) : W p l e rX9_bestBy s m args below meth c H locs 0 0 (MQ below (XQl cellM 13 G res.1 res.2) args s 0 0 (gA 13 G)) (F0 m 0 ls []) := by
  unfold fX9_bestBy at h
  refine lv_ldc2 (v := (-1 : Int64)) C0.1 C0.2.1 C0.2.2.2.2.1 (C0.2.2.2.1 _ kcX9_bestBy_190) dX9_bestBy_0 ?_
  refine lv_lstore_n (lv' := [(3, .long (-1 : Int64)), (0, .ref (aD G 0)), (1, .int v1), (2, .int v2)]) C0.1 C0.2.1 dX9_bestBy_3 rfl hl (by decide) rfl (fun ls hl => ?_)
  refine lv_aload_n C0.1 C0.2.1 dX9_bestBy_4 rfl (lv_at hl 1 rfl) ?_
  refine lv_iconst (v := (0 : Int32)) C0.1 C0.2.1 dX9_bestBy_5 (by decide) ?_
  refine x_putI (v := (0 : Int32)) C0 G0 hJ hW cM_0 (by decide) rfl 24 (by decide) inX9_bestBy_X9 lkX9_bestBy_192 tyX9 tyX9_ok nmX9 rfl rfl rfl (Nat.le_of_ble_eq_true rfl) hu_X9_24 dX9_bestBy_6 (fun H locs hW => ?_)
  obtain ⟨s21, es21, h⟩ := lt_some h
  rw [es21] at hW
  refine lv_iconst (v := (0 : Int32)) C0.1 C0.2.1 dX9_bestBy_9 (by decide) ?_
  refine lv_istore (lv' := [(5, .int (0 : Int32)), (3, .long (-1 : Int64)), (0, .ref (aD G 0)), (1, .int v1), (2, .int v2)]) C0.1 C0.2.1 dX9_bestBy_10 hl (by decide) rfl (fun ls hl => ?_)
  exact wX9_bestBy_12 C0 G0 hJ z v1 v2 z s21 (-1 : Int64) (0 : Int32) _ h hW (lv_sub hl [2, 3, 4, 1, 0] rfl)
theorem cX9_bestBy_met (l : Launch) {G : GT} (hJ : gJ 13 G) (z : Nat) (σ : ST) (v1 : Int32) (v2 : Int32) (res : (Int64 × ST)) (h : fX9_bestBy z σ v1 v2 = some res) : Met l yX9_bestBy wsX9_bestBy rX9_bestBy (XPc cellM 13 G σ [.ref (aD G 0), .int v1, .int v2]) (XQl cellM 13 G res.1 res.2) 0 0 (gA 13 G) :=
  x_met (ret := (some .long)) (maxL := 10) (by decide) rfl (Nat.le_of_ble_eq_true rfl) (fun p e s m args below meth c H locs ls C0 G0 hW hl => wX9_bestBy C0 G0 hJ z σ v1 v2 res h hW hl)
end
/-! X9_common -/
def rX9_common : Room := { frames := 0, cells := 0, slots := 0, locals := 0 }
theorem hdsX9_common : yX9_common.cls ≠ "java/lang/invoke/MethodHandle" ∧ yX9_common.cls ≠ "java/lang/invoke/VarHandle" ∧ (parseMethodDescriptor yX9_common.desc).map (fun d => d.parameters.length) = some 2 := by decide +kernel
def fX9_common_17 (z : Nat) : Nat → Int64 → Int64 → Option Int64
  | 0 => fun _ _ => none
  | n + 1 => fun v4 v6 => (if v6 = (0 : Int64) then some v4 else gd (nzL v6) ( (fX9_common_17 z n) v6 (v4 - v4 / v6 * v6)))
def fX9_common_12 (z : Nat) (v2 : Int64) (t0 : Int64) : Option Int64 := fX9_common_17 z z t0 v2
def fX9_common (z : Nat) (v0 : Int64) (v2 : Int64) : Option Int64 := (if (0 : Int64) ≤ v0 then fX9_common_12 z v2 v0 else fX9_common_12 z v2 (-v0))
section
variable {p : Program} {l : Launch} {e : Env} {s : State} {m : MethodId} {args : Array Value} {below : List Frame} {meth : Method} {c : Code} {G : GT}
set_option maxHeartbeats 4000000 in
set_option maxRecDepth 100000 in
theorem wX9_common_17 (C0 : Cx p s m args meth c cX9_common RX9 10 (some .long) wsX9_common) {σ : ST} (G0 : Gx G s) (hJ : gJ 13 G) (z : Nat) (n : Nat) (v4 : Int64) (v6 : Int64) (res : Int64) (h : fX9_common_17 z n v4 v6 = some res)  {H : Heap} {locs : List Loc} {ls : Array Slot} (hW : Wd cellM 13 G s.heap σ H locs) (hl : lv_has ls 10 [(4, .long v4), (6, .long v6)]) : W p l e rX9_common s m args below meth c H locs 0 0 (MQ below (XQl cellM 13 G res σ) args s 0 0 (gA 13 G)) (F0 m 17 ls []) := by
  induction n generalizing v4 v6 H locs ls with
  | zero => cases h
  | succ n ih =>
    have hr17 : ∀ (v4 : Int64) (v6 : Int64), fX9_common_17 z n v4 v6 = some res → ∀ (H : Heap) (locs : List Loc) (ls : Array Slot), Wd cellM 13 G s.heap σ H locs → lv_has ls 10 [(4, .long v4), (6, .long v6)] → W p l e rX9_common s m args below meth c H locs 0 0 (MQ below (XQl cellM 13 G res σ) args s 0 0 (gA 13 G)) (F0 m 17 ls []) := fun v4 v6 h H locs ls hW hl => ih v4 v6 h hW hl
    clear ih
    unfold fX9_common_17 at h
    refine lv_lload C0.1 C0.2.1 dX9_common_17 (lv_at hl 1 rfl) ?_
    refine lv_lconst (v := (0 : Int64)) C0.1 C0.2.1 dX9_common_19 (by decide) ?_
    refine x_lc_eq (tgt := 42) C0 dX9_common_20 dX9_common_21 (by decide) (fun c22 => ?_) (fun c22 => ?_)
    · rw [if_pos c22] at h
      refine lv_lload C0.1 C0.2.1 dX9_common_42 (lv_at hl 0 rfl) ?_
      cases h
      exact x_lret C0 hW dX9_common_44
    · rw [if_neg c22] at h
      refine lv_lload C0.1 C0.2.1 dX9_common_24 (lv_at hl 0 rfl) ?_
      refine lv_lload C0.1 C0.2.1 dX9_common_26 (lv_at hl 1 rfl) ?_
      obtain ⟨g23, h⟩ := gd_some h
      refine lv_lrem C0.1 C0.2.1 dX9_common_28 (nzL_of g23) ?_
      refine lv_lstore (lv' := [(8, .long (v4 - v4 / v6 * v6)), (4, .long v4), (6, .long v6)]) C0.1 C0.2.1 dX9_common_29 hl (by decide) rfl (fun ls hl => ?_)
      refine lv_lload C0.1 C0.2.1 dX9_common_31 (lv_at hl 2 rfl) ?_
      refine lv_lstore (lv' := [(4, .long v6), (8, .long (v4 - v4 / v6 * v6)), (6, .long v6)]) C0.1 C0.2.1 dX9_common_33 hl (by decide) rfl (fun ls hl => ?_)
      refine lv_lload C0.1 C0.2.1 dX9_common_35 (lv_at hl 1 rfl) ?_
      refine lv_lstore (lv' := [(6, .long (v4 - v4 / v6 * v6)), (4, .long v6), (8, .long (v4 - v4 / v6 * v6))]) C0.1 C0.2.1 dX9_common_37 hl (by decide) rfl (fun ls hl => ?_)
      refine lv_goto (tgt := 17) C0.1 C0.2.1 dX9_common_39 (by decide) ?_
      exact hr17 v6 (v4 - v4 / v6 * v6) h _ _ _ hW (lv_sub hl [1, 0] rfl)
set_option maxHeartbeats 4000000 in
set_option maxRecDepth 100000 in
theorem wX9_common_12 (C0 : Cx p s m args meth c cX9_common RX9 10 (some .long) wsX9_common) {σ : ST} (G0 : Gx G s) (hJ : gJ 13 G) (z : Nat) (v2 : Int64) (t0 : Int64) (res : Int64) (h : fX9_common_12 z v2 t0 = some res)  {H : Heap} {locs : List Loc} {ls : Array Slot} (hW : Wd cellM 13 G s.heap σ H locs) (hl : lv_has ls 10 [(2, .long v2)]) : W p l e rX9_common s m args below meth c H locs 0 0 (MQ below (XQl cellM 13 G res σ) args s 0 0 (gA 13 G)) (F0 m 12 ls [.long t0]) := by
  unfold fX9_common_12 at h
  refine lv_lstore (lv' := [(4, .long t0), (2, .long v2)]) C0.1 C0.2.1 dX9_common_12 hl (by decide) rfl (fun ls hl => ?_)
  refine lv_lload_n C0.1 C0.2.1 dX9_common_14 rfl (lv_at hl 1 rfl) ?_
  refine lv_lstore (lv' := [(6, .long v2), (4, .long t0), (2, .long v2)]) C0.1 C0.2.1 dX9_common_15 hl (by decide) rfl (fun ls hl => ?_)
  exact wX9_common_17 C0 G0 hJ z z t0 v2 _ h hW (lv_sub hl [1, 0] rfl)
set_option maxHeartbeats 4000000 in
set_option maxRecDepth 100000 in
theorem wX9_common (C0 : Cx p s m args meth c cX9_common RX9 10 (some .long) wsX9_common) {σ : ST} (G0 : Gx G s) (hJ : gJ 13 G) (z : Nat) (v0 : Int64) (v2 : Int64) (res : Int64) (h : fX9_common z v0 v2 = some res)  {H : Heap} {locs : List Loc} {ls : Array Slot} (hW : Wd cellM 13 G s.heap σ H locs) (hl : lv_has ls 10 [(0, .long v0), (2, .long v2)]) : W p l e rX9_common s m args below meth c H locs 0 0 (MQ below (XQl cellM 13 G res σ) args s 0 0 (gA 13 G)) (F0 m 0 ls []) := by
  unfold fX9_common at h
  refine lv_lload_n C0.1 C0.2.1 dX9_common_0 rfl (lv_at hl 0 rfl) ?_
  refine lv_lconst (v := (0 : Int64)) C0.1 C0.2.1 dX9_common_1 (by decide) ?_
  refine x_lc_ge (tgt := 11) C0 dX9_common_2 dX9_common_3 (by decide) (fun c21 => ?_) (fun c21 => ?_)
  · rw [if_pos c21] at h
    refine lv_lload_n C0.1 C0.2.1 dX9_common_11 rfl (lv_at hl 0 rfl) ?_
    exact wX9_common_12 C0 G0 hJ z v2 v0 _ h hW (lv_sub hl [1] rfl)
  · rw [if_neg c21] at h
    refine lv_lload_n C0.1 C0.2.1 dX9_common_6 rfl (lv_at hl 0 rfl) ?_
    refine lv_lneg C0.1 C0.2.1 dX9_common_7 ?_
    refine lv_goto (tgt := 12) C0.1 C0.2.1 dX9_common_8 (by decide) ?_
    exact wX9_common_12 C0 G0 hJ z v2 (-v0) _ h hW (lv_sub hl [1] rfl)
theorem cX9_common_met (l : Launch) {G : GT} (hJ : gJ 13 G) (z : Nat) (σ : ST) (v0 : Int64) (v2 : Int64) (res : Int64) (h : fX9_common z v0 v2 = some res) : Met l yX9_common wsX9_common rX9_common (XPc cellM 13 G σ [.long v0, .long v2]) (XQl cellM 13 G res σ) 0 0 (gA 13 G) :=
  x_met (ret := (some .long)) (maxL := 10) (by decide) rfl (Nat.le_of_ble_eq_true rfl) (fun p e s m args below meth c H locs ls C0 G0 hW hl => wX9_common C0 G0 hJ z v0 v2 res h hW hl)
end
/-! X9_part -/
def rX9_part : Room := { frames := 1, cells := 0, slots := 0, locals := 29 }
theorem hdsX9_part : yX9_part.cls ≠ "java/lang/invoke/MethodHandle" ∧ yX9_part.cls ≠ "java/lang/invoke/VarHandle" ∧ (parseMethodDescriptor yX9_part.desc).map (fun d => d.parameters.length) = some 3 := by decide +kernel
def fX9_part_23 (z : Nat) (t0 : Int64) : Option Int64 := some t0
def fX9_part (z : Nat) (v0 : Int64) (v2 : Int64) (v4 : Int32) : Option Int64 := bd (fX9_common z v0 v2) (fun u21 => (if v4 = 0 then gd (nzL u21) ( fX9_part_23 z (v2 / u21)) else gd (nzL u21) ( fX9_part_23 z (v0 / u21))))
section
variable {p : Program} {l : Launch} {e : Env} {s : State} {m : MethodId} {args : Array Value} {below : List Frame} {meth : Method} {c : Code} {G : GT}
set_option maxHeartbeats 4000000 in
set_option maxRecDepth 100000 in
theorem wX9_part_23 (C0 : Cx p s m args meth c cX9_part RX9 7 (some .long) wsX9_part) {σ : ST} (G0 : Gx G s) (hJ : gJ 13 G) (z : Nat) (t0 : Int64) (res : Int64) (h : fX9_part_23 z t0 = some res)  {H : Heap} {locs : List Loc} {ls : Array Slot} (hW : Wd cellM 13 G s.heap σ H locs) (hl : lv_has ls 7 []) : W p l e rX9_part s m args below meth c H locs 0 0 (MQ below (XQl cellM 13 G res σ) args s 0 0 (gA 13 G)) (F0 m 23 ls [.long t0]) := by
  unfold fX9_part_23 at h
  cases h
  exact x_lret C0 hW dX9_part_23
set_option maxHeartbeats 4000000 in
set_option maxRecDepth 100000 in
theorem wX9_part (C0 : Cx p s m args meth c cX9_part RX9 7 (some .long) wsX9_part) {σ : ST} (G0 : Gx G s) (hJ : gJ 13 G) (z : Nat) (v0 : Int64) (v2 : Int64) (v4 : Int32) (res : Int64) (h : fX9_part z v0 v2 v4 = some res)  {H : Heap} {locs : List Loc} {ls : Array Slot} (hW : Wd cellM 13 G s.heap σ H locs) (hl : lv_has ls 7 [(0, .long v0), (2, .long v2), (4, .int v4)]) : W p l e rX9_part s m args below meth c H locs 0 0 (MQ below (XQl cellM 13 G res σ) args s 0 0 (gA 13 G)) (F0 m 0 ls []) := by
  unfold fX9_part at h
  refine lv_lload_n C0.1 C0.2.1 dX9_part_0 rfl (lv_at hl 0 rfl) ?_
  refine lv_lload_n C0.1 C0.2.1 dX9_part_1 rfl (lv_at hl 1 rfl) ?_
  obtain ⟨u21, hu21, h⟩ := bd_some h
  refine x_kl (r := u21) (x_runS (As := [.long v0, .long v2]) (rest := []) C0 G0 hW (cX9_common_met l hJ z σ v0 v2 _ hu21) (va_cwS 2 C0.2.2.2.1 gX9_part_X9_common rfl rfl rfl hdsX9_common ⟨Nat.le_of_ble_eq_true rfl, Nat.le_of_ble_eq_true rfl⟩) rfl rfl hl (Nat.le_of_ble_eq_true rfl) dX9_part_2 ⟨Nat.le_refl 0, Nat.le_refl 0⟩) hW (fun H locs hW => ?_)
  refine lv_lstore (lv' := [(5, .long u21), (0, .long v0), (2, .long v2), (4, .int v4)]) C0.1 C0.2.1 dX9_part_5 hl (by decide) rfl (fun ls hl => ?_)
  refine lv_iload C0.1 C0.2.1 dX9_part_7 (lv_at hl 3 rfl) ?_
  refine lv_if_eq (tgt := 19) C0.1 C0.2.1 dX9_part_9 (by decide) (fun c22 => ?_) (fun c22 => ?_)
  · rw [if_pos c22] at h
    refine lv_lload_n C0.1 C0.2.1 dX9_part_19 rfl (lv_at hl 2 rfl) ?_
    refine lv_lload C0.1 C0.2.1 dX9_part_20 (lv_at hl 0 rfl) ?_
    obtain ⟨g23, h⟩ := gd_some h
    refine lv_ldiv C0.1 C0.2.1 dX9_part_22 (nzL_of g23) ?_
    exact wX9_part_23 C0 G0 hJ z (v2 / u21) _ h hW (lv_sub hl [] rfl)
  · rw [if_neg c22] at h
    refine lv_lload_n C0.1 C0.2.1 dX9_part_12 rfl (lv_at hl 1 rfl) ?_
    refine lv_lload C0.1 C0.2.1 dX9_part_13 (lv_at hl 0 rfl) ?_
    obtain ⟨g24, h⟩ := gd_some h
    refine lv_ldiv C0.1 C0.2.1 dX9_part_15 (nzL_of g24) ?_
    refine lv_goto (tgt := 23) C0.1 C0.2.1 dX9_part_16 (by decide) ?_
    exact wX9_part_23 C0 G0 hJ z (v0 / u21) _ h hW (lv_sub hl [] rfl)
theorem cX9_part_met (l : Launch) {G : GT} (hJ : gJ 13 G) (z : Nat) (σ : ST) (v0 : Int64) (v2 : Int64) (v4 : Int32) (res : Int64) (h : fX9_part z v0 v2 v4 = some res) : Met l yX9_part wsX9_part rX9_part (XPc cellM 13 G σ [.long v0, .long v2, .int v4]) (XQl cellM 13 G res σ) 0 0 (gA 13 G) :=
  x_met (ret := (some .long)) (maxL := 7) (by decide) rfl (Nat.le_of_ble_eq_true rfl) (fun p e s m args below meth c H locs ls C0 G0 hW hl => wX9_part C0 G0 hJ z v0 v2 v4 res h hW hl)
end
/-! X9_best -/
def rX9_best : Room := { frames := 4, cells := 0, slots := 0, locals := 102 }
theorem hdvX9_best : yX9_best.cls = RX9 ∧ yX9_best.cls ≠ "java/lang/invoke/MethodHandle" ∧ yX9_best.cls ≠ "java/lang/invoke/VarHandle" ∧ (parseMethodDescriptor yX9_best.desc).map (fun d => d.parameters.length) = some 2 := by decide +kernel
theorem kcX9_best_161 : Cond.constantLong RX9 161 (4 : Int64) ∈ wsX9_best := by decide +kernel
theorem kcX9_best_155 : Cond.constantLong RX9 155 (-3 : Int64) ∈ wsX9_best := by decide +kernel
theorem kcX9_best_149 : Cond.constantLong RX9 149 (-2 : Int64) ∈ wsX9_best := by decide +kernel
def fX9_best_47 (z : Nat) (σ : ST) (t0 : Int64) : Option (Int64 × ST) := some (t0, σ)
def fX9_best (z : Nat) (σ : ST) (v1 : Int32) (v2 : Int32) : Option (Int64 × ST) := bd (fX9_in z ((v1).toInt64) (1 : Int64) (4 : Int64)) (fun u21 => (if u21 = 0 then some ((-2 : Int64), σ) else bd (fX9_canLook z σ v1) (fun u23 => (if u23 = 0 then fX9_best_47 z σ (-3 : Int64) else bd (fX9_bestBy z σ v1 (0 : Int32)) (fun u25 => bd (fX9_allTimes z u25.2 v1 (100 : Int32)) (fun u26 => bd (fX9_part z u25.1 u26 v2) (fun u27 => fX9_best_47 z u25.2 u27)))))))
section
variable {p : Program} {l : Launch} {e : Env} {s : State} {m : MethodId} {args : Array Value} {below : List Frame} {meth : Method} {c : Code} {G : GT}
set_option maxHeartbeats 4000000 in
set_option maxRecDepth 100000 in
theorem wX9_best_47 (C0 : Cx p s m args meth c cX9_best RX9 3 (some .long) wsX9_best) (G0 : Gx G s) (hJ : gJ 13 G) (z : Nat) (σ : ST) (t0 : Int64) (res : (Int64 × ST)) (h : fX9_best_47 z σ t0 = some res)  {H : Heap} {locs : List Loc} {ls : Array Slot} (hW : Wd cellM 13 G s.heap σ H locs) (hl : lv_has ls 3 []) : W p l e rX9_best s m args below meth c H locs 0 0 (MQ below (XQl cellM 13 G res.1 res.2) args s 0 0 (gA 13 G)) (F0 m 47 ls [.long t0]) := by
  unfold fX9_best_47 at h
  cases h
  exact x_lret C0 hW dX9_best_47
set_option maxHeartbeats 4000000 in
set_option maxRecDepth 100000 in
theorem wX9_best (C0 : Cx p s m args meth c cX9_best RX9 3 (some .long) wsX9_best) (G0 : Gx G s) (hJ : gJ 13 G) (z : Nat) (σ : ST) (v1 : Int32) (v2 : Int32) (res : (Int64 × ST)) (h : fX9_best z σ v1 v2 = some res)  {H : Heap} {locs : List Loc} {ls : Array Slot} (hW : Wd cellM 13 G s.heap σ H locs) (hl : lv_has ls 3 [(0, .ref (aD G 0)), (1, .int v1), (2, .int v2)]) : W p l e rX9_best s m args below meth c H locs 0 0 (MQ below (XQl cellM 13 G res.1 res.2) args s 0 0 (gA 13 G)) (F0 m 0 ls []) := by
  unfold fX9_best at h
  refine lv_iload_n C0.1 C0.2.1 dX9_best_0 rfl (lv_at hl 1 rfl) ?_
  refine lv_i2l (v := ((v1).toInt64)) C0.1 C0.2.1 dX9_best_1 rfl ?_
  refine lv_lconst (v := (1 : Int64)) C0.1 C0.2.1 dX9_best_2 (by decide) ?_
  refine lv_ldc2 (v := (4 : Int64)) C0.1 C0.2.1 C0.2.2.2.2.1 (C0.2.2.2.1 _ kcX9_best_161) dX9_best_3 ?_
  obtain ⟨u21, hu21, h⟩ := bd_some h
  refine x_ki (r := u21) (x_runS (As := [.long ((v1).toInt64), .long (1 : Int64), .long (4 : Int64)]) (rest := []) C0 G0 hW (cX9_in_met l hJ z σ ((v1).toInt64) (1 : Int64) (4 : Int64) _ hu21) (va_cwS 3 C0.2.2.2.1 gX9_best_X9_in rfl rfl rfl hdsX9_in ⟨Nat.le_of_ble_eq_true rfl, Nat.le_of_ble_eq_true rfl⟩) rfl rfl hl (Nat.le_of_ble_eq_true rfl) dX9_best_6 ⟨Nat.le_refl 0, Nat.le_refl 0⟩) hW (fun H locs hW => ?_)
  refine lv_if_ne (tgt := 16) C0.1 C0.2.1 dX9_best_9 (by decide) (fun c22 => ?_) (fun c22 => ?_)
  · rw [if_neg c22] at h
    refine lv_aload_n C0.1 C0.2.1 dX9_best_16 rfl (lv_at hl 0 rfl) ?_
    refine lv_iload_n C0.1 C0.2.1 dX9_best_17 rfl (lv_at hl 1 rfl) ?_
    obtain ⟨u23, hu23, h⟩ := bd_some h
    refine x_ki (r := u23) (x_runV (As := [.int v1]) (rest := []) C0 G0 hW (cX9_canLook_met l hJ z σ v1 _ hu23) (cwV 1 C0.2.2.2.1 gX9_best_X9_canLook rfl rfl rfl hdvX9_canLook ⟨Nat.le_of_ble_eq_true rfl, Nat.le_of_ble_eq_true rfl⟩) cM_0 (by decide) rfl rfl rfl hl (Nat.le_of_ble_eq_true rfl) dX9_best_18 ⟨Nat.le_refl 0, Nat.le_refl 0⟩) hW (fun H locs hW => ?_)
    refine lv_if_eq (tgt := 44) C0.1 C0.2.1 dX9_best_21 (by decide) (fun c24 => ?_) (fun c24 => ?_)
    · rw [if_pos c24] at h
      refine lv_ldc2 (v := (-3 : Int64)) C0.1 C0.2.1 C0.2.2.2.2.1 (C0.2.2.2.1 _ kcX9_best_155) dX9_best_44 ?_
      exact wX9_best_47 C0 G0 hJ z σ (-3 : Int64) _ h hW (lv_sub hl [] rfl)
    · rw [if_neg c24] at h
      refine lv_aload_n C0.1 C0.2.1 dX9_best_24 rfl (lv_at hl 0 rfl) ?_
      refine lv_iload_n C0.1 C0.2.1 dX9_best_25 rfl (lv_at hl 1 rfl) ?_
      refine lv_iconst (v := (0 : Int32)) C0.1 C0.2.1 dX9_best_26 (by decide) ?_
      obtain ⟨u25, hu25, h⟩ := bd_some h
      refine x_kl (r := u25.1) (x_runV (As := [.int v1, .int (0 : Int32)]) (rest := []) C0 G0 hW (cX9_bestBy_met l hJ z σ v1 (0 : Int32) _ hu25) (cwV 2 C0.2.2.2.1 gX9_best_X9_bestBy rfl rfl rfl hdvX9_bestBy ⟨Nat.le_of_ble_eq_true rfl, Nat.le_of_ble_eq_true rfl⟩) cM_0 (by decide) rfl rfl rfl hl (Nat.le_of_ble_eq_true rfl) dX9_best_27 ⟨Nat.le_refl 0, Nat.le_refl 0⟩) hW (fun H locs hW => ?_)
      refine lv_aload_n C0.1 C0.2.1 dX9_best_30 rfl (lv_at hl 0 rfl) ?_
      refine lv_iload_n C0.1 C0.2.1 dX9_best_31 rfl (lv_at hl 1 rfl) ?_
      refine lv_bipush (v := (100 : Int32)) C0.1 C0.2.1 dX9_best_32 (by decide) ?_
      obtain ⟨u26, hu26, h⟩ := bd_some h
      refine x_kl (r := u26) (x_runV (As := [.int v1, .int (100 : Int32)]) (rest := [.long u25.1]) C0 G0 hW (cX9_allTimes_met l hJ z u25.2 v1 (100 : Int32) _ hu26) (cwV 2 C0.2.2.2.1 gX9_best_X9_allTimes rfl rfl rfl hdvX9_allTimes ⟨Nat.le_of_ble_eq_true rfl, Nat.le_of_ble_eq_true rfl⟩) cM_0 (by decide) rfl rfl rfl hl (Nat.le_of_ble_eq_true rfl) dX9_best_34 ⟨Nat.le_refl 0, Nat.le_refl 0⟩) hW (fun H locs hW => ?_)
      refine lv_iload_n C0.1 C0.2.1 dX9_best_37 rfl (lv_at hl 2 rfl) ?_
      obtain ⟨u27, hu27, h⟩ := bd_some h
      refine x_kl (r := u27) (x_runS (As := [.long u25.1, .long u26, .int v2]) (rest := []) C0 G0 hW (cX9_part_met l hJ z u25.2 u25.1 u26 v2 _ hu27) (va_cwS 3 C0.2.2.2.1 gX9_best_X9_part rfl rfl rfl hdsX9_part ⟨Nat.le_of_ble_eq_true rfl, Nat.le_of_ble_eq_true rfl⟩) rfl rfl hl (Nat.le_of_ble_eq_true rfl) dX9_best_38 ⟨Nat.le_refl 0, Nat.le_refl 0⟩) hW (fun H locs hW => ?_)
      refine lv_goto (tgt := 47) C0.1 C0.2.1 dX9_best_41 (by decide) ?_
      exact wX9_best_47 C0 G0 hJ z u25.2 u27 _ h hW (lv_sub hl [] rfl)
  · rw [if_pos c22] at h
    refine lv_ldc2 (v := (-2 : Int64)) C0.1 C0.2.1 C0.2.2.2.2.1 (C0.2.2.2.1 _ kcX9_best_149) dX9_best_12 ?_
    cases h
    exact x_lret C0 hW dX9_best_15
theorem cX9_best_met (l : Launch) {G : GT} (hJ : gJ 13 G) (z : Nat) (σ : ST) (v1 : Int32) (v2 : Int32) (res : (Int64 × ST)) (h : fX9_best z σ v1 v2 = some res) : Met l yX9_best wsX9_best rX9_best (XPc cellM 13 G σ [.ref (aD G 0), .int v1, .int v2]) (XQl cellM 13 G res.1 res.2) 0 0 (gA 13 G) :=
  x_met (ret := (some .long)) (maxL := 3) (by decide) rfl (Nat.le_of_ble_eq_true rfl) (fun p e s m args below meth c H locs ls C0 G0 hW hl => wX9_best C0 G0 hJ z σ v1 v2 res h hW hl)
end
/-! X9_bestRow -/
def rX9_bestRow : Room := { frames := 4, cells := 0, slots := 0, locals := 102 }
theorem hdvX9_bestRow : yX9_bestRow.cls = RX9 ∧ yX9_bestRow.cls ≠ "java/lang/invoke/MethodHandle" ∧ yX9_bestRow.cls ≠ "java/lang/invoke/VarHandle" ∧ (parseMethodDescriptor yX9_bestRow.desc).map (fun d => d.parameters.length) = some 1 := by decide +kernel
theorem kcX9_bestRow_161 : Cond.constantLong RX9 161 (4 : Int64) ∈ wsX9_bestRow := by decide +kernel
theorem inX9_bestRow_X9 : ∀ w ∈ u_ws RX9 TX9 29, w ∈ wsX9_bestRow := by decide +kernel
theorem lkX9_bestRow_192 : Cond.fieldLink RX9 192 (TX9 24).1 (TX9 24).2.1 (TX9 24).2.2.1 ∈ wsX9_bestRow := by decide +kernel
def fX9_bestRow (z : Nat) (σ : ST) (v1 : Int32) : Option (Int32 × ST) := bd (fX9_in z ((v1).toInt64) (1 : Int64) (4 : Int64)) (fun u21 => (if u21 = 0 then some ((-2 : Int32), σ) else bd (fX9_canLook z σ v1) (fun u23 => (if u23 = 0 then some ((-3 : Int32), σ) else bd (fX9_bestBy z σ v1 (0 : Int32)) (fun u25 => some ((u25.2.1 0 24), u25.2))))))
section
variable {p : Program} {l : Launch} {e : Env} {s : State} {m : MethodId} {args : Array Value} {below : List Frame} {meth : Method} {c : Code} {G : GT}
set_option maxHeartbeats 4000000 in
set_option maxRecDepth 100000 in
theorem wX9_bestRow (C0 : Cx p s m args meth c cX9_bestRow RX9 2 (some .int) wsX9_bestRow) (G0 : Gx G s) (hJ : gJ 13 G) (z : Nat) (σ : ST) (v1 : Int32) (res : (Int32 × ST)) (h : fX9_bestRow z σ v1 = some res)  {H : Heap} {locs : List Loc} {ls : Array Slot} (hW : Wd cellM 13 G s.heap σ H locs) (hl : lv_has ls 2 [(0, .ref (aD G 0)), (1, .int v1)]) : W p l e rX9_bestRow s m args below meth c H locs 0 0 (MQ below (XQi cellM 13 G res.1 res.2) args s 0 0 (gA 13 G)) (F0 m 0 ls []) := by
  unfold fX9_bestRow at h
  refine lv_iload_n C0.1 C0.2.1 dX9_bestRow_0 rfl (lv_at hl 1 rfl) ?_
  refine lv_i2l (v := ((v1).toInt64)) C0.1 C0.2.1 dX9_bestRow_1 rfl ?_
  refine lv_lconst (v := (1 : Int64)) C0.1 C0.2.1 dX9_bestRow_2 (by decide) ?_
  refine lv_ldc2 (v := (4 : Int64)) C0.1 C0.2.1 C0.2.2.2.2.1 (C0.2.2.2.1 _ kcX9_bestRow_161) dX9_bestRow_3 ?_
  obtain ⟨u21, hu21, h⟩ := bd_some h
  refine x_ki (r := u21) (x_runS (As := [.long ((v1).toInt64), .long (1 : Int64), .long (4 : Int64)]) (rest := []) C0 G0 hW (cX9_in_met l hJ z σ ((v1).toInt64) (1 : Int64) (4 : Int64) _ hu21) (va_cwS 3 C0.2.2.2.1 gX9_bestRow_X9_in rfl rfl rfl hdsX9_in ⟨Nat.le_of_ble_eq_true rfl, Nat.le_of_ble_eq_true rfl⟩) rfl rfl hl (Nat.le_of_ble_eq_true rfl) dX9_bestRow_6 ⟨Nat.le_refl 0, Nat.le_refl 0⟩) hW (fun H locs hW => ?_)
  refine lv_if_ne (tgt := 15) C0.1 C0.2.1 dX9_bestRow_9 (by decide) (fun c22 => ?_) (fun c22 => ?_)
  · rw [if_neg c22] at h
    refine lv_aload_n C0.1 C0.2.1 dX9_bestRow_15 rfl (lv_at hl 0 rfl) ?_
    refine lv_iload_n C0.1 C0.2.1 dX9_bestRow_16 rfl (lv_at hl 1 rfl) ?_
    obtain ⟨u23, hu23, h⟩ := bd_some h
    refine x_ki (r := u23) (x_runV (As := [.int v1]) (rest := []) C0 G0 hW (cX9_canLook_met l hJ z σ v1 _ hu23) (cwV 1 C0.2.2.2.1 gX9_bestRow_X9_canLook rfl rfl rfl hdvX9_canLook ⟨Nat.le_of_ble_eq_true rfl, Nat.le_of_ble_eq_true rfl⟩) cM_0 (by decide) rfl rfl rfl hl (Nat.le_of_ble_eq_true rfl) dX9_bestRow_17 ⟨Nat.le_refl 0, Nat.le_refl 0⟩) hW (fun H locs hW => ?_)
    refine lv_if_ne (tgt := 26) C0.1 C0.2.1 dX9_bestRow_20 (by decide) (fun c24 => ?_) (fun c24 => ?_)
    · rw [if_neg c24] at h
      refine lv_aload_n C0.1 C0.2.1 dX9_bestRow_26 rfl (lv_at hl 0 rfl) ?_
      refine lv_iload_n C0.1 C0.2.1 dX9_bestRow_27 rfl (lv_at hl 1 rfl) ?_
      refine lv_iconst (v := (0 : Int32)) C0.1 C0.2.1 dX9_bestRow_28 (by decide) ?_
      obtain ⟨u25, hu25, h⟩ := bd_some h
      refine x_kl (r := u25.1) (x_runV (As := [.int v1, .int (0 : Int32)]) (rest := []) C0 G0 hW (cX9_bestBy_met l hJ z σ v1 (0 : Int32) _ hu25) (cwV 2 C0.2.2.2.1 gX9_bestRow_X9_bestBy rfl rfl rfl hdvX9_bestBy ⟨Nat.le_of_ble_eq_true rfl, Nat.le_of_ble_eq_true rfl⟩) cM_0 (by decide) rfl rfl rfl hl (Nat.le_of_ble_eq_true rfl) dX9_bestRow_29 ⟨Nat.le_refl 0, Nat.le_refl 0⟩) hW (fun H locs hW => ?_)
      refine lv_pop2_2 C0.1 C0.2.1 dX9_bestRow_32 rfl ?_
      refine lv_aload_n C0.1 C0.2.1 dX9_bestRow_33 rfl (lv_at hl 0 rfl) ?_
      refine x_get (v := .int (u25.2.1 0 24)) C0 G0 hW cM_0 (by decide) rfl 24 (by decide) inX9_bestRow_X9 lkX9_bestRow_192 rfl dX9_bestRow_34 ?_
      cases h
      exact x_iret C0 hW dX9_bestRow_37
    · rw [if_pos c24] at h
      refine lv_bipush (v := (-3 : Int32)) C0.1 C0.2.1 dX9_bestRow_23 (by decide) ?_
      cases h
      exact x_iret C0 hW dX9_bestRow_25
  · rw [if_pos c22] at h
    refine lv_bipush (v := (-2 : Int32)) C0.1 C0.2.1 dX9_bestRow_12 (by decide) ?_
    cases h
    exact x_iret C0 hW dX9_bestRow_14
theorem cX9_bestRow_met (l : Launch) {G : GT} (hJ : gJ 13 G) (z : Nat) (σ : ST) (v1 : Int32) (res : (Int32 × ST)) (h : fX9_bestRow z σ v1 = some res) : Met l yX9_bestRow wsX9_bestRow rX9_bestRow (XPc cellM 13 G σ [.ref (aD G 0), .int v1]) (XQi cellM 13 G res.1 res.2) 0 0 (gA 13 G) :=
  x_met (ret := (some .int)) (maxL := 2) (by decide) rfl (Nat.le_of_ble_eq_true rfl) (fun p e s m args below meth c H locs ls C0 G0 hW hl => wX9_bestRow C0 G0 hJ z σ v1 res h hW hl)
end

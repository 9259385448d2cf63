/-! X9_by -/
def rX9_by : Room := { frames := 3, cells := 0, slots := 0, locals := 73 }
theorem hdvX9_by : yX9_by.cls = RX9 ∧ yX9_by.cls ≠ "java/lang/invoke/MethodHandle" ∧ yX9_by.cls ≠ "java/lang/invoke/VarHandle" ∧ (parseMethodDescriptor yX9_by.desc).map (fun d => d.parameters.length) = some 3 := by decide +kernel
theorem kcX9_by_155 : Cond.constantLong RX9 155 (-3 : Int64) ∈ wsX9_by := by decide +kernel
theorem kcX9_by_149 : Cond.constantLong RX9 149 (-2 : Int64) ∈ wsX9_by := by decide +kernel
def fX9_by_43 (z : Nat) (σ : ST) (t0 : Int64) : Option (Int64 × ST) := some (t0, σ)
def fX9_by (z : Nat) (σ : ST) (v1 : Int32) (v2 : Int32) (v3 : Int32) : Option (Int64 × ST) := bd (fX9_isRow z v1 v2) (fun u21 => (if u21 = 0 then some ((-2 : Int64), σ) else bd (fX9_canLook z σ v1) (fun u23 => (if u23 = 0 then fX9_by_43 z σ (-3 : Int64) else bd (fX9_foundBy z σ v1 v2) (fun u25 => bd (fX9_allTimes z u25.2 v1 (100 : Int32)) (fun u26 => bd (fX9_part z u25.1 u26 v3) (fun u27 => fX9_by_43 z u25.2 u27)))))))
section
variable {p : Program} {l : Launch} {e : Env} {s : State} {m : MethodId} {args : Array Value} {below : List Frame} {meth : Method} {c : Code} {G : GT}
set_option maxHeartbeats 4000000 in
set_option maxRecDepth 100000 in
theorem wX9_by_43 (C0 : Cx p s m args meth c cX9_by RX9 4 (some .long) wsX9_by) (G0 : Gx G s) (hJ : gJ 13 G) (z : Nat) (σ : ST) (t0 : Int64) (res : (Int64 × ST)) (h : fX9_by_43 z σ t0 = some res)  {H : Heap} {locs : List Loc} {ls : Array Slot} (hW : Wd cellM 13 G s.heap σ H locs) (hl : lv_has ls 4 []) : W p l e rX9_by s m args below meth c H locs 0 0 (MQ below (XQl cellM 13 G res.1 res.2) args s 0 0 (gA 13 G)) (F0 m 43 ls [.long t0]) := by
  unfold fX9_by_43 at h
  cases h
  exact x_lret C0 hW dX9_by_43
set_option maxHeartbeats 4000000 in
set_option maxRecDepth 100000 in
theorem wX9_by (C0 : Cx p s m args meth c cX9_by RX9 4 (some .long) wsX9_by) (G0 : Gx G s) (hJ : gJ 13 G) (z : Nat) (σ : ST) (v1 : Int32) (v2 : Int32) (v3 : Int32) (res : (Int64 × ST)) (h : fX9_by z σ v1 v2 v3 = some res)  {H : Heap} {locs : List Loc} {ls : Array Slot} (hW : Wd cellM 13 G s.heap σ H locs) (hl : lv_has ls 4 [(0, .ref (aD G 0)), (1, .int v1), (2, .int v2), (3, .int v3)]) : W p l e rX9_by s m args below meth c H locs 0 0 (MQ below (XQl cellM 13 G res.1 res.2) args s 0 0 (gA 13 G)) (F0 m 0 ls []) := by
  unfold fX9_by at h
  refine lv_iload_n C0.1 C0.2.1 dX9_by_0 rfl (lv_at hl 1 rfl) ?_
  refine lv_iload_n C0.1 C0.2.1 dX9_by_1 rfl (lv_at hl 2 rfl) ?_
  obtain ⟨u21, hu21, h⟩ := bd_some h
  refine x_ki (r := u21) (x_runS (As := [.int v1, .int v2]) (rest := []) C0 G0 hW (cX9_isRow_met l hJ z σ v1 v2 _ hu21) (va_cwS 2 C0.2.2.2.1 gX9_by_X9_isRow rfl rfl rfl hdsX9_isRow ⟨Nat.le_of_ble_eq_true rfl, Nat.le_of_ble_eq_true rfl⟩) rfl rfl hl (Nat.le_of_ble_eq_true rfl) dX9_by_2 ⟨Nat.le_refl 0, Nat.le_refl 0⟩) hW (fun H locs hW => ?_)
  refine lv_if_ne (tgt := 12) C0.1 C0.2.1 dX9_by_5 (by decide) (fun c22 => ?_) (fun c22 => ?_)
  · rw [if_neg c22] at h
    refine lv_aload_n C0.1 C0.2.1 dX9_by_12 rfl (lv_at hl 0 rfl) ?_
    refine lv_iload_n C0.1 C0.2.1 dX9_by_13 rfl (lv_at hl 1 rfl) ?_
    obtain ⟨u23, hu23, h⟩ := bd_some h
    refine x_ki (r := u23) (x_runV (As := [.int v1]) (rest := []) C0 G0 hW (cX9_canLook_met l hJ z σ v1 _ hu23) (cwV 1 C0.2.2.2.1 gX9_by_X9_canLook rfl rfl rfl hdvX9_canLook ⟨Nat.le_of_ble_eq_true rfl, Nat.le_of_ble_eq_true rfl⟩) cM_0 (by decide) rfl rfl rfl hl (Nat.le_of_ble_eq_true rfl) dX9_by_14 ⟨Nat.le_refl 0, Nat.le_refl 0⟩) hW (fun H locs hW => ?_)
    refine lv_if_eq (tgt := 40) C0.1 C0.2.1 dX9_by_17 (by decide) (fun c24 => ?_) (fun c24 => ?_)
    · rw [if_pos c24] at h
      refine lv_ldc2 (v := (-3 : Int64)) C0.1 C0.2.1 C0.2.2.2.2.1 (C0.2.2.2.1 _ kcX9_by_155) dX9_by_40 ?_
      exact wX9_by_43 C0 G0 hJ z σ (-3 : Int64) _ h hW (lv_sub hl [] rfl)
    · rw [if_neg c24] at h
      refine lv_aload_n C0.1 C0.2.1 dX9_by_20 rfl (lv_at hl 0 rfl) ?_
      refine lv_iload_n C0.1 C0.2.1 dX9_by_21 rfl (lv_at hl 1 rfl) ?_
      refine lv_iload_n C0.1 C0.2.1 dX9_by_22 rfl (lv_at hl 2 rfl) ?_
      obtain ⟨u25, hu25, h⟩ := bd_some h
      refine x_kl (r := u25.1) (x_runV (As := [.int v1, .int v2]) (rest := []) C0 G0 hW (cX9_foundBy_met l hJ z σ v1 v2 _ hu25) (cwV 2 C0.2.2.2.1 gX9_by_X9_foundBy rfl rfl rfl hdvX9_foundBy ⟨Nat.le_of_ble_eq_true rfl, Nat.le_of_ble_eq_true rfl⟩) cM_0 (by decide) rfl rfl rfl hl (Nat.le_of_ble_eq_true rfl) dX9_by_23 ⟨Nat.le_refl 0, Nat.le_refl 0⟩) hW (fun H locs hW => ?_)
      refine lv_aload_n C0.1 C0.2.1 dX9_by_26 rfl (lv_at hl 0 rfl) ?_
      refine lv_iload_n C0.1 C0.2.1 dX9_by_27 rfl (lv_at hl 1 rfl) ?_
      refine lv_bipush (v := (100 : Int32)) C0.1 C0.2.1 dX9_by_28 (by decide) ?_
      obtain ⟨u26, hu26, h⟩ := bd_some h
      refine x_kl (r := u26) (x_runV (As := [.int v1, .int (100 : Int32)]) (rest := [.long u25.1]) C0 G0 hW (cX9_allTimes_met l hJ z u25.2 v1 (100 : Int32) _ hu26) (cwV 2 C0.2.2.2.1 gX9_by_X9_allTimes rfl rfl rfl hdvX9_allTimes ⟨Nat.le_of_ble_eq_true rfl, Nat.le_of_ble_eq_true rfl⟩) cM_0 (by decide) rfl rfl rfl hl (Nat.le_of_ble_eq_true rfl) dX9_by_30 ⟨Nat.le_refl 0, Nat.le_refl 0⟩) hW (fun H locs hW => ?_)
      refine lv_iload_n C0.1 C0.2.1 dX9_by_33 rfl (lv_at hl 3 rfl) ?_
      obtain ⟨u27, hu27, h⟩ := bd_some h
      refine x_kl (r := u27) (x_runS (As := [.long u25.1, .long u26, .int v3]) (rest := []) C0 G0 hW (cX9_part_met l hJ z u25.2 u25.1 u26 v3 _ hu27) (va_cwS 3 C0.2.2.2.1 gX9_by_X9_part rfl rfl rfl hdsX9_part ⟨Nat.le_of_ble_eq_true rfl, Nat.le_of_ble_eq_true rfl⟩) rfl rfl hl (Nat.le_of_ble_eq_true rfl) dX9_by_34 ⟨Nat.le_refl 0, Nat.le_refl 0⟩) hW (fun H locs hW => ?_)
      refine lv_goto (tgt := 43) C0.1 C0.2.1 dX9_by_37 (by decide) ?_
      exact wX9_by_43 C0 G0 hJ z u25.2 u27 _ h hW (lv_sub hl [] rfl)
  · rw [if_pos c22] at h
    refine lv_ldc2 (v := (-2 : Int64)) C0.1 C0.2.1 C0.2.2.2.2.1 (C0.2.2.2.1 _ kcX9_by_149) dX9_by_8 ?_
    cases h
    exact x_lret C0 hW dX9_by_11
theorem cX9_by_met (l : Launch) {G : GT} (hJ : gJ 13 G) (z : Nat) (σ : ST) (v1 : Int32) (v2 : Int32) (v3 : Int32) (res : (Int64 × ST)) (h : fX9_by z σ v1 v2 v3 = some res) : Met l yX9_by wsX9_by rX9_by (XPc cellM 13 G σ [.ref (aD G 0), .int v1, .int v2, .int v3]) (XQl cellM 13 G res.1 res.2) 0 0 (gA 13 G) :=
  x_met (ret := (some .long)) (maxL := 4) (by decide) rfl (Nat.le_of_ble_eq_true rfl) (fun p e s m args below meth c H locs ls C0 G0 hW hl => wX9_by C0 G0 hJ z σ v1 v2 v3 res h hW hl)
end
/-! X9_count -/
def rX9_count : Room := { frames := 0, cells := 0, slots := 0, locals := 0 }
theorem hdvX9_count : yX9_count.cls = RX9 ∧ yX9_count.cls ≠ "java/lang/invoke/MethodHandle" ∧ yX9_count.cls ≠ "java/lang/invoke/VarHandle" ∧ (parseMethodDescriptor yX9_count.desc).map (fun d => d.parameters.length) = some 1 := by decide +kernel
theorem inX9_count_X9 : ∀ w ∈ u_ws RX9 TX9 29, w ∈ wsX9_count := by decide +kernel
theorem lkX9_count_58 : Cond.fieldLink RX9 58 (TX9 17).1 (TX9 17).2.1 (TX9 17).2.2.1 ∈ wsX9_count := by decide +kernel
theorem lkX9_count_94 : Cond.fieldLink RX9 94 (TX9 0).1 (TX9 0).2.1 (TX9 0).2.2.1 ∈ wsX9_count := by decide +kernel
theorem lkX9_count_97 : Cond.fieldLink RX9 97 (TX9 1).1 (TX9 1).2.1 (TX9 1).2.2.1 ∈ wsX9_count := by decide +kernel
theorem lkX9_count_100 : Cond.fieldLink RX9 100 (TX9 2).1 (TX9 2).2.1 (TX9 2).2.2.1 ∈ wsX9_count := by decide +kernel
theorem lkX9_count_103 : Cond.fieldLink RX9 103 (TX9 3).1 (TX9 3).2.1 (TX9 3).2.2.1 ∈ wsX9_count := by decide +kernel
theorem lkX9_count_48 : Cond.fieldLink RX9 48 (TX9 5).1 (TX9 5).2.1 (TX9 5).2.2.1 ∈ wsX9_count := by decide +kernel
theorem lkX9_count_23 : Cond.fieldLink RX9 23 (TX9 15).1 (TX9 15).2.1 (TX9 15).2.2.1 ∈ wsX9_count := by decide +kernel
theorem lkX9_count_119 : Cond.fieldLink RX9 119 (TX9 21).1 (TX9 21).2.1 (TX9 21).2.2.1 ∈ wsX9_count := by decide +kernel
theorem lkX9_count_112 : Cond.fieldLink RX9 112 (TX9 8).1 (TX9 8).2.1 (TX9 8).2.2.1 ∈ wsX9_count := by decide +kernel
theorem lkX9_count_109 : Cond.fieldLink RX9 109 (TX9 6).1 (TX9 6).2.1 (TX9 6).2.2.1 ∈ wsX9_count := by decide +kernel
theorem lkX9_count_19 : Cond.fieldLink RX9 19 (TX9 14).1 (TX9 14).2.1 (TX9 14).2.2.1 ∈ wsX9_count := by decide +kernel
def fX9_count_174 (z : Nat) (σ : ST) (t0 : Int32) : Option Int32 := some t0
def fX9_count_29 (z : Nat) (r4 : Int32 → Int32 → Option Int32) (σ : ST) (v1 : Int32) (v3 : Int32) (t0 : Int32) (t1 : Int32) : Option Int32 := r4 (t1 ||| t0) (v3 + 1)
def fX9_count_4 (z : Nat) (σ : ST) (v1 : Int32) : Nat → Int32 → Int32 → Option Int32
  | 0 => fun _ _ => none
  | n + 1 => fun v2 v3 => (if (10 : Int32) ≤ v3 then (if v1 = (0 : Int32) then some (σ.1 0 17) else (if v1 = (1 : Int32) then some (σ.1 0 0) else (if v1 = (2 : Int32) then some (σ.1 0 1) else (if v1 = (3 : Int32) then some (σ.1 0 2) else (if v1 = (4 : Int32) then some (σ.1 0 3) else (if v1 = (5 : Int32) then some (σ.1 0 5) else (if v1 = (6 : Int32) then gd (inb (0 : Int32) 9) ( some (σ.1 5 ((0 : Int32)).toNatClampNeg)) else (if v1 = (7 : Int32) then gd (inb (1 : Int32) 9) ( some (σ.1 5 ((1 : Int32)).toNatClampNeg)) else (if v1 = (8 : Int32) then gd (inb (2 : Int32) 9) ( some (σ.1 5 ((2 : Int32)).toNatClampNeg)) else (if v1 = (9 : Int32) then some (σ.1 0 21) else (if v1 = (10 : Int32) then some v2 else (if v1 = (11 : Int32) then (if (σ.1 0 8) = 0 then fX9_count_174 z σ (-9 : Int32) else fX9_count_174 z σ (σ.1 0 6)) else some (-2 : Int32))))))))))))) else gd (inb v3 33) ( (if (σ.2 4 (v3).toNatClampNeg) ≤ (0 : Int64) then fX9_count_29 z (fX9_count_4 z σ v1 n) σ v1 v3 (0 : Int32) v2 else fX9_count_29 z (fX9_count_4 z σ v1 n) σ v1 v3 ((1 : Int32) <<< (v3 &&& 31)) v2)))
def fX9_count (z : Nat) (σ : ST) (v1 : Int32) : Option Int32 := fX9_count_4 z σ v1 z (0 : Int32) (0 : Int32)
section
variable {p : Program} {l : Launch} {e : Env} {s : State} {m : MethodId} {args : Array Value} {below : List Frame} {meth : Method} {c : Code} {G : GT}
set_option maxHeartbeats 4000000 in
set_option maxRecDepth 100000 in
theorem wX9_count_174 (C0 : Cx p s m args meth c cX9_count RX9 4 (some .int) wsX9_count) (G0 : Gx G s) (hJ : gJ 13 G) (z : Nat) (σ : ST) (t0 : Int32) (res : Int32) (h : fX9_count_174 z σ t0 = some res)  {H : Heap} {locs : List Loc} {ls : Array Slot} (hW : Wd cellM 13 G s.heap σ H locs) (hl : lv_has ls 4 []) : W p l e rX9_count s m args below meth c H locs 0 0 (MQ below (XQi cellM 13 G res σ) args s 0 0 (gA 13 G)) (F0 m 174 ls [.int t0]) := by
  unfold fX9_count_174 at h
  cases h
  exact x_iret C0 hW dX9_count_174
set_option maxHeartbeats 4000000 in
set_option maxRecDepth 100000 in
theorem wX9_count_29 (C0 : Cx p s m args meth c cX9_count RX9 4 (some .int) wsX9_count) (G0 : Gx G s) (hJ : gJ 13 G) (z : Nat) (r4 : Int32 → Int32 → Option Int32) (σ : ST) (v1 : Int32) (v3 : Int32) (t0 : Int32) (t1 : Int32) (res : Int32) (h : fX9_count_29 z r4 σ v1 v3 t0 t1 = some res) (hr4 : ∀ (v2 : Int32) (v3 : Int32), r4 v2 v3 = some res → ∀ (H : Heap) (locs : List Loc) (ls : Array Slot), Wd cellM 13 G s.heap σ H locs → lv_has ls 4 [(0, .ref (aD G 0)), (1, .int v1), (2, .int v2), (3, .int v3)] → W p l e rX9_count s m args below meth c H locs 0 0 (MQ below (XQi cellM 13 G res σ) args s 0 0 (gA 13 G)) (F0 m 4 ls [])) {H : Heap} {locs : List Loc} {ls : Array Slot} (hW : Wd cellM 13 G s.heap σ H locs) (hl : lv_has ls 4 [(0, .ref (aD G 0)), (1, .int v1), (3, .int v3)]) : W p l e rX9_count s m args below meth c H locs 0 0 (MQ below (XQi cellM 13 G res σ) args s 0 0 (gA 13 G)) (F0 m 29 ls [.int t0, .int t1]) := by
  unfold fX9_count_29 at h
  refine lv_ior C0.1 C0.2.1 dX9_count_29 ?_
  refine lv_istore_n (lv' := [(2, .int (t1 ||| t0)), (0, .ref (aD G 0)), (1, .int v1), (3, .int v3)]) C0.1 C0.2.1 dX9_count_30 rfl hl (by decide) rfl (fun ls hl => ?_)
  refine lv_iinc (v := (v3 + 1)) (lv' := [(3, .int (v3 + 1)), (2, .int (t1 ||| t0)), (0, .ref (aD G 0)), (1, .int v1)]) C0.1 C0.2.1 dX9_count_31 hl (k := 3) rfl rfl (by decide) rfl (fun ls hl => ?_)
  refine lv_goto (tgt := 4) C0.1 C0.2.1 dX9_count_34 (by decide) ?_
  exact hr4 (t1 ||| t0) (v3 + 1) h _ _ _ hW (lv_sub hl [2, 3, 1, 0] rfl)
set_option maxHeartbeats 4000000 in
set_option maxRecDepth 100000 in
theorem wX9_count_4 (C0 : Cx p s m args meth c cX9_count RX9 4 (some .int) wsX9_count) (G0 : Gx G s) (hJ : gJ 13 G) (z : Nat) (σ : ST) (v1 : Int32) (n : Nat) (v2 : Int32) (v3 : Int32) (res : Int32) (h : fX9_count_4 z σ v1 n v2 v3 = some res)  {H : Heap} {locs : List Loc} {ls : Array Slot} (hW : Wd cellM 13 G s.heap σ H locs) (hl : lv_has ls 4 [(0, .ref (aD G 0)), (1, .int v1), (2, .int v2), (3, .int v3)]) : W p l e rX9_count s m args below meth c H locs 0 0 (MQ below (XQi cellM 13 G res σ) args s 0 0 (gA 13 G)) (F0 m 4 ls []) := by
  induction n generalizing v2 v3 H locs ls with
  | zero => cases h
  | succ n ih =>
    have hr4 : ∀ (v2 : Int32) (v3 : Int32), fX9_count_4 z σ v1 n v2 v3 = some res → ∀ (H : Heap) (locs : List Loc) (ls : Array Slot), Wd cellM 13 G s.heap σ H locs → lv_has ls 4 [(0, .ref (aD G 0)), (1, .int v1), (2, .int v2), (3, .int v3)] → W p l e rX9_count s m args below meth c H locs 0 0 (MQ below (XQi cellM 13 G res σ) args s 0 0 (gA 13 G)) (F0 m 4 ls []) := fun v2 v3 h H locs ls hW hl => ih v2 v3 h hW hl
    clear ih
    unfold fX9_count_4 at h
    refine lv_iload_n C0.1 C0.2.1 dX9_count_4 rfl (lv_at hl 3 rfl) ?_
    refine lv_bipush (v := (10 : Int32)) C0.1 C0.2.1 dX9_count_5 (by decide) ?_
    refine lv_icmp_ge (tgt := 37) C0.1 C0.2.1 dX9_count_7 (by decide) (fun c21 => ?_) (fun c21 => ?_)
    · rw [if_pos c21] at h
      refine lv_iload_n C0.1 C0.2.1 dX9_count_37 rfl (lv_at hl 1 rfl) ?_
      by_cases c22 : v1 = (0 : Int32)
      · rw [if_pos c22] at h
        refine lv_tableIn (tgt := 100) C0.1 C0.2.1 dX9_count_38 (by rw [c22]; decide) (by rw [c22]; decide) (by rw [c22]; rfl) (by decide) ?_
        refine lv_aload_n C0.1 C0.2.1 dX9_count_100 rfl (lv_at hl 0 rfl) ?_
        refine x_get (v := .int (σ.1 0 17)) C0 G0 hW cM_0 (by decide) rfl 17 (by decide) inX9_count_X9 lkX9_count_58 rfl dX9_count_101 ?_
        cases h
        exact x_iret C0 hW dX9_count_104
      rw [if_neg c22] at h
      by_cases c23 : v1 = (1 : Int32)
      · rw [if_pos c23] at h
        refine lv_tableIn (tgt := 105) C0.1 C0.2.1 dX9_count_38 (by rw [c23]; decide) (by rw [c23]; decide) (by rw [c23]; rfl) (by decide) ?_
        refine lv_aload_n C0.1 C0.2.1 dX9_count_105 rfl (lv_at hl 0 rfl) ?_
        refine x_get (v := .int (σ.1 0 0)) C0 G0 hW cM_0 (by decide) rfl 0 (by decide) inX9_count_X9 lkX9_count_94 rfl dX9_count_106 ?_
        cases h
        exact x_iret C0 hW dX9_count_109
      rw [if_neg c23] at h
      by_cases c24 : v1 = (2 : Int32)
      · rw [if_pos c24] at h
        refine lv_tableIn (tgt := 110) C0.1 C0.2.1 dX9_count_38 (by rw [c24]; decide) (by rw [c24]; decide) (by rw [c24]; rfl) (by decide) ?_
        refine lv_aload_n C0.1 C0.2.1 dX9_count_110 rfl (lv_at hl 0 rfl) ?_
        refine x_get (v := .int (σ.1 0 1)) C0 G0 hW cM_0 (by decide) rfl 1 (by decide) inX9_count_X9 lkX9_count_97 rfl dX9_count_111 ?_
        cases h
        exact x_iret C0 hW dX9_count_114
      rw [if_neg c24] at h
      by_cases c25 : v1 = (3 : Int32)
      · rw [if_pos c25] at h
        refine lv_tableIn (tgt := 115) C0.1 C0.2.1 dX9_count_38 (by rw [c25]; decide) (by rw [c25]; decide) (by rw [c25]; rfl) (by decide) ?_
        refine lv_aload_n C0.1 C0.2.1 dX9_count_115 rfl (lv_at hl 0 rfl) ?_
        refine x_get (v := .int (σ.1 0 2)) C0 G0 hW cM_0 (by decide) rfl 2 (by decide) inX9_count_X9 lkX9_count_100 rfl dX9_count_116 ?_
        cases h
        exact x_iret C0 hW dX9_count_119
      rw [if_neg c25] at h
      by_cases c26 : v1 = (4 : Int32)
      · rw [if_pos c26] at h
        refine lv_tableIn (tgt := 120) C0.1 C0.2.1 dX9_count_38 (by rw [c26]; decide) (by rw [c26]; decide) (by rw [c26]; rfl) (by decide) ?_
        refine lv_aload_n C0.1 C0.2.1 dX9_count_120 rfl (lv_at hl 0 rfl) ?_
        refine x_get (v := .int (σ.1 0 3)) C0 G0 hW cM_0 (by decide) rfl 3 (by decide) inX9_count_X9 lkX9_count_103 rfl dX9_count_121 ?_
        cases h
        exact x_iret C0 hW dX9_count_124
      rw [if_neg c26] at h
      by_cases c27 : v1 = (5 : Int32)
      · rw [if_pos c27] at h
        refine lv_tableIn (tgt := 125) C0.1 C0.2.1 dX9_count_38 (by rw [c27]; decide) (by rw [c27]; decide) (by rw [c27]; rfl) (by decide) ?_
        refine lv_aload_n C0.1 C0.2.1 dX9_count_125 rfl (lv_at hl 0 rfl) ?_
        refine x_get (v := .int (σ.1 0 5)) C0 G0 hW cM_0 (by decide) rfl 5 (by decide) inX9_count_X9 lkX9_count_48 rfl dX9_count_126 ?_
        cases h
        exact x_iret C0 hW dX9_count_129
      rw [if_neg c27] at h
      by_cases c28 : v1 = (6 : Int32)
      · rw [if_pos c28] at h
        refine lv_tableIn (tgt := 130) C0.1 C0.2.1 dX9_count_38 (by rw [c28]; decide) (by rw [c28]; decide) (by rw [c28]; rfl) (by decide) ?_
        refine lv_aload_n C0.1 C0.2.1 dX9_count_130 rfl (lv_at hl 0 rfl) ?_
        refine x_get (v := .ref (aD G 5)) C0 G0 hW cM_0 (by decide) rfl 15 (by decide) inX9_count_X9 lkX9_count_23 rfl dX9_count_131 ?_
        refine lv_iconst (v := (0 : Int32)) C0.1 C0.2.1 dX9_count_134 (by decide) ?_
        obtain ⟨g29, h⟩ := gd_some h
        refine x_iald C0 G0 hW cM_5 (by decide) g29 dX9_count_135 ?_
        cases h
        exact x_iret C0 hW dX9_count_136
      rw [if_neg c28] at h
      by_cases c30 : v1 = (7 : Int32)
      · rw [if_pos c30] at h
        refine lv_tableIn (tgt := 137) C0.1 C0.2.1 dX9_count_38 (by rw [c30]; decide) (by rw [c30]; decide) (by rw [c30]; rfl) (by decide) ?_
        refine lv_aload_n C0.1 C0.2.1 dX9_count_137 rfl (lv_at hl 0 rfl) ?_
        refine x_get (v := .ref (aD G 5)) C0 G0 hW cM_0 (by decide) rfl 15 (by decide) inX9_count_X9 lkX9_count_23 rfl dX9_count_138 ?_
        refine lv_iconst (v := (1 : Int32)) C0.1 C0.2.1 dX9_count_141 (by decide) ?_
        obtain ⟨g31, h⟩ := gd_some h
        refine x_iald C0 G0 hW cM_5 (by decide) g31 dX9_count_142 ?_
        cases h
        exact x_iret C0 hW dX9_count_143
      rw [if_neg c30] at h
      by_cases c32 : v1 = (8 : Int32)
      · rw [if_pos c32] at h
        refine lv_tableIn (tgt := 144) C0.1 C0.2.1 dX9_count_38 (by rw [c32]; decide) (by rw [c32]; decide) (by rw [c32]; rfl) (by decide) ?_
        refine lv_aload_n C0.1 C0.2.1 dX9_count_144 rfl (lv_at hl 0 rfl) ?_
        refine x_get (v := .ref (aD G 5)) C0 G0 hW cM_0 (by decide) rfl 15 (by decide) inX9_count_X9 lkX9_count_23 rfl dX9_count_145 ?_
        refine lv_iconst (v := (2 : Int32)) C0.1 C0.2.1 dX9_count_148 (by decide) ?_
        obtain ⟨g33, h⟩ := gd_some h
        refine x_iald C0 G0 hW cM_5 (by decide) g33 dX9_count_149 ?_
        cases h
        exact x_iret C0 hW dX9_count_150
      rw [if_neg c32] at h
      by_cases c34 : v1 = (9 : Int32)
      · rw [if_pos c34] at h
        refine lv_tableIn (tgt := 151) C0.1 C0.2.1 dX9_count_38 (by rw [c34]; decide) (by rw [c34]; decide) (by rw [c34]; rfl) (by decide) ?_
        refine lv_aload_n C0.1 C0.2.1 dX9_count_151 rfl (lv_at hl 0 rfl) ?_
        refine x_get (v := .int (σ.1 0 21)) C0 G0 hW cM_0 (by decide) rfl 21 (by decide) inX9_count_X9 lkX9_count_119 rfl dX9_count_152 ?_
        cases h
        exact x_iret C0 hW dX9_count_155
      rw [if_neg c34] at h
      by_cases c35 : v1 = (10 : Int32)
      · rw [if_pos c35] at h
        refine lv_tableIn (tgt := 156) C0.1 C0.2.1 dX9_count_38 (by rw [c35]; decide) (by rw [c35]; decide) (by rw [c35]; rfl) (by decide) ?_
        refine lv_iload_n C0.1 C0.2.1 dX9_count_156 rfl (lv_at hl 2 rfl) ?_
        cases h
        exact x_iret C0 hW dX9_count_157
      rw [if_neg c35] at h
      by_cases c36 : v1 = (11 : Int32)
      · rw [if_pos c36] at h
        refine lv_tableIn (tgt := 158) C0.1 C0.2.1 dX9_count_38 (by rw [c36]; decide) (by rw [c36]; decide) (by rw [c36]; rfl) (by decide) ?_
        refine lv_aload_n C0.1 C0.2.1 dX9_count_158 rfl (lv_at hl 0 rfl) ?_
        refine x_get (v := .int (σ.1 0 8)) C0 G0 hW cM_0 (by decide) rfl 8 (by decide) inX9_count_X9 lkX9_count_112 rfl dX9_count_159 ?_
        refine lv_if_eq (tgt := 172) C0.1 C0.2.1 dX9_count_162 (by decide) (fun c37 => ?_) (fun c37 => ?_)
        · rw [if_pos c37] at h
          refine lv_bipush (v := (-9 : Int32)) C0.1 C0.2.1 dX9_count_172 (by decide) ?_
          exact wX9_count_174 C0 G0 hJ z σ (-9 : Int32) _ h hW (lv_sub hl [] rfl)
        · rw [if_neg c37] at h
          refine lv_aload_n C0.1 C0.2.1 dX9_count_165 rfl (lv_at hl 0 rfl) ?_
          refine x_get (v := .int (σ.1 0 6)) C0 G0 hW cM_0 (by decide) rfl 6 (by decide) inX9_count_X9 lkX9_count_109 rfl dX9_count_166 ?_
          refine lv_goto (tgt := 174) C0.1 C0.2.1 dX9_count_169 (by decide) ?_
          exact wX9_count_174 C0 G0 hJ z σ (σ.1 0 6) _ h hW (lv_sub hl [] rfl)
      rw [if_neg c36] at h
      refine lv_tableOut (tgt := 175) C0.1 C0.2.1 dX9_count_38 (by have := i32_ne c22; have := i32_ne c23; have := i32_ne c24; have := i32_ne c25; have := i32_ne c26; have := i32_ne c27; have := i32_ne c28; have := i32_ne c30; have := i32_ne c32; have := i32_ne c34; have := i32_ne c35; have := i32_ne c36; simp only [Int32.reduceToInt] at *; omega) (by decide) ?_
      refine lv_bipush (v := (-2 : Int32)) C0.1 C0.2.1 dX9_count_175 (by decide) ?_
      cases h
      exact x_iret C0 hW dX9_count_177
    · rw [if_neg c21] at h
      refine lv_iload_n C0.1 C0.2.1 dX9_count_10 rfl (lv_at hl 2 rfl) ?_
      refine lv_aload_n C0.1 C0.2.1 dX9_count_11 rfl (lv_at hl 0 rfl) ?_
      refine x_get (v := .ref (aD G 4)) C0 G0 hW cM_0 (by decide) rfl 14 (by decide) inX9_count_X9 lkX9_count_19 rfl dX9_count_12 ?_
      refine lv_iload_n C0.1 C0.2.1 dX9_count_15 rfl (lv_at hl 3 rfl) ?_
      obtain ⟨g38, h⟩ := gd_some h
      refine x_lald C0 G0 hW cM_4 (by decide) g38 dX9_count_16 ?_
      refine lv_lconst (v := (0 : Int64)) C0.1 C0.2.1 dX9_count_17 (by decide) ?_
      refine x_lc_le (tgt := 28) C0 dX9_count_18 dX9_count_19 (by decide) (fun c39 => ?_) (fun c39 => ?_)
      · rw [if_pos c39] at h
        refine lv_iconst (v := (0 : Int32)) C0.1 C0.2.1 dX9_count_28 (by decide) ?_
        exact wX9_count_29 C0 G0 hJ z (fX9_count_4 z σ v1 n) σ v1 v3 (0 : Int32) v2 _ h (by exact hr4) hW (lv_sub hl [0, 1, 3] rfl)
      · rw [if_neg c39] at h
        refine lv_iconst (v := (1 : Int32)) C0.1 C0.2.1 dX9_count_22 (by decide) ?_
        refine lv_iload_n C0.1 C0.2.1 dX9_count_23 rfl (lv_at hl 3 rfl) ?_
        refine lv_ishl C0.1 C0.2.1 dX9_count_24 ?_
        refine lv_goto (tgt := 29) C0.1 C0.2.1 dX9_count_25 (by decide) ?_
        exact wX9_count_29 C0 G0 hJ z (fX9_count_4 z σ v1 n) σ v1 v3 ((1 : Int32) <<< (v3 &&& 31)) v2 _ h (by exact hr4) hW (lv_sub hl [0, 1, 3] rfl)
set_option maxHeartbeats 4000000 in
set_option maxRecDepth 100000 in
theorem wX9_count (C0 : Cx p s m args meth c cX9_count RX9 4 (some .int) wsX9_count) (G0 : Gx G s) (hJ : gJ 13 G) (z : Nat) (σ : ST) (v1 : Int32) (res : Int32) (h : fX9_count z σ v1 = some res)  {H : Heap} {locs : List Loc} {ls : Array Slot} (hW : Wd cellM 13 G s.heap σ H locs) (hl : lv_has ls 4 [(0, .ref (aD G 0)), (1, .int v1)]) : W p l e rX9_count s m args below meth c H locs 0 0 (MQ below (XQi cellM 13 G res σ) args s 0 0 (gA 13 G)) (F0 m 0 ls []) := by
  unfold fX9_count at h
  refine lv_iconst (v := (0 : Int32)) C0.1 C0.2.1 dX9_count_0 (by decide) ?_
  refine lv_istore_n (lv' := [(2, .int (0 : Int32)), (0, .ref (aD G 0)), (1, .int v1)]) C0.1 C0.2.1 dX9_count_1 rfl hl (by decide) rfl (fun ls hl => ?_)
  refine lv_iconst (v := (0 : Int32)) C0.1 C0.2.1 dX9_count_2 (by decide) ?_
  refine lv_istore_n (lv' := [(3, .int (0 : Int32)), (2, .int (0 : Int32)), (0, .ref (aD G 0)), (1, .int v1)]) C0.1 C0.2.1 dX9_count_3 rfl hl (by decide) rfl (fun ls hl => ?_)
  exact wX9_count_4 C0 G0 hJ z σ v1 z (0 : Int32) (0 : Int32) _ h hW (lv_sub hl [2, 3, 1, 0] rfl)
theorem cX9_count_met (l : Launch) {G : GT} (hJ : gJ 13 G) (z : Nat) (σ : ST) (v1 : Int32) (res : Int32) (h : fX9_count z σ v1 = some res) : Met l yX9_count wsX9_count rX9_count (XPc cellM 13 G σ [.ref (aD G 0), .int v1]) (XQi cellM 13 G res σ) 0 0 (gA 13 G) :=
  x_met (ret := (some .int)) (maxL := 4) (by decide) rfl (Nat.le_of_ble_eq_true rfl) (fun p e s m args below meth c H locs ls C0 G0 hW hl => wX9_count C0 G0 hJ z σ v1 res h hW hl)
end
/-! X9_drawn -/
def rX9_drawn : Room := { frames := 0, cells := 0, slots := 0, locals := 0 }
theorem hdvX9_drawn : yX9_drawn.cls = RX9 ∧ yX9_drawn.cls ≠ "java/lang/invoke/MethodHandle" ∧ yX9_drawn.cls ≠ "java/lang/invoke/VarHandle" ∧ (parseMethodDescriptor yX9_drawn.desc).map (fun d => d.parameters.length) = some 1 := by decide +kernel
theorem inX9_drawn_X9 : ∀ w ∈ u_ws RX9 TX9 29, w ∈ wsX9_drawn := by decide +kernel
theorem lkX9_drawn_212 : Cond.fieldLink RX9 212 (TX9 25).1 (TX9 25).2.1 (TX9 25).2.2.1 ∈ wsX9_drawn := by decide +kernel
theorem kcX9_drawn_216 : Cond.constantLong RX9 216 (6364136223846793005 : Int64) ∈ wsX9_drawn := by decide +kernel
theorem kcX9_drawn_218 : Cond.constantLong RX9 218 (1442695040888963407 : Int64) ∈ wsX9_drawn := by decide +kernel
def fX9_drawn (z : Nat) (σ : ST) (v1 : Int32) : Option (Int32 × ST) := lt (pL σ 0 25 (((σ.2 0 25) * (6364136223846793005 : Int64)) + (1442695040888963407 : Int64))) (fun s21 => gd (nzL ((v1).toInt64)) ( some ((((((((s21.2 0 25)).toUInt64 >>> (((33 : Int32)).toInt64.toUInt64 &&& Int64.toUInt64 63)).toInt64) - ((((s21.2 0 25)).toUInt64 >>> (((33 : Int32)).toInt64.toUInt64 &&& Int64.toUInt64 63)).toInt64) / ((v1).toInt64) * ((v1).toInt64))).toInt32), s21)))
section
variable {p : Program} {l : Launch} {e : Env} {s : State} {m : MethodId} {args : Array Value} {below : List Frame} {meth : Method} {c : Code} {G : GT}
set_option maxHeartbeats 4000000 in
set_option maxRecDepth 100000 in
theorem wX9_drawn (C0 : Cx p s m args meth c cX9_drawn RX9 2 (some .int) wsX9_drawn) (G0 : Gx G s) (hJ : gJ 13 G) (z : Nat) (σ : ST) (v1 : Int32) (res : (Int32 × ST)) (h : fX9_drawn z σ v1 = some res)  {H : Heap} {locs : List Loc} {ls : Array Slot} (hW : Wd cellM 13 G s.heap σ H locs) (hl : lv_has ls 2 [(0, .ref (aD G 0)), (1, .int v1)]) : W p l e rX9_drawn s m args below meth c H locs 0 0 (MQ below (XQi cellM 13 G res.1 res.2) args s 0 0 (gA 13 G)) (F0 m 0 ls []) := by
  unfold fX9_drawn at h
  refine lv_aload_n C0.1 C0.2.1 dX9_drawn_0 rfl (lv_at hl 0 rfl) ?_
  refine lv_aload_n C0.1 C0.2.1 dX9_drawn_1 rfl (lv_at hl 0 rfl) ?_
  refine x_get (v := .long (σ.2 0 25)) C0 G0 hW cM_0 (by decide) rfl 25 (by decide) inX9_drawn_X9 lkX9_drawn_212 rfl dX9_drawn_2 ?_
  refine lv_ldc2 (v := (6364136223846793005 : Int64)) C0.1 C0.2.1 C0.2.2.2.2.1 (C0.2.2.2.1 _ kcX9_drawn_216) dX9_drawn_5 ?_
  refine lv_lmul C0.1 C0.2.1 dX9_drawn_8 ?_
  refine lv_ldc2 (v := (1442695040888963407 : Int64)) C0.1 C0.2.1 C0.2.2.2.2.1 (C0.2.2.2.1 _ kcX9_drawn_218) dX9_drawn_9 ?_
  refine lv_ladd C0.1 C0.2.1 dX9_drawn_12 ?_
  refine x_putL (v := (((σ.2 0 25) * (6364136223846793005 : Int64)) + (1442695040888963407 : Int64))) C0 G0 hJ hW cM_0 (by decide) rfl 25 (by decide) inX9_drawn_X9 lkX9_drawn_212 tyX9 tyX9_ok nmX9 rfl rfl rfl (Nat.le_of_ble_eq_true rfl) hu_X9_25 dX9_drawn_13 (fun H locs hW => ?_)
  obtain ⟨s21, es21, h⟩ := lt_some h
  rw [es21] at hW
  refine lv_aload_n C0.1 C0.2.1 dX9_drawn_16 rfl (lv_at hl 0 rfl) ?_
  refine x_get (v := .long (s21.2 0 25)) C0 G0 hW cM_0 (by decide) rfl 25 (by decide) inX9_drawn_X9 lkX9_drawn_212 rfl dX9_drawn_17 ?_
  refine lv_bipush (v := (33 : Int32)) C0.1 C0.2.1 dX9_drawn_20 (by decide) ?_
  refine lv_lushr (v := ((((s21.2 0 25)).toUInt64 >>> (((33 : Int32)).toInt64.toUInt64 &&& Int64.toUInt64 63)).toInt64)) C0.1 C0.2.1 dX9_drawn_22 rfl ?_
  refine lv_iload_n C0.1 C0.2.1 dX9_drawn_23 rfl (lv_at hl 1 rfl) ?_
  refine lv_i2l (v := ((v1).toInt64)) C0.1 C0.2.1 dX9_drawn_24 rfl ?_
  obtain ⟨g22, h⟩ := gd_some h
  refine lv_lrem C0.1 C0.2.1 dX9_drawn_25 (nzL_of g22) ?_
  refine lv_l2i (v := (((((((s21.2 0 25)).toUInt64 >>> (((33 : Int32)).toInt64.toUInt64 &&& Int64.toUInt64 63)).toInt64) - ((((s21.2 0 25)).toUInt64 >>> (((33 : Int32)).toInt64.toUInt64 &&& Int64.toUInt64 63)).toInt64) / ((v1).toInt64) * ((v1).toInt64))).toInt32)) C0.1 C0.2.1 dX9_drawn_26 rfl ?_
  cases h
  exact x_iret C0 hW dX9_drawn_27
theorem cX9_drawn_met (l : Launch) {G : GT} (hJ : gJ 13 G) (z : Nat) (σ : ST) (v1 : Int32) (res : (Int32 × ST)) (h : fX9_drawn z σ v1 = some res) : Met l yX9_drawn wsX9_drawn rX9_drawn (XPc cellM 13 G σ [.ref (aD G 0), .int v1]) (XQi cellM 13 G res.1 res.2) 0 0 (gA 13 G) :=
  x_met (ret := (some .int)) (maxL := 2) (by decide) rfl (Nat.le_of_ble_eq_true rfl) (fun p e s m args below meth c H locs ls C0 G0 hW hl => wX9_drawn C0 G0 hJ z σ v1 res h hW hl)
end
/-! X9_figure -/
def rX9_figure : Room := { frames := 1, cells := 0, slots := 0, locals := 25 }
theorem hdvX9_figure : yX9_figure.cls = RX9 ∧ yX9_figure.cls ≠ "java/lang/invoke/MethodHandle" ∧ yX9_figure.cls ≠ "java/lang/invoke/VarHandle" ∧ (parseMethodDescriptor yX9_figure.desc).map (fun d => d.parameters.length) = some 2 := by decide +kernel
theorem inX9_figure_X9 : ∀ w ∈ u_ws RX9 TX9 29, w ∈ wsX9_figure := by decide +kernel
theorem lkX9_figure_61 : Cond.fieldLink RX9 61 (TX9 19).1 (TX9 19).2.1 (TX9 19).2.2.1 ∈ wsX9_figure := by decide +kernel
theorem lkX9_figure_64 : Cond.fieldLink RX9 64 (TX9 18).1 (TX9 18).2.1 (TX9 18).2.2.1 ∈ wsX9_figure := by decide +kernel
theorem lkX9_figure_58 : Cond.fieldLink RX9 58 (TX9 17).1 (TX9 17).2.1 (TX9 17).2.2.1 ∈ wsX9_figure := by decide +kernel
theorem lkX9_figure_26 : Cond.fieldLink RX9 26 (TX9 16).1 (TX9 16).2.1 (TX9 16).2.2.1 ∈ wsX9_figure := by decide +kernel
def fX9_figure_71 (z : Nat) (σ : ST) (v1 : Int32) (t0 : Int32) : Option (Int32 × ST) := lt (pI σ 0 19 t0) (fun s28 => some (v1, s28))
def fX9_figure_37 (z : Nat) (σ : ST) (v1 : Int32) (v2 : Int32) (t0 : Int32) : Option (Int32 × ST) := bd (fX9_in z ((t0).toInt64) ((v1).toInt64) ((v2).toInt64)) (fun u24 => (if u24 = 0 then (if (σ.1 0 19) = (-9 : Int32) then fX9_figure_71 z σ v1 (σ.1 0 18) else fX9_figure_71 z σ v1 (σ.1 0 19)) else lt (pI σ 0 18 ((σ.1 0 18) + (1 : Int32))) (fun s26 => some (t0, s26))))
def fX9_figure_35 (z : Nat) (σ : ST) (v1 : Int32) (v2 : Int32) : Option (Int32 × ST) := fX9_figure_37 z σ v1 v2 (-9 : Int32)
def fX9_figure (z : Nat) (σ : ST) (v1 : Int32) (v2 : Int32) : Option (Int32 × ST) := (if (σ.1 0 19) = (-9 : Int32) then (if (σ.1 0 17) ≤ (σ.1 0 18) then fX9_figure_35 z σ v1 v2 else gd (inb (σ.1 0 18) 40) ( fX9_figure_37 z σ v1 v2 ((σ.1 6 ((σ.1 0 18)).toNatClampNeg) - (48 : Int32)))) else fX9_figure_35 z σ v1 v2)
section
variable {p : Program} {l : Launch} {e : Env} {s : State} {m : MethodId} {args : Array Value} {below : List Frame} {meth : Method} {c : Code} {G : GT}
set_option maxHeartbeats 4000000 in
set_option maxRecDepth 100000 in
theorem wX9_figure_71 (C0 : Cx p s m args meth c cX9_figure RX9 4 (some .int) wsX9_figure) (G0 : Gx G s) (hJ : gJ 13 G) (z : Nat) (σ : ST) (v1 : Int32) (t0 : Int32) (res : (Int32 × ST)) (h : fX9_figure_71 z σ v1 t0 = some res)  {H : Heap} {locs : List Loc} {ls : Array Slot} (hW : Wd cellM 13 G s.heap σ H locs) (hl : lv_has ls 4 [(1, .int v1)]) : W p l e rX9_figure s m args below meth c H locs 0 0 (MQ below (XQi cellM 13 G res.1 res.2) args s 0 0 (gA 13 G)) (F0 m 71 ls [.int t0, .ref (aD G 0)]) := by
  unfold fX9_figure_71 at h
  refine x_putI (v := t0) C0 G0 hJ hW cM_0 (by decide) rfl 19 (by decide) inX9_figure_X9 lkX9_figure_61 tyX9 tyX9_ok nmX9 rfl rfl rfl (Nat.le_of_ble_eq_true rfl) hu_X9_19 dX9_figure_71 (fun H locs hW => ?_)
  obtain ⟨s28, es28, h⟩ := lt_some h
  rw [es28] at hW
  refine lv_iload_n C0.1 C0.2.1 dX9_figure_74 rfl (lv_at hl 0 rfl) ?_
  cases h
  exact x_iret C0 hW dX9_figure_75
set_option maxHeartbeats 4000000 in
set_option maxRecDepth 100000 in
theorem wX9_figure_37 (C0 : Cx p s m args meth c cX9_figure RX9 4 (some .int) wsX9_figure) (G0 : Gx G s) (hJ : gJ 13 G) (z : Nat) (σ : ST) (v1 : Int32) (v2 : Int32) (t0 : Int32) (res : (Int32 × ST)) (h : fX9_figure_37 z σ v1 v2 t0 = some res)  {H : Heap} {locs : List Loc} {ls : Array Slot} (hW : Wd cellM 13 G s.heap σ H locs) (hl : lv_has ls 4 [(0, .ref (aD G 0)), (1, .int v1), (2, .int v2)]) : W p l e rX9_figure s m args below meth c H locs 0 0 (MQ below (XQi cellM 13 G res.1 res.2) args s 0 0 (gA 13 G)) (F0 m 37 ls [.int t0]) := by
  unfold fX9_figure_37 at h
  refine lv_istore_n (lv' := [(3, .int t0), (0, .ref (aD G 0)), (1, .int v1), (2, .int v2)]) C0.1 C0.2.1 dX9_figure_37 rfl hl (by decide) rfl (fun ls hl => ?_)
  refine lv_iload_n C0.1 C0.2.1 dX9_figure_38 rfl (lv_at hl 0 rfl) ?_
  refine lv_i2l (v := ((t0).toInt64)) C0.1 C0.2.1 dX9_figure_39 rfl ?_
  refine lv_iload_n C0.1 C0.2.1 dX9_figure_40 rfl (lv_at hl 2 rfl) ?_
  refine lv_i2l (v := ((v1).toInt64)) C0.1 C0.2.1 dX9_figure_41 rfl ?_
  refine lv_iload_n C0.1 C0.2.1 dX9_figure_42 rfl (lv_at hl 3 rfl) ?_
  refine lv_i2l (v := ((v2).toInt64)) C0.1 C0.2.1 dX9_figure_43 rfl ?_
  obtain ⟨u24, hu24, h⟩ := bd_some h
  refine x_ki (r := u24) (x_runS (As := [.long ((t0).toInt64), .long ((v1).toInt64), .long ((v2).toInt64)]) (rest := []) C0 G0 hW (cX9_in_met l hJ z σ ((t0).toInt64) ((v1).toInt64) ((v2).toInt64) _ hu24) (va_cwS 3 C0.2.2.2.1 gX9_figure_X9_in rfl rfl rfl hdsX9_in ⟨Nat.le_of_ble_eq_true rfl, Nat.le_of_ble_eq_true rfl⟩) rfl rfl hl (Nat.le_of_ble_eq_true rfl) dX9_figure_44 ⟨Nat.le_refl 0, Nat.le_refl 0⟩) hW (fun H locs hW => ?_)
  refine lv_if_ne (tgt := 76) C0.1 C0.2.1 dX9_figure_47 (by decide) (fun c25 => ?_) (fun c25 => ?_)
  · rw [if_neg c25] at h
    refine lv_aload_n C0.1 C0.2.1 dX9_figure_76 rfl (lv_at hl 1 rfl) ?_
    refine lv_dup C0.1 C0.2.1 dX9_figure_77 rfl ?_
    refine x_get (v := .int (σ.1 0 18)) C0 G0 hW cM_0 (by decide) rfl 18 (by decide) inX9_figure_X9 lkX9_figure_64 rfl dX9_figure_78 ?_
    refine lv_iconst (v := (1 : Int32)) C0.1 C0.2.1 dX9_figure_81 (by decide) ?_
    refine lv_iadd C0.1 C0.2.1 dX9_figure_82 ?_
    refine x_putI (v := ((σ.1 0 18) + (1 : Int32))) C0 G0 hJ hW cM_0 (by decide) rfl 18 (by decide) inX9_figure_X9 lkX9_figure_64 tyX9 tyX9_ok nmX9 rfl rfl rfl (Nat.le_of_ble_eq_true rfl) hu_X9_18 dX9_figure_83 (fun H locs hW => ?_)
    obtain ⟨s26, es26, h⟩ := lt_some h
    rw [es26] at hW
    refine lv_iload_n C0.1 C0.2.1 dX9_figure_86 rfl (lv_at hl 0 rfl) ?_
    cases h
    exact x_iret C0 hW dX9_figure_87
  · rw [if_pos c25] at h
    refine lv_aload_n C0.1 C0.2.1 dX9_figure_50 rfl (lv_at hl 1 rfl) ?_
    refine lv_aload_n C0.1 C0.2.1 dX9_figure_51 rfl (lv_at hl 1 rfl) ?_
    refine x_get (v := .int (σ.1 0 19)) C0 G0 hW cM_0 (by decide) rfl 19 (by decide) inX9_figure_X9 lkX9_figure_61 rfl dX9_figure_52 ?_
    refine lv_bipush (v := (-9 : Int32)) C0.1 C0.2.1 dX9_figure_55 (by decide) ?_
    refine lv_icmp_ne (tgt := 67) C0.1 C0.2.1 dX9_figure_57 (by decide) (fun c27 => ?_) (fun c27 => ?_)
    · rw [if_neg c27] at h
      refine lv_aload_n C0.1 C0.2.1 dX9_figure_67 rfl (lv_at hl 1 rfl) ?_
      refine x_get (v := .int (σ.1 0 19)) C0 G0 hW cM_0 (by decide) rfl 19 (by decide) inX9_figure_X9 lkX9_figure_61 rfl dX9_figure_68 ?_
      exact wX9_figure_71 C0 G0 hJ z σ v1 (σ.1 0 19) _ h hW (lv_sub hl [2] rfl)
    · rw [if_pos c27] at h
      refine lv_aload_n C0.1 C0.2.1 dX9_figure_60 rfl (lv_at hl 1 rfl) ?_
      refine x_get (v := .int (σ.1 0 18)) C0 G0 hW cM_0 (by decide) rfl 18 (by decide) inX9_figure_X9 lkX9_figure_64 rfl dX9_figure_61 ?_
      refine lv_goto (tgt := 71) C0.1 C0.2.1 dX9_figure_64 (by decide) ?_
      exact wX9_figure_71 C0 G0 hJ z σ v1 (σ.1 0 18) _ h hW (lv_sub hl [2] rfl)
set_option maxHeartbeats 4000000 in
set_option maxRecDepth 100000 in
theorem wX9_figure_35 (C0 : Cx p s m args meth c cX9_figure RX9 4 (some .int) wsX9_figure) (G0 : Gx G s) (hJ : gJ 13 G) (z : Nat) (σ : ST) (v1 : Int32) (v2 : Int32) (res : (Int32 × ST)) (h : fX9_figure_35 z σ v1 v2 = some res)  {H : Heap} {locs : List Loc} {ls : Array Slot} (hW : Wd cellM 13 G s.heap σ H locs) (hl : lv_has ls 4 [(0, .ref (aD G 0)), (1, .int v1), (2, .int v2)]) : W p l e rX9_figure s m args below meth c H locs 0 0 (MQ below (XQi cellM 13 G res.1 res.2) args s 0 0 (gA 13 G)) (F0 m 35 ls []) := by
  unfold fX9_figure_35 at h
  refine lv_bipush (v := (-9 : Int32)) C0.1 C0.2.1 dX9_figure_35 (by decide) ?_
  exact wX9_figure_37 C0 G0 hJ z σ v1 v2 (-9 : Int32) _ h hW (lv_sub hl [0, 1, 2] rfl)
set_option maxHeartbeats 4000000 in
set_option maxRecDepth 100000 in
theorem wX9_figure (C0 : Cx p s m args meth c cX9_figure RX9 4 (some .int) wsX9_figure) (G0 : Gx G s) (hJ : gJ 13 G) (z : Nat) (σ : ST) (v1 : Int32) (v2 : Int32) (res : (Int32 × ST)) (h : fX9_figure z σ v1 v2 = some res)  {H : Heap} {locs : List Loc} {ls : Array Slot} (hW : Wd cellM 13 G s.heap σ H locs) (hl : lv_has ls 4 [(0, .ref (aD G 0)), (1, .int v1), (2, .int v2)]) : W p l e rX9_figure s m args below meth c H locs 0 0 (MQ below (XQi cellM 13 G res.1 res.2) args s 0 0 (gA 13 G)) (F0 m 0 ls []) := by
  unfold fX9_figure at h
  refine lv_aload_n C0.1 C0.2.1 dX9_figure_0 rfl (lv_at hl 0 rfl) ?_
  refine x_get (v := .int (σ.1 0 19)) C0 G0 hW cM_0 (by decide) rfl 19 (by decide) inX9_figure_X9 lkX9_figure_61 rfl dX9_figure_1 ?_
  refine lv_bipush (v := (-9 : Int32)) C0.1 C0.2.1 dX9_figure_4 (by decide) ?_
  refine lv_icmp_ne (tgt := 35) C0.1 C0.2.1 dX9_figure_6 (by decide) (fun c21 => ?_) (fun c21 => ?_)
  · rw [if_neg c21] at h
    exact wX9_figure_35 C0 G0 hJ z σ v1 v2 _ h hW (lv_sub hl [0, 1, 2] rfl)
  · rw [if_pos c21] at h
    refine lv_aload_n C0.1 C0.2.1 dX9_figure_9 rfl (lv_at hl 0 rfl) ?_
    refine x_get (v := .int (σ.1 0 18)) C0 G0 hW cM_0 (by decide) rfl 18 (by decide) inX9_figure_X9 lkX9_figure_64 rfl dX9_figure_10 ?_
    refine lv_aload_n C0.1 C0.2.1 dX9_figure_13 rfl (lv_at hl 0 rfl) ?_
    refine x_get (v := .int (σ.1 0 17)) C0 G0 hW cM_0 (by decide) rfl 17 (by decide) inX9_figure_X9 lkX9_figure_58 rfl dX9_figure_14 ?_
    refine lv_icmp_ge (tgt := 35) C0.1 C0.2.1 dX9_figure_17 (by decide) (fun c22 => ?_) (fun c22 => ?_)
    · rw [if_pos c22] at h
      exact wX9_figure_35 C0 G0 hJ z σ v1 v2 _ h hW (lv_sub hl [0, 1, 2] rfl)
    · rw [if_neg c22] at h
      refine lv_aload_n C0.1 C0.2.1 dX9_figure_20 rfl (lv_at hl 0 rfl) ?_
      refine x_get (v := .ref (aD G 6)) C0 G0 hW cM_0 (by decide) rfl 16 (by decide) inX9_figure_X9 lkX9_figure_26 rfl dX9_figure_21 ?_
      refine lv_aload_n C0.1 C0.2.1 dX9_figure_24 rfl (lv_at hl 0 rfl) ?_
      refine x_get (v := .int (σ.1 0 18)) C0 G0 hW cM_0 (by decide) rfl 18 (by decide) inX9_figure_X9 lkX9_figure_64 rfl dX9_figure_25 ?_
      obtain ⟨g23, h⟩ := gd_some h
      refine x_iald C0 G0 hW cM_6 (by decide) g23 dX9_figure_28 ?_
      refine lv_bipush (v := (48 : Int32)) C0.1 C0.2.1 dX9_figure_29 (by decide) ?_
      refine lv_isub C0.1 C0.2.1 dX9_figure_31 ?_
      refine lv_goto (tgt := 37) C0.1 C0.2.1 dX9_figure_32 (by decide) ?_
      exact wX9_figure_37 C0 G0 hJ z σ v1 v2 ((σ.1 6 ((σ.1 0 18)).toNatClampNeg) - (48 : Int32)) _ h hW (lv_sub hl [0, 1, 2] rfl)
theorem cX9_figure_met (l : Launch) {G : GT} (hJ : gJ 13 G) (z : Nat) (σ : ST) (v1 : Int32) (v2 : Int32) (res : (Int32 × ST)) (h : fX9_figure z σ v1 v2 = some res) : Met l yX9_figure wsX9_figure rX9_figure (XPc cellM 13 G σ [.ref (aD G 0), .int v1, .int v2]) (XQi cellM 13 G res.1 res.2) 0 0 (gA 13 G) :=
  x_met (ret := (some .int)) (maxL := 4) (by decide) rfl (Nat.le_of_ble_eq_true rfl) (fun p e s m args below meth c H locs ls C0 G0 hW hl => wX9_figure C0 G0 hJ z σ v1 v2 res h hW hl)
end
/-! X9_isCellLeft -/
def rX9_isCellLeft : Room := { frames := 0, cells := 0, slots := 0, locals := 0 }
theorem hdvX9_isCellLeft : yX9_isCellLeft.cls = RX9 ∧ yX9_isCellLeft.cls ≠ "java/lang/invoke/MethodHandle" ∧ yX9_isCellLeft.cls ≠ "java/lang/invoke/VarHandle" ∧ (parseMethodDescriptor yX9_isCellLeft.desc).map (fun d => d.parameters.length) = some 0 := by decide +kernel
theorem inX9_isCellLeft_X9 : ∀ w ∈ u_ws RX9 TX9 29, w ∈ wsX9_isCellLeft := by decide +kernel
theorem lkX9_isCellLeft_16 : Cond.fieldLink RX9 16 (TX9 11).1 (TX9 11).2.1 (TX9 11).2.2.1 ∈ wsX9_isCellLeft := by decide +kernel
def fX9_isCellLeft_28 (z : Nat) (r4 : Int32 → Int32 → Option Int32) (σ : ST) (v2 : Int32) (t0 : Int32) : Option Int32 := r4 t0 (v2 + 1)
def fX9_isCellLeft_23 (z : Nat) (r4 : Int32 → Int32 → Option Int32) (σ : ST) (v2 : Int32) : Option Int32 := fX9_isCellLeft_28 z r4 σ v2 (1 : Int32)
def fX9_isCellLeft_4 (z : Nat) (σ : ST) : Nat → Int32 → Int32 → Option Int32
  | 0 => fun _ _ => none
  | n + 1 => fun v1 v2 => (if (10 : Int32) ≤ v2 then gd (zok v1) ( some v1) else (if v1 = 0 then gd (inb v2 11) ( (if (σ.1 3 (v2).toNatClampNeg) = 0 then fX9_isCellLeft_23 z (fX9_isCellLeft_4 z σ n) σ v2 else fX9_isCellLeft_28 z (fX9_isCellLeft_4 z σ n) σ v2 (0 : Int32))) else fX9_isCellLeft_23 z (fX9_isCellLeft_4 z σ n) σ v2))
def fX9_isCellLeft (z : Nat) (σ : ST) : Option Int32 := fX9_isCellLeft_4 z σ z (0 : Int32) (0 : Int32)
section
variable {p : Program} {l : Launch} {e : Env} {s : State} {m : MethodId} {args : Array Value} {below : List Frame} {meth : Method} {c : Code} {G : GT}
set_option maxHeartbeats 4000000 in
set_option maxRecDepth 100000 in
theorem wX9_isCellLeft_28 (C0 : Cx p s m args meth c cX9_isCellLeft RX9 3 (some .boolean) wsX9_isCellLeft) (G0 : Gx G s) (hJ : gJ 13 G) (z : Nat) (r4 : Int32 → Int32 → Option Int32) (σ : ST) (v2 : Int32) (t0 : Int32) (res : Int32) (h : fX9_isCellLeft_28 z r4 σ v2 t0 = some res) (hr4 : ∀ (v1 : Int32) (v2 : Int32), r4 v1 v2 = some res → ∀ (H : Heap) (locs : List Loc) (ls : Array Slot), Wd cellM 13 G s.heap σ H locs → lv_has ls 3 [(0, .ref (aD G 0)), (1, .int v1), (2, .int v2)] → W p l e rX9_isCellLeft s m args below meth c H locs 0 0 (MQ below (XQi cellM 13 G res σ) args s 0 0 (gA 13 G)) (F0 m 4 ls [])) {H : Heap} {locs : List Loc} {ls : Array Slot} (hW : Wd cellM 13 G s.heap σ H locs) (hl : lv_has ls 3 [(0, .ref (aD G 0)), (2, .int v2)]) : W p l e rX9_isCellLeft s m args below meth c H locs 0 0 (MQ below (XQi cellM 13 G res σ) args s 0 0 (gA 13 G)) (F0 m 28 ls [.int t0]) := by
  unfold fX9_isCellLeft_28 at h
  refine lv_istore_n (lv' := [(1, .int t0), (0, .ref (aD G 0)), (2, .int v2)]) C0.1 C0.2.1 dX9_isCellLeft_28 rfl hl (by decide) rfl (fun ls hl => ?_)
  refine lv_iinc (v := (v2 + 1)) (lv' := [(2, .int (v2 + 1)), (1, .int t0), (0, .ref (aD G 0))]) C0.1 C0.2.1 dX9_isCellLeft_29 hl (k := 2) rfl rfl (by decide) rfl (fun ls hl => ?_)
  refine lv_goto (tgt := 4) C0.1 C0.2.1 dX9_isCellLeft_32 (by decide) ?_
  exact hr4 t0 (v2 + 1) h _ _ _ hW (lv_sub hl [2, 1, 0] rfl)
set_option maxHeartbeats 4000000 in
set_option maxRecDepth 100000 in
theorem wX9_isCellLeft_23 (C0 : Cx p s m args meth c cX9_isCellLeft RX9 3 (some .boolean) wsX9_isCellLeft) (G0 : Gx G s) (hJ : gJ 13 G) (z : Nat) (r4 : Int32 → Int32 → Option Int32) (σ : ST) (v2 : Int32) (res : Int32) (h : fX9_isCellLeft_23 z r4 σ v2 = some res) (hr4 : ∀ (v1 : Int32) (v2 : Int32), r4 v1 v2 = some res → ∀ (H : Heap) (locs : List Loc) (ls : Array Slot), Wd cellM 13 G s.heap σ H locs → lv_has ls 3 [(0, .ref (aD G 0)), (1, .int v1), (2, .int v2)] → W p l e rX9_isCellLeft s m args below meth c H locs 0 0 (MQ below (XQi cellM 13 G res σ) args s 0 0 (gA 13 G)) (F0 m 4 ls [])) {H : Heap} {locs : List Loc} {ls : Array Slot} (hW : Wd cellM 13 G s.heap σ H locs) (hl : lv_has ls 3 [(0, .ref (aD G 0)), (2, .int v2)]) : W p l e rX9_isCellLeft s m args below meth c H locs 0 0 (MQ below (XQi cellM 13 G res σ) args s 0 0 (gA 13 G)) (F0 m 23 ls []) := by
  unfold fX9_isCellLeft_23 at h
  refine lv_iconst (v := (1 : Int32)) C0.1 C0.2.1 dX9_isCellLeft_23 (by decide) ?_
  refine lv_goto (tgt := 28) C0.1 C0.2.1 dX9_isCellLeft_24 (by decide) ?_
  exact wX9_isCellLeft_28 C0 G0 hJ z r4 σ v2 (1 : Int32) _ h (by exact hr4) hW (lv_sub hl [0, 1] rfl)
set_option maxHeartbeats 4000000 in
set_option maxRecDepth 100000 in
theorem wX9_isCellLeft_4 (C0 : Cx p s m args meth c cX9_isCellLeft RX9 3 (some .boolean) wsX9_isCellLeft) (G0 : Gx G s) (hJ : gJ 13 G) (z : Nat) (σ : ST) (n : Nat) (v1 : Int32) (v2 : Int32) (res : Int32) (h : fX9_isCellLeft_4 z σ n v1 v2 = some res)  {H : Heap} {locs : List Loc} {ls : Array Slot} (hW : Wd cellM 13 G s.heap σ H locs) (hl : lv_has ls 3 [(0, .ref (aD G 0)), (1, .int v1), (2, .int v2)]) : W p l e rX9_isCellLeft s m args below meth c H locs 0 0 (MQ below (XQi cellM 13 G res σ) args s 0 0 (gA 13 G)) (F0 m 4 ls []) := by
  induction n generalizing v1 v2 H locs ls with
  | zero => cases h
  | succ n ih =>
    have hr4 : ∀ (v1 : Int32) (v2 : Int32), fX9_isCellLeft_4 z σ n v1 v2 = some res → ∀ (H : Heap) (locs : List Loc) (ls : Array Slot), Wd cellM 13 G s.heap σ H locs → lv_has ls 3 [(0, .ref (aD G 0)), (1, .int v1), (2, .int v2)] → W p l e rX9_isCellLeft s m args below meth c H locs 0 0 (MQ below (XQi cellM 13 G res σ) args s 0 0 (gA 13 G)) (F0 m 4 ls []) := fun v1 v2 h H locs ls hW hl => ih v1 v2 h hW hl
    clear ih
    unfold fX9_isCellLeft_4 at h
    refine lv_iload_n C0.1 C0.2.1 dX9_isCellLeft_4 rfl (lv_at hl 2 rfl) ?_
    refine lv_bipush (v := (10 : Int32)) C0.1 C0.2.1 dX9_isCellLeft_5 (by decide) ?_
    refine lv_icmp_ge (tgt := 35) C0.1 C0.2.1 dX9_isCellLeft_7 (by decide) (fun c21 => ?_) (fun c21 => ?_)
    · rw [if_pos c21] at h
      refine lv_iload_n C0.1 C0.2.1 dX9_isCellLeft_35 rfl (lv_at hl 1 rfl) ?_
      obtain ⟨g22, h⟩ := gd_some h
      cases h
      exact x_zret C0 hW g22 dX9_isCellLeft_36
    · rw [if_neg c21] at h
      refine lv_iload_n C0.1 C0.2.1 dX9_isCellLeft_10 rfl (lv_at hl 1 rfl) ?_
      refine lv_if_ne (tgt := 23) C0.1 C0.2.1 dX9_isCellLeft_11 (by decide) (fun c23 => ?_) (fun c23 => ?_)
      · rw [if_neg c23] at h
        exact wX9_isCellLeft_23 C0 G0 hJ z (fX9_isCellLeft_4 z σ n) σ v2 _ h (by exact hr4) hW (lv_sub hl [0, 2] rfl)
      · rw [if_pos c23] at h
        refine lv_aload_n C0.1 C0.2.1 dX9_isCellLeft_14 rfl (lv_at hl 0 rfl) ?_
        refine x_get (v := .ref (aD G 3)) C0 G0 hW cM_0 (by decide) rfl 11 (by decide) inX9_isCellLeft_X9 lkX9_isCellLeft_16 rfl dX9_isCellLeft_15 ?_
        refine lv_iload_n C0.1 C0.2.1 dX9_isCellLeft_18 rfl (lv_at hl 2 rfl) ?_
        obtain ⟨g24, h⟩ := gd_some h
        refine x_iald C0 G0 hW cM_3 (by decide) g24 dX9_isCellLeft_19 ?_
        refine lv_if_ne (tgt := 27) C0.1 C0.2.1 dX9_isCellLeft_20 (by decide) (fun c25 => ?_) (fun c25 => ?_)
        · rw [if_neg c25] at h
          refine lv_iconst (v := (0 : Int32)) C0.1 C0.2.1 dX9_isCellLeft_27 (by decide) ?_
          exact wX9_isCellLeft_28 C0 G0 hJ z (fX9_isCellLeft_4 z σ n) σ v2 (0 : Int32) _ h (by exact hr4) hW (lv_sub hl [0, 2] rfl)
        · rw [if_pos c25] at h
          exact wX9_isCellLeft_23 C0 G0 hJ z (fX9_isCellLeft_4 z σ n) σ v2 _ h (by exact hr4) hW (lv_sub hl [0, 2] rfl)
set_option maxHeartbeats 4000000 in
set_option maxRecDepth 100000 in
theorem wX9_isCellLeft (C0 : Cx p s m args meth c cX9_isCellLeft RX9 3 (some .boolean) wsX9_isCellLeft) (G0 : Gx G s) (hJ : gJ 13 G) (z : Nat) (σ : ST) (res : Int32) (h : fX9_isCellLeft z σ = some res)  {H : Heap} {locs : List Loc} {ls : Array Slot} (hW : Wd cellM 13 G s.heap σ H locs) (hl : lv_has ls 3 [(0, .ref (aD G 0))]) : W p l e rX9_isCellLeft s m args below meth c H locs 0 0 (MQ below (XQi cellM 13 G res σ) args s 0 0 (gA 13 G)) (F0 m 0 ls []) := by
  unfold fX9_isCellLeft at h
  refine lv_iconst (v := (0 : Int32)) C0.1 C0.2.1 dX9_isCellLeft_0 (by decide) ?_
  refine lv_istore_n (lv' := [(1, .int (0 : Int32)), (0, .ref (aD G 0))]) C0.1 C0.2.1 dX9_isCellLeft_1 rfl hl (by decide) rfl (fun ls hl => ?_)
  refine lv_iconst (v := (0 : Int32)) C0.1 C0.2.1 dX9_isCellLeft_2 (by decide) ?_
  refine lv_istore_n (lv' := [(2, .int (0 : Int32)), (1, .int (0 : Int32)), (0, .ref (aD G 0))]) C0.1 C0.2.1 dX9_isCellLeft_3 rfl hl (by decide) rfl (fun ls hl => ?_)
  exact wX9_isCellLeft_4 C0 G0 hJ z σ z (0 : Int32) (0 : Int32) _ h hW (lv_sub hl [2, 1, 0] rfl)
theorem cX9_isCellLeft_met (l : Launch) {G : GT} (hJ : gJ 13 G) (z : Nat) (σ : ST)  (res : Int32) (h : fX9_isCellLeft z σ = some res) : Met l yX9_isCellLeft wsX9_isCellLeft rX9_isCellLeft (XPc cellM 13 G σ [.ref (aD G 0)]) (XQi cellM 13 G res σ) 0 0 (gA 13 G) :=
  x_met (ret := (some .boolean)) (maxL := 3) (by decide) rfl (Nat.le_of_ble_eq_true rfl) (fun p e s m args below meth c H locs ls C0 G0 hW hl => wX9_isCellLeft C0 G0 hJ z σ res h hW hl)
end
/-! X9_freshCell -/
def rX9_freshCell : Room := { frames := 1, cells := 0, slots := 0, locals := 25 }
theorem hdvX9_freshCell : yX9_freshCell.cls = RX9 ∧ yX9_freshCell.cls ≠ "java/lang/invoke/MethodHandle" ∧ yX9_freshCell.cls ≠ "java/lang/invoke/VarHandle" ∧ (parseMethodDescriptor yX9_freshCell.desc).map (fun d => d.parameters.length) = some 0 := by decide +kernel
theorem inX9_freshCell_X9 : ∀ w ∈ u_ws RX9 TX9 29, w ∈ wsX9_freshCell := by decide +kernel
theorem lkX9_freshCell_61 : Cond.fieldLink RX9 61 (TX9 19).1 (TX9 19).2.1 (TX9 19).2.2.1 ∈ wsX9_freshCell := by decide +kernel
theorem lkX9_freshCell_64 : Cond.fieldLink RX9 64 (TX9 18).1 (TX9 18).2.1 (TX9 18).2.2.1 ∈ wsX9_freshCell := by decide +kernel
theorem lkX9_freshCell_58 : Cond.fieldLink RX9 58 (TX9 17).1 (TX9 17).2.1 (TX9 17).2.2.1 ∈ wsX9_freshCell := by decide +kernel
theorem lkX9_freshCell_26 : Cond.fieldLink RX9 26 (TX9 16).1 (TX9 16).2.1 (TX9 16).2.2.1 ∈ wsX9_freshCell := by decide +kernel
theorem kcX9_freshCell_67 : Cond.constantLong RX9 67 (9 : Int64) ∈ wsX9_freshCell := by decide +kernel
theorem lkX9_freshCell_16 : Cond.fieldLink RX9 16 (TX9 11).1 (TX9 11).2.1 (TX9 11).2.2.1 ∈ wsX9_freshCell := by decide +kernel
def fX9_freshCell_80 (z : Nat) (σ : ST) (t0 : Int32) : Option (Int32 × ST) := lt (pI σ 0 19 t0) (fun s30 => some ((0 : Int32), s30))
def fX9_freshCell_59 (z : Nat) (σ : ST) : Option (Int32 × ST) := (if (σ.1 0 19) = (-9 : Int32) then fX9_freshCell_80 z σ (σ.1 0 18) else fX9_freshCell_80 z σ (σ.1 0 19))
def fX9_freshCell_37 (z : Nat) (σ : ST) (t0 : Int32) : Option (Int32 × ST) := bd (fX9_in z ((t0).toInt64) (0 : Int64) (9 : Int64)) (fun u24 => (if u24 = 0 then fX9_freshCell_59 z σ else gd (inb t0 11) ( (if (σ.1 3 (t0).toNatClampNeg) ≤ 0 then lt (pI σ 0 18 ((σ.1 0 18) + (1 : Int32))) (fun s28 => some (t0, s28)) else fX9_freshCell_59 z σ))))
def fX9_freshCell_35 (z : Nat) (σ : ST) : Option (Int32 × ST) := fX9_freshCell_37 z σ (-9 : Int32)
def fX9_freshCell (z : Nat) (σ : ST) : Option (Int32 × ST) := (if (σ.1 0 19) = (-9 : Int32) then (if (σ.1 0 17) ≤ (σ.1 0 18) then fX9_freshCell_35 z σ else gd (inb (σ.1 0 18) 40) ( fX9_freshCell_37 z σ ((σ.1 6 ((σ.1 0 18)).toNatClampNeg) - (48 : Int32)))) else fX9_freshCell_35 z σ)
section
variable {p : Program} {l : Launch} {e : Env} {s : State} {m : MethodId} {args : Array Value} {below : List Frame} {meth : Method} {c : Code} {G : GT}
set_option maxHeartbeats 4000000 in
set_option maxRecDepth 100000 in
theorem wX9_freshCell_80 (C0 : Cx p s m args meth c cX9_freshCell RX9 2 (some .int) wsX9_freshCell) (G0 : Gx G s) (hJ : gJ 13 G) (z : Nat) (σ : ST) (t0 : Int32) (res : (Int32 × ST)) (h : fX9_freshCell_80 z σ t0 = some res)  {H : Heap} {locs : List Loc} {ls : Array Slot} (hW : Wd cellM 13 G s.heap σ H locs) (hl : lv_has ls 2 []) : W p l e rX9_freshCell s m args below meth c H locs 0 0 (MQ below (XQi cellM 13 G res.1 res.2) args s 0 0 (gA 13 G)) (F0 m 80 ls [.int t0, .ref (aD G 0)]) := by
  unfold fX9_freshCell_80 at h
  refine x_putI (v := t0) C0 G0 hJ hW cM_0 (by decide) rfl 19 (by decide) inX9_freshCell_X9 lkX9_freshCell_61 tyX9 tyX9_ok nmX9 rfl rfl rfl (Nat.le_of_ble_eq_true rfl) hu_X9_19 dX9_freshCell_80 (fun H locs hW => ?_)
  obtain ⟨s30, es30, h⟩ := lt_some h
  rw [es30] at hW
  refine lv_iconst (v := (0 : Int32)) C0.1 C0.2.1 dX9_freshCell_83 (by decide) ?_
  cases h
  exact x_iret C0 hW dX9_freshCell_84
set_option maxHeartbeats 4000000 in
set_option maxRecDepth 100000 in
theorem wX9_freshCell_59 (C0 : Cx p s m args meth c cX9_freshCell RX9 2 (some .int) wsX9_freshCell) (G0 : Gx G s) (hJ : gJ 13 G) (z : Nat) (σ : ST) (res : (Int32 × ST)) (h : fX9_freshCell_59 z σ = some res)  {H : Heap} {locs : List Loc} {ls : Array Slot} (hW : Wd cellM 13 G s.heap σ H locs) (hl : lv_has ls 2 [(0, .ref (aD G 0))]) : W p l e rX9_freshCell s m args below meth c H locs 0 0 (MQ below (XQi cellM 13 G res.1 res.2) args s 0 0 (gA 13 G)) (F0 m 59 ls []) := by
  unfold fX9_freshCell_59 at h
  refine lv_aload_n C0.1 C0.2.1 dX9_freshCell_59 rfl (lv_at hl 0 rfl) ?_
  refine lv_aload_n C0.1 C0.2.1 dX9_freshCell_60 rfl (lv_at hl 0 rfl) ?_
  refine x_get (v := .int (σ.1 0 19)) C0 G0 hW cM_0 (by decide) rfl 19 (by decide) inX9_freshCell_X9 lkX9_freshCell_61 rfl dX9_freshCell_61 ?_
  refine lv_bipush (v := (-9 : Int32)) C0.1 C0.2.1 dX9_freshCell_64 (by decide) ?_
  refine lv_icmp_ne (tgt := 76) C0.1 C0.2.1 dX9_freshCell_66 (by decide) (fun c29 => ?_) (fun c29 => ?_)
  · rw [if_neg c29] at h
    refine lv_aload_n C0.1 C0.2.1 dX9_freshCell_76 rfl (lv_at hl 0 rfl) ?_
    refine x_get (v := .int (σ.1 0 19)) C0 G0 hW cM_0 (by decide) rfl 19 (by decide) inX9_freshCell_X9 lkX9_freshCell_61 rfl dX9_freshCell_77 ?_
    exact wX9_freshCell_80 C0 G0 hJ z σ (σ.1 0 19) _ h hW (lv_sub hl [] rfl)
  · rw [if_pos c29] at h
    refine lv_aload_n C0.1 C0.2.1 dX9_freshCell_69 rfl (lv_at hl 0 rfl) ?_
    refine x_get (v := .int (σ.1 0 18)) C0 G0 hW cM_0 (by decide) rfl 18 (by decide) inX9_freshCell_X9 lkX9_freshCell_64 rfl dX9_freshCell_70 ?_
    refine lv_goto (tgt := 80) C0.1 C0.2.1 dX9_freshCell_73 (by decide) ?_
    exact wX9_freshCell_80 C0 G0 hJ z σ (σ.1 0 18) _ h hW (lv_sub hl [] rfl)
set_option maxHeartbeats 4000000 in
set_option maxRecDepth 100000 in
theorem wX9_freshCell_37 (C0 : Cx p s m args meth c cX9_freshCell RX9 2 (some .int) wsX9_freshCell) (G0 : Gx G s) (hJ : gJ 13 G) (z : Nat) (σ : ST) (t0 : Int32) (res : (Int32 × ST)) (h : fX9_freshCell_37 z σ t0 = some res)  {H : Heap} {locs : List Loc} {ls : Array Slot} (hW : Wd cellM 13 G s.heap σ H locs) (hl : lv_has ls 2 [(0, .ref (aD G 0))]) : W p l e rX9_freshCell s m args below meth c H locs 0 0 (MQ below (XQi cellM 13 G res.1 res.2) args s 0 0 (gA 13 G)) (F0 m 37 ls [.int t0]) := by
  unfold fX9_freshCell_37 at h
  refine lv_istore_n (lv' := [(1, .int t0), (0, .ref (aD G 0))]) C0.1 C0.2.1 dX9_freshCell_37 rfl hl (by decide) rfl (fun ls hl => ?_)
  refine lv_iload_n C0.1 C0.2.1 dX9_freshCell_38 rfl (lv_at hl 0 rfl) ?_
  refine lv_i2l (v := ((t0).toInt64)) C0.1 C0.2.1 dX9_freshCell_39 rfl ?_
  refine lv_lconst (v := (0 : Int64)) C0.1 C0.2.1 dX9_freshCell_40 (by decide) ?_
  refine lv_ldc2 (v := (9 : Int64)) C0.1 C0.2.1 C0.2.2.2.2.1 (C0.2.2.2.1 _ kcX9_freshCell_67) dX9_freshCell_41 ?_
  obtain ⟨u24, hu24, h⟩ := bd_some h
  refine x_ki (r := u24) (x_runS (As := [.long ((t0).toInt64), .long (0 : Int64), .long (9 : Int64)]) (rest := []) C0 G0 hW (cX9_in_met l hJ z σ ((t0).toInt64) (0 : Int64) (9 : Int64) _ hu24) (va_cwS 3 C0.2.2.2.1 gX9_freshCell_X9_in rfl rfl rfl hdsX9_in ⟨Nat.le_of_ble_eq_true rfl, Nat.le_of_ble_eq_true rfl⟩) rfl rfl hl (Nat.le_of_ble_eq_true rfl) dX9_freshCell_44 ⟨Nat.le_refl 0, Nat.le_refl 0⟩) hW (fun H locs hW => ?_)
  refine lv_if_eq (tgt := 59) C0.1 C0.2.1 dX9_freshCell_47 (by decide) (fun c25 => ?_) (fun c25 => ?_)
  · rw [if_pos c25] at h
    exact wX9_freshCell_59 C0 G0 hJ z σ _ h hW (lv_sub hl [1] rfl)
  · rw [if_neg c25] at h
    refine lv_aload_n C0.1 C0.2.1 dX9_freshCell_50 rfl (lv_at hl 1 rfl) ?_
    refine x_get (v := .ref (aD G 3)) C0 G0 hW cM_0 (by decide) rfl 11 (by decide) inX9_freshCell_X9 lkX9_freshCell_16 rfl dX9_freshCell_51 ?_
    refine lv_iload_n C0.1 C0.2.1 dX9_freshCell_54 rfl (lv_at hl 0 rfl) ?_
    obtain ⟨g26, h⟩ := gd_some h
    refine x_iald C0 G0 hW cM_3 (by decide) g26 dX9_freshCell_55 ?_
    refine lv_if_le (tgt := 85) C0.1 C0.2.1 dX9_freshCell_56 (by decide) (fun c27 => ?_) (fun c27 => ?_)
    · rw [if_pos c27] at h
      refine lv_aload_n C0.1 C0.2.1 dX9_freshCell_85 rfl (lv_at hl 1 rfl) ?_
      refine lv_dup C0.1 C0.2.1 dX9_freshCell_86 rfl ?_
      refine x_get (v := .int (σ.1 0 18)) C0 G0 hW cM_0 (by decide) rfl 18 (by decide) inX9_freshCell_X9 lkX9_freshCell_64 rfl dX9_freshCell_87 ?_
      refine lv_iconst (v := (1 : Int32)) C0.1 C0.2.1 dX9_freshCell_90 (by decide) ?_
      refine lv_iadd C0.1 C0.2.1 dX9_freshCell_91 ?_
      refine x_putI (v := ((σ.1 0 18) + (1 : Int32))) C0 G0 hJ hW cM_0 (by decide) rfl 18 (by decide) inX9_freshCell_X9 lkX9_freshCell_64 tyX9 tyX9_ok nmX9 rfl rfl rfl (Nat.le_of_ble_eq_true rfl) hu_X9_18 dX9_freshCell_92 (fun H locs hW => ?_)
      obtain ⟨s28, es28, h⟩ := lt_some h
      rw [es28] at hW
      refine lv_iload_n C0.1 C0.2.1 dX9_freshCell_95 rfl (lv_at hl 0 rfl) ?_
      cases h
      exact x_iret C0 hW dX9_freshCell_96
    · rw [if_neg c27] at h
      exact wX9_freshCell_59 C0 G0 hJ z σ _ h hW (lv_sub hl [1] rfl)
set_option maxHeartbeats 4000000 in
set_option maxRecDepth 100000 in
theorem wX9_freshCell_35 (C0 : Cx p s m args meth c cX9_freshCell RX9 2 (some .int) wsX9_freshCell) (G0 : Gx G s) (hJ : gJ 13 G) (z : Nat) (σ : ST) (res : (Int32 × ST)) (h : fX9_freshCell_35 z σ = some res)  {H : Heap} {locs : List Loc} {ls : Array Slot} (hW : Wd cellM 13 G s.heap σ H locs) (hl : lv_has ls 2 [(0, .ref (aD G 0))]) : W p l e rX9_freshCell s m args below meth c H locs 0 0 (MQ below (XQi cellM 13 G res.1 res.2) args s 0 0 (gA 13 G)) (F0 m 35 ls []) := by
  unfold fX9_freshCell_35 at h
  refine lv_bipush (v := (-9 : Int32)) C0.1 C0.2.1 dX9_freshCell_35 (by decide) ?_
  exact wX9_freshCell_37 C0 G0 hJ z σ (-9 : Int32) _ h hW (lv_sub hl [0] rfl)
set_option maxHeartbeats 4000000 in
set_option maxRecDepth 100000 in
theorem wX9_freshCell (C0 : Cx p s m args meth c cX9_freshCell RX9 2 (some .int) wsX9_freshCell) (G0 : Gx G s) (hJ : gJ 13 G) (z : Nat) (σ : ST) (res : (Int32 × ST)) (h : fX9_freshCell z σ = some res)  {H : Heap} {locs : List Loc} {ls : Array Slot} (hW : Wd cellM 13 G s.heap σ H locs) (hl : lv_has ls 2 [(0, .ref (aD G 0))]) : W p l e rX9_freshCell s m args below meth c H locs 0 0 (MQ below (XQi cellM 13 G res.1 res.2) args s 0 0 (gA 13 G)) (F0 m 0 ls []) := by
  unfold fX9_freshCell at h
  refine lv_aload_n C0.1 C0.2.1 dX9_freshCell_0 rfl (lv_at hl 0 rfl) ?_
  refine x_get (v := .int (σ.1 0 19)) C0 G0 hW cM_0 (by decide) rfl 19 (by decide) inX9_freshCell_X9 lkX9_freshCell_61 rfl dX9_freshCell_1 ?_
  refine lv_bipush (v := (-9 : Int32)) C0.1 C0.2.1 dX9_freshCell_4 (by decide) ?_
  refine lv_icmp_ne (tgt := 35) C0.1 C0.2.1 dX9_freshCell_6 (by decide) (fun c21 => ?_) (fun c21 => ?_)
  · rw [if_neg c21] at h
    exact wX9_freshCell_35 C0 G0 hJ z σ _ h hW (lv_sub hl [0] rfl)
  · rw [if_pos c21] at h
    refine lv_aload_n C0.1 C0.2.1 dX9_freshCell_9 rfl (lv_at hl 0 rfl) ?_
    refine x_get (v := .int (σ.1 0 18)) C0 G0 hW cM_0 (by decide) rfl 18 (by decide) inX9_freshCell_X9 lkX9_freshCell_64 rfl dX9_freshCell_10 ?_
    refine lv_aload_n C0.1 C0.2.1 dX9_freshCell_13 rfl (lv_at hl 0 rfl) ?_
    refine x_get (v := .int (σ.1 0 17)) C0 G0 hW cM_0 (by decide) rfl 17 (by decide) inX9_freshCell_X9 lkX9_freshCell_58 rfl dX9_freshCell_14 ?_
    refine lv_icmp_ge (tgt := 35) C0.1 C0.2.1 dX9_freshCell_17 (by decide) (fun c22 => ?_) (fun c22 => ?_)
    · rw [if_pos c22] at h
      exact wX9_freshCell_35 C0 G0 hJ z σ _ h hW (lv_sub hl [0] rfl)
    · rw [if_neg c22] at h
      refine lv_aload_n C0.1 C0.2.1 dX9_freshCell_20 rfl (lv_at hl 0 rfl) ?_
      refine x_get (v := .ref (aD G 6)) C0 G0 hW cM_0 (by decide) rfl 16 (by decide) inX9_freshCell_X9 lkX9_freshCell_26 rfl dX9_freshCell_21 ?_
      refine lv_aload_n C0.1 C0.2.1 dX9_freshCell_24 rfl (lv_at hl 0 rfl) ?_
      refine x_get (v := .int (σ.1 0 18)) C0 G0 hW cM_0 (by decide) rfl 18 (by decide) inX9_freshCell_X9 lkX9_freshCell_64 rfl dX9_freshCell_25 ?_
      obtain ⟨g23, h⟩ := gd_some h
      refine x_iald C0 G0 hW cM_6 (by decide) g23 dX9_freshCell_28 ?_
      refine lv_bipush (v := (48 : Int32)) C0.1 C0.2.1 dX9_freshCell_29 (by decide) ?_
      refine lv_isub C0.1 C0.2.1 dX9_freshCell_31 ?_
      refine lv_goto (tgt := 37) C0.1 C0.2.1 dX9_freshCell_32 (by decide) ?_
      exact wX9_freshCell_37 C0 G0 hJ z σ ((σ.1 6 ((σ.1 0 18)).toNatClampNeg) - (48 : Int32)) _ h hW (lv_sub hl [0] rfl)
theorem cX9_freshCell_met (l : Launch) {G : GT} (hJ : gJ 13 G) (z : Nat) (σ : ST)  (res : (Int32 × ST)) (h : fX9_freshCell z σ = some res) : Met l yX9_freshCell wsX9_freshCell rX9_freshCell (XPc cellM 13 G σ [.ref (aD G 0)]) (XQi cellM 13 G res.1 res.2) 0 0 (gA 13 G) :=
  x_met (ret := (some .int)) (maxL := 2) (by decide) rfl (Nat.le_of_ble_eq_true rfl) (fun p e s m args below meth c H locs ls C0 G0 hW hl => wX9_freshCell C0 G0 hJ z σ res h hW hl)
end
/-! X9_readPart -/
def rX9_readPart : Room := { frames := 2, cells := 0, slots := 0, locals := 48 }
theorem hdvX9_readPart : yX9_readPart.cls = RX9 ∧ yX9_readPart.cls ≠ "java/lang/invoke/MethodHandle" ∧ yX9_readPart.cls ≠ "java/lang/invoke/VarHandle" ∧ (parseMethodDescriptor yX9_readPart.desc).map (fun d => d.parameters.length) = some 1 := by decide +kernel
theorem inX9_readPart_X9 : ∀ w ∈ u_ws RX9 TX9 29, w ∈ wsX9_readPart := by decide +kernel
theorem lkX9_readPart_64 : Cond.fieldLink RX9 64 (TX9 18).1 (TX9 18).2.1 (TX9 18).2.2.1 ∈ wsX9_readPart := by decide +kernel
theorem lkX9_readPart_16 : Cond.fieldLink RX9 16 (TX9 11).1 (TX9 11).2.1 (TX9 11).2.2.1 ∈ wsX9_readPart := by decide +kernel
theorem lkX9_readPart_61 : Cond.fieldLink RX9 61 (TX9 19).1 (TX9 19).2.1 (TX9 19).2.2.1 ∈ wsX9_readPart := by decide +kernel
theorem lkX9_readPart_69 : Cond.fieldLink RX9 69 (TX9 12).1 (TX9 12).2.1 (TX9 12).2.2.1 ∈ wsX9_readPart := by decide +kernel
theorem lkX9_readPart_88 : Cond.fieldLink RX9 88 (TX9 13).1 (TX9 13).2.1 (TX9 13).2.2.1 ∈ wsX9_readPart := by decide +kernel
def fX9_readPart_196 (z : Nat) (σ : ST) : Option ST := some σ
def fX9_readPart_188 (z : Nat) (σ : ST) : Option ST := lt (pI σ 0 19 (σ.1 0 18)) (fun s46 => fX9_readPart_196 z s46)
def fX9_readPart_182 (z : Nat) (σ : ST) (t0 : Int32) : Option ST := lt (pI σ 0 12 t0) (fun s47 => fX9_readPart_196 z s47)
def fX9_readPart_122 (z : Nat) (σ : ST) (v1 : Int32) : Option ST := (if v1 = (84 : Int32) then (if (σ.1 0 12) = (-9 : Int32) then lt (pI σ 0 18 ((σ.1 0 18) + (1 : Int32))) (fun s39 => bd (fX9_figure z s39 (0 : Int32) (9 : Int32)) (fun u40 => bd (fX9_figure z u40.2 (0 : Int32) (6 : Int32)) (fun u41 => lt (pI u41.2 0 13 u41.1) (fun s42 => (if (s42.1 0 19) = (-9 : Int32) then fX9_readPart_182 z s42 u40.1 else fX9_readPart_182 z s42 (-9 : Int32)))))) else fX9_readPart_188 z σ) else fX9_readPart_188 z σ)
def fX9_readPart_118 (z : Nat) (σ : ST) (t0 : Int32) (t1 : Int32) : Option ST := gd (inb t1 11) ( lt (pI σ 3 (t1).toNatClampNeg t0) (fun s45 => fX9_readPart_196 z s45))
def fX9_readPart_64 (z : Nat) (σ : ST) (v1 : Int32) : Option ST := (if v1 = (65 : Int32) then gd (inb (10 : Int32) 11) ( (if (σ.1 3 ((10 : Int32)).toNatClampNeg) = 0 then lt (pI σ 0 18 ((σ.1 0 18) + (1 : Int32))) (fun s32 => bd (fX9_figure z s32 (1 : Int32) (9 : Int32)) (fun u33 => (if (u33.2.1 0 19) = (-9 : Int32) then fX9_readPart_118 z u33.2 u33.1 (10 : Int32) else fX9_readPart_118 z u33.2 (0 : Int32) (10 : Int32)))) else fX9_readPart_122 z σ v1)) else fX9_readPart_122 z σ v1)
def fX9_readPart_60 (z : Nat) (σ : ST) (t0 : Int32) (t1 : Int32) : Option ST := gd (inb t1 11) ( lt (pI σ 3 (t1).toNatClampNeg t0) (fun s36 => fX9_readPart_196 z s36))
def fX9_readPart (z : Nat) (σ : ST) (v1 : Int32) : Option ST := (if v1 = (70 : Int32) then bd (fX9_isCellLeft z σ) (fun u22 => (if u22 = 0 then fX9_readPart_64 z σ v1 else lt (pI σ 0 18 ((σ.1 0 18) + (1 : Int32))) (fun s24 => bd (fX9_freshCell z s24) (fun u25 => bd (fX9_figure z u25.2 (1 : Int32) (9 : Int32)) (fun u26 => (if (u26.2.1 0 19) = (-9 : Int32) then fX9_readPart_60 z u26.2 u26.1 u25.1 else gd (inb u25.1 11) ( fX9_readPart_60 z u26.2 (u26.2.1 3 (u25.1).toNatClampNeg) u25.1))))))) else fX9_readPart_64 z σ v1)
section
variable {p : Program} {l : Launch} {e : Env} {s : State} {m : MethodId} {args : Array Value} {below : List Frame} {meth : Method} {c : Code} {G : GT}
set_option maxHeartbeats 4000000 in
set_option maxRecDepth 100000 in
theorem wX9_readPart_196 (C0 : Cx p s m args meth c cX9_readPart RX9 4 none wsX9_readPart) (G0 : Gx G s) (hJ : gJ 13 G) (z : Nat) (σ : ST) (res : ST) (h : fX9_readPart_196 z σ = some res)  {H : Heap} {locs : List Loc} {ls : Array Slot} (hW : Wd cellM 13 G s.heap σ H locs) (hl : lv_has ls 4 []) : W p l e rX9_readPart s m args below meth c H locs 0 0 (MQ below (XQv cellM 13 G res) args s 0 0 (gA 13 G)) (F0 m 196 ls []) := by
  unfold fX9_readPart_196 at h
  cases h
  exact x_vret C0 hW dX9_readPart_196
set_option maxHeartbeats 4000000 in
set_option maxRecDepth 100000 in
theorem wX9_readPart_188 (C0 : Cx p s m args meth c cX9_readPart RX9 4 none wsX9_readPart) (G0 : Gx G s) (hJ : gJ 13 G) (z : Nat) (σ : ST) (res : ST) (h : fX9_readPart_188 z σ = some res)  {H : Heap} {locs : List Loc} {ls : Array Slot} (hW : Wd cellM 13 G s.heap σ H locs) (hl : lv_has ls 4 [(0, .ref (aD G 0))]) : W p l e rX9_readPart s m args below meth c H locs 0 0 (MQ below (XQv cellM 13 G res) args s 0 0 (gA 13 G)) (F0 m 188 ls []) := by
  unfold fX9_readPart_188 at h
  refine lv_aload_n C0.1 C0.2.1 dX9_readPart_188 rfl (lv_at hl 0 rfl) ?_
  refine lv_aload_n C0.1 C0.2.1 dX9_readPart_189 rfl (lv_at hl 0 rfl) ?_
  refine x_get (v := .int (σ.1 0 18)) C0 G0 hW cM_0 (by decide) rfl 18 (by decide) inX9_readPart_X9 lkX9_readPart_64 rfl dX9_readPart_190 ?_
  refine x_putI (v := (σ.1 0 18)) C0 G0 hJ hW cM_0 (by decide) rfl 19 (by decide) inX9_readPart_X9 lkX9_readPart_61 tyX9 tyX9_ok nmX9 rfl rfl rfl (Nat.le_of_ble_eq_true rfl) hu_X9_19 dX9_readPart_193 (fun H locs hW => ?_)
  obtain ⟨s46, es46, h⟩ := lt_some h
  rw [es46] at hW
  exact wX9_readPart_196 C0 G0 hJ z s46 _ h hW (lv_sub hl [] rfl)
set_option maxHeartbeats 4000000 in
set_option maxRecDepth 100000 in
theorem wX9_readPart_182 (C0 : Cx p s m args meth c cX9_readPart RX9 4 none wsX9_readPart) (G0 : Gx G s) (hJ : gJ 13 G) (z : Nat) (σ : ST) (t0 : Int32) (res : ST) (h : fX9_readPart_182 z σ t0 = some res)  {H : Heap} {locs : List Loc} {ls : Array Slot} (hW : Wd cellM 13 G s.heap σ H locs) (hl : lv_has ls 4 []) : W p l e rX9_readPart s m args below meth c H locs 0 0 (MQ below (XQv cellM 13 G res) args s 0 0 (gA 13 G)) (F0 m 182 ls [.int t0, .ref (aD G 0)]) := by
  unfold fX9_readPart_182 at h
  refine x_putI (v := t0) C0 G0 hJ hW cM_0 (by decide) rfl 12 (by decide) inX9_readPart_X9 lkX9_readPart_69 tyX9 tyX9_ok nmX9 rfl rfl rfl (Nat.le_of_ble_eq_true rfl) hu_X9_12 dX9_readPart_182 (fun H locs hW => ?_)
  obtain ⟨s47, es47, h⟩ := lt_some h
  rw [es47] at hW
  refine lv_goto (tgt := 196) C0.1 C0.2.1 dX9_readPart_185 (by decide) ?_
  exact wX9_readPart_196 C0 G0 hJ z s47 _ h hW (lv_sub hl [] rfl)
set_option maxHeartbeats 4000000 in
set_option maxRecDepth 100000 in
theorem wX9_readPart_122 (C0 : Cx p s m args meth c cX9_readPart RX9 4 none wsX9_readPart) (G0 : Gx G s) (hJ : gJ 13 G) (z : Nat) (σ : ST) (v1 : Int32) (res : ST) (h : fX9_readPart_122 z σ v1 = some res)  {H : Heap} {locs : List Loc} {ls : Array Slot} (hW : Wd cellM 13 G s.heap σ H locs) (hl : lv_has ls 4 [(0, .ref (aD G 0)), (1, .int v1)]) : W p l e rX9_readPart s m args below meth c H locs 0 0 (MQ below (XQv cellM 13 G res) args s 0 0 (gA 13 G)) (F0 m 122 ls []) := by
  unfold fX9_readPart_122 at h
  refine lv_iload_n C0.1 C0.2.1 dX9_readPart_122 rfl (lv_at hl 1 rfl) ?_
  refine lv_bipush (v := (84 : Int32)) C0.1 C0.2.1 dX9_readPart_123 (by decide) ?_
  refine lv_icmp_ne (tgt := 188) C0.1 C0.2.1 dX9_readPart_125 (by decide) (fun c37 => ?_) (fun c37 => ?_)
  · rw [if_neg c37] at h
    exact wX9_readPart_188 C0 G0 hJ z σ _ h hW (lv_sub hl [0] rfl)
  · rw [if_pos c37] at h
    refine lv_aload_n C0.1 C0.2.1 dX9_readPart_128 rfl (lv_at hl 0 rfl) ?_
    refine x_get (v := .int (σ.1 0 12)) C0 G0 hW cM_0 (by decide) rfl 12 (by decide) inX9_readPart_X9 lkX9_readPart_69 rfl dX9_readPart_129 ?_
    refine lv_bipush (v := (-9 : Int32)) C0.1 C0.2.1 dX9_readPart_132 (by decide) ?_
    refine lv_icmp_ne (tgt := 188) C0.1 C0.2.1 dX9_readPart_134 (by decide) (fun c38 => ?_) (fun c38 => ?_)
    · rw [if_neg c38] at h
      exact wX9_readPart_188 C0 G0 hJ z σ _ h hW (lv_sub hl [0] rfl)
    · rw [if_pos c38] at h
      refine lv_aload_n C0.1 C0.2.1 dX9_readPart_137 rfl (lv_at hl 0 rfl) ?_
      refine lv_dup C0.1 C0.2.1 dX9_readPart_138 rfl ?_
      refine x_get (v := .int (σ.1 0 18)) C0 G0 hW cM_0 (by decide) rfl 18 (by decide) inX9_readPart_X9 lkX9_readPart_64 rfl dX9_readPart_139 ?_
      refine lv_iconst (v := (1 : Int32)) C0.1 C0.2.1 dX9_readPart_142 (by decide) ?_
      refine lv_iadd C0.1 C0.2.1 dX9_readPart_143 ?_
      refine x_putI (v := ((σ.1 0 18) + (1 : Int32))) C0 G0 hJ hW cM_0 (by decide) rfl 18 (by decide) inX9_readPart_X9 lkX9_readPart_64 tyX9 tyX9_ok nmX9 rfl rfl rfl (Nat.le_of_ble_eq_true rfl) hu_X9_18 dX9_readPart_144 (fun H locs hW => ?_)
      obtain ⟨s39, es39, h⟩ := lt_some h
      rw [es39] at hW
      refine lv_aload_n C0.1 C0.2.1 dX9_readPart_147 rfl (lv_at hl 0 rfl) ?_
      refine lv_iconst (v := (0 : Int32)) C0.1 C0.2.1 dX9_readPart_148 (by decide) ?_
      refine lv_bipush (v := (9 : Int32)) C0.1 C0.2.1 dX9_readPart_149 (by decide) ?_
      obtain ⟨u40, hu40, h⟩ := bd_some h
      refine x_ki (r := u40.1) (x_runV (As := [.int (0 : Int32), .int (9 : Int32)]) (rest := []) C0 G0 hW (cX9_figure_met l hJ z s39 (0 : Int32) (9 : Int32) _ hu40) (cwV 2 C0.2.2.2.1 gX9_readPart_X9_figure rfl rfl rfl hdvX9_figure ⟨Nat.le_of_ble_eq_true rfl, Nat.le_of_ble_eq_true rfl⟩) cM_0 (by decide) rfl rfl rfl hl (Nat.le_of_ble_eq_true rfl) dX9_readPart_151 ⟨Nat.le_refl 0, Nat.le_refl 0⟩) hW (fun H locs hW => ?_)
      refine lv_istore_n (lv' := [(2, .int u40.1), (0, .ref (aD G 0)), (1, .int v1)]) C0.1 C0.2.1 dX9_readPart_154 rfl hl (by decide) rfl (fun ls hl => ?_)
      refine lv_aload_n C0.1 C0.2.1 dX9_readPart_155 rfl (lv_at hl 1 rfl) ?_
      refine lv_aload_n C0.1 C0.2.1 dX9_readPart_156 rfl (lv_at hl 1 rfl) ?_
      refine lv_iconst (v := (0 : Int32)) C0.1 C0.2.1 dX9_readPart_157 (by decide) ?_
      refine lv_bipush (v := (6 : Int32)) C0.1 C0.2.1 dX9_readPart_158 (by decide) ?_
      obtain ⟨u41, hu41, h⟩ := bd_some h
      refine x_ki (r := u41.1) (x_runV (As := [.int (0 : Int32), .int (6 : Int32)]) (rest := [.ref (aD G 0)]) C0 G0 hW (cX9_figure_met l hJ z u40.2 (0 : Int32) (6 : Int32) _ hu41) (cwV 2 C0.2.2.2.1 gX9_readPart_X9_figure rfl rfl rfl hdvX9_figure ⟨Nat.le_of_ble_eq_true rfl, Nat.le_of_ble_eq_true rfl⟩) cM_0 (by decide) rfl rfl rfl hl (Nat.le_of_ble_eq_true rfl) dX9_readPart_160 ⟨Nat.le_refl 0, Nat.le_refl 0⟩) hW (fun H locs hW => ?_)
      refine x_putI (v := u41.1) C0 G0 hJ hW cM_0 (by decide) rfl 13 (by decide) inX9_readPart_X9 lkX9_readPart_88 tyX9 tyX9_ok nmX9 rfl rfl rfl (Nat.le_of_ble_eq_true rfl) hu_X9_13 dX9_readPart_163 (fun H locs hW => ?_)
      obtain ⟨s42, es42, h⟩ := lt_some h
      rw [es42] at hW
      refine lv_aload_n C0.1 C0.2.1 dX9_readPart_166 rfl (lv_at hl 1 rfl) ?_
      refine lv_aload_n C0.1 C0.2.1 dX9_readPart_167 rfl (lv_at hl 1 rfl) ?_
      refine x_get (v := .int (s42.1 0 19)) C0 G0 hW cM_0 (by decide) rfl 19 (by decide) inX9_readPart_X9 lkX9_readPart_61 rfl dX9_readPart_168 ?_
      refine lv_bipush (v := (-9 : Int32)) C0.1 C0.2.1 dX9_readPart_171 (by decide) ?_
      refine lv_icmp_ne (tgt := 180) C0.1 C0.2.1 dX9_readPart_173 (by decide) (fun c43 => ?_) (fun c43 => ?_)
      · rw [if_neg c43] at h
        refine lv_bipush (v := (-9 : Int32)) C0.1 C0.2.1 dX9_readPart_180 (by decide) ?_
        exact wX9_readPart_182 C0 G0 hJ z s42 (-9 : Int32) _ h hW (lv_sub hl [] rfl)
      · rw [if_pos c43] at h
        refine lv_iload_n C0.1 C0.2.1 dX9_readPart_176 rfl (lv_at hl 0 rfl) ?_
        refine lv_goto (tgt := 182) C0.1 C0.2.1 dX9_readPart_177 (by decide) ?_
        exact wX9_readPart_182 C0 G0 hJ z s42 u40.1 _ h hW (lv_sub hl [] rfl)
set_option maxHeartbeats 4000000 in
set_option maxRecDepth 100000 in
theorem wX9_readPart_118 (C0 : Cx p s m args meth c cX9_readPart RX9 4 none wsX9_readPart) (G0 : Gx G s) (hJ : gJ 13 G) (z : Nat) (σ : ST) (t0 : Int32) (t1 : Int32) (res : ST) (h : fX9_readPart_118 z σ t0 t1 = some res)  {H : Heap} {locs : List Loc} {ls : Array Slot} (hW : Wd cellM 13 G s.heap σ H locs) (hl : lv_has ls 4 []) : W p l e rX9_readPart s m args below meth c H locs 0 0 (MQ below (XQv cellM 13 G res) args s 0 0 (gA 13 G)) (F0 m 118 ls [.int t0, .int t1, .ref (aD G 3)]) := by
  unfold fX9_readPart_118 at h
  obtain ⟨g44, h⟩ := gd_some h
  refine x_iast C0 G0 hJ hW (fun f g => cM_3) (by decide) g44 dX9_readPart_118 (fun H locs hW => ?_)
  obtain ⟨s45, es45, h⟩ := lt_some h
  rw [es45] at hW
  refine lv_goto (tgt := 196) C0.1 C0.2.1 dX9_readPart_119 (by decide) ?_
  exact wX9_readPart_196 C0 G0 hJ z s45 _ h hW (lv_sub hl [] rfl)
set_option maxHeartbeats 4000000 in
set_option maxRecDepth 100000 in
theorem wX9_readPart_64 (C0 : Cx p s m args meth c cX9_readPart RX9 4 none wsX9_readPart) (G0 : Gx G s) (hJ : gJ 13 G) (z : Nat) (σ : ST) (v1 : Int32) (res : ST) (h : fX9_readPart_64 z σ v1 = some res)  {H : Heap} {locs : List Loc} {ls : Array Slot} (hW : Wd cellM 13 G s.heap σ H locs) (hl : lv_has ls 4 [(0, .ref (aD G 0)), (1, .int v1)]) : W p l e rX9_readPart s m args below meth c H locs 0 0 (MQ below (XQv cellM 13 G res) args s 0 0 (gA 13 G)) (F0 m 64 ls []) := by
  unfold fX9_readPart_64 at h
  refine lv_iload_n C0.1 C0.2.1 dX9_readPart_64 rfl (lv_at hl 1 rfl) ?_
  refine lv_bipush (v := (65 : Int32)) C0.1 C0.2.1 dX9_readPart_65 (by decide) ?_
  refine lv_icmp_ne (tgt := 122) C0.1 C0.2.1 dX9_readPart_67 (by decide) (fun c29 => ?_) (fun c29 => ?_)
  · rw [if_neg c29] at h
    exact wX9_readPart_122 C0 G0 hJ z σ v1 _ h hW (lv_sub hl [0, 1] rfl)
  · rw [if_pos c29] at h
    refine lv_aload_n C0.1 C0.2.1 dX9_readPart_70 rfl (lv_at hl 0 rfl) ?_
    refine x_get (v := .ref (aD G 3)) C0 G0 hW cM_0 (by decide) rfl 11 (by decide) inX9_readPart_X9 lkX9_readPart_16 rfl dX9_readPart_71 ?_
    refine lv_bipush (v := (10 : Int32)) C0.1 C0.2.1 dX9_readPart_74 (by decide) ?_
    obtain ⟨g30, h⟩ := gd_some h
    refine x_iald C0 G0 hW cM_3 (by decide) g30 dX9_readPart_76 ?_
    refine lv_if_ne (tgt := 122) C0.1 C0.2.1 dX9_readPart_77 (by decide) (fun c31 => ?_) (fun c31 => ?_)
    · rw [if_neg c31] at h
      exact wX9_readPart_122 C0 G0 hJ z σ v1 _ h hW (lv_sub hl [0, 1] rfl)
    · rw [if_pos c31] at h
      refine lv_aload_n C0.1 C0.2.1 dX9_readPart_80 rfl (lv_at hl 0 rfl) ?_
      refine lv_dup C0.1 C0.2.1 dX9_readPart_81 rfl ?_
      refine x_get (v := .int (σ.1 0 18)) C0 G0 hW cM_0 (by decide) rfl 18 (by decide) inX9_readPart_X9 lkX9_readPart_64 rfl dX9_readPart_82 ?_
      refine lv_iconst (v := (1 : Int32)) C0.1 C0.2.1 dX9_readPart_85 (by decide) ?_
      refine lv_iadd C0.1 C0.2.1 dX9_readPart_86 ?_
      refine x_putI (v := ((σ.1 0 18) + (1 : Int32))) C0 G0 hJ hW cM_0 (by decide) rfl 18 (by decide) inX9_readPart_X9 lkX9_readPart_64 tyX9 tyX9_ok nmX9 rfl rfl rfl (Nat.le_of_ble_eq_true rfl) hu_X9_18 dX9_readPart_87 (fun H locs hW => ?_)
      obtain ⟨s32, es32, h⟩ := lt_some h
      rw [es32] at hW
      refine lv_aload_n C0.1 C0.2.1 dX9_readPart_90 rfl (lv_at hl 0 rfl) ?_
      refine lv_iconst (v := (1 : Int32)) C0.1 C0.2.1 dX9_readPart_91 (by decide) ?_
      refine lv_bipush (v := (9 : Int32)) C0.1 C0.2.1 dX9_readPart_92 (by decide) ?_
      obtain ⟨u33, hu33, h⟩ := bd_some h
      refine x_ki (r := u33.1) (x_runV (As := [.int (1 : Int32), .int (9 : Int32)]) (rest := []) C0 G0 hW (cX9_figure_met l hJ z s32 (1 : Int32) (9 : Int32) _ hu33) (cwV 2 C0.2.2.2.1 gX9_readPart_X9_figure rfl rfl rfl hdvX9_figure ⟨Nat.le_of_ble_eq_true rfl, Nat.le_of_ble_eq_true rfl⟩) cM_0 (by decide) rfl rfl rfl hl (Nat.le_of_ble_eq_true rfl) dX9_readPart_94 ⟨Nat.le_refl 0, Nat.le_refl 0⟩) hW (fun H locs hW => ?_)
      refine lv_istore_n (lv' := [(2, .int u33.1), (0, .ref (aD G 0)), (1, .int v1)]) C0.1 C0.2.1 dX9_readPart_97 rfl hl (by decide) rfl (fun ls hl => ?_)
      refine lv_aload_n C0.1 C0.2.1 dX9_readPart_98 rfl (lv_at hl 1 rfl) ?_
      refine x_get (v := .ref (aD G 3)) C0 G0 hW cM_0 (by decide) rfl 11 (by decide) inX9_readPart_X9 lkX9_readPart_16 rfl dX9_readPart_99 ?_
      refine lv_bipush (v := (10 : Int32)) C0.1 C0.2.1 dX9_readPart_102 (by decide) ?_
      refine lv_aload_n C0.1 C0.2.1 dX9_readPart_104 rfl (lv_at hl 1 rfl) ?_
      refine x_get (v := .int (u33.2.1 0 19)) C0 G0 hW cM_0 (by decide) rfl 19 (by decide) inX9_readPart_X9 lkX9_readPart_61 rfl dX9_readPart_105 ?_
      refine lv_bipush (v := (-9 : Int32)) C0.1 C0.2.1 dX9_readPart_108 (by decide) ?_
      refine lv_icmp_ne (tgt := 117) C0.1 C0.2.1 dX9_readPart_110 (by decide) (fun c34 => ?_) (fun c34 => ?_)
      · rw [if_neg c34] at h
        refine lv_iconst (v := (0 : Int32)) C0.1 C0.2.1 dX9_readPart_117 (by decide) ?_
        exact wX9_readPart_118 C0 G0 hJ z u33.2 (0 : Int32) (10 : Int32) _ h hW (lv_sub hl [] rfl)
      · rw [if_pos c34] at h
        refine lv_iload_n C0.1 C0.2.1 dX9_readPart_113 rfl (lv_at hl 0 rfl) ?_
        refine lv_goto (tgt := 118) C0.1 C0.2.1 dX9_readPart_114 (by decide) ?_
        exact wX9_readPart_118 C0 G0 hJ z u33.2 u33.1 (10 : Int32) _ h hW (lv_sub hl [] rfl)
set_option maxHeartbeats 4000000 in
set_option maxRecDepth 100000 in
theorem wX9_readPart_60 (C0 : Cx p s m args meth c cX9_readPart RX9 4 none wsX9_readPart) (G0 : Gx G s) (hJ : gJ 13 G) (z : Nat) (σ : ST) (t0 : Int32) (t1 : Int32) (res : ST) (h : fX9_readPart_60 z σ t0 t1 = some res)  {H : Heap} {locs : List Loc} {ls : Array Slot} (hW : Wd cellM 13 G s.heap σ H locs) (hl : lv_has ls 4 []) : W p l e rX9_readPart s m args below meth c H locs 0 0 (MQ below (XQv cellM 13 G res) args s 0 0 (gA 13 G)) (F0 m 60 ls [.int t0, .int t1, .ref (aD G 3)]) := by
  unfold fX9_readPart_60 at h
  obtain ⟨g35, h⟩ := gd_some h
  refine x_iast C0 G0 hJ hW (fun f g => cM_3) (by decide) g35 dX9_readPart_60 (fun H locs hW => ?_)
  obtain ⟨s36, es36, h⟩ := lt_some h
  rw [es36] at hW
  refine lv_goto (tgt := 196) C0.1 C0.2.1 dX9_readPart_61 (by decide) ?_
  exact wX9_readPart_196 C0 G0 hJ z s36 _ h hW (lv_sub hl [] rfl)
set_option maxHeartbeats 4000000 in
set_option maxRecDepth 100000 in
theorem wX9_readPart (C0 : Cx p s m args meth c cX9_readPart RX9 4 none wsX9_readPart) (G0 : Gx G s) (hJ : gJ 13 G) (z : Nat) (σ : ST) (v1 : Int32) (res : ST) (h : fX9_readPart z σ v1 = some res)  {H : Heap} {locs : List Loc} {ls : Array Slot} (hW : Wd cellM 13 G s.heap σ H locs) (hl : lv_has ls 4 [(0, .ref (aD G 0)), (1, .int v1)]) : W p l e rX9_readPart s m args below meth c H locs 0 0 (MQ below (XQv cellM 13 G res) args s 0 0 (gA 13 G)) (F0 m 0 ls []) := by
  unfold fX9_readPart at h
  refine lv_iload_n C0.1 C0.2.1 dX9_readPart_0 rfl (lv_at hl 1 rfl) ?_
  refine lv_bipush (v := (70 : Int32)) C0.1 C0.2.1 dX9_readPart_1 (by decide) ?_
  refine lv_icmp_ne (tgt := 64) C0.1 C0.2.1 dX9_readPart_3 (by decide) (fun c21 => ?_) (fun c21 => ?_)
  · rw [if_neg c21] at h
    exact wX9_readPart_64 C0 G0 hJ z σ v1 _ h hW (lv_sub hl [0, 1] rfl)
  · rw [if_pos c21] at h
    refine lv_aload_n C0.1 C0.2.1 dX9_readPart_6 rfl (lv_at hl 0 rfl) ?_
    obtain ⟨u22, hu22, h⟩ := bd_some h
    refine x_ki (r := u22) (x_runV (As := []) (rest := []) C0 G0 hW (cX9_isCellLeft_met l hJ z σ _ hu22) (cwV 0 C0.2.2.2.1 gX9_readPart_X9_isCellLeft rfl rfl rfl hdvX9_isCellLeft ⟨Nat.le_of_ble_eq_true rfl, Nat.le_of_ble_eq_true rfl⟩) cM_0 (by decide) rfl rfl rfl hl (Nat.le_of_ble_eq_true rfl) dX9_readPart_7 ⟨Nat.le_refl 0, Nat.le_refl 0⟩) hW (fun H locs hW => ?_)
    refine lv_if_eq (tgt := 64) C0.1 C0.2.1 dX9_readPart_10 (by decide) (fun c23 => ?_) (fun c23 => ?_)
    · rw [if_pos c23] at h
      exact wX9_readPart_64 C0 G0 hJ z σ v1 _ h hW (lv_sub hl [0, 1] rfl)
    · rw [if_neg c23] at h
      refine lv_aload_n C0.1 C0.2.1 dX9_readPart_13 rfl (lv_at hl 0 rfl) ?_
      refine lv_dup C0.1 C0.2.1 dX9_readPart_14 rfl ?_
      refine x_get (v := .int (σ.1 0 18)) C0 G0 hW cM_0 (by decide) rfl 18 (by decide) inX9_readPart_X9 lkX9_readPart_64 rfl dX9_readPart_15 ?_
      refine lv_iconst (v := (1 : Int32)) C0.1 C0.2.1 dX9_readPart_18 (by decide) ?_
      refine lv_iadd C0.1 C0.2.1 dX9_readPart_19 ?_
      refine x_putI (v := ((σ.1 0 18) + (1 : Int32))) C0 G0 hJ hW cM_0 (by decide) rfl 18 (by decide) inX9_readPart_X9 lkX9_readPart_64 tyX9 tyX9_ok nmX9 rfl rfl rfl (Nat.le_of_ble_eq_true rfl) hu_X9_18 dX9_readPart_20 (fun H locs hW => ?_)
      obtain ⟨s24, es24, h⟩ := lt_some h
      rw [es24] at hW
      refine lv_aload_n C0.1 C0.2.1 dX9_readPart_23 rfl (lv_at hl 0 rfl) ?_
      obtain ⟨u25, hu25, h⟩ := bd_some h
      refine x_ki (r := u25.1) (x_runV (As := []) (rest := []) C0 G0 hW (cX9_freshCell_met l hJ z s24 _ hu25) (cwV 0 C0.2.2.2.1 gX9_readPart_X9_freshCell rfl rfl rfl hdvX9_freshCell ⟨Nat.le_of_ble_eq_true rfl, Nat.le_of_ble_eq_true rfl⟩) cM_0 (by decide) rfl rfl rfl hl (Nat.le_of_ble_eq_true rfl) dX9_readPart_24 ⟨Nat.le_refl 0, Nat.le_refl 0⟩) hW (fun H locs hW => ?_)
      refine lv_istore_n (lv' := [(2, .int u25.1), (0, .ref (aD G 0)), (1, .int v1)]) C0.1 C0.2.1 dX9_readPart_27 rfl hl (by decide) rfl (fun ls hl => ?_)
      refine lv_aload_n C0.1 C0.2.1 dX9_readPart_28 rfl (lv_at hl 1 rfl) ?_
      refine lv_iconst (v := (1 : Int32)) C0.1 C0.2.1 dX9_readPart_29 (by decide) ?_
      refine lv_bipush (v := (9 : Int32)) C0.1 C0.2.1 dX9_readPart_30 (by decide) ?_
      obtain ⟨u26, hu26, h⟩ := bd_some h
      refine x_ki (r := u26.1) (x_runV (As := [.int (1 : Int32), .int (9 : Int32)]) (rest := []) C0 G0 hW (cX9_figure_met l hJ z u25.2 (1 : Int32) (9 : Int32) _ hu26) (cwV 2 C0.2.2.2.1 gX9_readPart_X9_figure rfl rfl rfl hdvX9_figure ⟨Nat.le_of_ble_eq_true rfl, Nat.le_of_ble_eq_true rfl⟩) cM_0 (by decide) rfl rfl rfl hl (Nat.le_of_ble_eq_true rfl) dX9_readPart_32 ⟨Nat.le_refl 0, Nat.le_refl 0⟩) hW (fun H locs hW => ?_)
      refine lv_istore_n (lv' := [(3, .int u26.1), (2, .int u25.1), (0, .ref (aD G 0)), (1, .int v1)]) C0.1 C0.2.1 dX9_readPart_35 rfl hl (by decide) rfl (fun ls hl => ?_)
      refine lv_aload_n C0.1 C0.2.1 dX9_readPart_36 rfl (lv_at hl 2 rfl) ?_
      refine x_get (v := .ref (aD G 3)) C0 G0 hW cM_0 (by decide) rfl 11 (by decide) inX9_readPart_X9 lkX9_readPart_16 rfl dX9_readPart_37 ?_
      refine lv_iload_n C0.1 C0.2.1 dX9_readPart_40 rfl (lv_at hl 1 rfl) ?_
      refine lv_aload_n C0.1 C0.2.1 dX9_readPart_41 rfl (lv_at hl 2 rfl) ?_
      refine x_get (v := .int (u26.2.1 0 19)) C0 G0 hW cM_0 (by decide) rfl 19 (by decide) inX9_readPart_X9 lkX9_readPart_61 rfl dX9_readPart_42 ?_
      refine lv_bipush (v := (-9 : Int32)) C0.1 C0.2.1 dX9_readPart_45 (by decide) ?_
      refine lv_icmp_ne (tgt := 54) C0.1 C0.2.1 dX9_readPart_47 (by decide) (fun c27 => ?_) (fun c27 => ?_)
      · rw [if_neg c27] at h
        refine lv_aload_n C0.1 C0.2.1 dX9_readPart_54 rfl (lv_at hl 2 rfl) ?_
        refine x_get (v := .ref (aD G 3)) C0 G0 hW cM_0 (by decide) rfl 11 (by decide) inX9_readPart_X9 lkX9_readPart_16 rfl dX9_readPart_55 ?_
        refine lv_iload_n C0.1 C0.2.1 dX9_readPart_58 rfl (lv_at hl 1 rfl) ?_
        obtain ⟨g28, h⟩ := gd_some h
        refine x_iald C0 G0 hW cM_3 (by decide) g28 dX9_readPart_59 ?_
        exact wX9_readPart_60 C0 G0 hJ z u26.2 (u26.2.1 3 (u25.1).toNatClampNeg) u25.1 _ h hW (lv_sub hl [] rfl)
      · rw [if_pos c27] at h
        refine lv_iload_n C0.1 C0.2.1 dX9_readPart_50 rfl (lv_at hl 0 rfl) ?_
        refine lv_goto (tgt := 60) C0.1 C0.2.1 dX9_readPart_51 (by decide) ?_
        exact wX9_readPart_60 C0 G0 hJ z u26.2 u26.1 u25.1 _ h hW (lv_sub hl [] rfl)
theorem cX9_readPart_met (l : Launch) {G : GT} (hJ : gJ 13 G) (z : Nat) (σ : ST) (v1 : Int32) (res : ST) (h : fX9_readPart z σ v1 = some res) : Met l yX9_readPart wsX9_readPart rX9_readPart (XPc cellM 13 G σ [.ref (aD G 0), .int v1]) (XQv cellM 13 G res) 0 0 (gA 13 G) :=
  x_met (ret := none) (maxL := 4) (by decide) rfl (Nat.le_of_ble_eq_true rfl) (fun p e s m args below meth c H locs ls C0 G0 hW hl => wX9_readPart C0 G0 hJ z σ v1 res h hW hl)
end
/-! X9_readText -/
def rX9_readText : Room := { frames := 3, cells := 0, slots := 0, locals := 71 }
theorem hdvX9_readText : yX9_readText.cls = RX9 ∧ yX9_readText.cls ≠ "java/lang/invoke/MethodHandle" ∧ yX9_readText.cls ≠ "java/lang/invoke/VarHandle" ∧ (parseMethodDescriptor yX9_readText.desc).map (fun d => d.parameters.length) = some 0 := by decide +kernel
theorem inX9_readText_X9 : ∀ w ∈ u_ws RX9 TX9 29, w ∈ wsX9_readText := by decide +kernel
theorem lkX9_readText_64 : Cond.fieldLink RX9 64 (TX9 18).1 (TX9 18).2.1 (TX9 18).2.2.1 ∈ wsX9_readText := by decide +kernel
theorem lkX9_readText_61 : Cond.fieldLink RX9 61 (TX9 19).1 (TX9 19).2.1 (TX9 19).2.2.1 ∈ wsX9_readText := by decide +kernel
theorem lkX9_readText_69 : Cond.fieldLink RX9 69 (TX9 12).1 (TX9 12).2.1 (TX9 12).2.2.1 ∈ wsX9_readText := by decide +kernel
theorem lkX9_readText_58 : Cond.fieldLink RX9 58 (TX9 17).1 (TX9 17).2.1 (TX9 17).2.2.1 ∈ wsX9_readText := by decide +kernel
theorem lkX9_readText_26 : Cond.fieldLink RX9 26 (TX9 16).1 (TX9 16).2.1 (TX9 16).2.2.1 ∈ wsX9_readText := by decide +kernel
theorem lkX9_readText_13 : Cond.fieldLink RX9 13 (TX9 10).1 (TX9 10).2.1 (TX9 10).2.2.1 ∈ wsX9_readText := by decide +kernel
theorem lkX9_readText_16 : Cond.fieldLink RX9 16 (TX9 11).1 (TX9 11).2.1 (TX9 11).2.2.1 ∈ wsX9_readText := by decide +kernel
def fX9_readText_199 (z : Nat) (σ : ST) : Option (Int32 × ST) := some ((σ.1 0 19), σ)
def fX9_readText_163 (z : Nat) : Nat → ST → Option (Int32 × ST)
  | 0 => fun _ => none
  | n + 1 => fun σ => (if (σ.1 0 19) = (-9 : Int32) then (if (σ.1 0 17) ≤ (σ.1 0 18) then fX9_readText_199 z σ else gd (inb (σ.1 0 18) 40) ( bd (fX9_readPart z σ (σ.1 6 ((σ.1 0 18)).toNatClampNeg)) (fun u55 => (fX9_readText_163 z n) u55))) else fX9_readText_199 z σ)
def fX9_readText_106 (z : Nat) (σ : ST) (t0 : Int32) (t1 : Int32) (t3 : Int32) : Option (Int32 × ST) := bd (fX9_figure z σ t1 t0) (fun u37 => gd (inb t3 7) ( lt (pI u37.2 2 (t3).toNatClampNeg u37.1) (fun s39 => bd (fX9_figure z s39 (0 : Int32) (9 : Int32)) (fun u40 => gd (inb (3 : Int32) 7) ( lt (pI u40.2 2 ((3 : Int32)).toNatClampNeg u40.1) (fun s42 => bd (fX9_figure z s42 (0 : Int32) (9 : Int32)) (fun u43 => gd (inb (4 : Int32) 7) ( lt (pI u43.2 2 ((4 : Int32)).toNatClampNeg u43.1) (fun s45 => bd (fX9_figure z s45 (0 : Int32) (9 : Int32)) (fun u46 => gd (inb (5 : Int32) 7) ( lt (pI u46.2 2 ((5 : Int32)).toNatClampNeg u46.1) (fun s48 => bd (fX9_figure z s48 (1 : Int32) (6 : Int32)) (fun u49 => gd (inb (6 : Int32) 7) ( lt (pI u49.2 2 ((6 : Int32)).toNatClampNeg u49.1) (fun s51 => fX9_readText_163 z z s51)))))))))))))))
def fX9_readText_56 (z : Nat) (σ : ST) : Option (Int32 × ST) := some ((0 : Int32), σ)
def fX9_readText_19 (z : Nat) : Nat → ST → Int32 → Option (Int32 × ST)
  | 0 => fun _ _ => none
  | n + 1 => fun σ v1 => (if (11 : Int32) ≤ v1 then (if (σ.1 0 17) = 0 then fX9_readText_56 z σ else gd (inb (0 : Int32) 40) ( (if (σ.1 6 ((0 : Int32)).toNatClampNeg) = (83 : Int32) then lt (pI σ 0 18 (1 : Int32)) (fun s28 => bd (fX9_figure z s28 (0 : Int32) (9 : Int32)) (fun u29 => gd (inb (1 : Int32) 7) ( lt (pI u29.2 2 ((1 : Int32)).toNatClampNeg u29.1) (fun s31 => gd (inb (1 : Int32) 7) ( (if (s31.1 2 ((1 : Int32)).toNatClampNeg) = 0 then fX9_readText_106 z s31 (9 : Int32) (0 : Int32) (2 : Int32) else gd (inb (1 : Int32) 7) ( fX9_readText_106 z s31 ((10 : Int32) - (s31.1 2 ((1 : Int32)).toNatClampNeg)) (0 : Int32) (2 : Int32)))))))) else fX9_readText_56 z σ))) else gd (inb v1 11) ( lt (pI σ 3 (v1).toNatClampNeg (0 : Int32)) (fun s36 => (fX9_readText_19 z n) s36 (v1 + 1))))
def fX9_readText (z : Nat) (σ : ST) : Option (Int32 × ST) := lt (pI σ 0 18 (0 : Int32)) (fun s21 => lt (pI s21 0 19 (-9 : Int32)) (fun s22 => lt (pI s22 0 12 (-9 : Int32)) (fun s23 => fX9_readText_19 z z s23 (0 : Int32))))
section
variable {p : Program} {l : Launch} {e : Env} {s : State} {m : MethodId} {args : Array Value} {below : List Frame} {meth : Method} {c : Code} {G : GT}
set_option maxHeartbeats 4000000 in
set_option maxRecDepth 100000 in
theorem wX9_readText_199 (C0 : Cx p s m args meth c cX9_readText RX9 2 (some .int) wsX9_readText) (G0 : Gx G s) (hJ : gJ 13 G) (z : Nat) (σ : ST) (res : (Int32 × ST)) (h : fX9_readText_199 z σ = some res)  {H : Heap} {locs : List Loc} {ls : Array Slot} (hW : Wd cellM 13 G s.heap σ H locs) (hl : lv_has ls 2 [(0, .ref (aD G 0))]) : W p l e rX9_readText s m args below meth c H locs 0 0 (MQ below (XQi cellM 13 G res.1 res.2) args s 0 0 (gA 13 G)) (F0 m 199 ls []) := by
  unfold fX9_readText_199 at h
  refine lv_aload_n C0.1 C0.2.1 dX9_readText_199 rfl (lv_at hl 0 rfl) ?_
  refine x_get (v := .int (σ.1 0 19)) C0 G0 hW cM_0 (by decide) rfl 19 (by decide) inX9_readText_X9 lkX9_readText_61 rfl dX9_readText_200 ?_
  cases h
  exact x_iret C0 hW dX9_readText_203
set_option maxHeartbeats 4000000 in
set_option maxRecDepth 100000 in
theorem wX9_readText_163 (C0 : Cx p s m args meth c cX9_readText RX9 2 (some .int) wsX9_readText) (G0 : Gx G s) (hJ : gJ 13 G) (z : Nat) (n : Nat) (σ : ST) (res : (Int32 × ST)) (h : fX9_readText_163 z n σ = some res)  {H : Heap} {locs : List Loc} {ls : Array Slot} (hW : Wd cellM 13 G s.heap σ H locs) (hl : lv_has ls 2 [(0, .ref (aD G 0))]) : W p l e rX9_readText s m args below meth c H locs 0 0 (MQ below (XQi cellM 13 G res.1 res.2) args s 0 0 (gA 13 G)) (F0 m 163 ls []) := by
  induction n generalizing σ H locs ls with
  | zero => cases h
  | succ n ih =>
    have hr163 : ∀ (σ : ST), fX9_readText_163 z n σ = some res → ∀ (H : Heap) (locs : List Loc) (ls : Array Slot), Wd cellM 13 G s.heap σ H locs → lv_has ls 2 [(0, .ref (aD G 0))] → W p l e rX9_readText s m args below meth c H locs 0 0 (MQ below (XQi cellM 13 G res.1 res.2) args s 0 0 (gA 13 G)) (F0 m 163 ls []) := fun σ h H locs ls hW hl => ih σ h hW hl
    clear ih
    unfold fX9_readText_163 at h
    refine lv_aload_n C0.1 C0.2.1 dX9_readText_163 rfl (lv_at hl 0 rfl) ?_
    refine x_get (v := .int (σ.1 0 19)) C0 G0 hW cM_0 (by decide) rfl 19 (by decide) inX9_readText_X9 lkX9_readText_61 rfl dX9_readText_164 ?_
    refine lv_bipush (v := (-9 : Int32)) C0.1 C0.2.1 dX9_readText_167 (by decide) ?_
    refine lv_icmp_ne (tgt := 199) C0.1 C0.2.1 dX9_readText_169 (by decide) (fun c52 => ?_) (fun c52 => ?_)
    · rw [if_neg c52] at h
      exact wX9_readText_199 C0 G0 hJ z σ _ h hW (lv_sub hl [0] rfl)
    · rw [if_pos c52] at h
      refine lv_aload_n C0.1 C0.2.1 dX9_readText_172 rfl (lv_at hl 0 rfl) ?_
      refine x_get (v := .int (σ.1 0 18)) C0 G0 hW cM_0 (by decide) rfl 18 (by decide) inX9_readText_X9 lkX9_readText_64 rfl dX9_readText_173 ?_
      refine lv_aload_n C0.1 C0.2.1 dX9_readText_176 rfl (lv_at hl 0 rfl) ?_
      refine x_get (v := .int (σ.1 0 17)) C0 G0 hW cM_0 (by decide) rfl 17 (by decide) inX9_readText_X9 lkX9_readText_58 rfl dX9_readText_177 ?_
      refine lv_icmp_ge (tgt := 199) C0.1 C0.2.1 dX9_readText_180 (by decide) (fun c53 => ?_) (fun c53 => ?_)
      · rw [if_pos c53] at h
        exact wX9_readText_199 C0 G0 hJ z σ _ h hW (lv_sub hl [0] rfl)
      · rw [if_neg c53] at h
        refine lv_aload_n C0.1 C0.2.1 dX9_readText_183 rfl (lv_at hl 0 rfl) ?_
        refine lv_aload_n C0.1 C0.2.1 dX9_readText_184 rfl (lv_at hl 0 rfl) ?_
        refine x_get (v := .ref (aD G 6)) C0 G0 hW cM_0 (by decide) rfl 16 (by decide) inX9_readText_X9 lkX9_readText_26 rfl dX9_readText_185 ?_
        refine lv_aload_n C0.1 C0.2.1 dX9_readText_188 rfl (lv_at hl 0 rfl) ?_
        refine x_get (v := .int (σ.1 0 18)) C0 G0 hW cM_0 (by decide) rfl 18 (by decide) inX9_readText_X9 lkX9_readText_64 rfl dX9_readText_189 ?_
        obtain ⟨g54, h⟩ := gd_some h
        refine x_iald C0 G0 hW cM_6 (by decide) g54 dX9_readText_192 ?_
        obtain ⟨u55, hu55, h⟩ := bd_some h
        refine x_kv (x_runV (As := [.int (σ.1 6 ((σ.1 0 18)).toNatClampNeg)]) (rest := []) C0 G0 hW (cX9_readPart_met l hJ z σ (σ.1 6 ((σ.1 0 18)).toNatClampNeg) _ hu55) (cwV 1 C0.2.2.2.1 gX9_readText_X9_readPart rfl rfl rfl hdvX9_readPart ⟨Nat.le_of_ble_eq_true rfl, Nat.le_of_ble_eq_true rfl⟩) cM_0 (by decide) rfl rfl rfl hl (Nat.le_of_ble_eq_true rfl) dX9_readText_193 ⟨Nat.le_refl 0, Nat.le_refl 0⟩) hW (fun H locs hW => ?_)
        refine lv_goto (tgt := 163) C0.1 C0.2.1 dX9_readText_196 (by decide) ?_
        exact hr163 u55 h _ _ _ hW (lv_sub hl [0] rfl)
set_option maxHeartbeats 4000000 in
set_option maxRecDepth 100000 in
theorem wX9_readText_106 (C0 : Cx p s m args meth c cX9_readText RX9 2 (some .int) wsX9_readText) (G0 : Gx G s) (hJ : gJ 13 G) (z : Nat) (σ : ST) (t0 : Int32) (t1 : Int32) (t3 : Int32) (res : (Int32 × ST)) (h : fX9_readText_106 z σ t0 t1 t3 = some res)  {H : Heap} {locs : List Loc} {ls : Array Slot} (hW : Wd cellM 13 G s.heap σ H locs) (hl : lv_has ls 2 [(0, .ref (aD G 0))]) : W p l e rX9_readText s m args below meth c H locs 0 0 (MQ below (XQi cellM 13 G res.1 res.2) args s 0 0 (gA 13 G)) (F0 m 106 ls [.int t0, .int t1, .ref (aD G 0), .int t3, .ref (aD G 2)]) := by
  unfold fX9_readText_106 at h
  obtain ⟨u37, hu37, h⟩ := bd_some h
  refine x_ki (r := u37.1) (x_runV (As := [.int t1, .int t0]) (rest := [.int t3, .ref (aD G 2)]) C0 G0 hW (cX9_figure_met l hJ z σ t1 t0 _ hu37) (cwV 2 C0.2.2.2.1 gX9_readText_X9_figure rfl rfl rfl hdvX9_figure ⟨Nat.le_of_ble_eq_true rfl, Nat.le_of_ble_eq_true rfl⟩) cM_0 (by decide) rfl rfl rfl hl (Nat.le_of_ble_eq_true rfl) dX9_readText_106 ⟨Nat.le_refl 0, Nat.le_refl 0⟩) hW (fun H locs hW => ?_)
  obtain ⟨g38, h⟩ := gd_some h
  refine x_iast C0 G0 hJ hW (fun f g => cM_2) (by decide) g38 dX9_readText_109 (fun H locs hW => ?_)
  obtain ⟨s39, es39, h⟩ := lt_some h
  rw [es39] at hW
  refine lv_aload_n C0.1 C0.2.1 dX9_readText_110 rfl (lv_at hl 0 rfl) ?_
  refine x_get (v := .ref (aD G 2)) C0 G0 hW cM_0 (by decide) rfl 10 (by decide) inX9_readText_X9 lkX9_readText_13 rfl dX9_readText_111 ?_
  refine lv_iconst (v := (3 : Int32)) C0.1 C0.2.1 dX9_readText_114 (by decide) ?_
  refine lv_aload_n C0.1 C0.2.1 dX9_readText_115 rfl (lv_at hl 0 rfl) ?_
  refine lv_iconst (v := (0 : Int32)) C0.1 C0.2.1 dX9_readText_116 (by decide) ?_
  refine lv_bipush (v := (9 : Int32)) C0.1 C0.2.1 dX9_readText_117 (by decide) ?_
  obtain ⟨u40, hu40, h⟩ := bd_some h
  refine x_ki (r := u40.1) (x_runV (As := [.int (0 : Int32), .int (9 : Int32)]) (rest := [.int (3 : Int32), .ref (aD G 2)]) C0 G0 hW (cX9_figure_met l hJ z s39 (0 : Int32) (9 : Int32) _ hu40) (cwV 2 C0.2.2.2.1 gX9_readText_X9_figure rfl rfl rfl hdvX9_figure ⟨Nat.le_of_ble_eq_true rfl, Nat.le_of_ble_eq_true rfl⟩) cM_0 (by decide) rfl rfl rfl hl (Nat.le_of_ble_eq_true rfl) dX9_readText_119 ⟨Nat.le_refl 0, Nat.le_refl 0⟩) hW (fun H locs hW => ?_)
  obtain ⟨g41, h⟩ := gd_some h
  refine x_iast C0 G0 hJ hW (fun f g => cM_2) (by decide) g41 dX9_readText_122 (fun H locs hW => ?_)
  obtain ⟨s42, es42, h⟩ := lt_some h
  rw [es42] at hW
  refine lv_aload_n C0.1 C0.2.1 dX9_readText_123 rfl (lv_at hl 0 rfl) ?_
  refine x_get (v := .ref (aD G 2)) C0 G0 hW cM_0 (by decide) rfl 10 (by decide) inX9_readText_X9 lkX9_readText_13 rfl dX9_readText_124 ?_
  refine lv_iconst (v := (4 : Int32)) C0.1 C0.2.1 dX9_readText_127 (by decide) ?_
  refine lv_aload_n C0.1 C0.2.1 dX9_readText_128 rfl (lv_at hl 0 rfl) ?_
  refine lv_iconst (v := (0 : Int32)) C0.1 C0.2.1 dX9_readText_129 (by decide) ?_
  refine lv_bipush (v := (9 : Int32)) C0.1 C0.2.1 dX9_readText_130 (by decide) ?_
  obtain ⟨u43, hu43, h⟩ := bd_some h
  refine x_ki (r := u43.1) (x_runV (As := [.int (0 : Int32), .int (9 : Int32)]) (rest := [.int (4 : Int32), .ref (aD G 2)]) C0 G0 hW (cX9_figure_met l hJ z s42 (0 : Int32) (9 : Int32) _ hu43) (cwV 2 C0.2.2.2.1 gX9_readText_X9_figure rfl rfl rfl hdvX9_figure ⟨Nat.le_of_ble_eq_true rfl, Nat.le_of_ble_eq_true rfl⟩) cM_0 (by decide) rfl rfl rfl hl (Nat.le_of_ble_eq_true rfl) dX9_readText_132 ⟨Nat.le_refl 0, Nat.le_refl 0⟩) hW (fun H locs hW => ?_)
  obtain ⟨g44, h⟩ := gd_some h
  refine x_iast C0 G0 hJ hW (fun f g => cM_2) (by decide) g44 dX9_readText_135 (fun H locs hW => ?_)
  obtain ⟨s45, es45, h⟩ := lt_some h
  rw [es45] at hW
  refine lv_aload_n C0.1 C0.2.1 dX9_readText_136 rfl (lv_at hl 0 rfl) ?_
  refine x_get (v := .ref (aD G 2)) C0 G0 hW cM_0 (by decide) rfl 10 (by decide) inX9_readText_X9 lkX9_readText_13 rfl dX9_readText_137 ?_
  refine lv_iconst (v := (5 : Int32)) C0.1 C0.2.1 dX9_readText_140 (by decide) ?_
  refine lv_aload_n C0.1 C0.2.1 dX9_readText_141 rfl (lv_at hl 0 rfl) ?_
  refine lv_iconst (v := (0 : Int32)) C0.1 C0.2.1 dX9_readText_142 (by decide) ?_
  refine lv_bipush (v := (9 : Int32)) C0.1 C0.2.1 dX9_readText_143 (by decide) ?_
  obtain ⟨u46, hu46, h⟩ := bd_some h
  refine x_ki (r := u46.1) (x_runV (As := [.int (0 : Int32), .int (9 : Int32)]) (rest := [.int (5 : Int32), .ref (aD G 2)]) C0 G0 hW (cX9_figure_met l hJ z s45 (0 : Int32) (9 : Int32) _ hu46) (cwV 2 C0.2.2.2.1 gX9_readText_X9_figure rfl rfl rfl hdvX9_figure ⟨Nat.le_of_ble_eq_true rfl, Nat.le_of_ble_eq_true rfl⟩) cM_0 (by decide) rfl rfl rfl hl (Nat.le_of_ble_eq_true rfl) dX9_readText_145 ⟨Nat.le_refl 0, Nat.le_refl 0⟩) hW (fun H locs hW => ?_)
  obtain ⟨g47, h⟩ := gd_some h
  refine x_iast C0 G0 hJ hW (fun f g => cM_2) (by decide) g47 dX9_readText_148 (fun H locs hW => ?_)
  obtain ⟨s48, es48, h⟩ := lt_some h
  rw [es48] at hW
  refine lv_aload_n C0.1 C0.2.1 dX9_readText_149 rfl (lv_at hl 0 rfl) ?_
  refine x_get (v := .ref (aD G 2)) C0 G0 hW cM_0 (by decide) rfl 10 (by decide) inX9_readText_X9 lkX9_readText_13 rfl dX9_readText_150 ?_
  refine lv_bipush (v := (6 : Int32)) C0.1 C0.2.1 dX9_readText_153 (by decide) ?_
  refine lv_aload_n C0.1 C0.2.1 dX9_readText_155 rfl (lv_at hl 0 rfl) ?_
  refine lv_iconst (v := (1 : Int32)) C0.1 C0.2.1 dX9_readText_156 (by decide) ?_
  refine lv_bipush (v := (6 : Int32)) C0.1 C0.2.1 dX9_readText_157 (by decide) ?_
  obtain ⟨u49, hu49, h⟩ := bd_some h
  refine x_ki (r := u49.1) (x_runV (As := [.int (1 : Int32), .int (6 : Int32)]) (rest := [.int (6 : Int32), .ref (aD G 2)]) C0 G0 hW (cX9_figure_met l hJ z s48 (1 : Int32) (6 : Int32) _ hu49) (cwV 2 C0.2.2.2.1 gX9_readText_X9_figure rfl rfl rfl hdvX9_figure ⟨Nat.le_of_ble_eq_true rfl, Nat.le_of_ble_eq_true rfl⟩) cM_0 (by decide) rfl rfl rfl hl (Nat.le_of_ble_eq_true rfl) dX9_readText_159 ⟨Nat.le_refl 0, Nat.le_refl 0⟩) hW (fun H locs hW => ?_)
  obtain ⟨g50, h⟩ := gd_some h
  refine x_iast C0 G0 hJ hW (fun f g => cM_2) (by decide) g50 dX9_readText_162 (fun H locs hW => ?_)
  obtain ⟨s51, es51, h⟩ := lt_some h
  rw [es51] at hW
  exact wX9_readText_163 C0 G0 hJ z z s51 _ h hW (lv_sub hl [0] rfl)
set_option maxHeartbeats 4000000 in
set_option maxRecDepth 100000 in
theorem wX9_readText_56 (C0 : Cx p s m args meth c cX9_readText RX9 2 (some .int) wsX9_readText) (G0 : Gx G s) (hJ : gJ 13 G) (z : Nat) (σ : ST) (res : (Int32 × ST)) (h : fX9_readText_56 z σ = some res)  {H : Heap} {locs : List Loc} {ls : Array Slot} (hW : Wd cellM 13 G s.heap σ H locs) (hl : lv_has ls 2 []) : W p l e rX9_readText s m args below meth c H locs 0 0 (MQ below (XQi cellM 13 G res.1 res.2) args s 0 0 (gA 13 G)) (F0 m 56 ls []) := by
  unfold fX9_readText_56 at h
  refine lv_iconst (v := (0 : Int32)) C0.1 C0.2.1 dX9_readText_56 (by decide) ?_
  cases h
  exact x_iret C0 hW dX9_readText_57
set_option maxHeartbeats 4000000 in
set_option maxRecDepth 100000 in
theorem wX9_readText_19 (C0 : Cx p s m args meth c cX9_readText RX9 2 (some .int) wsX9_readText) (G0 : Gx G s) (hJ : gJ 13 G) (z : Nat) (n : Nat) (σ : ST) (v1 : Int32) (res : (Int32 × ST)) (h : fX9_readText_19 z n σ v1 = some res)  {H : Heap} {locs : List Loc} {ls : Array Slot} (hW : Wd cellM 13 G s.heap σ H locs) (hl : lv_has ls 2 [(0, .ref (aD G 0)), (1, .int v1)]) : W p l e rX9_readText s m args below meth c H locs 0 0 (MQ below (XQi cellM 13 G res.1 res.2) args s 0 0 (gA 13 G)) (F0 m 19 ls []) := by
  induction n generalizing σ v1 H locs ls with
  | zero => cases h
  | succ n ih =>
    have hr19 : ∀ (σ : ST) (v1 : Int32), fX9_readText_19 z n σ v1 = some res → ∀ (H : Heap) (locs : List Loc) (ls : Array Slot), Wd cellM 13 G s.heap σ H locs → lv_has ls 2 [(0, .ref (aD G 0)), (1, .int v1)] → W p l e rX9_readText s m args below meth c H locs 0 0 (MQ below (XQi cellM 13 G res.1 res.2) args s 0 0 (gA 13 G)) (F0 m 19 ls []) := fun σ v1 h H locs ls hW hl => ih σ v1 h hW hl
    clear ih
    unfold fX9_readText_19 at h
    refine lv_iload_n C0.1 C0.2.1 dX9_readText_19 rfl (lv_at hl 1 rfl) ?_
    refine lv_bipush (v := (11 : Int32)) C0.1 C0.2.1 dX9_readText_20 (by decide) ?_
    refine lv_icmp_ge (tgt := 38) C0.1 C0.2.1 dX9_readText_22 (by decide) (fun c24 => ?_) (fun c24 => ?_)
    · rw [if_pos c24] at h
      refine lv_aload_n C0.1 C0.2.1 dX9_readText_38 rfl (lv_at hl 0 rfl) ?_
      refine x_get (v := .int (σ.1 0 17)) C0 G0 hW cM_0 (by decide) rfl 17 (by decide) inX9_readText_X9 lkX9_readText_58 rfl dX9_readText_39 ?_
      refine lv_if_eq (tgt := 56) C0.1 C0.2.1 dX9_readText_42 (by decide) (fun c25 => ?_) (fun c25 => ?_)
      · rw [if_pos c25] at h
        exact wX9_readText_56 C0 G0 hJ z σ _ h hW (lv_sub hl [] rfl)
      · rw [if_neg c25] at h
        refine lv_aload_n C0.1 C0.2.1 dX9_readText_45 rfl (lv_at hl 0 rfl) ?_
        refine x_get (v := .ref (aD G 6)) C0 G0 hW cM_0 (by decide) rfl 16 (by decide) inX9_readText_X9 lkX9_readText_26 rfl dX9_readText_46 ?_
        refine lv_iconst (v := (0 : Int32)) C0.1 C0.2.1 dX9_readText_49 (by decide) ?_
        obtain ⟨g26, h⟩ := gd_some h
        refine x_iald C0 G0 hW cM_6 (by decide) g26 dX9_readText_50 ?_
        refine lv_bipush (v := (83 : Int32)) C0.1 C0.2.1 dX9_readText_51 (by decide) ?_
        refine lv_icmp_eq (tgt := 58) C0.1 C0.2.1 dX9_readText_53 (by decide) (fun c27 => ?_) (fun c27 => ?_)
        · rw [if_pos c27] at h
          refine lv_aload_n C0.1 C0.2.1 dX9_readText_58 rfl (lv_at hl 0 rfl) ?_
          refine lv_iconst (v := (1 : Int32)) C0.1 C0.2.1 dX9_readText_59 (by decide) ?_
          refine x_putI (v := (1 : Int32)) C0 G0 hJ hW cM_0 (by decide) rfl 18 (by decide) inX9_readText_X9 lkX9_readText_64 tyX9 tyX9_ok nmX9 rfl rfl rfl (Nat.le_of_ble_eq_true rfl) hu_X9_18 dX9_readText_60 (fun H locs hW => ?_)
          obtain ⟨s28, es28, h⟩ := lt_some h
          rw [es28] at hW
          refine lv_aload_n C0.1 C0.2.1 dX9_readText_63 rfl (lv_at hl 0 rfl) ?_
          refine x_get (v := .ref (aD G 2)) C0 G0 hW cM_0 (by decide) rfl 10 (by decide) inX9_readText_X9 lkX9_readText_13 rfl dX9_readText_64 ?_
          refine lv_iconst (v := (1 : Int32)) C0.1 C0.2.1 dX9_readText_67 (by decide) ?_
          refine lv_aload_n C0.1 C0.2.1 dX9_readText_68 rfl (lv_at hl 0 rfl) ?_
          refine lv_iconst (v := (0 : Int32)) C0.1 C0.2.1 dX9_readText_69 (by decide) ?_
          refine lv_bipush (v := (9 : Int32)) C0.1 C0.2.1 dX9_readText_70 (by decide) ?_
          obtain ⟨u29, hu29, h⟩ := bd_some h
          refine x_ki (r := u29.1) (x_runV (As := [.int (0 : Int32), .int (9 : Int32)]) (rest := [.int (1 : Int32), .ref (aD G 2)]) C0 G0 hW (cX9_figure_met l hJ z s28 (0 : Int32) (9 : Int32) _ hu29) (cwV 2 C0.2.2.2.1 gX9_readText_X9_figure rfl rfl rfl hdvX9_figure ⟨Nat.le_of_ble_eq_true rfl, Nat.le_of_ble_eq_true rfl⟩) cM_0 (by decide) rfl rfl rfl hl (Nat.le_of_ble_eq_true rfl) dX9_readText_72 ⟨Nat.le_refl 0, Nat.le_refl 0⟩) hW (fun H locs hW => ?_)
          obtain ⟨g30, h⟩ := gd_some h
          refine x_iast C0 G0 hJ hW (fun f g => cM_2) (by decide) g30 dX9_readText_75 (fun H locs hW => ?_)
          obtain ⟨s31, es31, h⟩ := lt_some h
          rw [es31] at hW
          refine lv_aload_n C0.1 C0.2.1 dX9_readText_76 rfl (lv_at hl 0 rfl) ?_
          refine x_get (v := .ref (aD G 2)) C0 G0 hW cM_0 (by decide) rfl 10 (by decide) inX9_readText_X9 lkX9_readText_13 rfl dX9_readText_77 ?_
          refine lv_iconst (v := (2 : Int32)) C0.1 C0.2.1 dX9_readText_80 (by decide) ?_
          refine lv_aload_n C0.1 C0.2.1 dX9_readText_81 rfl (lv_at hl 0 rfl) ?_
          refine lv_iconst (v := (0 : Int32)) C0.1 C0.2.1 dX9_readText_82 (by decide) ?_
          refine lv_aload_n C0.1 C0.2.1 dX9_readText_83 rfl (lv_at hl 0 rfl) ?_
          refine x_get (v := .ref (aD G 2)) C0 G0 hW cM_0 (by decide) rfl 10 (by decide) inX9_readText_X9 lkX9_readText_13 rfl dX9_readText_84 ?_
          refine lv_iconst (v := (1 : Int32)) C0.1 C0.2.1 dX9_readText_87 (by decide) ?_
          obtain ⟨g32, h⟩ := gd_some h
          refine x_iald C0 G0 hW cM_2 (by decide) g32 dX9_readText_88 ?_
          refine lv_if_ne (tgt := 97) C0.1 C0.2.1 dX9_readText_89 (by decide) (fun c33 => ?_) (fun c33 => ?_)
          · rw [if_neg c33] at h
            refine lv_bipush (v := (10 : Int32)) C0.1 C0.2.1 dX9_readText_97 (by decide) ?_
            refine lv_aload_n C0.1 C0.2.1 dX9_readText_99 rfl (lv_at hl 0 rfl) ?_
            refine x_get (v := .ref (aD G 2)) C0 G0 hW cM_0 (by decide) rfl 10 (by decide) inX9_readText_X9 lkX9_readText_13 rfl dX9_readText_100 ?_
            refine lv_iconst (v := (1 : Int32)) C0.1 C0.2.1 dX9_readText_103 (by decide) ?_
            obtain ⟨g34, h⟩ := gd_some h
            refine x_iald C0 G0 hW cM_2 (by decide) g34 dX9_readText_104 ?_
            refine lv_isub C0.1 C0.2.1 dX9_readText_105 ?_
            exact wX9_readText_106 C0 G0 hJ z s31 ((10 : Int32) - (s31.1 2 ((1 : Int32)).toNatClampNeg)) (0 : Int32) (2 : Int32) _ h hW (lv_sub hl [0] rfl)
          · rw [if_pos c33] at h
            refine lv_bipush (v := (9 : Int32)) C0.1 C0.2.1 dX9_readText_92 (by decide) ?_
            refine lv_goto (tgt := 106) C0.1 C0.2.1 dX9_readText_94 (by decide) ?_
            exact wX9_readText_106 C0 G0 hJ z s31 (9 : Int32) (0 : Int32) (2 : Int32) _ h hW (lv_sub hl [0] rfl)
        · rw [if_neg c27] at h
          exact wX9_readText_56 C0 G0 hJ z σ _ h hW (lv_sub hl [] rfl)
    · rw [if_neg c24] at h
      refine lv_aload_n C0.1 C0.2.1 dX9_readText_25 rfl (lv_at hl 0 rfl) ?_
      refine x_get (v := .ref (aD G 3)) C0 G0 hW cM_0 (by decide) rfl 11 (by decide) inX9_readText_X9 lkX9_readText_16 rfl dX9_readText_26 ?_
      refine lv_iload_n C0.1 C0.2.1 dX9_readText_29 rfl (lv_at hl 1 rfl) ?_
      refine lv_iconst (v := (0 : Int32)) C0.1 C0.2.1 dX9_readText_30 (by decide) ?_
      obtain ⟨g35, h⟩ := gd_some h
      refine x_iast C0 G0 hJ hW (fun f g => cM_3) (by decide) g35 dX9_readText_31 (fun H locs hW => ?_)
      obtain ⟨s36, es36, h⟩ := lt_some h
      rw [es36] at hW
      refine lv_iinc (v := (v1 + 1)) (lv' := [(1, .int (v1 + 1)), (0, .ref (aD G 0))]) C0.1 C0.2.1 dX9_readText_32 hl (k := 1) rfl rfl (by decide) rfl (fun ls hl => ?_)
      refine lv_goto (tgt := 19) C0.1 C0.2.1 dX9_readText_35 (by decide) ?_
      exact hr19 s36 (v1 + 1) h _ _ _ hW (lv_sub hl [1, 0] rfl)
set_option maxHeartbeats 4000000 in
set_option maxRecDepth 100000 in
theorem wX9_readText (C0 : Cx p s m args meth c cX9_readText RX9 2 (some .int) wsX9_readText) (G0 : Gx G s) (hJ : gJ 13 G) (z : Nat) (σ : ST) (res : (Int32 × ST)) (h : fX9_readText z σ = some res)  {H : Heap} {locs : List Loc} {ls : Array Slot} (hW : Wd cellM 13 G s.heap σ H locs) (hl : lv_has ls 2 [(0, .ref (aD G 0))]) : W p l e rX9_readText s m args below meth c H locs 0 0 (MQ below (XQi cellM 13 G res.1 res.2) args s 0 0 (gA 13 G)) (F0 m 0 ls []) := by
  unfold fX9_readText at h
  refine lv_aload_n C0.1 C0.2.1 dX9_readText_0 rfl (lv_at hl 0 rfl) ?_
  refine lv_iconst (v := (0 : Int32)) C0.1 C0.2.1 dX9_readText_1 (by decide) ?_
  refine x_putI (v := (0 : Int32)) C0 G0 hJ hW cM_0 (by decide) rfl 18 (by decide) inX9_readText_X9 lkX9_readText_64 tyX9 tyX9_ok nmX9 rfl rfl rfl (Nat.le_of_ble_eq_true rfl) hu_X9_18 dX9_readText_2 (fun H locs hW => ?_)
  obtain ⟨s21, es21, h⟩ := lt_some h
  rw [es21] at hW
  refine lv_aload_n C0.1 C0.2.1 dX9_readText_5 rfl (lv_at hl 0 rfl) ?_
  refine lv_bipush (v := (-9 : Int32)) C0.1 C0.2.1 dX9_readText_6 (by decide) ?_
  refine x_putI (v := (-9 : Int32)) C0 G0 hJ hW cM_0 (by decide) rfl 19 (by decide) inX9_readText_X9 lkX9_readText_61 tyX9 tyX9_ok nmX9 rfl rfl rfl (Nat.le_of_ble_eq_true rfl) hu_X9_19 dX9_readText_8 (fun H locs hW => ?_)
  obtain ⟨s22, es22, h⟩ := lt_some h
  rw [es22] at hW
  refine lv_aload_n C0.1 C0.2.1 dX9_readText_11 rfl (lv_at hl 0 rfl) ?_
  refine lv_bipush (v := (-9 : Int32)) C0.1 C0.2.1 dX9_readText_12 (by decide) ?_
  refine x_putI (v := (-9 : Int32)) C0 G0 hJ hW cM_0 (by decide) rfl 12 (by decide) inX9_readText_X9 lkX9_readText_69 tyX9 tyX9_ok nmX9 rfl rfl rfl (Nat.le_of_ble_eq_true rfl) hu_X9_12 dX9_readText_14 (fun H locs hW => ?_)
  obtain ⟨s23, es23, h⟩ := lt_some h
  rw [es23] at hW
  refine lv_iconst (v := (0 : Int32)) C0.1 C0.2.1 dX9_readText_17 (by decide) ?_
  refine lv_istore_n (lv' := [(1, .int (0 : Int32)), (0, .ref (aD G 0))]) C0.1 C0.2.1 dX9_readText_18 rfl hl (by decide) rfl (fun ls hl => ?_)
  exact wX9_readText_19 C0 G0 hJ z z s23 (0 : Int32) _ h hW (lv_sub hl [1, 0] rfl)
theorem cX9_readText_met (l : Launch) {G : GT} (hJ : gJ 13 G) (z : Nat) (σ : ST)  (res : (Int32 × ST)) (h : fX9_readText z σ = some res) : Met l yX9_readText wsX9_readText rX9_readText (XPc cellM 13 G σ [.ref (aD G 0)]) (XQi cellM 13 G res.1 res.2) 0 0 (gA 13 G) :=
  x_met (ret := (some .int)) (maxL := 2) (by decide) rfl (Nat.le_of_ble_eq_true rfl) (fun p e s m args below meth c H locs ls C0 G0 hW hl => wX9_readText C0 G0 hJ z σ res h hW hl)
end
/-! X9_fault -/
def rX9_fault : Room := { frames := 4, cells := 0, slots := 0, locals := 92 }
theorem hdvX9_fault : yX9_fault.cls = RX9 ∧ yX9_fault.cls ≠ "java/lang/invoke/MethodHandle" ∧ yX9_fault.cls ≠ "java/lang/invoke/VarHandle" ∧ (parseMethodDescriptor yX9_fault.desc).map (fun d => d.parameters.length) = some 0 := by decide +kernel
def fX9_fault (z : Nat) (σ : ST) : Option (Int32 × ST) := bd (fX9_readText z σ) (fun u21 => some (u21.1, u21.2))
section
variable {p : Program} {l : Launch} {e : Env} {s : State} {m : MethodId} {args : Array Value} {below : List Frame} {meth : Method} {c : Code} {G : GT}
set_option maxHeartbeats 4000000 in
set_option maxRecDepth 100000 in
theorem wX9_fault (C0 : Cx p s m args meth c cX9_fault RX9 1 (some .int) wsX9_fault) (G0 : Gx G s) (hJ : gJ 13 G) (z : Nat) (σ : ST) (res : (Int32 × ST)) (h : fX9_fault z σ = some res)  {H : Heap} {locs : List Loc} {ls : Array Slot} (hW : Wd cellM 13 G s.heap σ H locs) (hl : lv_has ls 1 [(0, .ref (aD G 0))]) : W p l e rX9_fault s m args below meth c H locs 0 0 (MQ below (XQi cellM 13 G res.1 res.2) args s 0 0 (gA 13 G)) (F0 m 0 ls []) := by
  unfold fX9_fault at h
  refine lv_aload_n C0.1 C0.2.1 dX9_fault_0 rfl (lv_at hl 0 rfl) ?_
  obtain ⟨u21, hu21, h⟩ := bd_some h
  refine x_ki (r := u21.1) (x_runV (As := []) (rest := []) C0 G0 hW (cX9_readText_met l hJ z σ _ hu21) (cwV 0 C0.2.2.2.1 gX9_fault_X9_readText rfl rfl rfl hdvX9_readText ⟨Nat.le_of_ble_eq_true rfl, Nat.le_of_ble_eq_true rfl⟩) cM_0 (by decide) rfl rfl rfl hl (Nat.le_of_ble_eq_true rfl) dX9_fault_1 ⟨Nat.le_refl 0, Nat.le_refl 0⟩) hW (fun H locs hW => ?_)
  cases h
  exact x_iret C0 hW dX9_fault_4
theorem cX9_fault_met (l : Launch) {G : GT} (hJ : gJ 13 G) (z : Nat) (σ : ST)  (res : (Int32 × ST)) (h : fX9_fault z σ = some res) : Met l yX9_fault wsX9_fault rX9_fault (XPc cellM 13 G σ [.ref (aD G 0)]) (XQi cellM 13 G res.1 res.2) 0 0 (gA 13 G) :=
  x_met (ret := (some .int)) (maxL := 1) (by decide) rfl (Nat.le_of_ble_eq_true rfl) (fun p e s m args below meth c H locs ls C0 G0 hW hl => wX9_fault C0 G0 hJ z σ res h hW hl)
end
/-! X9_first -/
def rX9_first : Room := { frames := 4, cells := 0, slots := 0, locals := 102 }
theorem hdvX9_first : yX9_first.cls = RX9 ∧ yX9_first.cls ≠ "java/lang/invoke/MethodHandle" ∧ yX9_first.cls ≠ "java/lang/invoke/VarHandle" ∧ (parseMethodDescriptor yX9_first.desc).map (fun d => d.parameters.length) = some 2 := by decide +kernel
theorem kcX9_first_161 : Cond.constantLong RX9 161 (4 : Int64) ∈ wsX9_first := by decide +kernel
theorem kcX9_first_155 : Cond.constantLong RX9 155 (-3 : Int64) ∈ wsX9_first := by decide +kernel
theorem kcX9_first_149 : Cond.constantLong RX9 149 (-2 : Int64) ∈ wsX9_first := by decide +kernel
def fX9_first_54 (z : Nat) (σ : ST) (t0 : Int64) : Option (Int64 × ST) := some (t0, σ)
def fX9_first (z : Nat) (σ : ST) (v1 : Int32) (v2 : Int32) : Option (Int64 × ST) := bd (fX9_in z ((v1).toInt64) (1 : Int64) (4 : Int64)) (fun u21 => (if u21 = 0 then some ((-2 : Int64), σ) else bd (fX9_canLook z σ v1) (fun u23 => (if u23 = 0 then fX9_first_54 z σ (-3 : Int64) else bd (fX9_bestBy z σ v1 (1 : Int32)) (fun u25 => bd (fX9_bestBy z u25.2 v1 (2 : Int32)) (fun u26 => bd (fX9_allTimes z u26.2 v1 (100 : Int32)) (fun u27 => bd (fX9_part z (u25.1 - u26.1) u27 v2) (fun u28 => fX9_first_54 z u26.2 u28))))))))
section
variable {p : Program} {l : Launch} {e : Env} {s : State} {m : MethodId} {args : Array Value} {below : List Frame} {meth : Method} {c : Code} {G : GT}
set_option maxHeartbeats 4000000 in
set_option maxRecDepth 100000 in
theorem wX9_first_54 (C0 : Cx p s m args meth c cX9_first RX9 3 (some .long) wsX9_first) (G0 : Gx G s) (hJ : gJ 13 G) (z : Nat) (σ : ST) (t0 : Int64) (res : (Int64 × ST)) (h : fX9_first_54 z σ t0 = some res)  {H : Heap} {locs : List Loc} {ls : Array Slot} (hW : Wd cellM 13 G s.heap σ H locs) (hl : lv_has ls 3 []) : W p l e rX9_first s m args below meth c H locs 0 0 (MQ below (XQl cellM 13 G res.1 res.2) args s 0 0 (gA 13 G)) (F0 m 54 ls [.long t0]) := by
  unfold fX9_first_54 at h
  cases h
  exact x_lret C0 hW dX9_first_54
set_option maxHeartbeats 4000000 in
set_option maxRecDepth 100000 in
theorem wX9_first (C0 : Cx p s m args meth c cX9_first RX9 3 (some .long) wsX9_first) (G0 : Gx G s) (hJ : gJ 13 G) (z : Nat) (σ : ST) (v1 : Int32) (v2 : Int32) (res : (Int64 × ST)) (h : fX9_first z σ v1 v2 = some res)  {H : Heap} {locs : List Loc} {ls : Array Slot} (hW : Wd cellM 13 G s.heap σ H locs) (hl : lv_has ls 3 [(0, .ref (aD G 0)), (1, .int v1), (2, .int v2)]) : W p l e rX9_first s m args below meth c H locs 0 0 (MQ below (XQl cellM 13 G res.1 res.2) args s 0 0 (gA 13 G)) (F0 m 0 ls []) := by
  unfold fX9_first at h
  refine lv_iload_n C0.1 C0.2.1 dX9_first_0 rfl (lv_at hl 1 rfl) ?_
  refine lv_i2l (v := ((v1).toInt64)) C0.1 C0.2.1 dX9_first_1 rfl ?_
  refine lv_lconst (v := (1 : Int64)) C0.1 C0.2.1 dX9_first_2 (by decide) ?_
  refine lv_ldc2 (v := (4 : Int64)) C0.1 C0.2.1 C0.2.2.2.2.1 (C0.2.2.2.1 _ kcX9_first_161) dX9_first_3 ?_
  obtain ⟨u21, hu21, h⟩ := bd_some h
  refine x_ki (r := u21) (x_runS (As := [.long ((v1).toInt64), .long (1 : Int64), .long (4 : Int64)]) (rest := []) C0 G0 hW (cX9_in_met l hJ z σ ((v1).toInt64) (1 : Int64) (4 : Int64) _ hu21) (va_cwS 3 C0.2.2.2.1 gX9_first_X9_in rfl rfl rfl hdsX9_in ⟨Nat.le_of_ble_eq_true rfl, Nat.le_of_ble_eq_true rfl⟩) rfl rfl hl (Nat.le_of_ble_eq_true rfl) dX9_first_6 ⟨Nat.le_refl 0, Nat.le_refl 0⟩) hW (fun H locs hW => ?_)
  refine lv_if_ne (tgt := 16) C0.1 C0.2.1 dX9_first_9 (by decide) (fun c22 => ?_) (fun c22 => ?_)
  · rw [if_neg c22] at h
    refine lv_aload_n C0.1 C0.2.1 dX9_first_16 rfl (lv_at hl 0 rfl) ?_
    refine lv_iload_n C0.1 C0.2.1 dX9_first_17 rfl (lv_at hl 1 rfl) ?_
    obtain ⟨u23, hu23, h⟩ := bd_some h
    refine x_ki (r := u23) (x_runV (As := [.int v1]) (rest := []) C0 G0 hW (cX9_canLook_met l hJ z σ v1 _ hu23) (cwV 1 C0.2.2.2.1 gX9_first_X9_canLook rfl rfl rfl hdvX9_canLook ⟨Nat.le_of_ble_eq_true rfl, Nat.le_of_ble_eq_true rfl⟩) cM_0 (by decide) rfl rfl rfl hl (Nat.le_of_ble_eq_true rfl) dX9_first_18 ⟨Nat.le_refl 0, Nat.le_refl 0⟩) hW (fun H locs hW => ?_)
    refine lv_if_eq (tgt := 51) C0.1 C0.2.1 dX9_first_21 (by decide) (fun c24 => ?_) (fun c24 => ?_)
    · rw [if_pos c24] at h
      refine lv_ldc2 (v := (-3 : Int64)) C0.1 C0.2.1 C0.2.2.2.2.1 (C0.2.2.2.1 _ kcX9_first_155) dX9_first_51 ?_
      exact wX9_first_54 C0 G0 hJ z σ (-3 : Int64) _ h hW (lv_sub hl [] rfl)
    · rw [if_neg c24] at h
      refine lv_aload_n C0.1 C0.2.1 dX9_first_24 rfl (lv_at hl 0 rfl) ?_
      refine lv_iload_n C0.1 C0.2.1 dX9_first_25 rfl (lv_at hl 1 rfl) ?_
      refine lv_iconst (v := (1 : Int32)) C0.1 C0.2.1 dX9_first_26 (by decide) ?_
      obtain ⟨u25, hu25, h⟩ := bd_some h
      refine x_kl (r := u25.1) (x_runV (As := [.int v1, .int (1 : Int32)]) (rest := []) C0 G0 hW (cX9_bestBy_met l hJ z σ v1 (1 : Int32) _ hu25) (cwV 2 C0.2.2.2.1 gX9_first_X9_bestBy rfl rfl rfl hdvX9_bestBy ⟨Nat.le_of_ble_eq_true rfl, Nat.le_of_ble_eq_true rfl⟩) cM_0 (by decide) rfl rfl rfl hl (Nat.le_of_ble_eq_true rfl) dX9_first_27 ⟨Nat.le_refl 0, Nat.le_refl 0⟩) hW (fun H locs hW => ?_)
      refine lv_aload_n C0.1 C0.2.1 dX9_first_30 rfl (lv_at hl 0 rfl) ?_
      refine lv_iload_n C0.1 C0.2.1 dX9_first_31 rfl (lv_at hl 1 rfl) ?_
      refine lv_iconst (v := (2 : Int32)) C0.1 C0.2.1 dX9_first_32 (by decide) ?_
      obtain ⟨u26, hu26, h⟩ := bd_some h
      refine x_kl (r := u26.1) (x_runV (As := [.int v1, .int (2 : Int32)]) (rest := [.long u25.1]) C0 G0 hW (cX9_bestBy_met l hJ z u25.2 v1 (2 : Int32) _ hu26) (cwV 2 C0.2.2.2.1 gX9_first_X9_bestBy rfl rfl rfl hdvX9_bestBy ⟨Nat.le_of_ble_eq_true rfl, Nat.le_of_ble_eq_true rfl⟩) cM_0 (by decide) rfl rfl rfl hl (Nat.le_of_ble_eq_true rfl) dX9_first_33 ⟨Nat.le_refl 0, Nat.le_refl 0⟩) hW (fun H locs hW => ?_)
      refine lv_lsub C0.1 C0.2.1 dX9_first_36 ?_
      refine lv_aload_n C0.1 C0.2.1 dX9_first_37 rfl (lv_at hl 0 rfl) ?_
      refine lv_iload_n C0.1 C0.2.1 dX9_first_38 rfl (lv_at hl 1 rfl) ?_
      refine lv_bipush (v := (100 : Int32)) C0.1 C0.2.1 dX9_first_39 (by decide) ?_
      obtain ⟨u27, hu27, h⟩ := bd_some h
      refine x_kl (r := u27) (x_runV (As := [.int v1, .int (100 : Int32)]) (rest := [.long (u25.1 - u26.1)]) C0 G0 hW (cX9_allTimes_met l hJ z u26.2 v1 (100 : Int32) _ hu27) (cwV 2 C0.2.2.2.1 gX9_first_X9_allTimes rfl rfl rfl hdvX9_allTimes ⟨Nat.le_of_ble_eq_true rfl, Nat.le_of_ble_eq_true rfl⟩) cM_0 (by decide) rfl rfl rfl hl (Nat.le_of_ble_eq_true rfl) dX9_first_41 ⟨Nat.le_refl 0, Nat.le_refl 0⟩) hW (fun H locs hW => ?_)
      refine lv_iload_n C0.1 C0.2.1 dX9_first_44 rfl (lv_at hl 2 rfl) ?_
      obtain ⟨u28, hu28, h⟩ := bd_some h
      refine x_kl (r := u28) (x_runS (As := [.long (u25.1 - u26.1), .long u27, .int v2]) (rest := []) C0 G0 hW (cX9_part_met l hJ z u26.2 (u25.1 - u26.1) u27 v2 _ hu28) (va_cwS 3 C0.2.2.2.1 gX9_first_X9_part rfl rfl rfl hdsX9_part ⟨Nat.le_of_ble_eq_true rfl, Nat.le_of_ble_eq_true rfl⟩) rfl rfl hl (Nat.le_of_ble_eq_true rfl) dX9_first_45 ⟨Nat.le_refl 0, Nat.le_refl 0⟩) hW (fun H locs hW => ?_)
      refine lv_goto (tgt := 54) C0.1 C0.2.1 dX9_first_48 (by decide) ?_
      exact wX9_first_54 C0 G0 hJ z u26.2 u28 _ h hW (lv_sub hl [] rfl)
  · rw [if_pos c22] at h
    refine lv_ldc2 (v := (-2 : Int64)) C0.1 C0.2.1 C0.2.2.2.2.1 (C0.2.2.2.1 _ kcX9_first_149) dX9_first_12 ?_
    cases h
    exact x_lret C0 hW dX9_first_15
theorem cX9_first_met (l : Launch) {G : GT} (hJ : gJ 13 G) (z : Nat) (σ : ST) (v1 : Int32) (v2 : Int32) (res : (Int64 × ST)) (h : fX9_first z σ v1 v2 = some res) : Met l yX9_first wsX9_first rX9_first (XPc cellM 13 G σ [.ref (aD G 0), .int v1, .int v2]) (XQl cellM 13 G res.1 res.2) 0 0 (gA 13 G) :=
  x_met (ret := (some .long)) (maxL := 3) (by decide) rfl (Nat.le_of_ble_eq_true rfl) (fun p e s m args below meth c H locs ls C0 G0 hW hl => wX9_first C0 G0 hJ z σ v1 v2 res h hW hl)
end
/-! X9_lookTwice -/
def rX9_lookTwice : Room := { frames := 1, cells := 0, slots := 0, locals := 26 }
theorem hdvX9_lookTwice : yX9_lookTwice.cls = RX9 ∧ yX9_lookTwice.cls ≠ "java/lang/invoke/MethodHandle" ∧ yX9_lookTwice.cls ≠ "java/lang/invoke/VarHandle" ∧ (parseMethodDescriptor yX9_lookTwice.desc).map (fun d => d.parameters.length) = some 3 := by decide +kernel
theorem kcX9_lookTwice_128 : Cond.constantLong RX9 128 (10 : Int64) ∈ wsX9_lookTwice := by decide +kernel
def fX9_lookTwice (z : Nat) (σ : ST) (v1 : Int32) (v2 : Int32) (v3 : Int32) : Option (Int64 × ST) := bd (fX9_lookAt z σ v1 v2) (fun u21 => bd (fX9_lookAt z u21.2 v1 v3) (fun u22 => some ((((10 : Int64) * u21.1) + u22.1), u22.2)))
section
variable {p : Program} {l : Launch} {e : Env} {s : State} {m : MethodId} {args : Array Value} {below : List Frame} {meth : Method} {c : Code} {G : GT}
set_option maxHeartbeats 4000000 in
set_option maxRecDepth 100000 in
theorem wX9_lookTwice (C0 : Cx p s m args meth c cX9_lookTwice RX9 6 (some .long) wsX9_lookTwice) (G0 : Gx G s) (hJ : gJ 13 G) (z : Nat) (σ : ST) (v1 : Int32) (v2 : Int32) (v3 : Int32) (res : (Int64 × ST)) (h : fX9_lookTwice z σ v1 v2 v3 = some res)  {H : Heap} {locs : List Loc} {ls : Array Slot} (hW : Wd cellM 13 G s.heap σ H locs) (hl : lv_has ls 6 [(0, .ref (aD G 0)), (1, .int v1), (2, .int v2), (3, .int v3)]) : W p l e rX9_lookTwice s m args below meth c H locs 0 0 (MQ below (XQl cellM 13 G res.1 res.2) args s 0 0 (gA 13 G)) (F0 m 0 ls []) := by
  unfold fX9_lookTwice at h
  refine lv_ldc2 (v := (10 : Int64)) C0.1 C0.2.1 C0.2.2.2.2.1 (C0.2.2.2.1 _ kcX9_lookTwice_128) dX9_lookTwice_0 ?_
  refine lv_aload_n C0.1 C0.2.1 dX9_lookTwice_3 rfl (lv_at hl 0 rfl) ?_
  refine lv_iload_n C0.1 C0.2.1 dX9_lookTwice_4 rfl (lv_at hl 1 rfl) ?_
  refine lv_iload_n C0.1 C0.2.1 dX9_lookTwice_5 rfl (lv_at hl 2 rfl) ?_
  obtain ⟨u21, hu21, h⟩ := bd_some h
  refine x_kl (r := u21.1) (x_runV (As := [.int v1, .int v2]) (rest := [.long (10 : Int64)]) C0 G0 hW (cX9_lookAt_met l hJ z σ v1 v2 _ hu21) (cwV 2 C0.2.2.2.1 gX9_lookTwice_X9_lookAt rfl rfl rfl hdvX9_lookAt ⟨Nat.le_of_ble_eq_true rfl, Nat.le_of_ble_eq_true rfl⟩) cM_0 (by decide) rfl rfl rfl hl (Nat.le_of_ble_eq_true rfl) dX9_lookTwice_6 ⟨Nat.le_refl 0, Nat.le_refl 0⟩) hW (fun H locs hW => ?_)
  refine lv_lmul C0.1 C0.2.1 dX9_lookTwice_9 ?_
  refine lv_lstore (lv' := [(4, .long ((10 : Int64) * u21.1)), (0, .ref (aD G 0)), (1, .int v1), (2, .int v2), (3, .int v3)]) C0.1 C0.2.1 dX9_lookTwice_10 hl (by decide) rfl (fun ls hl => ?_)
  refine lv_lload C0.1 C0.2.1 dX9_lookTwice_12 (lv_at hl 0 rfl) ?_
  refine lv_aload_n C0.1 C0.2.1 dX9_lookTwice_14 rfl (lv_at hl 1 rfl) ?_
  refine lv_iload_n C0.1 C0.2.1 dX9_lookTwice_15 rfl (lv_at hl 2 rfl) ?_
  refine lv_iload_n C0.1 C0.2.1 dX9_lookTwice_16 rfl (lv_at hl 4 rfl) ?_
  obtain ⟨u22, hu22, h⟩ := bd_some h
  refine x_kl (r := u22.1) (x_runV (As := [.int v1, .int v3]) (rest := [.long ((10 : Int64) * u21.1)]) C0 G0 hW (cX9_lookAt_met l hJ z u21.2 v1 v3 _ hu22) (cwV 2 C0.2.2.2.1 gX9_lookTwice_X9_lookAt rfl rfl rfl hdvX9_lookAt ⟨Nat.le_of_ble_eq_true rfl, Nat.le_of_ble_eq_true rfl⟩) cM_0 (by decide) rfl rfl rfl hl (Nat.le_of_ble_eq_true rfl) dX9_lookTwice_17 ⟨Nat.le_refl 0, Nat.le_refl 0⟩) hW (fun H locs hW => ?_)
  refine lv_ladd C0.1 C0.2.1 dX9_lookTwice_20 ?_
  cases h
  exact x_lret C0 hW dX9_lookTwice_21
theorem cX9_lookTwice_met (l : Launch) {G : GT} (hJ : gJ 13 G) (z : Nat) (σ : ST) (v1 : Int32) (v2 : Int32) (v3 : Int32) (res : (Int64 × ST)) (h : fX9_lookTwice z σ v1 v2 v3 = some res) : Met l yX9_lookTwice wsX9_lookTwice rX9_lookTwice (XPc cellM 13 G σ [.ref (aD G 0), .int v1, .int v2, .int v3]) (XQl cellM 13 G res.1 res.2) 0 0 (gA 13 G) :=
  x_met (ret := (some .long)) (maxL := 6) (by decide) rfl (Nat.le_of_ble_eq_true rfl) (fun p e s m args below meth c H locs ls C0 G0 hW hl => wX9_lookTwice C0 G0 hJ z σ v1 v2 v3 res h hW hl)
end
/-! X9_foundByTwo -/
def rX9_foundByTwo : Room := { frames := 2, cells := 0, slots := 0, locals := 51 }
theorem hdvX9_foundByTwo : yX9_foundByTwo.cls = RX9 ∧ yX9_foundByTwo.cls ≠ "java/lang/invoke/MethodHandle" ∧ yX9_foundByTwo.cls ≠ "java/lang/invoke/VarHandle" ∧ (parseMethodDescriptor yX9_foundByTwo.desc).map (fun d => d.parameters.length) = some 2 := by decide +kernel
theorem inX9_foundByTwo_X9 : ∀ w ∈ u_ws RX9 TX9 29, w ∈ wsX9_foundByTwo := by decide +kernel
theorem lkX9_foundByTwo_23 : Cond.fieldLink RX9 23 (TX9 15).1 (TX9 15).2.1 (TX9 15).2.2.1 ∈ wsX9_foundByTwo := by decide +kernel
theorem lkX9_foundByTwo_109 : Cond.fieldLink RX9 109 (TX9 6).1 (TX9 6).2.1 (TX9 6).2.2.1 ∈ wsX9_foundByTwo := by decide +kernel
theorem lkX9_foundByTwo_116 : Cond.fieldLink RX9 116 (TX9 7).1 (TX9 7).2.1 (TX9 7).2.2.1 ∈ wsX9_foundByTwo := by decide +kernel
theorem kcX9_foundByTwo_198 : Cond.constantLong RX9 198 (1000 : Int64) ∈ wsX9_foundByTwo := by decide +kernel
theorem kcX9_foundByTwo_128 : Cond.constantLong RX9 128 (10 : Int64) ∈ wsX9_foundByTwo := by decide +kernel
def fX9_foundByTwo_149 (z : Nat) (r28 : ST → Int32 → Int32 → Int64 → Int32 → Int32 → Option (Int64 × ST)) (σ : ST) (v1 : Int32) (v3 : Int32) (v4 : Int32) (v7 : Int32) (v8 : Int32) (t0 : Int32) (t1 : Int32) (t2 : Int32) (t4 : Int64) (t5 : Int64) : Option (Int64 × ST) := bd (fX9_lookTwice z σ t2 t1 t0) (fun u36 => gd (inb (1 : Int32) 9) ( bd (fX9_drift z u36.2 (1 : Int32) ((u36.2.1 5 ((1 : Int32)).toNatClampNeg) + v8)) (fun u38 => r28 u38 v3 v4 (t5 + (t4 * u36.1)) v7 (v8 + 1))))
def fX9_foundByTwo_137 (z : Nat) (r28 : ST → Int32 → Int32 → Int64 → Int32 → Int32 → Option (Int64 × ST)) (σ : ST) (v1 : Int32) (v3 : Int32) (v4 : Int32) (v7 : Int32) (v8 : Int32) (v11 : Int32) (t0 : Int32) (t1 : Int32) (t3 : Int64) (t4 : Int64) : Option (Int64 × ST) := (if v11 = 0 then fX9_foundByTwo_149 z r28 σ v1 v3 v4 v7 v8 (-9 : Int32) t0 t1 t3 t4 else fX9_foundByTwo_149 z r28 σ v1 v3 v4 v7 v8 v4 t0 t1 t3 t4)
def fX9_foundByTwo_112 (z : Nat) (r28 : ST → Int32 → Int32 → Int64 → Int32 → Int32 → Option (Int64 × ST)) (σ : ST) (v1 : Int32) (v3 : Int32) (v5 : Int64) (v7 : Int32) (v8 : Int32) (v9 : Int32) (v11 : Int32) (t0 : Int32) : Option (Int64 × ST) := (if v9 = (3 : Int32) then fX9_foundByTwo_137 z r28 σ v1 v3 t0 v7 v8 v11 (10 : Int32) (1 : Int32) (10 : Int64) ((1000 : Int64) * v5) else fX9_foundByTwo_137 z r28 σ v1 v3 t0 v7 v8 v11 v3 (1 : Int32) (10 : Int64) ((1000 : Int64) * v5))
def fX9_foundByTwo_94 (z : Nat) (r28 : ST → Int32 → Int32 → Int64 → Int32 → Int32 → Option (Int64 × ST)) (σ : ST) (v1 : Int32) (v4 : Int32) (v5 : Int64) (v7 : Int32) (v8 : Int32) (v9 : Int32) (v10 : Int32) (v11 : Int32) (t0 : Int32) : Option (Int64 × ST) := (if v11 = 0 then fX9_foundByTwo_112 z r28 σ v1 t0 v5 v7 v8 v9 v11 v4 else bd (fX9_to z v4 v10) (fun u33 => fX9_foundByTwo_112 z r28 σ v1 t0 v5 v7 v8 v9 v11 u33))
def fX9_foundByTwo_76 (z : Nat) (r28 : ST → Int32 → Int32 → Int64 → Int32 → Int32 → Option (Int64 × ST)) (σ : ST) (v1 : Int32) (v3 : Int32) (v4 : Int32) (v5 : Int64) (v7 : Int32) (v8 : Int32) (v9 : Int32) (v10 : Int32) (t0 : Int32) : Option (Int64 × ST) := (if v9 = (3 : Int32) then fX9_foundByTwo_94 z r28 σ v1 v4 v5 v7 v8 v9 v10 t0 v3 else bd (fX9_to z v3 v9) (fun u31 => fX9_foundByTwo_94 z r28 σ v1 v4 v5 v7 v8 v9 v10 t0 u31))
def fX9_foundByTwo_28 (z : Nat) (v1 : Int32) : Nat → ST → Int32 → Int32 → Int64 → Int32 → Int32 → Option (Int64 × ST)
  | 0 => fun _ _ _ _ _ _ => none
  | n + 1 => fun σ v3 v4 v5 v7 v8 => (if v1 ≤ v8 then some (v5, σ) else gd (nz (4 : Int32)) ( gd (nz (4 : Int32)) ( gd (nz (3 : Int32)) ( gd (nz (12 : Int32)) ( gd (inb (1 : Int32) 9) ( (if ((σ.1 5 ((1 : Int32)).toNatClampNeg) + v8) < (σ.1 0 7) then fX9_foundByTwo_76 z (fX9_foundByTwo_28 z v1 n) σ v1 v3 v4 v5 (v7 / (12 : Int32)) v8 (v7 - v7 / (4 : Int32) * (4 : Int32)) ((v7 / (4 : Int32)) - (v7 / (4 : Int32)) / (3 : Int32) * (3 : Int32)) (0 : Int32) else fX9_foundByTwo_76 z (fX9_foundByTwo_28 z v1 n) σ v1 v3 v4 v5 (v7 / (12 : Int32)) v8 (v7 - v7 / (4 : Int32) * (4 : Int32)) ((v7 / (4 : Int32)) - (v7 / (4 : Int32)) / (3 : Int32) * (3 : Int32)) (1 : Int32))))))))
def fX9_foundByTwo (z : Nat) (σ : ST) (v1 : Int32) (v2 : Int32) : Option (Int64 × ST) := bd (fX9_lay z σ (0 : Int32) (1 : Int32)) (fun u21 => gd (inb (0 : Int32) 9) ( fX9_foundByTwo_28 z v1 z u21 (u21.1 5 ((0 : Int32)).toNatClampNeg) (u21.1 0 6) (0 : Int64) v2 (0 : Int32)))
section
variable {p : Program} {l : Launch} {e : Env} {s : State} {m : MethodId} {args : Array Value} {below : List Frame} {meth : Method} {c : Code} {G : GT}
set_option maxHeartbeats 4000000 in
set_option maxRecDepth 100000 in
theorem wX9_foundByTwo_149 (C0 : Cx p s m args meth c cX9_foundByTwo RX9 12 (some .long) wsX9_foundByTwo) (G0 : Gx G s) (hJ : gJ 13 G) (z : Nat) (r28 : ST → Int32 → Int32 → Int64 → Int32 → Int32 → Option (Int64 × ST)) (σ : ST) (v1 : Int32) (v3 : Int32) (v4 : Int32) (v7 : Int32) (v8 : Int32) (t0 : Int32) (t1 : Int32) (t2 : Int32) (t4 : Int64) (t5 : Int64) (res : (Int64 × ST)) (h : fX9_foundByTwo_149 z r28 σ v1 v3 v4 v7 v8 t0 t1 t2 t4 t5 = some res) (hr28 : ∀ (σ : ST) (v3 : Int32) (v4 : Int32) (v5 : Int64) (v7 : Int32) (v8 : Int32), r28 σ v3 v4 v5 v7 v8 = some res → ∀ (H : Heap) (locs : List Loc) (ls : Array Slot), Wd cellM 13 G s.heap σ H locs → lv_has ls 12 [(0, .ref (aD G 0)), (1, .int v1), (3, .int v3), (4, .int v4), (5, .long v5), (7, .int v7), (8, .int v8)] → W p l e rX9_foundByTwo s m args below meth c H locs 0 0 (MQ below (XQl cellM 13 G res.1 res.2) args s 0 0 (gA 13 G)) (F0 m 28 ls [])) {H : Heap} {locs : List Loc} {ls : Array Slot} (hW : Wd cellM 13 G s.heap σ H locs) (hl : lv_has ls 12 [(0, .ref (aD G 0)), (1, .int v1), (3, .int v3), (4, .int v4), (7, .int v7), (8, .int v8)]) : W p l e rX9_foundByTwo s m args below meth c H locs 0 0 (MQ below (XQl cellM 13 G res.1 res.2) args s 0 0 (gA 13 G)) (F0 m 149 ls [.int t0, .int t1, .int t2, .ref (aD G 0), .long t4, .long t5]) := by
  unfold fX9_foundByTwo_149 at h
  obtain ⟨u36, hu36, h⟩ := bd_some h
  refine x_kl (r := u36.1) (x_runV (As := [.int t2, .int t1, .int t0]) (rest := [.long t4, .long t5]) C0 G0 hW (cX9_lookTwice_met l hJ z σ t2 t1 t0 _ hu36) (cwV 3 C0.2.2.2.1 gX9_foundByTwo_X9_lookTwice rfl rfl rfl hdvX9_lookTwice ⟨Nat.le_of_ble_eq_true rfl, Nat.le_of_ble_eq_true rfl⟩) cM_0 (by decide) rfl rfl rfl hl (Nat.le_of_ble_eq_true rfl) dX9_foundByTwo_149 ⟨Nat.le_refl 0, Nat.le_refl 0⟩) hW (fun H locs hW => ?_)
  refine lv_lmul C0.1 C0.2.1 dX9_foundByTwo_152 ?_
  refine lv_ladd C0.1 C0.2.1 dX9_foundByTwo_153 ?_
  refine lv_lstore (lv' := [(5, .long (t5 + (t4 * u36.1))), (0, .ref (aD G 0)), (1, .int v1), (3, .int v3), (4, .int v4), (7, .int v7), (8, .int v8)]) C0.1 C0.2.1 dX9_foundByTwo_154 hl (by decide) rfl (fun ls hl => ?_)
  refine lv_aload_n C0.1 C0.2.1 dX9_foundByTwo_156 rfl (lv_at hl 1 rfl) ?_
  refine lv_iconst (v := (1 : Int32)) C0.1 C0.2.1 dX9_foundByTwo_157 (by decide) ?_
  refine lv_aload_n C0.1 C0.2.1 dX9_foundByTwo_158 rfl (lv_at hl 1 rfl) ?_
  refine x_get (v := .ref (aD G 5)) C0 G0 hW cM_0 (by decide) rfl 15 (by decide) inX9_foundByTwo_X9 lkX9_foundByTwo_23 rfl dX9_foundByTwo_159 ?_
  refine lv_iconst (v := (1 : Int32)) C0.1 C0.2.1 dX9_foundByTwo_162 (by decide) ?_
  obtain ⟨g37, h⟩ := gd_some h
  refine x_iald C0 G0 hW cM_5 (by decide) g37 dX9_foundByTwo_163 ?_
  refine lv_iload C0.1 C0.2.1 dX9_foundByTwo_164 (lv_at hl 6 rfl) ?_
  refine lv_iadd C0.1 C0.2.1 dX9_foundByTwo_166 ?_
  obtain ⟨u38, hu38, h⟩ := bd_some h
  refine x_kv (x_runV (As := [.int (1 : Int32), .int ((u36.2.1 5 ((1 : Int32)).toNatClampNeg) + v8)]) (rest := []) C0 G0 hW (cX9_drift_met l hJ z u36.2 (1 : Int32) ((u36.2.1 5 ((1 : Int32)).toNatClampNeg) + v8) _ hu38) (cwV 2 C0.2.2.2.1 gX9_foundByTwo_X9_drift rfl rfl rfl hdvX9_drift ⟨Nat.le_of_ble_eq_true rfl, Nat.le_of_ble_eq_true rfl⟩) cM_0 (by decide) rfl rfl rfl hl (Nat.le_of_ble_eq_true rfl) dX9_foundByTwo_167 ⟨Nat.le_refl 0, Nat.le_refl 0⟩) hW (fun H locs hW => ?_)
  refine lv_iinc (v := (v8 + 1)) (lv' := [(8, .int (v8 + 1)), (5, .long (t5 + (t4 * u36.1))), (0, .ref (aD G 0)), (1, .int v1), (3, .int v3), (4, .int v4), (7, .int v7)]) C0.1 C0.2.1 dX9_foundByTwo_170 hl (k := 6) rfl rfl (by decide) rfl (fun ls hl => ?_)
  refine lv_goto (tgt := 28) C0.1 C0.2.1 dX9_foundByTwo_173 (by decide) ?_
  exact hr28 u38 v3 v4 (t5 + (t4 * u36.1)) v7 (v8 + 1) h _ _ _ hW (lv_sub hl [2, 3, 4, 5, 1, 6, 0] rfl)
set_option maxHeartbeats 4000000 in
set_option maxRecDepth 100000 in
theorem wX9_foundByTwo_137 (C0 : Cx p s m args meth c cX9_foundByTwo RX9 12 (some .long) wsX9_foundByTwo) (G0 : Gx G s) (hJ : gJ 13 G) (z : Nat) (r28 : ST → Int32 → Int32 → Int64 → Int32 → Int32 → Option (Int64 × ST)) (σ : ST) (v1 : Int32) (v3 : Int32) (v4 : Int32) (v7 : Int32) (v8 : Int32) (v11 : Int32) (t0 : Int32) (t1 : Int32) (t3 : Int64) (t4 : Int64) (res : (Int64 × ST)) (h : fX9_foundByTwo_137 z r28 σ v1 v3 v4 v7 v8 v11 t0 t1 t3 t4 = some res) (hr28 : ∀ (σ : ST) (v3 : Int32) (v4 : Int32) (v5 : Int64) (v7 : Int32) (v8 : Int32), r28 σ v3 v4 v5 v7 v8 = some res → ∀ (H : Heap) (locs : List Loc) (ls : Array Slot), Wd cellM 13 G s.heap σ H locs → lv_has ls 12 [(0, .ref (aD G 0)), (1, .int v1), (3, .int v3), (4, .int v4), (5, .long v5), (7, .int v7), (8, .int v8)] → W p l e rX9_foundByTwo s m args below meth c H locs 0 0 (MQ below (XQl cellM 13 G res.1 res.2) args s 0 0 (gA 13 G)) (F0 m 28 ls [])) {H : Heap} {locs : List Loc} {ls : Array Slot} (hW : Wd cellM 13 G s.heap σ H locs) (hl : lv_has ls 12 [(0, .ref (aD G 0)), (1, .int v1), (3, .int v3), (4, .int v4), (7, .int v7), (8, .int v8), (11, .int v11)]) : W p l e rX9_foundByTwo s m args below meth c H locs 0 0 (MQ below (XQl cellM 13 G res.1 res.2) args s 0 0 (gA 13 G)) (F0 m 137 ls [.int t0, .int t1, .ref (aD G 0), .long t3, .long t4]) := by
  unfold fX9_foundByTwo_137 at h
  refine lv_iload C0.1 C0.2.1 dX9_foundByTwo_137 (lv_at hl 6 rfl) ?_
  refine lv_if_eq (tgt := 147) C0.1 C0.2.1 dX9_foundByTwo_139 (by decide) (fun c35 => ?_) (fun c35 => ?_)
  · rw [if_pos c35] at h
    refine lv_bipush (v := (-9 : Int32)) C0.1 C0.2.1 dX9_foundByTwo_147 (by decide) ?_
    exact wX9_foundByTwo_149 C0 G0 hJ z r28 σ v1 v3 v4 v7 v8 (-9 : Int32) t0 t1 t3 t4 _ h (by exact hr28) hW (lv_sub hl [0, 1, 2, 3, 4, 5] rfl)
  · rw [if_neg c35] at h
    refine lv_iload C0.1 C0.2.1 dX9_foundByTwo_142 (lv_at hl 3 rfl) ?_
    refine lv_goto (tgt := 149) C0.1 C0.2.1 dX9_foundByTwo_144 (by decide) ?_
    exact wX9_foundByTwo_149 C0 G0 hJ z r28 σ v1 v3 v4 v7 v8 v4 t0 t1 t3 t4 _ h (by exact hr28) hW (lv_sub hl [0, 1, 2, 3, 4, 5] rfl)
set_option maxHeartbeats 4000000 in
set_option maxRecDepth 100000 in
theorem wX9_foundByTwo_112 (C0 : Cx p s m args meth c cX9_foundByTwo RX9 12 (some .long) wsX9_foundByTwo) (G0 : Gx G s) (hJ : gJ 13 G) (z : Nat) (r28 : ST → Int32 → Int32 → Int64 → Int32 → Int32 → Option (Int64 × ST)) (σ : ST) (v1 : Int32) (v3 : Int32) (v5 : Int64) (v7 : Int32) (v8 : Int32) (v9 : Int32) (v11 : Int32) (t0 : Int32) (res : (Int64 × ST)) (h : fX9_foundByTwo_112 z r28 σ v1 v3 v5 v7 v8 v9 v11 t0 = some res) (hr28 : ∀ (σ : ST) (v3 : Int32) (v4 : Int32) (v5 : Int64) (v7 : Int32) (v8 : Int32), r28 σ v3 v4 v5 v7 v8 = some res → ∀ (H : Heap) (locs : List Loc) (ls : Array Slot), Wd cellM 13 G s.heap σ H locs → lv_has ls 12 [(0, .ref (aD G 0)), (1, .int v1), (3, .int v3), (4, .int v4), (5, .long v5), (7, .int v7), (8, .int v8)] → W p l e rX9_foundByTwo s m args below meth c H locs 0 0 (MQ below (XQl cellM 13 G res.1 res.2) args s 0 0 (gA 13 G)) (F0 m 28 ls [])) {H : Heap} {locs : List Loc} {ls : Array Slot} (hW : Wd cellM 13 G s.heap σ H locs) (hl : lv_has ls 12 [(0, .ref (aD G 0)), (1, .int v1), (3, .int v3), (5, .long v5), (7, .int v7), (8, .int v8), (9, .int v9), (11, .int v11)]) : W p l e rX9_foundByTwo s m args below meth c H locs 0 0 (MQ below (XQl cellM 13 G res.1 res.2) args s 0 0 (gA 13 G)) (F0 m 112 ls [.int t0]) := by
  unfold fX9_foundByTwo_112 at h
  refine lv_istore (lv' := [(4, .int t0), (0, .ref (aD G 0)), (1, .int v1), (3, .int v3), (5, .long v5), (7, .int v7), (8, .int v8), (9, .int v9), (11, .int v11)]) C0.1 C0.2.1 dX9_foundByTwo_112 hl (by decide) rfl (fun ls hl => ?_)
  refine lv_ldc2 (v := (1000 : Int64)) C0.1 C0.2.1 C0.2.2.2.2.1 (C0.2.2.2.1 _ kcX9_foundByTwo_198) dX9_foundByTwo_114 ?_
  refine lv_lload C0.1 C0.2.1 dX9_foundByTwo_117 (lv_at hl 4 rfl) ?_
  refine lv_lmul C0.1 C0.2.1 dX9_foundByTwo_119 ?_
  refine lv_ldc2 (v := (10 : Int64)) C0.1 C0.2.1 C0.2.2.2.2.1 (C0.2.2.2.1 _ kcX9_foundByTwo_128) dX9_foundByTwo_120 ?_
  refine lv_aload_n C0.1 C0.2.1 dX9_foundByTwo_123 rfl (lv_at hl 1 rfl) ?_
  refine lv_iconst (v := (1 : Int32)) C0.1 C0.2.1 dX9_foundByTwo_124 (by decide) ?_
  refine lv_iload C0.1 C0.2.1 dX9_foundByTwo_125 (lv_at hl 7 rfl) ?_
  refine lv_iconst (v := (3 : Int32)) C0.1 C0.2.1 dX9_foundByTwo_127 (by decide) ?_
  refine lv_icmp_ne (tgt := 136) C0.1 C0.2.1 dX9_foundByTwo_128 (by decide) (fun c34 => ?_) (fun c34 => ?_)
  · rw [if_neg c34] at h
    refine lv_iload_n C0.1 C0.2.1 dX9_foundByTwo_136 rfl (lv_at hl 3 rfl) ?_
    exact wX9_foundByTwo_137 C0 G0 hJ z r28 σ v1 v3 t0 v7 v8 v11 v3 (1 : Int32) (10 : Int64) ((1000 : Int64) * v5) _ h (by exact hr28) hW (lv_sub hl [1, 2, 3, 0, 5, 6, 8] rfl)
  · rw [if_pos c34] at h
    refine lv_bipush (v := (10 : Int32)) C0.1 C0.2.1 dX9_foundByTwo_131 (by decide) ?_
    refine lv_goto (tgt := 137) C0.1 C0.2.1 dX9_foundByTwo_133 (by decide) ?_
    exact wX9_foundByTwo_137 C0 G0 hJ z r28 σ v1 v3 t0 v7 v8 v11 (10 : Int32) (1 : Int32) (10 : Int64) ((1000 : Int64) * v5) _ h (by exact hr28) hW (lv_sub hl [1, 2, 3, 0, 5, 6, 8] rfl)
set_option maxHeartbeats 4000000 in
set_option maxRecDepth 100000 in
theorem wX9_foundByTwo_94 (C0 : Cx p s m args meth c cX9_foundByTwo RX9 12 (some .long) wsX9_foundByTwo) (G0 : Gx G s) (hJ : gJ 13 G) (z : Nat) (r28 : ST → Int32 → Int32 → Int64 → Int32 → Int32 → Option (Int64 × ST)) (σ : ST) (v1 : Int32) (v4 : Int32) (v5 : Int64) (v7 : Int32) (v8 : Int32) (v9 : Int32) (v10 : Int32) (v11 : Int32) (t0 : Int32) (res : (Int64 × ST)) (h : fX9_foundByTwo_94 z r28 σ v1 v4 v5 v7 v8 v9 v10 v11 t0 = some res) (hr28 : ∀ (σ : ST) (v3 : Int32) (v4 : Int32) (v5 : Int64) (v7 : Int32) (v8 : Int32), r28 σ v3 v4 v5 v7 v8 = some res → ∀ (H : Heap) (locs : List Loc) (ls : Array Slot), Wd cellM 13 G s.heap σ H locs → lv_has ls 12 [(0, .ref (aD G 0)), (1, .int v1), (3, .int v3), (4, .int v4), (5, .long v5), (7, .int v7), (8, .int v8)] → W p l e rX9_foundByTwo s m args below meth c H locs 0 0 (MQ below (XQl cellM 13 G res.1 res.2) args s 0 0 (gA 13 G)) (F0 m 28 ls [])) {H : Heap} {locs : List Loc} {ls : Array Slot} (hW : Wd cellM 13 G s.heap σ H locs) (hl : lv_has ls 12 [(0, .ref (aD G 0)), (1, .int v1), (4, .int v4), (5, .long v5), (7, .int v7), (8, .int v8), (9, .int v9), (10, .int v10), (11, .int v11)]) : W p l e rX9_foundByTwo s m args below meth c H locs 0 0 (MQ below (XQl cellM 13 G res.1 res.2) args s 0 0 (gA 13 G)) (F0 m 94 ls [.int t0]) := by
  unfold fX9_foundByTwo_94 at h
  refine lv_istore_n (lv' := [(3, .int t0), (0, .ref (aD G 0)), (1, .int v1), (4, .int v4), (5, .long v5), (7, .int v7), (8, .int v8), (9, .int v9), (10, .int v10), (11, .int v11)]) C0.1 C0.2.1 dX9_foundByTwo_94 rfl hl (by decide) rfl (fun ls hl => ?_)
  refine lv_iload C0.1 C0.2.1 dX9_foundByTwo_95 (lv_at hl 9 rfl) ?_
  refine lv_if_eq (tgt := 110) C0.1 C0.2.1 dX9_foundByTwo_97 (by decide) (fun c32 => ?_) (fun c32 => ?_)
  · rw [if_pos c32] at h
    refine lv_iload C0.1 C0.2.1 dX9_foundByTwo_110 (lv_at hl 3 rfl) ?_
    exact wX9_foundByTwo_112 C0 G0 hJ z r28 σ v1 t0 v5 v7 v8 v9 v11 v4 _ h (by exact hr28) hW (lv_sub hl [1, 2, 0, 4, 5, 6, 7, 9] rfl)
  · rw [if_neg c32] at h
    refine lv_iload C0.1 C0.2.1 dX9_foundByTwo_100 (lv_at hl 3 rfl) ?_
    refine lv_iload C0.1 C0.2.1 dX9_foundByTwo_102 (lv_at hl 8 rfl) ?_
    obtain ⟨u33, hu33, h⟩ := bd_some h
    refine x_ki (r := u33) (x_runS (As := [.int v4, .int v10]) (rest := []) C0 G0 hW (cX9_to_met l hJ z σ v4 v10 _ hu33) (va_cwS 2 C0.2.2.2.1 gX9_foundByTwo_X9_to rfl rfl rfl hdsX9_to ⟨Nat.le_of_ble_eq_true rfl, Nat.le_of_ble_eq_true rfl⟩) rfl rfl hl (Nat.le_of_ble_eq_true rfl) dX9_foundByTwo_104 ⟨Nat.le_refl 0, Nat.le_refl 0⟩) hW (fun H locs hW => ?_)
    refine lv_goto (tgt := 112) C0.1 C0.2.1 dX9_foundByTwo_107 (by decide) ?_
    exact wX9_foundByTwo_112 C0 G0 hJ z r28 σ v1 t0 v5 v7 v8 v9 v11 u33 _ h (by exact hr28) hW (lv_sub hl [1, 2, 0, 4, 5, 6, 7, 9] rfl)
set_option maxHeartbeats 4000000 in
set_option maxRecDepth 100000 in
theorem wX9_foundByTwo_76 (C0 : Cx p s m args meth c cX9_foundByTwo RX9 12 (some .long) wsX9_foundByTwo) (G0 : Gx G s) (hJ : gJ 13 G) (z : Nat) (r28 : ST → Int32 → Int32 → Int64 → Int32 → Int32 → Option (Int64 × ST)) (σ : ST) (v1 : Int32) (v3 : Int32) (v4 : Int32) (v5 : Int64) (v7 : Int32) (v8 : Int32) (v9 : Int32) (v10 : Int32) (t0 : Int32) (res : (Int64 × ST)) (h : fX9_foundByTwo_76 z r28 σ v1 v3 v4 v5 v7 v8 v9 v10 t0 = some res) (hr28 : ∀ (σ : ST) (v3 : Int32) (v4 : Int32) (v5 : Int64) (v7 : Int32) (v8 : Int32), r28 σ v3 v4 v5 v7 v8 = some res → ∀ (H : Heap) (locs : List Loc) (ls : Array Slot), Wd cellM 13 G s.heap σ H locs → lv_has ls 12 [(0, .ref (aD G 0)), (1, .int v1), (3, .int v3), (4, .int v4), (5, .long v5), (7, .int v7), (8, .int v8)] → W p l e rX9_foundByTwo s m args below meth c H locs 0 0 (MQ below (XQl cellM 13 G res.1 res.2) args s 0 0 (gA 13 G)) (F0 m 28 ls [])) {H : Heap} {locs : List Loc} {ls : Array Slot} (hW : Wd cellM 13 G s.heap σ H locs) (hl : lv_has ls 12 [(0, .ref (aD G 0)), (1, .int v1), (3, .int v3), (4, .int v4), (5, .long v5), (7, .int v7), (8, .int v8), (9, .int v9), (10, .int v10)]) : W p l e rX9_foundByTwo s m args below meth c H locs 0 0 (MQ below (XQl cellM 13 G res.1 res.2) args s 0 0 (gA 13 G)) (F0 m 76 ls [.int t0]) := by
  unfold fX9_foundByTwo_76 at h
  refine lv_istore (lv' := [(11, .int t0), (0, .ref (aD G 0)), (1, .int v1), (3, .int v3), (4, .int v4), (5, .long v5), (7, .int v7), (8, .int v8), (9, .int v9), (10, .int v10)]) C0.1 C0.2.1 dX9_foundByTwo_76 hl (by decide) rfl (fun ls hl => ?_)
  refine lv_iload C0.1 C0.2.1 dX9_foundByTwo_78 (lv_at hl 8 rfl) ?_
  refine lv_iconst (v := (3 : Int32)) C0.1 C0.2.1 dX9_foundByTwo_80 (by decide) ?_
  refine lv_icmp_ne (tgt := 88) C0.1 C0.2.1 dX9_foundByTwo_81 (by decide) (fun c30 => ?_) (fun c30 => ?_)
  · rw [if_neg c30] at h
    refine lv_iload_n C0.1 C0.2.1 dX9_foundByTwo_88 rfl (lv_at hl 3 rfl) ?_
    refine lv_iload C0.1 C0.2.1 dX9_foundByTwo_89 (lv_at hl 8 rfl) ?_
    obtain ⟨u31, hu31, h⟩ := bd_some h
    refine x_ki (r := u31) (x_runS (As := [.int v3, .int v9]) (rest := []) C0 G0 hW (cX9_to_met l hJ z σ v3 v9 _ hu31) (va_cwS 2 C0.2.2.2.1 gX9_foundByTwo_X9_to rfl rfl rfl hdsX9_to ⟨Nat.le_of_ble_eq_true rfl, Nat.le_of_ble_eq_true rfl⟩) rfl rfl hl (Nat.le_of_ble_eq_true rfl) dX9_foundByTwo_91 ⟨Nat.le_refl 0, Nat.le_refl 0⟩) hW (fun H locs hW => ?_)
    exact wX9_foundByTwo_94 C0 G0 hJ z r28 σ v1 v4 v5 v7 v8 v9 v10 t0 u31 _ h (by exact hr28) hW (lv_sub hl [1, 2, 4, 5, 6, 7, 8, 9, 0] rfl)
  · rw [if_pos c30] at h
    refine lv_iload_n C0.1 C0.2.1 dX9_foundByTwo_84 rfl (lv_at hl 3 rfl) ?_
    refine lv_goto (tgt := 94) C0.1 C0.2.1 dX9_foundByTwo_85 (by decide) ?_
    exact wX9_foundByTwo_94 C0 G0 hJ z r28 σ v1 v4 v5 v7 v8 v9 v10 t0 v3 _ h (by exact hr28) hW (lv_sub hl [1, 2, 4, 5, 6, 7, 8, 9, 0] rfl)
set_option maxHeartbeats 4000000 in
set_option maxRecDepth 100000 in
theorem wX9_foundByTwo_28 (C0 : Cx p s m args meth c cX9_foundByTwo RX9 12 (some .long) wsX9_foundByTwo) (G0 : Gx G s) (hJ : gJ 13 G) (z : Nat) (v1 : Int32) (n : Nat) (σ : ST) (v3 : Int32) (v4 : Int32) (v5 : Int64) (v7 : Int32) (v8 : Int32) (res : (Int64 × ST)) (h : fX9_foundByTwo_28 z v1 n σ v3 v4 v5 v7 v8 = some res)  {H : Heap} {locs : List Loc} {ls : Array Slot} (hW : Wd cellM 13 G s.heap σ H locs) (hl : lv_has ls 12 [(0, .ref (aD G 0)), (1, .int v1), (3, .int v3), (4, .int v4), (5, .long v5), (7, .int v7), (8, .int v8)]) : W p l e rX9_foundByTwo s m args below meth c H locs 0 0 (MQ below (XQl cellM 13 G res.1 res.2) args s 0 0 (gA 13 G)) (F0 m 28 ls []) := by
  induction n generalizing σ v3 v4 v5 v7 v8 H locs ls with
  | zero => cases h
  | succ n ih =>
    have hr28 : ∀ (σ : ST) (v3 : Int32) (v4 : Int32) (v5 : Int64) (v7 : Int32) (v8 : Int32), fX9_foundByTwo_28 z v1 n σ v3 v4 v5 v7 v8 = some res → ∀ (H : Heap) (locs : List Loc) (ls : Array Slot), Wd cellM 13 G s.heap σ H locs → lv_has ls 12 [(0, .ref (aD G 0)), (1, .int v1), (3, .int v3), (4, .int v4), (5, .long v5), (7, .int v7), (8, .int v8)] → W p l e rX9_foundByTwo s m args below meth c H locs 0 0 (MQ below (XQl cellM 13 G res.1 res.2) args s 0 0 (gA 13 G)) (F0 m 28 ls []) := fun σ v3 v4 v5 v7 v8 h H locs ls hW hl => ih σ v3 v4 v5 v7 v8 h hW hl
    clear ih
    unfold fX9_foundByTwo_28 at h
    refine lv_iload C0.1 C0.2.1 dX9_foundByTwo_28 (lv_at hl 6 rfl) ?_
    refine lv_iload_n C0.1 C0.2.1 dX9_foundByTwo_30 rfl (lv_at hl 1 rfl) ?_
    refine lv_icmp_ge (tgt := 176) C0.1 C0.2.1 dX9_foundByTwo_31 (by decide) (fun c23 => ?_) (fun c23 => ?_)
    · rw [if_pos c23] at h
      refine lv_lload C0.1 C0.2.1 dX9_foundByTwo_176 (lv_at hl 4 rfl) ?_
      cases h
      exact x_lret C0 hW dX9_foundByTwo_178
    · rw [if_neg c23] at h
      refine lv_iload C0.1 C0.2.1 dX9_foundByTwo_34 (lv_at hl 5 rfl) ?_
      refine lv_iconst (v := (4 : Int32)) C0.1 C0.2.1 dX9_foundByTwo_36 (by decide) ?_
      obtain ⟨g24, h⟩ := gd_some h
      refine lv_irem C0.1 C0.2.1 dX9_foundByTwo_37 (nz_of g24) ?_
      refine lv_istore (lv' := [(9, .int (v7 - v7 / (4 : Int32) * (4 : Int32))), (0, .ref (aD G 0)), (1, .int v1), (3, .int v3), (4, .int v4), (5, .long v5), (7, .int v7), (8, .int v8)]) C0.1 C0.2.1 dX9_foundByTwo_38 hl (by decide) rfl (fun ls hl => ?_)
      refine lv_iload C0.1 C0.2.1 dX9_foundByTwo_40 (lv_at hl 6 rfl) ?_
      refine lv_iconst (v := (4 : Int32)) C0.1 C0.2.1 dX9_foundByTwo_42 (by decide) ?_
      obtain ⟨g25, h⟩ := gd_some h
      refine lv_idiv C0.1 C0.2.1 dX9_foundByTwo_43 (nz_of g25) ?_
      refine lv_iconst (v := (3 : Int32)) C0.1 C0.2.1 dX9_foundByTwo_44 (by decide) ?_
      obtain ⟨g26, h⟩ := gd_some h
      refine lv_irem C0.1 C0.2.1 dX9_foundByTwo_45 (nz_of g26) ?_
      refine lv_istore (lv' := [(10, .int ((v7 / (4 : Int32)) - (v7 / (4 : Int32)) / (3 : Int32) * (3 : Int32))), (9, .int (v7 - v7 / (4 : Int32) * (4 : Int32))), (0, .ref (aD G 0)), (1, .int v1), (3, .int v3), (4, .int v4), (5, .long v5), (7, .int v7), (8, .int v8)]) C0.1 C0.2.1 dX9_foundByTwo_46 hl (by decide) rfl (fun ls hl => ?_)
      refine lv_iload C0.1 C0.2.1 dX9_foundByTwo_48 (lv_at hl 7 rfl) ?_
      refine lv_bipush (v := (12 : Int32)) C0.1 C0.2.1 dX9_foundByTwo_50 (by decide) ?_
      obtain ⟨g27, h⟩ := gd_some h
      refine lv_idiv C0.1 C0.2.1 dX9_foundByTwo_52 (nz_of g27) ?_
      refine lv_istore (lv' := [(7, .int (v7 / (12 : Int32))), (10, .int ((v7 / (4 : Int32)) - (v7 / (4 : Int32)) / (3 : Int32) * (3 : Int32))), (9, .int (v7 - v7 / (4 : Int32) * (4 : Int32))), (0, .ref (aD G 0)), (1, .int v1), (3, .int v3), (4, .int v4), (5, .long v5), (8, .int v8)]) C0.1 C0.2.1 dX9_foundByTwo_53 hl (by decide) rfl (fun ls hl => ?_)
      refine lv_aload_n C0.1 C0.2.1 dX9_foundByTwo_55 rfl (lv_at hl 3 rfl) ?_
      refine x_get (v := .ref (aD G 5)) C0 G0 hW cM_0 (by decide) rfl 15 (by decide) inX9_foundByTwo_X9 lkX9_foundByTwo_23 rfl dX9_foundByTwo_56 ?_
      refine lv_iconst (v := (1 : Int32)) C0.1 C0.2.1 dX9_foundByTwo_59 (by decide) ?_
      obtain ⟨g28, h⟩ := gd_some h
      refine x_iald C0 G0 hW cM_5 (by decide) g28 dX9_foundByTwo_60 ?_
      refine lv_iload C0.1 C0.2.1 dX9_foundByTwo_61 (lv_at hl 8 rfl) ?_
      refine lv_iadd C0.1 C0.2.1 dX9_foundByTwo_63 ?_
      refine lv_aload_n C0.1 C0.2.1 dX9_foundByTwo_64 rfl (lv_at hl 3 rfl) ?_
      refine x_get (v := .int (σ.1 0 7)) C0 G0 hW cM_0 (by decide) rfl 7 (by decide) inX9_foundByTwo_X9 lkX9_foundByTwo_116 rfl dX9_foundByTwo_65 ?_
      refine lv_icmp_lt (tgt := 75) C0.1 C0.2.1 dX9_foundByTwo_68 (by decide) (fun c29 => ?_) (fun c29 => ?_)
      · rw [if_pos c29] at h
        refine lv_iconst (v := (0 : Int32)) C0.1 C0.2.1 dX9_foundByTwo_75 (by decide) ?_
        exact wX9_foundByTwo_76 C0 G0 hJ z (fX9_foundByTwo_28 z v1 n) σ v1 v3 v4 v5 (v7 / (12 : Int32)) v8 (v7 - v7 / (4 : Int32) * (4 : Int32)) ((v7 / (4 : Int32)) - (v7 / (4 : Int32)) / (3 : Int32) * (3 : Int32)) (0 : Int32) _ h (by exact hr28) hW (lv_sub hl [3, 4, 5, 6, 7, 0, 8, 2, 1] rfl)
      · rw [if_neg c29] at h
        refine lv_iconst (v := (1 : Int32)) C0.1 C0.2.1 dX9_foundByTwo_71 (by decide) ?_
        refine lv_goto (tgt := 76) C0.1 C0.2.1 dX9_foundByTwo_72 (by decide) ?_
        exact wX9_foundByTwo_76 C0 G0 hJ z (fX9_foundByTwo_28 z v1 n) σ v1 v3 v4 v5 (v7 / (12 : Int32)) v8 (v7 - v7 / (4 : Int32) * (4 : Int32)) ((v7 / (4 : Int32)) - (v7 / (4 : Int32)) / (3 : Int32) * (3 : Int32)) (1 : Int32) _ h (by exact hr28) hW (lv_sub hl [3, 4, 5, 6, 7, 0, 8, 2, 1] rfl)
set_option maxHeartbeats 4000000 in
set_option maxRecDepth 100000 in
theorem wX9_foundByTwo (C0 : Cx p s m args meth c cX9_foundByTwo RX9 12 (some .long) wsX9_foundByTwo) (G0 : Gx G s) (hJ : gJ 13 G) (z : Nat) (σ : ST) (v1 : Int32) (v2 : Int32) (res : (Int64 × ST)) (h : fX9_foundByTwo z σ v1 v2 = some res)  {H : Heap} {locs : List Loc} {ls : Array Slot} (hW : Wd cellM 13 G s.heap σ H locs) (hl : lv_has ls 12 [(0, .ref (aD G 0)), (1, .int v1), (2, .int v2)]) : W p l e rX9_foundByTwo s m args below meth c H locs 0 0 (MQ below (XQl cellM 13 G res.1 res.2) args s 0 0 (gA 13 G)) (F0 m 0 ls []) := by
  unfold fX9_foundByTwo at h
  refine lv_aload_n C0.1 C0.2.1 dX9_foundByTwo_0 rfl (lv_at hl 0 rfl) ?_
  refine lv_iconst (v := (0 : Int32)) C0.1 C0.2.1 dX9_foundByTwo_1 (by decide) ?_
  refine lv_iconst (v := (1 : Int32)) C0.1 C0.2.1 dX9_foundByTwo_2 (by decide) ?_
  obtain ⟨u21, hu21, h⟩ := bd_some h
  refine x_kv (x_runV (As := [.int (0 : Int32), .int (1 : Int32)]) (rest := []) C0 G0 hW (cX9_lay_met l hJ z σ (0 : Int32) (1 : Int32) _ hu21) (cwV 2 C0.2.2.2.1 gX9_foundByTwo_X9_lay rfl rfl rfl hdvX9_lay ⟨Nat.le_of_ble_eq_true rfl, Nat.le_of_ble_eq_true rfl⟩) cM_0 (by decide) rfl rfl rfl hl (Nat.le_of_ble_eq_true rfl) dX9_foundByTwo_3 ⟨Nat.le_refl 0, Nat.le_refl 0⟩) hW (fun H locs hW => ?_)
  refine lv_aload_n C0.1 C0.2.1 dX9_foundByTwo_6 rfl (lv_at hl 0 rfl) ?_
  refine x_get (v := .ref (aD G 5)) C0 G0 hW cM_0 (by decide) rfl 15 (by decide) inX9_foundByTwo_X9 lkX9_foundByTwo_23 rfl dX9_foundByTwo_7 ?_
  refine lv_iconst (v := (0 : Int32)) C0.1 C0.2.1 dX9_foundByTwo_10 (by decide) ?_
  obtain ⟨g22, h⟩ := gd_some h
  refine x_iald C0 G0 hW cM_5 (by decide) g22 dX9_foundByTwo_11 ?_
  refine lv_istore_n (lv' := [(3, .int (u21.1 5 ((0 : Int32)).toNatClampNeg)), (0, .ref (aD G 0)), (1, .int v1), (2, .int v2)]) C0.1 C0.2.1 dX9_foundByTwo_12 rfl hl (by decide) rfl (fun ls hl => ?_)
  refine lv_aload_n C0.1 C0.2.1 dX9_foundByTwo_13 rfl (lv_at hl 1 rfl) ?_
  refine x_get (v := .int (u21.1 0 6)) C0 G0 hW cM_0 (by decide) rfl 6 (by decide) inX9_foundByTwo_X9 lkX9_foundByTwo_109 rfl dX9_foundByTwo_14 ?_
  refine lv_istore (lv' := [(4, .int (u21.1 0 6)), (3, .int (u21.1 5 ((0 : Int32)).toNatClampNeg)), (0, .ref (aD G 0)), (1, .int v1), (2, .int v2)]) C0.1 C0.2.1 dX9_foundByTwo_17 hl (by decide) rfl (fun ls hl => ?_)
  refine lv_lconst (v := (0 : Int64)) C0.1 C0.2.1 dX9_foundByTwo_19 (by decide) ?_
  refine lv_lstore (lv' := [(5, .long (0 : Int64)), (4, .int (u21.1 0 6)), (3, .int (u21.1 5 ((0 : Int32)).toNatClampNeg)), (0, .ref (aD G 0)), (1, .int v1), (2, .int v2)]) C0.1 C0.2.1 dX9_foundByTwo_20 hl (by decide) rfl (fun ls hl => ?_)
  refine lv_iload_n C0.1 C0.2.1 dX9_foundByTwo_22 rfl (lv_at hl 5 rfl) ?_
  refine lv_istore (lv' := [(7, .int v2), (5, .long (0 : Int64)), (4, .int (u21.1 0 6)), (3, .int (u21.1 5 ((0 : Int32)).toNatClampNeg)), (0, .ref (aD G 0)), (1, .int v1), (2, .int v2)]) C0.1 C0.2.1 dX9_foundByTwo_23 hl (by decide) rfl (fun ls hl => ?_)
  refine lv_iconst (v := (0 : Int32)) C0.1 C0.2.1 dX9_foundByTwo_25 (by decide) ?_
  refine lv_istore (lv' := [(8, .int (0 : Int32)), (7, .int v2), (5, .long (0 : Int64)), (4, .int (u21.1 0 6)), (3, .int (u21.1 5 ((0 : Int32)).toNatClampNeg)), (0, .ref (aD G 0)), (1, .int v1), (2, .int v2)]) C0.1 C0.2.1 dX9_foundByTwo_26 hl (by decide) rfl (fun ls hl => ?_)
  exact wX9_foundByTwo_28 C0 G0 hJ z v1 z u21 (u21.1 5 ((0 : Int32)).toNatClampNeg) (u21.1 0 6) (0 : Int64) v2 (0 : Int32) _ h hW (lv_sub hl [5, 6, 4, 3, 2, 1, 0] rfl)
theorem cX9_foundByTwo_met (l : Launch) {G : GT} (hJ : gJ 13 G) (z : Nat) (σ : ST) (v1 : Int32) (v2 : Int32) (res : (Int64 × ST)) (h : fX9_foundByTwo z σ v1 v2 = some res) : Met l yX9_foundByTwo wsX9_foundByTwo rX9_foundByTwo (XPc cellM 13 G σ [.ref (aD G 0), .int v1, .int v2]) (XQl cellM 13 G res.1 res.2) 0 0 (gA 13 G) :=
  x_met (ret := (some .long)) (maxL := 12) (by decide) rfl (Nat.le_of_ble_eq_true rfl) (fun p e s m args below meth c H locs ls C0 G0 hW hl => wX9_foundByTwo C0 G0 hJ z σ v1 v2 res h hW hl)
end
/-! X9_isWitness -/
def rX9_isWitness : Room := { frames := 1, cells := 0, slots := 0, locals := 25 }
theorem hdsX9_isWitness : yX9_isWitness.cls ≠ "java/lang/invoke/MethodHandle" ∧ yX9_isWitness.cls ≠ "java/lang/invoke/VarHandle" ∧ (parseMethodDescriptor yX9_isWitness.desc).map (fun d => d.parameters.length) = some 3 := by decide +kernel
theorem kcX9_isWitness_67 : Cond.constantLong RX9 67 (9 : Int64) ∈ wsX9_isWitness := by decide +kernel
def fX9_isWitness_42 (z : Nat) (t0 : Int32) : Option Int32 := gd (zok t0) ( some t0)
def fX9_isWitness_41 (z : Nat) : Option Int32 := fX9_isWitness_42 z (0 : Int32)
def fX9_isWitness (z : Nat) (v0 : Int32) (v1 : Int32) (v2 : Int32) : Option Int32 := bd (fX9_in z ((v0).toInt64) (0 : Int64) (9 : Int64)) (fun u21 => (if u21 = 0 then fX9_isWitness_41 z else bd (fX9_in z ((v1).toInt64) ((v0).toInt64) (9 : Int64)) (fun u23 => (if u23 = 0 then fX9_isWitness_41 z else bd (fX9_in z ((v2).toInt64) (1 : Int64) (9 : Int64)) (fun u25 => (if u25 = 0 then fX9_isWitness_41 z else fX9_isWitness_42 z (1 : Int32)))))))
section
variable {p : Program} {l : Launch} {e : Env} {s : State} {m : MethodId} {args : Array Value} {below : List Frame} {meth : Method} {c : Code} {G : GT}
set_option maxHeartbeats 4000000 in
set_option maxRecDepth 100000 in
theorem wX9_isWitness_42 (C0 : Cx p s m args meth c cX9_isWitness RX9 3 (some .boolean) wsX9_isWitness) {σ : ST} (G0 : Gx G s) (hJ : gJ 13 G) (z : Nat) (t0 : Int32) (res : Int32) (h : fX9_isWitness_42 z t0 = some res)  {H : Heap} {locs : List Loc} {ls : Array Slot} (hW : Wd cellM 13 G s.heap σ H locs) (hl : lv_has ls 3 []) : W p l e rX9_isWitness s m args below meth c H locs 0 0 (MQ below (XQi cellM 13 G res σ) args s 0 0 (gA 13 G)) (F0 m 42 ls [.int t0]) := by
  unfold fX9_isWitness_42 at h
  obtain ⟨g27, h⟩ := gd_some h
  cases h
  exact x_zret C0 hW g27 dX9_isWitness_42
set_option maxHeartbeats 4000000 in
set_option maxRecDepth 100000 in
theorem wX9_isWitness_41 (C0 : Cx p s m args meth c cX9_isWitness RX9 3 (some .boolean) wsX9_isWitness) {σ : ST} (G0 : Gx G s) (hJ : gJ 13 G) (z : Nat) (res : Int32) (h : fX9_isWitness_41 z = some res)  {H : Heap} {locs : List Loc} {ls : Array Slot} (hW : Wd cellM 13 G s.heap σ H locs) (hl : lv_has ls 3 []) : W p l e rX9_isWitness s m args below meth c H locs 0 0 (MQ below (XQi cellM 13 G res σ) args s 0 0 (gA 13 G)) (F0 m 41 ls []) := by
  unfold fX9_isWitness_41 at h
  refine lv_iconst (v := (0 : Int32)) C0.1 C0.2.1 dX9_isWitness_41 (by decide) ?_
  exact wX9_isWitness_42 C0 G0 hJ z (0 : Int32) _ h hW (lv_sub hl [] rfl)
set_option maxHeartbeats 4000000 in
set_option maxRecDepth 100000 in
theorem wX9_isWitness (C0 : Cx p s m args meth c cX9_isWitness RX9 3 (some .boolean) wsX9_isWitness) {σ : ST} (G0 : Gx G s) (hJ : gJ 13 G) (z : Nat) (v0 : Int32) (v1 : Int32) (v2 : Int32) (res : Int32) (h : fX9_isWitness z v0 v1 v2 = some res)  {H : Heap} {locs : List Loc} {ls : Array Slot} (hW : Wd cellM 13 G s.heap σ H locs) (hl : lv_has ls 3 [(0, .int v0), (1, .int v1), (2, .int v2)]) : W p l e rX9_isWitness s m args below meth c H locs 0 0 (MQ below (XQi cellM 13 G res σ) args s 0 0 (gA 13 G)) (F0 m 0 ls []) := by
  unfold fX9_isWitness at h
  refine lv_iload_n C0.1 C0.2.1 dX9_isWitness_0 rfl (lv_at hl 0 rfl) ?_
  refine lv_i2l (v := ((v0).toInt64)) C0.1 C0.2.1 dX9_isWitness_1 rfl ?_
  refine lv_lconst (v := (0 : Int64)) C0.1 C0.2.1 dX9_isWitness_2 (by decide) ?_
  refine lv_ldc2 (v := (9 : Int64)) C0.1 C0.2.1 C0.2.2.2.2.1 (C0.2.2.2.1 _ kcX9_isWitness_67) dX9_isWitness_3 ?_
  obtain ⟨u21, hu21, h⟩ := bd_some h
  refine x_ki (r := u21) (x_runS (As := [.long ((v0).toInt64), .long (0 : Int64), .long (9 : Int64)]) (rest := []) C0 G0 hW (cX9_in_met l hJ z σ ((v0).toInt64) (0 : Int64) (9 : Int64) _ hu21) (va_cwS 3 C0.2.2.2.1 gX9_isWitness_X9_in rfl rfl rfl hdsX9_in ⟨Nat.le_of_ble_eq_true rfl, Nat.le_of_ble_eq_true rfl⟩) rfl rfl hl (Nat.le_of_ble_eq_true rfl) dX9_isWitness_6 ⟨Nat.le_refl 0, Nat.le_refl 0⟩) hW (fun H locs hW => ?_)
  refine lv_if_eq (tgt := 41) C0.1 C0.2.1 dX9_isWitness_9 (by decide) (fun c22 => ?_) (fun c22 => ?_)
  · rw [if_pos c22] at h
    exact wX9_isWitness_41 C0 G0 hJ z _ h hW (lv_sub hl [] rfl)
  · rw [if_neg c22] at h
    refine lv_iload_n C0.1 C0.2.1 dX9_isWitness_12 rfl (lv_at hl 1 rfl) ?_
    refine lv_i2l (v := ((v1).toInt64)) C0.1 C0.2.1 dX9_isWitness_13 rfl ?_
    refine lv_iload_n C0.1 C0.2.1 dX9_isWitness_14 rfl (lv_at hl 0 rfl) ?_
    refine lv_i2l (v := ((v0).toInt64)) C0.1 C0.2.1 dX9_isWitness_15 rfl ?_
    refine lv_ldc2 (v := (9 : Int64)) C0.1 C0.2.1 C0.2.2.2.2.1 (C0.2.2.2.1 _ kcX9_isWitness_67) dX9_isWitness_16 ?_
    obtain ⟨u23, hu23, h⟩ := bd_some h
    refine x_ki (r := u23) (x_runS (As := [.long ((v1).toInt64), .long ((v0).toInt64), .long (9 : Int64)]) (rest := []) C0 G0 hW (cX9_in_met l hJ z σ ((v1).toInt64) ((v0).toInt64) (9 : Int64) _ hu23) (va_cwS 3 C0.2.2.2.1 gX9_isWitness_X9_in rfl rfl rfl hdsX9_in ⟨Nat.le_of_ble_eq_true rfl, Nat.le_of_ble_eq_true rfl⟩) rfl rfl hl (Nat.le_of_ble_eq_true rfl) dX9_isWitness_19 ⟨Nat.le_refl 0, Nat.le_refl 0⟩) hW (fun H locs hW => ?_)
    refine lv_if_eq (tgt := 41) C0.1 C0.2.1 dX9_isWitness_22 (by decide) (fun c24 => ?_) (fun c24 => ?_)
    · rw [if_pos c24] at h
      exact wX9_isWitness_41 C0 G0 hJ z _ h hW (lv_sub hl [] rfl)
    · rw [if_neg c24] at h
      refine lv_iload_n C0.1 C0.2.1 dX9_isWitness_25 rfl (lv_at hl 2 rfl) ?_
      refine lv_i2l (v := ((v2).toInt64)) C0.1 C0.2.1 dX9_isWitness_26 rfl ?_
      refine lv_lconst (v := (1 : Int64)) C0.1 C0.2.1 dX9_isWitness_27 (by decide) ?_
      refine lv_ldc2 (v := (9 : Int64)) C0.1 C0.2.1 C0.2.2.2.2.1 (C0.2.2.2.1 _ kcX9_isWitness_67) dX9_isWitness_28 ?_
      obtain ⟨u25, hu25, h⟩ := bd_some h
      refine x_ki (r := u25) (x_runS (As := [.long ((v2).toInt64), .long (1 : Int64), .long (9 : Int64)]) (rest := []) C0 G0 hW (cX9_in_met l hJ z σ ((v2).toInt64) (1 : Int64) (9 : Int64) _ hu25) (va_cwS 3 C0.2.2.2.1 gX9_isWitness_X9_in rfl rfl rfl hdsX9_in ⟨Nat.le_of_ble_eq_true rfl, Nat.le_of_ble_eq_true rfl⟩) rfl rfl hl (Nat.le_of_ble_eq_true rfl) dX9_isWitness_31 ⟨Nat.le_refl 0, Nat.le_refl 0⟩) hW (fun H locs hW => ?_)
      refine lv_if_eq (tgt := 41) C0.1 C0.2.1 dX9_isWitness_34 (by decide) (fun c26 => ?_) (fun c26 => ?_)
      · rw [if_pos c26] at h
        exact wX9_isWitness_41 C0 G0 hJ z _ h hW (lv_sub hl [] rfl)
      · rw [if_neg c26] at h
        refine lv_iconst (v := (1 : Int32)) C0.1 C0.2.1 dX9_isWitness_37 (by decide) ?_
        refine lv_goto (tgt := 42) C0.1 C0.2.1 dX9_isWitness_38 (by decide) ?_
        exact wX9_isWitness_42 C0 G0 hJ z (1 : Int32) _ h hW (lv_sub hl [] rfl)
theorem cX9_isWitness_met (l : Launch) {G : GT} (hJ : gJ 13 G) (z : Nat) (σ : ST) (v0 : Int32) (v1 : Int32) (v2 : Int32) (res : Int32) (h : fX9_isWitness z v0 v1 v2 = some res) : Met l yX9_isWitness wsX9_isWitness rX9_isWitness (XPc cellM 13 G σ [.int v0, .int v1, .int v2]) (XQi cellM 13 G res σ) 0 0 (gA 13 G) :=
  x_met (ret := (some .boolean)) (maxL := 3) (by decide) rfl (Nat.le_of_ble_eq_true rfl) (fun p e s m args below meth c H locs ls C0 G0 hW hl => wX9_isWitness C0 G0 hJ z v0 v1 v2 res h hW hl)
end
/-! X9_keepAct -/
def rX9_keepAct : Room := { frames := 0, cells := 0, slots := 0, locals := 0 }
theorem hdvX9_keepAct : yX9_keepAct.cls = RX9 ∧ yX9_keepAct.cls ≠ "java/lang/invoke/MethodHandle" ∧ yX9_keepAct.cls ≠ "java/lang/invoke/VarHandle" ∧ (parseMethodDescriptor yX9_keepAct.desc).map (fun d => d.parameters.length) = some 0 := by decide +kernel
theorem inX9_keepAct_X9 : ∀ w ∈ u_ws RX9 TX9 29, w ∈ wsX9_keepAct := by decide +kernel
theorem lkX9_keepAct_32 : Cond.fieldLink RX9 32 (TX9 22).1 (TX9 22).2.1 (TX9 22).2.2.1 ∈ wsX9_keepAct := by decide +kernel
theorem lkX9_keepAct_119 : Cond.fieldLink RX9 119 (TX9 21).1 (TX9 21).2.1 (TX9 21).2.2.1 ∈ wsX9_keepAct := by decide +kernel
theorem lkX9_keepAct_19 : Cond.fieldLink RX9 19 (TX9 14).1 (TX9 14).2.1 (TX9 14).2.2.1 ∈ wsX9_keepAct := by decide +kernel
theorem lkX9_keepAct_35 : Cond.fieldLink RX9 35 (TX9 23).1 (TX9 23).2.1 (TX9 23).2.2.1 ∈ wsX9_keepAct := by decide +kernel
theorem lkX9_keepAct_23 : Cond.fieldLink RX9 23 (TX9 15).1 (TX9 15).2.1 (TX9 15).2.2.1 ∈ wsX9_keepAct := by decide +kernel
def fX9_keepAct_36 (z : Nat) : Nat → ST → Int32 → Option ST
  | 0 => fun _ _ => none
  | n + 1 => fun σ v1 => (if (9 : Int32) ≤ v1 then lt (pI σ 0 21 ((σ.1 0 21) + (1 : Int32))) (fun s26 => some s26) else gd (inb v1 9) ( gd (inb (((9 : Int32) * (σ.1 0 21)) + v1) 81) ( lt (pI σ 9 ((((9 : Int32) * (σ.1 0 21)) + v1)).toNatClampNeg (σ.1 5 (v1).toNatClampNeg)) (fun s29 => (fX9_keepAct_36 z n) s29 (v1 + 1)))))
def fX9_keepAct_2 (z : Nat) : Nat → ST → Int32 → Option ST
  | 0 => fun _ _ => none
  | n + 1 => fun σ v1 => (if (11 : Int32) ≤ v1 then fX9_keepAct_36 z z σ (0 : Int32) else gd (inb v1 33) ( gd (inb (((11 : Int32) * (σ.1 0 21)) + v1) 99) ( lt (pL σ 8 ((((11 : Int32) * (σ.1 0 21)) + v1)).toNatClampNeg (σ.2 4 (v1).toNatClampNeg)) (fun s24 => (fX9_keepAct_2 z n) s24 (v1 + 1)))))
def fX9_keepAct (z : Nat) (σ : ST) : Option ST := fX9_keepAct_2 z z σ (0 : Int32)
section
variable {p : Program} {l : Launch} {e : Env} {s : State} {m : MethodId} {args : Array Value} {below : List Frame} {meth : Method} {c : Code} {G : GT}
set_option maxHeartbeats 4000000 in
set_option maxRecDepth 100000 in
theorem wX9_keepAct_36 (C0 : Cx p s m args meth c cX9_keepAct RX9 2 none wsX9_keepAct) (G0 : Gx G s) (hJ : gJ 13 G) (z : Nat) (n : Nat) (σ : ST) (v1 : Int32) (res : ST) (h : fX9_keepAct_36 z n σ v1 = some res)  {H : Heap} {locs : List Loc} {ls : Array Slot} (hW : Wd cellM 13 G s.heap σ H locs) (hl : lv_has ls 2 [(0, .ref (aD G 0)), (1, .int v1)]) : W p l e rX9_keepAct s m args below meth c H locs 0 0 (MQ below (XQv cellM 13 G res) args s 0 0 (gA 13 G)) (F0 m 36 ls []) := by
  induction n generalizing σ v1 H locs ls with
  | zero => cases h
  | succ n ih =>
    have hr36 : ∀ (σ : ST) (v1 : Int32), fX9_keepAct_36 z n σ v1 = some res → ∀ (H : Heap) (locs : List Loc) (ls : Array Slot), Wd cellM 13 G s.heap σ H locs → lv_has ls 2 [(0, .ref (aD G 0)), (1, .int v1)] → W p l e rX9_keepAct s m args below meth c H locs 0 0 (MQ below (XQv cellM 13 G res) args s 0 0 (gA 13 G)) (F0 m 36 ls []) := fun σ v1 h H locs ls hW hl => ih σ v1 h hW hl
    clear ih
    unfold fX9_keepAct_36 at h
    refine lv_iload_n C0.1 C0.2.1 dX9_keepAct_36 rfl (lv_at hl 1 rfl) ?_
    refine lv_bipush (v := (9 : Int32)) C0.1 C0.2.1 dX9_keepAct_37 (by decide) ?_
    refine lv_icmp_ge (tgt := 68) C0.1 C0.2.1 dX9_keepAct_39 (by decide) (fun c25 => ?_) (fun c25 => ?_)
    · rw [if_pos c25] at h
      refine lv_aload_n C0.1 C0.2.1 dX9_keepAct_68 rfl (lv_at hl 0 rfl) ?_
      refine lv_dup C0.1 C0.2.1 dX9_keepAct_69 rfl ?_
      refine x_get (v := .int (σ.1 0 21)) C0 G0 hW cM_0 (by decide) rfl 21 (by decide) inX9_keepAct_X9 lkX9_keepAct_119 rfl dX9_keepAct_70 ?_
      refine lv_iconst (v := (1 : Int32)) C0.1 C0.2.1 dX9_keepAct_73 (by decide) ?_
      refine lv_iadd C0.1 C0.2.1 dX9_keepAct_74 ?_
      refine x_putI (v := ((σ.1 0 21) + (1 : Int32))) C0 G0 hJ hW cM_0 (by decide) rfl 21 (by decide) inX9_keepAct_X9 lkX9_keepAct_119 tyX9 tyX9_ok nmX9 rfl rfl rfl (Nat.le_of_ble_eq_true rfl) hu_X9_21 dX9_keepAct_75 (fun H locs hW => ?_)
      obtain ⟨s26, es26, h⟩ := lt_some h
      rw [es26] at hW
      cases h
      exact x_vret C0 hW dX9_keepAct_78
    · rw [if_neg c25] at h
      refine lv_aload_n C0.1 C0.2.1 dX9_keepAct_42 rfl (lv_at hl 0 rfl) ?_
      refine x_get (v := .ref (aD G 9)) C0 G0 hW cM_0 (by decide) rfl 23 (by decide) inX9_keepAct_X9 lkX9_keepAct_35 rfl dX9_keepAct_43 ?_
      refine lv_bipush (v := (9 : Int32)) C0.1 C0.2.1 dX9_keepAct_46 (by decide) ?_
      refine lv_aload_n C0.1 C0.2.1 dX9_keepAct_48 rfl (lv_at hl 0 rfl) ?_
      refine x_get (v := .int (σ.1 0 21)) C0 G0 hW cM_0 (by decide) rfl 21 (by decide) inX9_keepAct_X9 lkX9_keepAct_119 rfl dX9_keepAct_49 ?_
      refine lv_imul C0.1 C0.2.1 dX9_keepAct_52 ?_
      refine lv_iload_n C0.1 C0.2.1 dX9_keepAct_53 rfl (lv_at hl 1 rfl) ?_
      refine lv_iadd C0.1 C0.2.1 dX9_keepAct_54 ?_
      refine lv_aload_n C0.1 C0.2.1 dX9_keepAct_55 rfl (lv_at hl 0 rfl) ?_
      refine x_get (v := .ref (aD G 5)) C0 G0 hW cM_0 (by decide) rfl 15 (by decide) inX9_keepAct_X9 lkX9_keepAct_23 rfl dX9_keepAct_56 ?_
      refine lv_iload_n C0.1 C0.2.1 dX9_keepAct_59 rfl (lv_at hl 1 rfl) ?_
      obtain ⟨g27, h⟩ := gd_some h
      refine x_iald C0 G0 hW cM_5 (by decide) g27 dX9_keepAct_60 ?_
      obtain ⟨g28, h⟩ := gd_some h
      refine x_iast C0 G0 hJ hW (fun f g => cM_9) (by decide) g28 dX9_keepAct_61 (fun H locs hW => ?_)
      obtain ⟨s29, es29, h⟩ := lt_some h
      rw [es29] at hW
      refine lv_iinc (v := (v1 + 1)) (lv' := [(1, .int (v1 + 1)), (0, .ref (aD G 0))]) C0.1 C0.2.1 dX9_keepAct_62 hl (k := 1) rfl rfl (by decide) rfl (fun ls hl => ?_)
      refine lv_goto (tgt := 36) C0.1 C0.2.1 dX9_keepAct_65 (by decide) ?_
      exact hr36 s29 (v1 + 1) h _ _ _ hW (lv_sub hl [1, 0] rfl)
set_option maxHeartbeats 4000000 in
set_option maxRecDepth 100000 in
theorem wX9_keepAct_2 (C0 : Cx p s m args meth c cX9_keepAct RX9 2 none wsX9_keepAct) (G0 : Gx G s) (hJ : gJ 13 G) (z : Nat) (n : Nat) (σ : ST) (v1 : Int32) (res : ST) (h : fX9_keepAct_2 z n σ v1 = some res)  {H : Heap} {locs : List Loc} {ls : Array Slot} (hW : Wd cellM 13 G s.heap σ H locs) (hl : lv_has ls 2 [(0, .ref (aD G 0)), (1, .int v1)]) : W p l e rX9_keepAct s m args below meth c H locs 0 0 (MQ below (XQv cellM 13 G res) args s 0 0 (gA 13 G)) (F0 m 2 ls []) := by
  induction n generalizing σ v1 H locs ls with
  | zero => cases h
  | succ n ih =>
    have hr2 : ∀ (σ : ST) (v1 : Int32), fX9_keepAct_2 z n σ v1 = some res → ∀ (H : Heap) (locs : List Loc) (ls : Array Slot), Wd cellM 13 G s.heap σ H locs → lv_has ls 2 [(0, .ref (aD G 0)), (1, .int v1)] → W p l e rX9_keepAct s m args below meth c H locs 0 0 (MQ below (XQv cellM 13 G res) args s 0 0 (gA 13 G)) (F0 m 2 ls []) := fun σ v1 h H locs ls hW hl => ih σ v1 h hW hl
    clear ih
    unfold fX9_keepAct_2 at h
    refine lv_iload_n C0.1 C0.2.1 dX9_keepAct_2 rfl (lv_at hl 1 rfl) ?_
    refine lv_bipush (v := (11 : Int32)) C0.1 C0.2.1 dX9_keepAct_3 (by decide) ?_
    refine lv_icmp_ge (tgt := 34) C0.1 C0.2.1 dX9_keepAct_5 (by decide) (fun c21 => ?_) (fun c21 => ?_)
    · rw [if_pos c21] at h
      refine lv_iconst (v := (0 : Int32)) C0.1 C0.2.1 dX9_keepAct_34 (by decide) ?_
      refine lv_istore_n (lv' := [(1, .int (0 : Int32)), (0, .ref (aD G 0))]) C0.1 C0.2.1 dX9_keepAct_35 rfl hl (by decide) rfl (fun ls hl => ?_)
      exact wX9_keepAct_36 C0 G0 hJ z z σ (0 : Int32) _ h hW (lv_sub hl [1, 0] rfl)
    · rw [if_neg c21] at h
      refine lv_aload_n C0.1 C0.2.1 dX9_keepAct_8 rfl (lv_at hl 0 rfl) ?_
      refine x_get (v := .ref (aD G 8)) C0 G0 hW cM_0 (by decide) rfl 22 (by decide) inX9_keepAct_X9 lkX9_keepAct_32 rfl dX9_keepAct_9 ?_
      refine lv_bipush (v := (11 : Int32)) C0.1 C0.2.1 dX9_keepAct_12 (by decide) ?_
      refine lv_aload_n C0.1 C0.2.1 dX9_keepAct_14 rfl (lv_at hl 0 rfl) ?_
      refine x_get (v := .int (σ.1 0 21)) C0 G0 hW cM_0 (by decide) rfl 21 (by decide) inX9_keepAct_X9 lkX9_keepAct_119 rfl dX9_keepAct_15 ?_
      refine lv_imul C0.1 C0.2.1 dX9_keepAct_18 ?_
      refine lv_iload_n C0.1 C0.2.1 dX9_keepAct_19 rfl (lv_at hl 1 rfl) ?_
      refine lv_iadd C0.1 C0.2.1 dX9_keepAct_20 ?_
      refine lv_aload_n C0.1 C0.2.1 dX9_keepAct_21 rfl (lv_at hl 0 rfl) ?_
      refine x_get (v := .ref (aD G 4)) C0 G0 hW cM_0 (by decide) rfl 14 (by decide) inX9_keepAct_X9 lkX9_keepAct_19 rfl dX9_keepAct_22 ?_
      refine lv_iload_n C0.1 C0.2.1 dX9_keepAct_25 rfl (lv_at hl 1 rfl) ?_
      obtain ⟨g22, h⟩ := gd_some h
      refine x_lald C0 G0 hW cM_4 (by decide) g22 dX9_keepAct_26 ?_
      obtain ⟨g23, h⟩ := gd_some h
      refine x_last C0 G0 hJ hW (fun f g => cM_8) (by decide) g23 dX9_keepAct_27 (fun H locs hW => ?_)
      obtain ⟨s24, es24, h⟩ := lt_some h
      rw [es24] at hW
      refine lv_iinc (v := (v1 + 1)) (lv' := [(1, .int (v1 + 1)), (0, .ref (aD G 0))]) C0.1 C0.2.1 dX9_keepAct_28 hl (k := 1) rfl rfl (by decide) rfl (fun ls hl => ?_)
      refine lv_goto (tgt := 2) C0.1 C0.2.1 dX9_keepAct_31 (by decide) ?_
      exact hr2 s24 (v1 + 1) h _ _ _ hW (lv_sub hl [1, 0] rfl)
set_option maxHeartbeats 4000000 in
set_option maxRecDepth 100000 in
theorem wX9_keepAct (C0 : Cx p s m args meth c cX9_keepAct RX9 2 none wsX9_keepAct) (G0 : Gx G s) (hJ : gJ 13 G) (z : Nat) (σ : ST) (res : ST) (h : fX9_keepAct z σ = some res)  {H : Heap} {locs : List Loc} {ls : Array Slot} (hW : Wd cellM 13 G s.heap σ H locs) (hl : lv_has ls 2 [(0, .ref (aD G 0))]) : W p l e rX9_keepAct s m args below meth c H locs 0 0 (MQ below (XQv cellM 13 G res) args s 0 0 (gA 13 G)) (F0 m 0 ls []) := by
  unfold fX9_keepAct at h
  refine lv_iconst (v := (0 : Int32)) C0.1 C0.2.1 dX9_keepAct_0 (by decide) ?_
  refine lv_istore_n (lv' := [(1, .int (0 : Int32)), (0, .ref (aD G 0))]) C0.1 C0.2.1 dX9_keepAct_1 rfl hl (by decide) rfl (fun ls hl => ?_)
  exact wX9_keepAct_2 C0 G0 hJ z z σ (0 : Int32) _ h hW (lv_sub hl [1, 0] rfl)
theorem cX9_keepAct_met (l : Launch) {G : GT} (hJ : gJ 13 G) (z : Nat) (σ : ST)  (res : ST) (h : fX9_keepAct z σ = some res) : Met l yX9_keepAct wsX9_keepAct rX9_keepAct (XPc cellM 13 G σ [.ref (aD G 0)]) (XQv cellM 13 G res) 0 0 (gA 13 G) :=
  x_met (ret := none) (maxL := 2) (by decide) rfl (Nat.le_of_ble_eq_true rfl) (fun p e s m args below meth c H locs ls C0 G0 hW hl => wX9_keepAct C0 G0 hJ z σ res h hW hl)
end
/-! X9_hear -/
def rX9_hear : Room := { frames := 2, cells := 0, slots := 0, locals := 47 }
theorem hdvX9_hear : yX9_hear.cls = RX9 ∧ yX9_hear.cls ≠ "java/lang/invoke/MethodHandle" ∧ yX9_hear.cls ≠ "java/lang/invoke/VarHandle" ∧ (parseMethodDescriptor yX9_hear.desc).map (fun d => d.parameters.length) = some 3 := by decide +kernel
theorem inX9_hear_X9 : ∀ w ∈ u_ws RX9 TX9 29, w ∈ wsX9_hear := by decide +kernel
theorem lkX9_hear_23 : Cond.fieldLink RX9 23 (TX9 15).1 (TX9 15).2.1 (TX9 15).2.2.1 ∈ wsX9_hear := by decide +kernel
theorem lkX9_hear_19 : Cond.fieldLink RX9 19 (TX9 14).1 (TX9 14).2.1 (TX9 14).2.2.1 ∈ wsX9_hear := by decide +kernel
theorem kcX9_hear_147 : Cond.constantLong RX9 147 (5 : Int64) ∈ wsX9_hear := by decide +kernel
def fX9_hear_82 (z : Nat) (r44 : ST → Int32 → Option (Int32 × ST)) (σ : ST) (v1 : Int32) (v2 : Int32) (v3 : Int32) (v4 : Int32) (t0 : Int64) (t1 : Int64) (t2 : Int32) : Option (Int32 × ST) := gd (inb t2 33) ( lt (pL σ 4 (t2).toNatClampNeg (t1 * t0)) (fun s47 => r44 s47 (v4 + 1)))
def fX9_hear_44 (z : Nat) (v1 : Int32) (v2 : Int32) (v3 : Int32) : Nat → ST → Int32 → Option (Int32 × ST)
  | 0 => fun _ _ => none
  | n + 1 => fun σ v4 => (if (10 : Int32) ≤ v4 then gd (inb (10 : Int32) 33) ( gd (inb (10 : Int32) 33) ( lt (pL σ 4 ((10 : Int32)).toNatClampNeg ((σ.2 4 ((10 : Int32)).toNatClampNeg) * (5 : Int64))) (fun s31 => gd (inb (2 : Int32) 9) ( gd (inb ((3 : Int32) + ((3 : Int32) * (s31.1 5 ((2 : Int32)).toNatClampNeg))) 9) ( lt (pI s31 5 (((3 : Int32) + ((3 : Int32) * (s31.1 5 ((2 : Int32)).toNatClampNeg)))).toNatClampNeg v1) (fun s34 => gd (inb (((3 : Int32) + ((3 : Int32) * (s31.1 5 ((2 : Int32)).toNatClampNeg))) + (1 : Int32)) 9) ( lt (pI s34 5 ((((3 : Int32) + ((3 : Int32) * (s31.1 5 ((2 : Int32)).toNatClampNeg))) + (1 : Int32))).toNatClampNeg v2) (fun s36 => gd (inb (((3 : Int32) + ((3 : Int32) * (s31.1 5 ((2 : Int32)).toNatClampNeg))) + (2 : Int32)) 9) ( lt (pI s36 5 ((((3 : Int32) + ((3 : Int32) * (s31.1 5 ((2 : Int32)).toNatClampNeg))) + (2 : Int32))).toNatClampNeg v3) (fun s38 => gd (inb (2 : Int32) 9) ( gd (inb (2 : Int32) 9) ( lt (pI s38 5 ((2 : Int32)).toNatClampNeg ((s38.1 5 ((2 : Int32)).toNatClampNeg) + (1 : Int32))) (fun s41 => gd (inb (2 : Int32) 9) ( some ((s41.1 5 ((2 : Int32)).toNatClampNeg), s41))))))))))))))) else gd (inb v4 33) ( bd (fX9_in z ((v4).toInt64) ((v1).toInt64) ((v2).toInt64)) (fun u44 => (if u44 = 0 then fX9_hear_82 z (fX9_hear_44 z v1 v2 v3 n) σ v1 v2 v3 v4 ((((10 : Int32) - v3)).toInt64) (σ.2 4 (v4).toNatClampNeg) v4 else fX9_hear_82 z (fX9_hear_44 z v1 v2 v3 n) σ v1 v2 v3 v4 ((v3).toInt64) (σ.2 4 (v4).toNatClampNeg) v4))))
def fX9_hear (z : Nat) (σ : ST) (v1 : Int32) (v2 : Int32) (v3 : Int32) : Option (Int32 × ST) := bd (fX9_isWitness z v1 v2 v3) (fun u21 => (if u21 = 0 then some ((-2 : Int32), σ) else gd (inb (1 : Int32) 9) ( (if (σ.1 5 ((1 : Int32)).toNatClampNeg) ≤ 0 then gd (inb (2 : Int32) 9) ( (if (σ.1 5 ((2 : Int32)).toNatClampNeg) = (2 : Int32) then some ((-4 : Int32), σ) else bd (fX9_keepAct z σ) (fun u27 => fX9_hear_44 z v1 v2 v3 z u27 (0 : Int32)))) else some ((-3 : Int32), σ)))))
section
variable {p : Program} {l : Launch} {e : Env} {s : State} {m : MethodId} {args : Array Value} {below : List Frame} {meth : Method} {c : Code} {G : GT}
set_option maxHeartbeats 4000000 in
set_option maxRecDepth 100000 in
theorem wX9_hear_82 (C0 : Cx p s m args meth c cX9_hear RX9 5 (some .int) wsX9_hear) (G0 : Gx G s) (hJ : gJ 13 G) (z : Nat) (r44 : ST → Int32 → Option (Int32 × ST)) (σ : ST) (v1 : Int32) (v2 : Int32) (v3 : Int32) (v4 : Int32) (t0 : Int64) (t1 : Int64) (t2 : Int32) (res : (Int32 × ST)) (h : fX9_hear_82 z r44 σ v1 v2 v3 v4 t0 t1 t2 = some res) (hr44 : ∀ (σ : ST) (v4 : Int32), r44 σ v4 = some res → ∀ (H : Heap) (locs : List Loc) (ls : Array Slot), Wd cellM 13 G s.heap σ H locs → lv_has ls 5 [(0, .ref (aD G 0)), (1, .int v1), (2, .int v2), (3, .int v3), (4, .int v4)] → W p l e rX9_hear s m args below meth c H locs 0 0 (MQ below (XQi cellM 13 G res.1 res.2) args s 0 0 (gA 13 G)) (F0 m 44 ls [])) {H : Heap} {locs : List Loc} {ls : Array Slot} (hW : Wd cellM 13 G s.heap σ H locs) (hl : lv_has ls 5 [(0, .ref (aD G 0)), (1, .int v1), (2, .int v2), (3, .int v3), (4, .int v4)]) : W p l e rX9_hear s m args below meth c H locs 0 0 (MQ below (XQi cellM 13 G res.1 res.2) args s 0 0 (gA 13 G)) (F0 m 82 ls [.long t0, .long t1, .int t2, .ref (aD G 4)]) := by
  unfold fX9_hear_82 at h
  refine lv_lmul C0.1 C0.2.1 dX9_hear_82 ?_
  obtain ⟨g46, h⟩ := gd_some h
  refine x_last C0 G0 hJ hW (fun f g => cM_4) (by decide) g46 dX9_hear_83 (fun H locs hW => ?_)
  obtain ⟨s47, es47, h⟩ := lt_some h
  rw [es47] at hW
  refine lv_iinc (v := (v4 + 1)) (lv' := [(4, .int (v4 + 1)), (0, .ref (aD G 0)), (1, .int v1), (2, .int v2), (3, .int v3)]) C0.1 C0.2.1 dX9_hear_84 hl (k := 4) rfl rfl (by decide) rfl (fun ls hl => ?_)
  refine lv_goto (tgt := 44) C0.1 C0.2.1 dX9_hear_87 (by decide) ?_
  exact hr44 s47 (v4 + 1) h _ _ _ hW (lv_sub hl [1, 2, 3, 4, 0] rfl)
set_option maxHeartbeats 4000000 in
set_option maxRecDepth 100000 in
theorem wX9_hear_44 (C0 : Cx p s m args meth c cX9_hear RX9 5 (some .int) wsX9_hear) (G0 : Gx G s) (hJ : gJ 13 G) (z : Nat) (v1 : Int32) (v2 : Int32) (v3 : Int32) (n : Nat) (σ : ST) (v4 : Int32) (res : (Int32 × ST)) (h : fX9_hear_44 z v1 v2 v3 n σ v4 = some res)  {H : Heap} {locs : List Loc} {ls : Array Slot} (hW : Wd cellM 13 G s.heap σ H locs) (hl : lv_has ls 5 [(0, .ref (aD G 0)), (1, .int v1), (2, .int v2), (3, .int v3), (4, .int v4)]) : W p l e rX9_hear s m args below meth c H locs 0 0 (MQ below (XQi cellM 13 G res.1 res.2) args s 0 0 (gA 13 G)) (F0 m 44 ls []) := by
  induction n generalizing σ v4 H locs ls with
  | zero => cases h
  | succ n ih =>
    have hr44 : ∀ (σ : ST) (v4 : Int32), fX9_hear_44 z v1 v2 v3 n σ v4 = some res → ∀ (H : Heap) (locs : List Loc) (ls : Array Slot), Wd cellM 13 G s.heap σ H locs → lv_has ls 5 [(0, .ref (aD G 0)), (1, .int v1), (2, .int v2), (3, .int v3), (4, .int v4)] → W p l e rX9_hear s m args below meth c H locs 0 0 (MQ below (XQi cellM 13 G res.1 res.2) args s 0 0 (gA 13 G)) (F0 m 44 ls []) := fun σ v4 h H locs ls hW hl => ih σ v4 h hW hl
    clear ih
    unfold fX9_hear_44 at h
    refine lv_iload C0.1 C0.2.1 dX9_hear_44 (lv_at hl 4 rfl) ?_
    refine lv_bipush (v := (10 : Int32)) C0.1 C0.2.1 dX9_hear_46 (by decide) ?_
    refine lv_icmp_ge (tgt := 90) C0.1 C0.2.1 dX9_hear_48 (by decide) (fun c28 => ?_) (fun c28 => ?_)
    · rw [if_pos c28] at h
      refine lv_aload_n C0.1 C0.2.1 dX9_hear_90 rfl (lv_at hl 0 rfl) ?_
      refine x_get (v := .ref (aD G 4)) C0 G0 hW cM_0 (by decide) rfl 14 (by decide) inX9_hear_X9 lkX9_hear_19 rfl dX9_hear_91 ?_
      refine lv_bipush (v := (10 : Int32)) C0.1 C0.2.1 dX9_hear_94 (by decide) ?_
      refine lv_dup2_11 C0.1 C0.2.1 dX9_hear_96 rfl rfl ?_
      obtain ⟨g29, h⟩ := gd_some h
      refine x_lald C0 G0 hW cM_4 (by decide) g29 dX9_hear_97 ?_
      refine lv_ldc2 (v := (5 : Int64)) C0.1 C0.2.1 C0.2.2.2.2.1 (C0.2.2.2.1 _ kcX9_hear_147) dX9_hear_98 ?_
      refine lv_lmul C0.1 C0.2.1 dX9_hear_101 ?_
      obtain ⟨g30, h⟩ := gd_some h
      refine x_last C0 G0 hJ hW (fun f g => cM_4) (by decide) g30 dX9_hear_102 (fun H locs hW => ?_)
      obtain ⟨s31, es31, h⟩ := lt_some h
      rw [es31] at hW
      refine lv_iconst (v := (3 : Int32)) C0.1 C0.2.1 dX9_hear_103 (by decide) ?_
      refine lv_iconst (v := (3 : Int32)) C0.1 C0.2.1 dX9_hear_104 (by decide) ?_
      refine lv_aload_n C0.1 C0.2.1 dX9_hear_105 rfl (lv_at hl 0 rfl) ?_
      refine x_get (v := .ref (aD G 5)) C0 G0 hW cM_0 (by decide) rfl 15 (by decide) inX9_hear_X9 lkX9_hear_23 rfl dX9_hear_106 ?_
      refine lv_iconst (v := (2 : Int32)) C0.1 C0.2.1 dX9_hear_109 (by decide) ?_
      obtain ⟨g32, h⟩ := gd_some h
      refine x_iald C0 G0 hW cM_5 (by decide) g32 dX9_hear_110 ?_
      refine lv_imul C0.1 C0.2.1 dX9_hear_111 ?_
      refine lv_iadd C0.1 C0.2.1 dX9_hear_112 ?_
      refine lv_istore (lv' := [(4, .int ((3 : Int32) + ((3 : Int32) * (s31.1 5 ((2 : Int32)).toNatClampNeg)))), (0, .ref (aD G 0)), (1, .int v1), (2, .int v2), (3, .int v3)]) C0.1 C0.2.1 dX9_hear_113 hl (by decide) rfl (fun ls hl => ?_)
      refine lv_aload_n C0.1 C0.2.1 dX9_hear_115 rfl (lv_at hl 1 rfl) ?_
      refine x_get (v := .ref (aD G 5)) C0 G0 hW cM_0 (by decide) rfl 15 (by decide) inX9_hear_X9 lkX9_hear_23 rfl dX9_hear_116 ?_
      refine lv_iload C0.1 C0.2.1 dX9_hear_119 (lv_at hl 0 rfl) ?_
      refine lv_iload_n C0.1 C0.2.1 dX9_hear_121 rfl (lv_at hl 2 rfl) ?_
      obtain ⟨g33, h⟩ := gd_some h
      refine x_iast C0 G0 hJ hW (fun f g => cM_5) (by decide) g33 dX9_hear_122 (fun H locs hW => ?_)
      obtain ⟨s34, es34, h⟩ := lt_some h
      rw [es34] at hW
      refine lv_aload_n C0.1 C0.2.1 dX9_hear_123 rfl (lv_at hl 1 rfl) ?_
      refine x_get (v := .ref (aD G 5)) C0 G0 hW cM_0 (by decide) rfl 15 (by decide) inX9_hear_X9 lkX9_hear_23 rfl dX9_hear_124 ?_
      refine lv_iload C0.1 C0.2.1 dX9_hear_127 (lv_at hl 0 rfl) ?_
      refine lv_iconst (v := (1 : Int32)) C0.1 C0.2.1 dX9_hear_129 (by decide) ?_
      refine lv_iadd C0.1 C0.2.1 dX9_hear_130 ?_
      refine lv_iload_n C0.1 C0.2.1 dX9_hear_131 rfl (lv_at hl 3 rfl) ?_
      obtain ⟨g35, h⟩ := gd_some h
      refine x_iast C0 G0 hJ hW (fun f g => cM_5) (by decide) g35 dX9_hear_132 (fun H locs hW => ?_)
      obtain ⟨s36, es36, h⟩ := lt_some h
      rw [es36] at hW
      refine lv_aload_n C0.1 C0.2.1 dX9_hear_133 rfl (lv_at hl 1 rfl) ?_
      refine x_get (v := .ref (aD G 5)) C0 G0 hW cM_0 (by decide) rfl 15 (by decide) inX9_hear_X9 lkX9_hear_23 rfl dX9_hear_134 ?_
      refine lv_iload C0.1 C0.2.1 dX9_hear_137 (lv_at hl 0 rfl) ?_
      refine lv_iconst (v := (2 : Int32)) C0.1 C0.2.1 dX9_hear_139 (by decide) ?_
      refine lv_iadd C0.1 C0.2.1 dX9_hear_140 ?_
      refine lv_iload_n C0.1 C0.2.1 dX9_hear_141 rfl (lv_at hl 4 rfl) ?_
      obtain ⟨g37, h⟩ := gd_some h
      refine x_iast C0 G0 hJ hW (fun f g => cM_5) (by decide) g37 dX9_hear_142 (fun H locs hW => ?_)
      obtain ⟨s38, es38, h⟩ := lt_some h
      rw [es38] at hW
      refine lv_aload_n C0.1 C0.2.1 dX9_hear_143 rfl (lv_at hl 1 rfl) ?_
      refine x_get (v := .ref (aD G 5)) C0 G0 hW cM_0 (by decide) rfl 15 (by decide) inX9_hear_X9 lkX9_hear_23 rfl dX9_hear_144 ?_
      refine lv_iconst (v := (2 : Int32)) C0.1 C0.2.1 dX9_hear_147 (by decide) ?_
      refine lv_dup2_11 C0.1 C0.2.1 dX9_hear_148 rfl rfl ?_
      obtain ⟨g39, h⟩ := gd_some h
      refine x_iald C0 G0 hW cM_5 (by decide) g39 dX9_hear_149 ?_
      refine lv_iconst (v := (1 : Int32)) C0.1 C0.2.1 dX9_hear_150 (by decide) ?_
      refine lv_iadd C0.1 C0.2.1 dX9_hear_151 ?_
      obtain ⟨g40, h⟩ := gd_some h
      refine x_iast C0 G0 hJ hW (fun f g => cM_5) (by decide) g40 dX9_hear_152 (fun H locs hW => ?_)
      obtain ⟨s41, es41, h⟩ := lt_some h
      rw [es41] at hW
      refine lv_aload_n C0.1 C0.2.1 dX9_hear_153 rfl (lv_at hl 1 rfl) ?_
      refine x_get (v := .ref (aD G 5)) C0 G0 hW cM_0 (by decide) rfl 15 (by decide) inX9_hear_X9 lkX9_hear_23 rfl dX9_hear_154 ?_
      refine lv_iconst (v := (2 : Int32)) C0.1 C0.2.1 dX9_hear_157 (by decide) ?_
      obtain ⟨g42, h⟩ := gd_some h
      refine x_iald C0 G0 hW cM_5 (by decide) g42 dX9_hear_158 ?_
      cases h
      exact x_iret C0 hW dX9_hear_159
    · rw [if_neg c28] at h
      refine lv_aload_n C0.1 C0.2.1 dX9_hear_51 rfl (lv_at hl 0 rfl) ?_
      refine x_get (v := .ref (aD G 4)) C0 G0 hW cM_0 (by decide) rfl 14 (by decide) inX9_hear_X9 lkX9_hear_19 rfl dX9_hear_52 ?_
      refine lv_iload C0.1 C0.2.1 dX9_hear_55 (lv_at hl 4 rfl) ?_
      refine lv_dup2_11 C0.1 C0.2.1 dX9_hear_57 rfl rfl ?_
      obtain ⟨g43, h⟩ := gd_some h
      refine x_lald C0 G0 hW cM_4 (by decide) g43 dX9_hear_58 ?_
      refine lv_iload C0.1 C0.2.1 dX9_hear_59 (lv_at hl 4 rfl) ?_
      refine lv_i2l (v := ((v4).toInt64)) C0.1 C0.2.1 dX9_hear_61 rfl ?_
      refine lv_iload_n C0.1 C0.2.1 dX9_hear_62 rfl (lv_at hl 1 rfl) ?_
      refine lv_i2l (v := ((v1).toInt64)) C0.1 C0.2.1 dX9_hear_63 rfl ?_
      refine lv_iload_n C0.1 C0.2.1 dX9_hear_64 rfl (lv_at hl 2 rfl) ?_
      refine lv_i2l (v := ((v2).toInt64)) C0.1 C0.2.1 dX9_hear_65 rfl ?_
      obtain ⟨u44, hu44, h⟩ := bd_some h
      refine x_ki (r := u44) (x_runS (As := [.long ((v4).toInt64), .long ((v1).toInt64), .long ((v2).toInt64)]) (rest := [.long (σ.2 4 (v4).toNatClampNeg), .int v4, .ref (aD G 4)]) C0 G0 hW (cX9_in_met l hJ z σ ((v4).toInt64) ((v1).toInt64) ((v2).toInt64) _ hu44) (va_cwS 3 C0.2.2.2.1 gX9_hear_X9_in rfl rfl rfl hdsX9_in ⟨Nat.le_of_ble_eq_true rfl, Nat.le_of_ble_eq_true rfl⟩) rfl rfl hl (Nat.le_of_ble_eq_true rfl) dX9_hear_66 ⟨Nat.le_refl 0, Nat.le_refl 0⟩) hW (fun H locs hW => ?_)
      refine lv_if_eq (tgt := 77) C0.1 C0.2.1 dX9_hear_69 (by decide) (fun c45 => ?_) (fun c45 => ?_)
      · rw [if_pos c45] at h
        refine lv_bipush (v := (10 : Int32)) C0.1 C0.2.1 dX9_hear_77 (by decide) ?_
        refine lv_iload_n C0.1 C0.2.1 dX9_hear_79 rfl (lv_at hl 3 rfl) ?_
        refine lv_isub C0.1 C0.2.1 dX9_hear_80 ?_
        refine lv_i2l (v := ((((10 : Int32) - v3)).toInt64)) C0.1 C0.2.1 dX9_hear_81 rfl ?_
        exact wX9_hear_82 C0 G0 hJ z (fX9_hear_44 z v1 v2 v3 n) σ v1 v2 v3 v4 ((((10 : Int32) - v3)).toInt64) (σ.2 4 (v4).toNatClampNeg) v4 _ h (by exact hr44) hW (lv_sub hl [0, 1, 2, 3, 4] rfl)
      · rw [if_neg c45] at h
        refine lv_iload_n C0.1 C0.2.1 dX9_hear_72 rfl (lv_at hl 3 rfl) ?_
        refine lv_i2l (v := ((v3).toInt64)) C0.1 C0.2.1 dX9_hear_73 rfl ?_
        refine lv_goto (tgt := 82) C0.1 C0.2.1 dX9_hear_74 (by decide) ?_
        exact wX9_hear_82 C0 G0 hJ z (fX9_hear_44 z v1 v2 v3 n) σ v1 v2 v3 v4 ((v3).toInt64) (σ.2 4 (v4).toNatClampNeg) v4 _ h (by exact hr44) hW (lv_sub hl [0, 1, 2, 3, 4] rfl)
set_option maxHeartbeats 4000000 in
set_option maxRecDepth 100000 in
theorem wX9_hear (C0 : Cx p s m args meth c cX9_hear RX9 5 (some .int) wsX9_hear) (G0 : Gx G s) (hJ : gJ 13 G) (z : Nat) (σ : ST) (v1 : Int32) (v2 : Int32) (v3 : Int32) (res : (Int32 × ST)) (h : fX9_hear z σ v1 v2 v3 = some res)  {H : Heap} {locs : List Loc} {ls : Array Slot} (hW : Wd cellM 13 G s.heap σ H locs) (hl : lv_has ls 5 [(0, .ref (aD G 0)), (1, .int v1), (2, .int v2), (3, .int v3)]) : W p l e rX9_hear s m args below meth c H locs 0 0 (MQ below (XQi cellM 13 G res.1 res.2) args s 0 0 (gA 13 G)) (F0 m 0 ls []) := by
  unfold fX9_hear at h
  refine lv_iload_n C0.1 C0.2.1 dX9_hear_0 rfl (lv_at hl 1 rfl) ?_
  refine lv_iload_n C0.1 C0.2.1 dX9_hear_1 rfl (lv_at hl 2 rfl) ?_
  refine lv_iload_n C0.1 C0.2.1 dX9_hear_2 rfl (lv_at hl 3 rfl) ?_
  obtain ⟨u21, hu21, h⟩ := bd_some h
  refine x_ki (r := u21) (x_runS (As := [.int v1, .int v2, .int v3]) (rest := []) C0 G0 hW (cX9_isWitness_met l hJ z σ v1 v2 v3 _ hu21) (va_cwS 3 C0.2.2.2.1 gX9_hear_X9_isWitness rfl rfl rfl hdsX9_isWitness ⟨Nat.le_of_ble_eq_true rfl, Nat.le_of_ble_eq_true rfl⟩) rfl rfl hl (Nat.le_of_ble_eq_true rfl) dX9_hear_3 ⟨Nat.le_refl 0, Nat.le_refl 0⟩) hW (fun H locs hW => ?_)
  refine lv_if_ne (tgt := 12) C0.1 C0.2.1 dX9_hear_6 (by decide) (fun c22 => ?_) (fun c22 => ?_)
  · rw [if_neg c22] at h
    refine lv_aload_n C0.1 C0.2.1 dX9_hear_12 rfl (lv_at hl 0 rfl) ?_
    refine x_get (v := .ref (aD G 5)) C0 G0 hW cM_0 (by decide) rfl 15 (by decide) inX9_hear_X9 lkX9_hear_23 rfl dX9_hear_13 ?_
    refine lv_iconst (v := (1 : Int32)) C0.1 C0.2.1 dX9_hear_16 (by decide) ?_
    obtain ⟨g23, h⟩ := gd_some h
    refine x_iald C0 G0 hW cM_5 (by decide) g23 dX9_hear_17 ?_
    refine lv_if_le (tgt := 24) C0.1 C0.2.1 dX9_hear_18 (by decide) (fun c24 => ?_) (fun c24 => ?_)
    · rw [if_pos c24] at h
      refine lv_aload_n C0.1 C0.2.1 dX9_hear_24 rfl (lv_at hl 0 rfl) ?_
      refine x_get (v := .ref (aD G 5)) C0 G0 hW cM_0 (by decide) rfl 15 (by decide) inX9_hear_X9 lkX9_hear_23 rfl dX9_hear_25 ?_
      refine lv_iconst (v := (2 : Int32)) C0.1 C0.2.1 dX9_hear_28 (by decide) ?_
      obtain ⟨g25, h⟩ := gd_some h
      refine x_iald C0 G0 hW cM_5 (by decide) g25 dX9_hear_29 ?_
      refine lv_iconst (v := (2 : Int32)) C0.1 C0.2.1 dX9_hear_30 (by decide) ?_
      refine lv_icmp_ne (tgt := 37) C0.1 C0.2.1 dX9_hear_31 (by decide) (fun c26 => ?_) (fun c26 => ?_)
      · rw [if_neg c26] at h
        refine lv_aload_n C0.1 C0.2.1 dX9_hear_37 rfl (lv_at hl 0 rfl) ?_
        obtain ⟨u27, hu27, h⟩ := bd_some h
        refine x_kv (x_runV (As := []) (rest := []) C0 G0 hW (cX9_keepAct_met l hJ z σ _ hu27) (cwV 0 C0.2.2.2.1 gX9_hear_X9_keepAct rfl rfl rfl hdvX9_keepAct ⟨Nat.le_of_ble_eq_true rfl, Nat.le_of_ble_eq_true rfl⟩) cM_0 (by decide) rfl rfl rfl hl (Nat.le_of_ble_eq_true rfl) dX9_hear_38 ⟨Nat.le_refl 0, Nat.le_refl 0⟩) hW (fun H locs hW => ?_)
        refine lv_iconst (v := (0 : Int32)) C0.1 C0.2.1 dX9_hear_41 (by decide) ?_
        refine lv_istore (lv' := [(4, .int (0 : Int32)), (0, .ref (aD G 0)), (1, .int v1), (2, .int v2), (3, .int v3)]) C0.1 C0.2.1 dX9_hear_42 hl (by decide) rfl (fun ls hl => ?_)
        exact wX9_hear_44 C0 G0 hJ z v1 v2 v3 z u27 (0 : Int32) _ h hW (lv_sub hl [1, 2, 3, 4, 0] rfl)
      · rw [if_pos c26] at h
        refine lv_bipush (v := (-4 : Int32)) C0.1 C0.2.1 dX9_hear_34 (by decide) ?_
        cases h
        exact x_iret C0 hW dX9_hear_36
    · rw [if_neg c24] at h
      refine lv_bipush (v := (-3 : Int32)) C0.1 C0.2.1 dX9_hear_21 (by decide) ?_
      cases h
      exact x_iret C0 hW dX9_hear_23
  · rw [if_pos c22] at h
    refine lv_bipush (v := (-2 : Int32)) C0.1 C0.2.1 dX9_hear_9 (by decide) ?_
    cases h
    exact x_iret C0 hW dX9_hear_11
theorem cX9_hear_met (l : Launch) {G : GT} (hJ : gJ 13 G) (z : Nat) (σ : ST) (v1 : Int32) (v2 : Int32) (v3 : Int32) (res : (Int32 × ST)) (h : fX9_hear z σ v1 v2 v3 = some res) : Met l yX9_hear wsX9_hear rX9_hear (XPc cellM 13 G σ [.ref (aD G 0), .int v1, .int v2, .int v3]) (XQi cellM 13 G res.1 res.2) 0 0 (gA 13 G) :=
  x_met (ret := (some .int)) (maxL := 5) (by decide) rfl (Nat.le_of_ble_eq_true rfl) (fun p e s m args below meth c H locs ls C0 G0 hW hl => wX9_hear C0 G0 hJ z σ v1 v2 v3 res h hW hl)
end
/-! X9_isFound -/
def rX9_isFound : Room := { frames := 1, cells := 0, slots := 0, locals := 22 }
theorem hdvX9_isFound : yX9_isFound.cls = RX9 ∧ yX9_isFound.cls ≠ "java/lang/invoke/MethodHandle" ∧ yX9_isFound.cls ≠ "java/lang/invoke/VarHandle" ∧ (parseMethodDescriptor yX9_isFound.desc).map (fun d => d.parameters.length) = some 2 := by decide +kernel
theorem inX9_isFound_X9 : ∀ w ∈ u_ws RX9 TX9 29, w ∈ wsX9_isFound := by decide +kernel
theorem lkX9_isFound_7 : Cond.fieldLink RX9 7 (TX9 9).1 (TX9 9).2.1 (TX9 9).2.2.1 ∈ wsX9_isFound := by decide +kernel
theorem lkX9_isFound_106 : Cond.fieldLink RX9 106 (TX9 4).1 (TX9 4).2.1 (TX9 4).2.2.1 ∈ wsX9_isFound := by decide +kernel
theorem lkX9_isFound_48 : Cond.fieldLink RX9 48 (TX9 5).1 (TX9 5).2.1 (TX9 5).2.2.1 ∈ wsX9_isFound := by decide +kernel
theorem lkX9_isFound_100 : Cond.fieldLink RX9 100 (TX9 2).1 (TX9 2).2.1 (TX9 2).2.2.1 ∈ wsX9_isFound := by decide +kernel
theorem lkX9_isFound_103 : Cond.fieldLink RX9 103 (TX9 3).1 (TX9 3).2.1 (TX9 3).2.2.1 ∈ wsX9_isFound := by decide +kernel
theorem lkX9_isFound_94 : Cond.fieldLink RX9 94 (TX9 0).1 (TX9 0).2.1 (TX9 0).2.2.1 ∈ wsX9_isFound := by decide +kernel
theorem lkX9_isFound_97 : Cond.fieldLink RX9 97 (TX9 1).1 (TX9 1).2.1 (TX9 1).2.2.1 ∈ wsX9_isFound := by decide +kernel
def fX9_isFound_214 (z : Nat) (σ : ST) : Option (Int32 × ST) := gd (zok (0 : Int32)) ( some ((0 : Int32), σ))
def fX9_isFound_208 (z : Nat) (r49 : ST → Int32 → Int32 → Int32 → Option (Int32 × ST)) (σ : ST) (v1 : Int32) (v2 : Int32) (v3 : Int32) (v5 : Int32) (v6 : Int32) : Option (Int32 × ST) := r49 σ v3 v5 (v6 + 1)
def fX9_isFound_204 (z : Nat) (r49 : ST → Int32 → Int32 → Int32 → Option (Int32 × ST)) (σ : ST) (v1 : Int32) (v2 : Int32) (v5 : Int32) (v6 : Int32) (t0 : Int32) (t1 : Int32) : Option (Int32 × ST) := bd (fX9_to z t1 t0) (fun u45 => fX9_isFound_208 z r49 σ v1 v2 u45 v5 v6)
def fX9_isFound_157 (z : Nat) (r49 : ST → Int32 → Int32 → Int32 → Option (Int32 × ST)) (σ : ST) (v1 : Int32) (v2 : Int32) (v3 : Int32) (v5 : Int32) (v6 : Int32) : Option (Int32 × ST) := (if (10 : Int32) ≤ v3 then fX9_isFound_208 z r49 σ v1 v2 v3 v5 v6 else bd (fX9_drawn z σ (10 : Int32)) (fun u42 => (if (u42.2.1 0 0) ≤ u42.1 then (if ((u42.2.1 0 0) + (u42.2.1 0 1)) ≤ u42.1 then fX9_isFound_204 z r49 u42.2 v1 v2 v5 v6 (0 : Int32) v3 else fX9_isFound_204 z r49 u42.2 v1 v2 v5 v6 (2 : Int32) v3) else fX9_isFound_204 z r49 u42.2 v1 v2 v5 v6 (1 : Int32) v3)))
def fX9_isFound_147 (z : Nat) (r49 : ST → Int32 → Int32 → Int32 → Option (Int32 × ST)) (σ : ST) (v1 : Int32) (v2 : Int32) (v3 : Int32) (v5 : Int32) (v6 : Int32) (v8 : Int32) (t0 : Int32) (t1 : Int32) : Option (Int32 × ST) := (if t0 ≤ t1 then fX9_isFound_157 z r49 σ v1 v2 v3 v5 v6 else (if v8 = 0 then fX9_isFound_157 z r49 σ v1 v2 v3 v5 v6 else gd (zok (1 : Int32)) ( some ((1 : Int32), σ))))
def fX9_isFound_122 (z : Nat) (r49 : ST → Int32 → Int32 → Int32 → Option (Int32 × ST)) (σ : ST) (v1 : Int32) (v2 : Int32) (v3 : Int32) (v5 : Int32) (v6 : Int32) (v7 : Int32) (t0 : Int32) : Option (Int32 × ST) := bd (fX9_drawn z σ (10 : Int32)) (fun u36 => (if v7 = (3 : Int32) then fX9_isFound_147 z r49 u36.2 v1 v2 v3 v5 v6 t0 (u36.2.1 0 3) u36.1 else fX9_isFound_147 z r49 u36.2 v1 v2 v3 v5 v6 t0 (u36.2.1 0 2) u36.1))
def fX9_isFound_114 (z : Nat) (r49 : ST → Int32 → Int32 → Int32 → Option (Int32 × ST)) (σ : ST) (v1 : Int32) (v2 : Int32) (v3 : Int32) (v5 : Int32) (v6 : Int32) (v7 : Int32) (t0 : Int32) (t1 : Int32) : Option (Int32 × ST) := (if t1 = t0 then fX9_isFound_122 z r49 σ v1 v2 v3 v5 v6 v7 (1 : Int32) else fX9_isFound_122 z r49 σ v1 v2 v3 v5 v6 v7 (0 : Int32))
def fX9_isFound_98 (z : Nat) (r49 : ST → Int32 → Int32 → Int32 → Option (Int32 × ST)) (σ : ST) (v1 : Int32) (v2 : Int32) (v3 : Int32) (v6 : Int32) (v7 : Int32) (t0 : Int32) : Option (Int32 × ST) := (if v7 = (3 : Int32) then fX9_isFound_114 z r49 σ v1 v2 v3 t0 v6 v7 (10 : Int32) v3 else fX9_isFound_114 z r49 σ v1 v2 v3 t0 v6 v7 t0 v3)
def fX9_isFound_49 (z : Nat) (v1 : Int32) (v2 : Int32) : Nat → ST → Int32 → Int32 → Int32 → Option (Int32 × ST)
  | 0 => fun _ _ _ _ => none
  | n + 1 => fun σ v3 v5 v6 => (if v1 ≤ v6 then fX9_isFound_214 z σ else (if (σ.1 0 5) ≤ v6 then fX9_isFound_214 z σ else bd (fX9_tenTo z ((v1 - (1 : Int32)) - v6)) (fun u28 => gd (nz u28) ( gd (nz (10 : Int32)) ( (if ((v2 / u28) - (v2 / u28) / (10 : Int32) * (10 : Int32)) = (3 : Int32) then fX9_isFound_98 z (fX9_isFound_49 z v1 v2 n) σ v1 v2 v3 v6 ((v2 / u28) - (v2 / u28) / (10 : Int32) * (10 : Int32)) v5 else bd (fX9_to z v5 ((v2 / u28) - (v2 / u28) / (10 : Int32) * (10 : Int32))) (fun u32 => fX9_isFound_98 z (fX9_isFound_49 z v1 v2 n) σ v1 v2 v3 v6 ((v2 / u28) - (v2 / u28) / (10 : Int32) * (10 : Int32)) u32)))))))
def fX9_isFound_12 (z : Nat) (σ : ST) (v1 : Int32) (v2 : Int32) : Nat → Int32 → Int32 → Option (Int32 × ST)
  | 0 => fun _ _ => none
  | n + 1 => fun v3 v4 => gd (inb v3 11) ( (if v4 < (σ.1 1 (v3).toNatClampNeg) then fX9_isFound_49 z v1 v2 z σ v3 (σ.1 0 4) (0 : Int32) else gd (inb v3 11) ( (fX9_isFound_12 z σ v1 v2 n) (v3 + 1) (v4 - (σ.1 1 (v3).toNatClampNeg)))))
def fX9_isFound (z : Nat) (σ : ST) (v1 : Int32) (v2 : Int32) : Option (Int32 × ST) := bd (fX9_allParts z σ) (fun u21 => bd (fX9_drawn z σ u21) (fun u22 => fX9_isFound_12 z u22.2 v1 v2 z (0 : Int32) u22.1))
section
variable {p : Program} {l : Launch} {e : Env} {s : State} {m : MethodId} {args : Array Value} {below : List Frame} {meth : Method} {c : Code} {G : GT}
set_option maxHeartbeats 4000000 in
set_option maxRecDepth 100000 in
theorem wX9_isFound_214 (C0 : Cx p s m args meth c cX9_isFound RX9 10 (some .boolean) wsX9_isFound) (G0 : Gx G s) (hJ : gJ 13 G) (z : Nat) (σ : ST) (res : (Int32 × ST)) (h : fX9_isFound_214 z σ = some res)  {H : Heap} {locs : List Loc} {ls : Array Slot} (hW : Wd cellM 13 G s.heap σ H locs) (hl : lv_has ls 10 []) : W p l e rX9_isFound s m args below meth c H locs 0 0 (MQ below (XQi cellM 13 G res.1 res.2) args s 0 0 (gA 13 G)) (F0 m 214 ls []) := by
  unfold fX9_isFound_214 at h
  refine lv_iconst (v := (0 : Int32)) C0.1 C0.2.1 dX9_isFound_214 (by decide) ?_
  obtain ⟨g33, h⟩ := gd_some h
  cases h
  exact x_zret C0 hW g33 dX9_isFound_215
set_option maxHeartbeats 4000000 in
set_option maxRecDepth 100000 in
theorem wX9_isFound_208 (C0 : Cx p s m args meth c cX9_isFound RX9 10 (some .boolean) wsX9_isFound) (G0 : Gx G s) (hJ : gJ 13 G) (z : Nat) (r49 : ST → Int32 → Int32 → Int32 → Option (Int32 × ST)) (σ : ST) (v1 : Int32) (v2 : Int32) (v3 : Int32) (v5 : Int32) (v6 : Int32) (res : (Int32 × ST)) (h : fX9_isFound_208 z r49 σ v1 v2 v3 v5 v6 = some res) (hr49 : ∀ (σ : ST) (v3 : Int32) (v5 : Int32) (v6 : Int32), r49 σ v3 v5 v6 = some res → ∀ (H : Heap) (locs : List Loc) (ls : Array Slot), Wd cellM 13 G s.heap σ H locs → lv_has ls 10 [(0, .ref (aD G 0)), (1, .int v1), (2, .int v2), (3, .int v3), (5, .int v5), (6, .int v6)] → W p l e rX9_isFound s m args below meth c H locs 0 0 (MQ below (XQi cellM 13 G res.1 res.2) args s 0 0 (gA 13 G)) (F0 m 49 ls [])) {H : Heap} {locs : List Loc} {ls : Array Slot} (hW : Wd cellM 13 G s.heap σ H locs) (hl : lv_has ls 10 [(0, .ref (aD G 0)), (1, .int v1), (2, .int v2), (3, .int v3), (5, .int v5), (6, .int v6)]) : W p l e rX9_isFound s m args below meth c H locs 0 0 (MQ below (XQi cellM 13 G res.1 res.2) args s 0 0 (gA 13 G)) (F0 m 208 ls []) := by
  unfold fX9_isFound_208 at h
  refine lv_iinc (v := (v6 + 1)) (lv' := [(6, .int (v6 + 1)), (0, .ref (aD G 0)), (1, .int v1), (2, .int v2), (3, .int v3), (5, .int v5)]) C0.1 C0.2.1 dX9_isFound_208 hl (k := 5) rfl rfl (by decide) rfl (fun ls hl => ?_)
  refine lv_goto (tgt := 49) C0.1 C0.2.1 dX9_isFound_211 (by decide) ?_
  exact hr49 σ v3 v5 (v6 + 1) h _ _ _ hW (lv_sub hl [1, 2, 3, 4, 5, 0] rfl)
set_option maxHeartbeats 4000000 in
set_option maxRecDepth 100000 in
theorem wX9_isFound_204 (C0 : Cx p s m args meth c cX9_isFound RX9 10 (some .boolean) wsX9_isFound) (G0 : Gx G s) (hJ : gJ 13 G) (z : Nat) (r49 : ST → Int32 → Int32 → Int32 → Option (Int32 × ST)) (σ : ST) (v1 : Int32) (v2 : Int32) (v5 : Int32) (v6 : Int32) (t0 : Int32) (t1 : Int32) (res : (Int32 × ST)) (h : fX9_isFound_204 z r49 σ v1 v2 v5 v6 t0 t1 = some res) (hr49 : ∀ (σ : ST) (v3 : Int32) (v5 : Int32) (v6 : Int32), r49 σ v3 v5 v6 = some res → ∀ (H : Heap) (locs : List Loc) (ls : Array Slot), Wd cellM 13 G s.heap σ H locs → lv_has ls 10 [(0, .ref (aD G 0)), (1, .int v1), (2, .int v2), (3, .int v3), (5, .int v5), (6, .int v6)] → W p l e rX9_isFound s m args below meth c H locs 0 0 (MQ below (XQi cellM 13 G res.1 res.2) args s 0 0 (gA 13 G)) (F0 m 49 ls [])) {H : Heap} {locs : List Loc} {ls : Array Slot} (hW : Wd cellM 13 G s.heap σ H locs) (hl : lv_has ls 10 [(0, .ref (aD G 0)), (1, .int v1), (2, .int v2), (5, .int v5), (6, .int v6)]) : W p l e rX9_isFound s m args below meth c H locs 0 0 (MQ below (XQi cellM 13 G res.1 res.2) args s 0 0 (gA 13 G)) (F0 m 204 ls [.int t0, .int t1]) := by
  unfold fX9_isFound_204 at h
  obtain ⟨u45, hu45, h⟩ := bd_some h
  refine x_ki (r := u45) (x_runS (As := [.int t1, .int t0]) (rest := []) C0 G0 hW (cX9_to_met l hJ z σ t1 t0 _ hu45) (va_cwS 2 C0.2.2.2.1 gX9_isFound_X9_to rfl rfl rfl hdsX9_to ⟨Nat.le_of_ble_eq_true rfl, Nat.le_of_ble_eq_true rfl⟩) rfl rfl hl (Nat.le_of_ble_eq_true rfl) dX9_isFound_204 ⟨Nat.le_refl 0, Nat.le_refl 0⟩) hW (fun H locs hW => ?_)
  refine lv_istore_n (lv' := [(3, .int u45), (0, .ref (aD G 0)), (1, .int v1), (2, .int v2), (5, .int v5), (6, .int v6)]) C0.1 C0.2.1 dX9_isFound_207 rfl hl (by decide) rfl (fun ls hl => ?_)
  exact wX9_isFound_208 C0 G0 hJ z r49 σ v1 v2 u45 v5 v6 _ h (by exact hr49) hW (lv_sub hl [1, 2, 3, 0, 4, 5] rfl)
set_option maxHeartbeats 4000000 in
set_option maxRecDepth 100000 in
theorem wX9_isFound_157 (C0 : Cx p s m args meth c cX9_isFound RX9 10 (some .boolean) wsX9_isFound) (G0 : Gx G s) (hJ : gJ 13 G) (z : Nat) (r49 : ST → Int32 → Int32 → Int32 → Option (Int32 × ST)) (σ : ST) (v1 : Int32) (v2 : Int32) (v3 : Int32) (v5 : Int32) (v6 : Int32) (res : (Int32 × ST)) (h : fX9_isFound_157 z r49 σ v1 v2 v3 v5 v6 = some res) (hr49 : ∀ (σ : ST) (v3 : Int32) (v5 : Int32) (v6 : Int32), r49 σ v3 v5 v6 = some res → ∀ (H : Heap) (locs : List Loc) (ls : Array Slot), Wd cellM 13 G s.heap σ H locs → lv_has ls 10 [(0, .ref (aD G 0)), (1, .int v1), (2, .int v2), (3, .int v3), (5, .int v5), (6, .int v6)] → W p l e rX9_isFound s m args below meth c H locs 0 0 (MQ below (XQi cellM 13 G res.1 res.2) args s 0 0 (gA 13 G)) (F0 m 49 ls [])) {H : Heap} {locs : List Loc} {ls : Array Slot} (hW : Wd cellM 13 G s.heap σ H locs) (hl : lv_has ls 10 [(0, .ref (aD G 0)), (1, .int v1), (2, .int v2), (3, .int v3), (5, .int v5), (6, .int v6)]) : W p l e rX9_isFound s m args below meth c H locs 0 0 (MQ below (XQi cellM 13 G res.1 res.2) args s 0 0 (gA 13 G)) (F0 m 157 ls []) := by
  unfold fX9_isFound_157 at h
  refine lv_iload_n C0.1 C0.2.1 dX9_isFound_157 rfl (lv_at hl 3 rfl) ?_
  refine lv_bipush (v := (10 : Int32)) C0.1 C0.2.1 dX9_isFound_158 (by decide) ?_
  refine lv_icmp_ge (tgt := 208) C0.1 C0.2.1 dX9_isFound_160 (by decide) (fun c41 => ?_) (fun c41 => ?_)
  · rw [if_pos c41] at h
    exact wX9_isFound_208 C0 G0 hJ z r49 σ v1 v2 v3 v5 v6 _ h (by exact hr49) hW (lv_sub hl [0, 1, 2, 3, 4, 5] rfl)
  · rw [if_neg c41] at h
    refine lv_aload_n C0.1 C0.2.1 dX9_isFound_163 rfl (lv_at hl 0 rfl) ?_
    refine lv_bipush (v := (10 : Int32)) C0.1 C0.2.1 dX9_isFound_164 (by decide) ?_
    obtain ⟨u42, hu42, h⟩ := bd_some h
    refine x_ki (r := u42.1) (x_runV (As := [.int (10 : Int32)]) (rest := []) C0 G0 hW (cX9_drawn_met l hJ z σ (10 : Int32) _ hu42) (cwV 1 C0.2.2.2.1 gX9_isFound_X9_drawn rfl rfl rfl hdvX9_drawn ⟨Nat.le_of_ble_eq_true rfl, Nat.le_of_ble_eq_true rfl⟩) cM_0 (by decide) rfl rfl rfl hl (Nat.le_of_ble_eq_true rfl) dX9_isFound_166 ⟨Nat.le_refl 0, Nat.le_refl 0⟩) hW (fun H locs hW => ?_)
    refine lv_istore (lv' := [(9, .int u42.1), (0, .ref (aD G 0)), (1, .int v1), (2, .int v2), (3, .int v3), (5, .int v5), (6, .int v6)]) C0.1 C0.2.1 dX9_isFound_169 hl (by decide) rfl (fun ls hl => ?_)
    refine lv_iload_n C0.1 C0.2.1 dX9_isFound_171 rfl (lv_at hl 4 rfl) ?_
    refine lv_iload C0.1 C0.2.1 dX9_isFound_172 (lv_at hl 0 rfl) ?_
    refine lv_aload_n C0.1 C0.2.1 dX9_isFound_174 rfl (lv_at hl 1 rfl) ?_
    refine x_get (v := .int (u42.2.1 0 0)) C0 G0 hW cM_0 (by decide) rfl 0 (by decide) inX9_isFound_X9 lkX9_isFound_94 rfl dX9_isFound_175 ?_
    refine lv_icmp_ge (tgt := 185) C0.1 C0.2.1 dX9_isFound_178 (by decide) (fun c43 => ?_) (fun c43 => ?_)
    · rw [if_pos c43] at h
      refine lv_iload C0.1 C0.2.1 dX9_isFound_185 (lv_at hl 0 rfl) ?_
      refine lv_aload_n C0.1 C0.2.1 dX9_isFound_187 rfl (lv_at hl 1 rfl) ?_
      refine x_get (v := .int (u42.2.1 0 0)) C0 G0 hW cM_0 (by decide) rfl 0 (by decide) inX9_isFound_X9 lkX9_isFound_94 rfl dX9_isFound_188 ?_
      refine lv_aload_n C0.1 C0.2.1 dX9_isFound_191 rfl (lv_at hl 1 rfl) ?_
      refine x_get (v := .int (u42.2.1 0 1)) C0 G0 hW cM_0 (by decide) rfl 1 (by decide) inX9_isFound_X9 lkX9_isFound_97 rfl dX9_isFound_192 ?_
      refine lv_iadd C0.1 C0.2.1 dX9_isFound_195 ?_
      refine lv_icmp_ge (tgt := 203) C0.1 C0.2.1 dX9_isFound_196 (by decide) (fun c44 => ?_) (fun c44 => ?_)
      · rw [if_pos c44] at h
        refine lv_iconst (v := (0 : Int32)) C0.1 C0.2.1 dX9_isFound_203 (by decide) ?_
        exact wX9_isFound_204 C0 G0 hJ z r49 u42.2 v1 v2 v5 v6 (0 : Int32) v3 _ h (by exact hr49) hW (lv_sub hl [1, 2, 3, 5, 6] rfl)
      · rw [if_neg c44] at h
        refine lv_iconst (v := (2 : Int32)) C0.1 C0.2.1 dX9_isFound_199 (by decide) ?_
        refine lv_goto (tgt := 204) C0.1 C0.2.1 dX9_isFound_200 (by decide) ?_
        exact wX9_isFound_204 C0 G0 hJ z r49 u42.2 v1 v2 v5 v6 (2 : Int32) v3 _ h (by exact hr49) hW (lv_sub hl [1, 2, 3, 5, 6] rfl)
    · rw [if_neg c43] at h
      refine lv_iconst (v := (1 : Int32)) C0.1 C0.2.1 dX9_isFound_181 (by decide) ?_
      refine lv_goto (tgt := 204) C0.1 C0.2.1 dX9_isFound_182 (by decide) ?_
      exact wX9_isFound_204 C0 G0 hJ z r49 u42.2 v1 v2 v5 v6 (1 : Int32) v3 _ h (by exact hr49) hW (lv_sub hl [1, 2, 3, 5, 6] rfl)
set_option maxHeartbeats 4000000 in
set_option maxRecDepth 100000 in
theorem wX9_isFound_147 (C0 : Cx p s m args meth c cX9_isFound RX9 10 (some .boolean) wsX9_isFound) (G0 : Gx G s) (hJ : gJ 13 G) (z : Nat) (r49 : ST → Int32 → Int32 → Int32 → Option (Int32 × ST)) (σ : ST) (v1 : Int32) (v2 : Int32) (v3 : Int32) (v5 : Int32) (v6 : Int32) (v8 : Int32) (t0 : Int32) (t1 : Int32) (res : (Int32 × ST)) (h : fX9_isFound_147 z r49 σ v1 v2 v3 v5 v6 v8 t0 t1 = some res) (hr49 : ∀ (σ : ST) (v3 : Int32) (v5 : Int32) (v6 : Int32), r49 σ v3 v5 v6 = some res → ∀ (H : Heap) (locs : List Loc) (ls : Array Slot), Wd cellM 13 G s.heap σ H locs → lv_has ls 10 [(0, .ref (aD G 0)), (1, .int v1), (2, .int v2), (3, .int v3), (5, .int v5), (6, .int v6)] → W p l e rX9_isFound s m args below meth c H locs 0 0 (MQ below (XQi cellM 13 G res.1 res.2) args s 0 0 (gA 13 G)) (F0 m 49 ls [])) {H : Heap} {locs : List Loc} {ls : Array Slot} (hW : Wd cellM 13 G s.heap σ H locs) (hl : lv_has ls 10 [(0, .ref (aD G 0)), (1, .int v1), (2, .int v2), (3, .int v3), (5, .int v5), (6, .int v6), (8, .int v8)]) : W p l e rX9_isFound s m args below meth c H locs 0 0 (MQ below (XQi cellM 13 G res.1 res.2) args s 0 0 (gA 13 G)) (F0 m 147 ls [.int t0, .int t1]) := by
  unfold fX9_isFound_147 at h
  refine lv_icmp_ge (tgt := 157) C0.1 C0.2.1 dX9_isFound_147 (by decide) (fun c38 => ?_) (fun c38 => ?_)
  · rw [if_pos c38] at h
    exact wX9_isFound_157 C0 G0 hJ z r49 σ v1 v2 v3 v5 v6 _ h (by exact hr49) hW (lv_sub hl [0, 1, 2, 3, 4, 5] rfl)
  · rw [if_neg c38] at h
    refine lv_iload C0.1 C0.2.1 dX9_isFound_150 (lv_at hl 6 rfl) ?_
    refine lv_if_eq (tgt := 157) C0.1 C0.2.1 dX9_isFound_152 (by decide) (fun c39 => ?_) (fun c39 => ?_)
    · rw [if_pos c39] at h
      exact wX9_isFound_157 C0 G0 hJ z r49 σ v1 v2 v3 v5 v6 _ h (by exact hr49) hW (lv_sub hl [0, 1, 2, 3, 4, 5] rfl)
    · rw [if_neg c39] at h
      refine lv_iconst (v := (1 : Int32)) C0.1 C0.2.1 dX9_isFound_155 (by decide) ?_
      obtain ⟨g40, h⟩ := gd_some h
      cases h
      exact x_zret C0 hW g40 dX9_isFound_156
set_option maxHeartbeats 4000000 in
set_option maxRecDepth 100000 in
theorem wX9_isFound_122 (C0 : Cx p s m args meth c cX9_isFound RX9 10 (some .boolean) wsX9_isFound) (G0 : Gx G s) (hJ : gJ 13 G) (z : Nat) (r49 : ST → Int32 → Int32 → Int32 → Option (Int32 × ST)) (σ : ST) (v1 : Int32) (v2 : Int32) (v3 : Int32) (v5 : Int32) (v6 : Int32) (v7 : Int32) (t0 : Int32) (res : (Int32 × ST)) (h : fX9_isFound_122 z r49 σ v1 v2 v3 v5 v6 v7 t0 = some res) (hr49 : ∀ (σ : ST) (v3 : Int32) (v5 : Int32) (v6 : Int32), r49 σ v3 v5 v6 = some res → ∀ (H : Heap) (locs : List Loc) (ls : Array Slot), Wd cellM 13 G s.heap σ H locs → lv_has ls 10 [(0, .ref (aD G 0)), (1, .int v1), (2, .int v2), (3, .int v3), (5, .int v5), (6, .int v6)] → W p l e rX9_isFound s m args below meth c H locs 0 0 (MQ below (XQi cellM 13 G res.1 res.2) args s 0 0 (gA 13 G)) (F0 m 49 ls [])) {H : Heap} {locs : List Loc} {ls : Array Slot} (hW : Wd cellM 13 G s.heap σ H locs) (hl : lv_has ls 10 [(0, .ref (aD G 0)), (1, .int v1), (2, .int v2), (3, .int v3), (5, .int v5), (6, .int v6), (7, .int v7)]) : W p l e rX9_isFound s m args below meth c H locs 0 0 (MQ below (XQi cellM 13 G res.1 res.2) args s 0 0 (gA 13 G)) (F0 m 122 ls [.int t0]) := by
  unfold fX9_isFound_122 at h
  refine lv_istore (lv' := [(8, .int t0), (0, .ref (aD G 0)), (1, .int v1), (2, .int v2), (3, .int v3), (5, .int v5), (6, .int v6), (7, .int v7)]) C0.1 C0.2.1 dX9_isFound_122 hl (by decide) rfl (fun ls hl => ?_)
  refine lv_aload_n C0.1 C0.2.1 dX9_isFound_124 rfl (lv_at hl 1 rfl) ?_
  refine lv_bipush (v := (10 : Int32)) C0.1 C0.2.1 dX9_isFound_125 (by decide) ?_
  obtain ⟨u36, hu36, h⟩ := bd_some h
  refine x_ki (r := u36.1) (x_runV (As := [.int (10 : Int32)]) (rest := []) C0 G0 hW (cX9_drawn_met l hJ z σ (10 : Int32) _ hu36) (cwV 1 C0.2.2.2.1 gX9_isFound_X9_drawn rfl rfl rfl hdvX9_drawn ⟨Nat.le_of_ble_eq_true rfl, Nat.le_of_ble_eq_true rfl⟩) cM_0 (by decide) rfl rfl rfl hl (Nat.le_of_ble_eq_true rfl) dX9_isFound_127 ⟨Nat.le_refl 0, Nat.le_refl 0⟩) hW (fun H locs hW => ?_)
  refine lv_iload C0.1 C0.2.1 dX9_isFound_130 (lv_at hl 7 rfl) ?_
  refine lv_iconst (v := (3 : Int32)) C0.1 C0.2.1 dX9_isFound_132 (by decide) ?_
  refine lv_icmp_ne (tgt := 143) C0.1 C0.2.1 dX9_isFound_133 (by decide) (fun c37 => ?_) (fun c37 => ?_)
  · rw [if_neg c37] at h
    refine lv_aload_n C0.1 C0.2.1 dX9_isFound_143 rfl (lv_at hl 1 rfl) ?_
    refine x_get (v := .int (u36.2.1 0 2)) C0 G0 hW cM_0 (by decide) rfl 2 (by decide) inX9_isFound_X9 lkX9_isFound_100 rfl dX9_isFound_144 ?_
    exact wX9_isFound_147 C0 G0 hJ z r49 u36.2 v1 v2 v3 v5 v6 t0 (u36.2.1 0 2) u36.1 _ h (by exact hr49) hW (lv_sub hl [1, 2, 3, 4, 5, 6, 0] rfl)
  · rw [if_pos c37] at h
    refine lv_aload_n C0.1 C0.2.1 dX9_isFound_136 rfl (lv_at hl 1 rfl) ?_
    refine x_get (v := .int (u36.2.1 0 3)) C0 G0 hW cM_0 (by decide) rfl 3 (by decide) inX9_isFound_X9 lkX9_isFound_103 rfl dX9_isFound_137 ?_
    refine lv_goto (tgt := 147) C0.1 C0.2.1 dX9_isFound_140 (by decide) ?_
    exact wX9_isFound_147 C0 G0 hJ z r49 u36.2 v1 v2 v3 v5 v6 t0 (u36.2.1 0 3) u36.1 _ h (by exact hr49) hW (lv_sub hl [1, 2, 3, 4, 5, 6, 0] rfl)
set_option maxHeartbeats 4000000 in
set_option maxRecDepth 100000 in
theorem wX9_isFound_114 (C0 : Cx p s m args meth c cX9_isFound RX9 10 (some .boolean) wsX9_isFound) (G0 : Gx G s) (hJ : gJ 13 G) (z : Nat) (r49 : ST → Int32 → Int32 → Int32 → Option (Int32 × ST)) (σ : ST) (v1 : Int32) (v2 : Int32) (v3 : Int32) (v5 : Int32) (v6 : Int32) (v7 : Int32) (t0 : Int32) (t1 : Int32) (res : (Int32 × ST)) (h : fX9_isFound_114 z r49 σ v1 v2 v3 v5 v6 v7 t0 t1 = some res) (hr49 : ∀ (σ : ST) (v3 : Int32) (v5 : Int32) (v6 : Int32), r49 σ v3 v5 v6 = some res → ∀ (H : Heap) (locs : List Loc) (ls : Array Slot), Wd cellM 13 G s.heap σ H locs → lv_has ls 10 [(0, .ref (aD G 0)), (1, .int v1), (2, .int v2), (3, .int v3), (5, .int v5), (6, .int v6)] → W p l e rX9_isFound s m args below meth c H locs 0 0 (MQ below (XQi cellM 13 G res.1 res.2) args s 0 0 (gA 13 G)) (F0 m 49 ls [])) {H : Heap} {locs : List Loc} {ls : Array Slot} (hW : Wd cellM 13 G s.heap σ H locs) (hl : lv_has ls 10 [(0, .ref (aD G 0)), (1, .int v1), (2, .int v2), (3, .int v3), (5, .int v5), (6, .int v6), (7, .int v7)]) : W p l e rX9_isFound s m args below meth c H locs 0 0 (MQ below (XQi cellM 13 G res.1 res.2) args s 0 0 (gA 13 G)) (F0 m 114 ls [.int t0, .int t1]) := by
  unfold fX9_isFound_114 at h
  refine lv_icmp_ne (tgt := 121) C0.1 C0.2.1 dX9_isFound_114 (by decide) (fun c35 => ?_) (fun c35 => ?_)
  · rw [if_neg c35] at h
    refine lv_iconst (v := (0 : Int32)) C0.1 C0.2.1 dX9_isFound_121 (by decide) ?_
    exact wX9_isFound_122 C0 G0 hJ z r49 σ v1 v2 v3 v5 v6 v7 (0 : Int32) _ h (by exact hr49) hW (lv_sub hl [0, 1, 2, 3, 4, 5, 6] rfl)
  · rw [if_pos c35] at h
    refine lv_iconst (v := (1 : Int32)) C0.1 C0.2.1 dX9_isFound_117 (by decide) ?_
    refine lv_goto (tgt := 122) C0.1 C0.2.1 dX9_isFound_118 (by decide) ?_
    exact wX9_isFound_122 C0 G0 hJ z r49 σ v1 v2 v3 v5 v6 v7 (1 : Int32) _ h (by exact hr49) hW (lv_sub hl [0, 1, 2, 3, 4, 5, 6] rfl)
set_option maxHeartbeats 4000000 in
set_option maxRecDepth 100000 in
theorem wX9_isFound_98 (C0 : Cx p s m args meth c cX9_isFound RX9 10 (some .boolean) wsX9_isFound) (G0 : Gx G s) (hJ : gJ 13 G) (z : Nat) (r49 : ST → Int32 → Int32 → Int32 → Option (Int32 × ST)) (σ : ST) (v1 : Int32) (v2 : Int32) (v3 : Int32) (v6 : Int32) (v7 : Int32) (t0 : Int32) (res : (Int32 × ST)) (h : fX9_isFound_98 z r49 σ v1 v2 v3 v6 v7 t0 = some res) (hr49 : ∀ (σ : ST) (v3 : Int32) (v5 : Int32) (v6 : Int32), r49 σ v3 v5 v6 = some res → ∀ (H : Heap) (locs : List Loc) (ls : Array Slot), Wd cellM 13 G s.heap σ H locs → lv_has ls 10 [(0, .ref (aD G 0)), (1, .int v1), (2, .int v2), (3, .int v3), (5, .int v5), (6, .int v6)] → W p l e rX9_isFound s m args below meth c H locs 0 0 (MQ below (XQi cellM 13 G res.1 res.2) args s 0 0 (gA 13 G)) (F0 m 49 ls [])) {H : Heap} {locs : List Loc} {ls : Array Slot} (hW : Wd cellM 13 G s.heap σ H locs) (hl : lv_has ls 10 [(0, .ref (aD G 0)), (1, .int v1), (2, .int v2), (3, .int v3), (6, .int v6), (7, .int v7)]) : W p l e rX9_isFound s m args below meth c H locs 0 0 (MQ below (XQi cellM 13 G res.1 res.2) args s 0 0 (gA 13 G)) (F0 m 98 ls [.int t0]) := by
  unfold fX9_isFound_98 at h
  refine lv_istore (lv' := [(5, .int t0), (0, .ref (aD G 0)), (1, .int v1), (2, .int v2), (3, .int v3), (6, .int v6), (7, .int v7)]) C0.1 C0.2.1 dX9_isFound_98 hl (by decide) rfl (fun ls hl => ?_)
  refine lv_iload_n C0.1 C0.2.1 dX9_isFound_100 rfl (lv_at hl 4 rfl) ?_
  refine lv_iload C0.1 C0.2.1 dX9_isFound_101 (lv_at hl 6 rfl) ?_
  refine lv_iconst (v := (3 : Int32)) C0.1 C0.2.1 dX9_isFound_103 (by decide) ?_
  refine lv_icmp_ne (tgt := 112) C0.1 C0.2.1 dX9_isFound_104 (by decide) (fun c34 => ?_) (fun c34 => ?_)
  · rw [if_neg c34] at h
    refine lv_iload C0.1 C0.2.1 dX9_isFound_112 (lv_at hl 0 rfl) ?_
    exact wX9_isFound_114 C0 G0 hJ z r49 σ v1 v2 v3 t0 v6 v7 t0 v3 _ h (by exact hr49) hW (lv_sub hl [1, 2, 3, 4, 0, 5, 6] rfl)
  · rw [if_pos c34] at h
    refine lv_bipush (v := (10 : Int32)) C0.1 C0.2.1 dX9_isFound_107 (by decide) ?_
    refine lv_goto (tgt := 114) C0.1 C0.2.1 dX9_isFound_109 (by decide) ?_
    exact wX9_isFound_114 C0 G0 hJ z r49 σ v1 v2 v3 t0 v6 v7 (10 : Int32) v3 _ h (by exact hr49) hW (lv_sub hl [1, 2, 3, 4, 0, 5, 6] rfl)
set_option maxHeartbeats 4000000 in
set_option maxRecDepth 100000 in
theorem wX9_isFound_49 (C0 : Cx p s m args meth c cX9_isFound RX9 10 (some .boolean) wsX9_isFound) (G0 : Gx G s) (hJ : gJ 13 G) (z : Nat) (v1 : Int32) (v2 : Int32) (n : Nat) (σ : ST) (v3 : Int32) (v5 : Int32) (v6 : Int32) (res : (Int32 × ST)) (h : fX9_isFound_49 z v1 v2 n σ v3 v5 v6 = some res)  {H : Heap} {locs : List Loc} {ls : Array Slot} (hW : Wd cellM 13 G s.heap σ H locs) (hl : lv_has ls 10 [(0, .ref (aD G 0)), (1, .int v1), (2, .int v2), (3, .int v3), (5, .int v5), (6, .int v6)]) : W p l e rX9_isFound s m args below meth c H locs 0 0 (MQ below (XQi cellM 13 G res.1 res.2) args s 0 0 (gA 13 G)) (F0 m 49 ls []) := by
  induction n generalizing σ v3 v5 v6 H locs ls with
  | zero => cases h
  | succ n ih =>
    have hr49 : ∀ (σ : ST) (v3 : Int32) (v5 : Int32) (v6 : Int32), fX9_isFound_49 z v1 v2 n σ v3 v5 v6 = some res → ∀ (H : Heap) (locs : List Loc) (ls : Array Slot), Wd cellM 13 G s.heap σ H locs → lv_has ls 10 [(0, .ref (aD G 0)), (1, .int v1), (2, .int v2), (3, .int v3), (5, .int v5), (6, .int v6)] → W p l e rX9_isFound s m args below meth c H locs 0 0 (MQ below (XQi cellM 13 G res.1 res.2) args s 0 0 (gA 13 G)) (F0 m 49 ls []) := fun σ v3 v5 v6 h H locs ls hW hl => ih σ v3 v5 v6 h hW hl
    clear ih
    unfold fX9_isFound_49 at h
    refine lv_iload C0.1 C0.2.1 dX9_isFound_49 (lv_at hl 5 rfl) ?_
    refine lv_iload_n C0.1 C0.2.1 dX9_isFound_51 rfl (lv_at hl 1 rfl) ?_
    refine lv_icmp_ge (tgt := 214) C0.1 C0.2.1 dX9_isFound_52 (by decide) (fun c26 => ?_) (fun c26 => ?_)
    · rw [if_pos c26] at h
      exact wX9_isFound_214 C0 G0 hJ z σ _ h hW (lv_sub hl [] rfl)
    · rw [if_neg c26] at h
      refine lv_iload C0.1 C0.2.1 dX9_isFound_55 (lv_at hl 5 rfl) ?_
      refine lv_aload_n C0.1 C0.2.1 dX9_isFound_57 rfl (lv_at hl 0 rfl) ?_
      refine x_get (v := .int (σ.1 0 5)) C0 G0 hW cM_0 (by decide) rfl 5 (by decide) inX9_isFound_X9 lkX9_isFound_48 rfl dX9_isFound_58 ?_
      refine lv_icmp_ge (tgt := 214) C0.1 C0.2.1 dX9_isFound_61 (by decide) (fun c27 => ?_) (fun c27 => ?_)
      · rw [if_pos c27] at h
        exact wX9_isFound_214 C0 G0 hJ z σ _ h hW (lv_sub hl [] rfl)
      · rw [if_neg c27] at h
        refine lv_iload_n C0.1 C0.2.1 dX9_isFound_64 rfl (lv_at hl 2 rfl) ?_
        refine lv_iload_n C0.1 C0.2.1 dX9_isFound_65 rfl (lv_at hl 1 rfl) ?_
        refine lv_iconst (v := (1 : Int32)) C0.1 C0.2.1 dX9_isFound_66 (by decide) ?_
        refine lv_isub C0.1 C0.2.1 dX9_isFound_67 ?_
        refine lv_iload C0.1 C0.2.1 dX9_isFound_68 (lv_at hl 5 rfl) ?_
        refine lv_isub C0.1 C0.2.1 dX9_isFound_70 ?_
        obtain ⟨u28, hu28, h⟩ := bd_some h
        refine x_ki (r := u28) (x_runS (As := [.int ((v1 - (1 : Int32)) - v6)]) (rest := [.int v2]) C0 G0 hW (cX9_tenTo_met l hJ z σ ((v1 - (1 : Int32)) - v6) _ hu28) (va_cwS 1 C0.2.2.2.1 gX9_isFound_X9_tenTo rfl rfl rfl hdsX9_tenTo ⟨Nat.le_of_ble_eq_true rfl, Nat.le_of_ble_eq_true rfl⟩) rfl rfl hl (Nat.le_of_ble_eq_true rfl) dX9_isFound_71 ⟨Nat.le_refl 0, Nat.le_refl 0⟩) hW (fun H locs hW => ?_)
        obtain ⟨g29, h⟩ := gd_some h
        refine lv_idiv C0.1 C0.2.1 dX9_isFound_74 (nz_of g29) ?_
        refine lv_bipush (v := (10 : Int32)) C0.1 C0.2.1 dX9_isFound_75 (by decide) ?_
        obtain ⟨g30, h⟩ := gd_some h
        refine lv_irem C0.1 C0.2.1 dX9_isFound_77 (nz_of g30) ?_
        refine lv_istore (lv' := [(7, .int ((v2 / u28) - (v2 / u28) / (10 : Int32) * (10 : Int32))), (0, .ref (aD G 0)), (1, .int v1), (2, .int v2), (3, .int v3), (5, .int v5), (6, .int v6)]) C0.1 C0.2.1 dX9_isFound_78 hl (by decide) rfl (fun ls hl => ?_)
        refine lv_iload C0.1 C0.2.1 dX9_isFound_80 (lv_at hl 0 rfl) ?_
        refine lv_iconst (v := (3 : Int32)) C0.1 C0.2.1 dX9_isFound_82 (by decide) ?_
        refine lv_icmp_ne (tgt := 91) C0.1 C0.2.1 dX9_isFound_83 (by decide) (fun c31 => ?_) (fun c31 => ?_)
        · rw [if_neg c31] at h
          refine lv_iload C0.1 C0.2.1 dX9_isFound_91 (lv_at hl 5 rfl) ?_
          refine lv_iload C0.1 C0.2.1 dX9_isFound_93 (lv_at hl 0 rfl) ?_
          obtain ⟨u32, hu32, h⟩ := bd_some h
          refine x_ki (r := u32) (x_runS (As := [.int v5, .int ((v2 / u28) - (v2 / u28) / (10 : Int32) * (10 : Int32))]) (rest := []) C0 G0 hW (cX9_to_met l hJ z σ v5 ((v2 / u28) - (v2 / u28) / (10 : Int32) * (10 : Int32)) _ hu32) (va_cwS 2 C0.2.2.2.1 gX9_isFound_X9_to rfl rfl rfl hdsX9_to ⟨Nat.le_of_ble_eq_true rfl, Nat.le_of_ble_eq_true rfl⟩) rfl rfl hl (Nat.le_of_ble_eq_true rfl) dX9_isFound_95 ⟨Nat.le_refl 0, Nat.le_refl 0⟩) hW (fun H locs hW => ?_)
          exact wX9_isFound_98 C0 G0 hJ z (fX9_isFound_49 z v1 v2 n) σ v1 v2 v3 v6 ((v2 / u28) - (v2 / u28) / (10 : Int32) * (10 : Int32)) u32 _ h (by exact hr49) hW (lv_sub hl [1, 2, 3, 4, 6, 0] rfl)
        · rw [if_pos c31] at h
          refine lv_iload C0.1 C0.2.1 dX9_isFound_86 (lv_at hl 5 rfl) ?_
          refine lv_goto (tgt := 98) C0.1 C0.2.1 dX9_isFound_88 (by decide) ?_
          exact wX9_isFound_98 C0 G0 hJ z (fX9_isFound_49 z v1 v2 n) σ v1 v2 v3 v6 ((v2 / u28) - (v2 / u28) / (10 : Int32) * (10 : Int32)) v5 _ h (by exact hr49) hW (lv_sub hl [1, 2, 3, 4, 6, 0] rfl)
set_option maxHeartbeats 4000000 in
set_option maxRecDepth 100000 in
theorem wX9_isFound_12 (C0 : Cx p s m args meth c cX9_isFound RX9 10 (some .boolean) wsX9_isFound) (G0 : Gx G s) (hJ : gJ 13 G) (z : Nat) (σ : ST) (v1 : Int32) (v2 : Int32) (n : Nat) (v3 : Int32) (v4 : Int32) (res : (Int32 × ST)) (h : fX9_isFound_12 z σ v1 v2 n v3 v4 = some res)  {H : Heap} {locs : List Loc} {ls : Array Slot} (hW : Wd cellM 13 G s.heap σ H locs) (hl : lv_has ls 10 [(0, .ref (aD G 0)), (1, .int v1), (2, .int v2), (3, .int v3), (4, .int v4)]) : W p l e rX9_isFound s m args below meth c H locs 0 0 (MQ below (XQi cellM 13 G res.1 res.2) args s 0 0 (gA 13 G)) (F0 m 12 ls []) := by
  induction n generalizing v3 v4 H locs ls with
  | zero => cases h
  | succ n ih =>
    have hr12 : ∀ (v3 : Int32) (v4 : Int32), fX9_isFound_12 z σ v1 v2 n v3 v4 = some res → ∀ (H : Heap) (locs : List Loc) (ls : Array Slot), Wd cellM 13 G s.heap σ H locs → lv_has ls 10 [(0, .ref (aD G 0)), (1, .int v1), (2, .int v2), (3, .int v3), (4, .int v4)] → W p l e rX9_isFound s m args below meth c H locs 0 0 (MQ below (XQi cellM 13 G res.1 res.2) args s 0 0 (gA 13 G)) (F0 m 12 ls []) := fun v3 v4 h H locs ls hW hl => ih v3 v4 h hW hl
    clear ih
    unfold fX9_isFound_12 at h
    refine lv_iload C0.1 C0.2.1 dX9_isFound_12 (lv_at hl 4 rfl) ?_
    refine lv_aload_n C0.1 C0.2.1 dX9_isFound_14 rfl (lv_at hl 0 rfl) ?_
    refine x_get (v := .ref (aD G 1)) C0 G0 hW cM_0 (by decide) rfl 9 (by decide) inX9_isFound_X9 lkX9_isFound_7 rfl dX9_isFound_15 ?_
    refine lv_iload_n C0.1 C0.2.1 dX9_isFound_18 rfl (lv_at hl 3 rfl) ?_
    obtain ⟨g23, h⟩ := gd_some h
    refine x_iald C0 G0 hW cM_1 (by decide) g23 dX9_isFound_19 ?_
    refine lv_icmp_lt (tgt := 40) C0.1 C0.2.1 dX9_isFound_20 (by decide) (fun c24 => ?_) (fun c24 => ?_)
    · rw [if_pos c24] at h
      refine lv_aload_n C0.1 C0.2.1 dX9_isFound_40 rfl (lv_at hl 0 rfl) ?_
      refine x_get (v := .int (σ.1 0 4)) C0 G0 hW cM_0 (by decide) rfl 4 (by decide) inX9_isFound_X9 lkX9_isFound_106 rfl dX9_isFound_41 ?_
      refine lv_istore (lv' := [(5, .int (σ.1 0 4)), (0, .ref (aD G 0)), (1, .int v1), (2, .int v2), (3, .int v3), (4, .int v4)]) C0.1 C0.2.1 dX9_isFound_44 hl (by decide) rfl (fun ls hl => ?_)
      refine lv_iconst (v := (0 : Int32)) C0.1 C0.2.1 dX9_isFound_46 (by decide) ?_
      refine lv_istore (lv' := [(6, .int (0 : Int32)), (5, .int (σ.1 0 4)), (0, .ref (aD G 0)), (1, .int v1), (2, .int v2), (3, .int v3), (4, .int v4)]) C0.1 C0.2.1 dX9_isFound_47 hl (by decide) rfl (fun ls hl => ?_)
      exact wX9_isFound_49 C0 G0 hJ z v1 v2 z σ v3 (σ.1 0 4) (0 : Int32) _ h hW (lv_sub hl [2, 3, 4, 5, 1, 0] rfl)
    · rw [if_neg c24] at h
      refine lv_iload C0.1 C0.2.1 dX9_isFound_23 (lv_at hl 4 rfl) ?_
      refine lv_aload_n C0.1 C0.2.1 dX9_isFound_25 rfl (lv_at hl 0 rfl) ?_
      refine x_get (v := .ref (aD G 1)) C0 G0 hW cM_0 (by decide) rfl 9 (by decide) inX9_isFound_X9 lkX9_isFound_7 rfl dX9_isFound_26 ?_
      refine lv_iload_n C0.1 C0.2.1 dX9_isFound_29 rfl (lv_at hl 3 rfl) ?_
      obtain ⟨g25, h⟩ := gd_some h
      refine x_iald C0 G0 hW cM_1 (by decide) g25 dX9_isFound_30 ?_
      refine lv_isub C0.1 C0.2.1 dX9_isFound_31 ?_
      refine lv_istore (lv' := [(4, .int (v4 - (σ.1 1 (v3).toNatClampNeg))), (0, .ref (aD G 0)), (1, .int v1), (2, .int v2), (3, .int v3)]) C0.1 C0.2.1 dX9_isFound_32 hl (by decide) rfl (fun ls hl => ?_)
      refine lv_iinc (v := (v3 + 1)) (lv' := [(3, .int (v3 + 1)), (4, .int (v4 - (σ.1 1 (v3).toNatClampNeg))), (0, .ref (aD G 0)), (1, .int v1), (2, .int v2)]) C0.1 C0.2.1 dX9_isFound_34 hl (k := 4) rfl rfl (by decide) rfl (fun ls hl => ?_)
      refine lv_goto (tgt := 12) C0.1 C0.2.1 dX9_isFound_37 (by decide) ?_
      exact hr12 (v3 + 1) (v4 - (σ.1 1 (v3).toNatClampNeg)) h _ _ _ hW (lv_sub hl [2, 3, 4, 0, 1] rfl)
set_option maxHeartbeats 4000000 in
set_option maxRecDepth 100000 in
theorem wX9_isFound (C0 : Cx p s m args meth c cX9_isFound RX9 10 (some .boolean) wsX9_isFound) (G0 : Gx G s) (hJ : gJ 13 G) (z : Nat) (σ : ST) (v1 : Int32) (v2 : Int32) (res : (Int32 × ST)) (h : fX9_isFound z σ v1 v2 = some res)  {H : Heap} {locs : List Loc} {ls : Array Slot} (hW : Wd cellM 13 G s.heap σ H locs) (hl : lv_has ls 10 [(0, .ref (aD G 0)), (1, .int v1), (2, .int v2)]) : W p l e rX9_isFound s m args below meth c H locs 0 0 (MQ below (XQi cellM 13 G res.1 res.2) args s 0 0 (gA 13 G)) (F0 m 0 ls []) := by
  unfold fX9_isFound at h
  refine lv_iconst (v := (0 : Int32)) C0.1 C0.2.1 dX9_isFound_0 (by decide) ?_
  refine lv_istore_n (lv' := [(3, .int (0 : Int32)), (0, .ref (aD G 0)), (1, .int v1), (2, .int v2)]) C0.1 C0.2.1 dX9_isFound_1 rfl hl (by decide) rfl (fun ls hl => ?_)
  refine lv_aload_n C0.1 C0.2.1 dX9_isFound_2 rfl (lv_at hl 1 rfl) ?_
  refine lv_aload_n C0.1 C0.2.1 dX9_isFound_3 rfl (lv_at hl 1 rfl) ?_
  obtain ⟨u21, hu21, h⟩ := bd_some h
  refine x_ki (r := u21) (x_runV (As := []) (rest := [.ref (aD G 0)]) C0 G0 hW (cX9_allParts_met l hJ z σ _ hu21) (cwV 0 C0.2.2.2.1 gX9_isFound_X9_allParts rfl rfl rfl hdvX9_allParts ⟨Nat.le_of_ble_eq_true rfl, Nat.le_of_ble_eq_true rfl⟩) cM_0 (by decide) rfl rfl rfl hl (Nat.le_of_ble_eq_true rfl) dX9_isFound_4 ⟨Nat.le_refl 0, Nat.le_refl 0⟩) hW (fun H locs hW => ?_)
  obtain ⟨u22, hu22, h⟩ := bd_some h
  refine x_ki (r := u22.1) (x_runV (As := [.int u21]) (rest := []) C0 G0 hW (cX9_drawn_met l hJ z σ u21 _ hu22) (cwV 1 C0.2.2.2.1 gX9_isFound_X9_drawn rfl rfl rfl hdvX9_drawn ⟨Nat.le_of_ble_eq_true rfl, Nat.le_of_ble_eq_true rfl⟩) cM_0 (by decide) rfl rfl rfl hl (Nat.le_of_ble_eq_true rfl) dX9_isFound_7 ⟨Nat.le_refl 0, Nat.le_refl 0⟩) hW (fun H locs hW => ?_)
  refine lv_istore (lv' := [(4, .int u22.1), (3, .int (0 : Int32)), (0, .ref (aD G 0)), (1, .int v1), (2, .int v2)]) C0.1 C0.2.1 dX9_isFound_10 hl (by decide) rfl (fun ls hl => ?_)
  exact wX9_isFound_12 C0 G0 hJ z u22.2 v1 v2 z (0 : Int32) u22.1 _ h hW (lv_sub hl [2, 3, 4, 1, 0] rfl)
theorem cX9_isFound_met (l : Launch) {G : GT} (hJ : gJ 13 G) (z : Nat) (σ : ST) (v1 : Int32) (v2 : Int32) (res : (Int32 × ST)) (h : fX9_isFound z σ v1 v2 = some res) : Met l yX9_isFound wsX9_isFound rX9_isFound (XPc cellM 13 G σ [.ref (aD G 0), .int v1, .int v2]) (XQi cellM 13 G res.1 res.2) 0 0 (gA 13 G) :=
  x_met (ret := (some .boolean)) (maxL := 10) (by decide) rfl (Nat.le_of_ble_eq_true rfl) (fun p e s m args below meth c H locs ls C0 G0 hW hl => wX9_isFound C0 G0 hJ z σ v1 v2 res h hW hl)
end
/-! X9_judge -/
def rX9_judge : Room := { frames := 2, cells := 0, slots := 0, locals := 46 }
theorem hdvX9_judge : yX9_judge.cls = RX9 ∧ yX9_judge.cls ≠ "java/lang/invoke/MethodHandle" ∧ yX9_judge.cls ≠ "java/lang/invoke/VarHandle" ∧ (parseMethodDescriptor yX9_judge.desc).map (fun d => d.parameters.length) = some 2 := by decide +kernel
theorem kcX9_judge_207 : Cond.constantLong RX9 207 (8 : Int64) ∈ wsX9_judge := by decide +kernel
theorem inX9_judge_X9 : ∀ w ∈ u_ws RX9 TX9 29, w ∈ wsX9_judge := by decide +kernel
theorem lkX9_judge_23 : Cond.fieldLink RX9 23 (TX9 15).1 (TX9 15).2.1 (TX9 15).2.2.1 ∈ wsX9_judge := by decide +kernel
theorem lkX9_judge_48 : Cond.fieldLink RX9 48 (TX9 5).1 (TX9 5).2.1 (TX9 5).2.2.1 ∈ wsX9_judge := by decide +kernel
theorem lkX9_judge_19 : Cond.fieldLink RX9 19 (TX9 14).1 (TX9 14).2.1 (TX9 14).2.2.1 ∈ wsX9_judge := by decide +kernel
def fX9_judge_123 (z : Nat) (r47 : ST → Int32 → Int32 → Option (Int32 × ST)) (σ : ST) (v1 : Int32) (v2 : Int32) (v3 : Int32) (v4 : Int32) (t0 : Int32) : Option (Int32 × ST) := gd (inb ((11 : Int32) + t0) 33) ( (if (σ.2 4 (((11 : Int32) + t0)).toNatClampNeg) = (0 : Int64) then some (v4, σ) else bd (fX9_lookAt z σ (1 : Int32) t0) (fun u40 => gd (inb (1 : Int32) 9) ( bd (fX9_drift z u40.2 (1 : Int32) ((u40.2.1 5 ((1 : Int32)).toNatClampNeg) + v4)) (fun u42 => r47 u42 v3 (v4 + 1))))))
def fX9_judge_110 (z : Nat) (r47 : ST → Int32 → Int32 → Option (Int32 × ST)) (σ : ST) (v1 : Int32) (v2 : Int32) (v4 : Int32) (v5 : Int32) (t0 : Int32) : Option (Int32 × ST) := (if v5 = (3 : Int32) then fX9_judge_123 z r47 σ v1 v2 t0 v4 (10 : Int32) else fX9_judge_123 z r47 σ v1 v2 t0 v4 t0)
def fX9_judge_91 (z : Nat) (σ : ST) (v4 : Int32) : Option (Int32 × ST) := some (v4, σ)
def fX9_judge_47 (z : Nat) (v1 : Int32) (v2 : Int32) : Nat → ST → Int32 → Int32 → Option (Int32 × ST)
  | 0 => fun _ _ _ => none
  | n + 1 => fun σ v3 v4 => (if v1 ≤ v4 then some ((-9 : Int32), σ) else bd (fX9_tenTo z ((v1 - (1 : Int32)) - v4)) (fun u29 => gd (nz u29) ( gd (nz (10 : Int32)) ( (if (3 : Int32) < ((v2 / u29) - (v2 / u29) / (10 : Int32) * (10 : Int32)) then fX9_judge_91 z σ v4 else gd (inb (1 : Int32) 9) ( (if ((σ.1 5 ((1 : Int32)).toNatClampNeg) + v4) < (σ.1 0 5) then (if ((v2 / u29) - (v2 / u29) / (10 : Int32) * (10 : Int32)) = (3 : Int32) then fX9_judge_110 z (fX9_judge_47 z v1 v2 n) σ v1 v2 v4 ((v2 / u29) - (v2 / u29) / (10 : Int32) * (10 : Int32)) v3 else bd (fX9_to z v3 ((v2 / u29) - (v2 / u29) / (10 : Int32) * (10 : Int32))) (fun u36 => fX9_judge_110 z (fX9_judge_47 z v1 v2 n) σ v1 v2 v4 ((v2 / u29) - (v2 / u29) / (10 : Int32) * (10 : Int32)) u36)) else fX9_judge_91 z σ v4)))))))
def fX9_judge_28 (z : Nat) (σ : ST) : Option (Int32 × ST) := some ((-2 : Int32), σ)
def fX9_judge (z : Nat) (σ : ST) (v1 : Int32) (v2 : Int32) : Option (Int32 × ST) := bd (fX9_in z ((v1).toInt64) (1 : Int64) (8 : Int64)) (fun u21 => (if u21 = 0 then fX9_judge_28 z σ else bd (fX9_tenTo z v1) (fun u23 => bd (fX9_in z ((v2).toInt64) (0 : Int64) (((u23 - (1 : Int32))).toInt64)) (fun u24 => (if u24 = 0 then fX9_judge_28 z σ else bd (fX9_lay z σ (0 : Int32) (1 : Int32)) (fun u26 => gd (inb (0 : Int32) 9) ( fX9_judge_47 z v1 v2 z u26 (u26.1 5 ((0 : Int32)).toNatClampNeg) (0 : Int32))))))))
section
variable {p : Program} {l : Launch} {e : Env} {s : State} {m : MethodId} {args : Array Value} {below : List Frame} {meth : Method} {c : Code} {G : GT}
set_option maxHeartbeats 4000000 in
set_option maxRecDepth 100000 in
theorem wX9_judge_123 (C0 : Cx p s m args meth c cX9_judge RX9 7 (some .int) wsX9_judge) (G0 : Gx G s) (hJ : gJ 13 G) (z : Nat) (r47 : ST → Int32 → Int32 → Option (Int32 × ST)) (σ : ST) (v1 : Int32) (v2 : Int32) (v3 : Int32) (v4 : Int32) (t0 : Int32) (res : (Int32 × ST)) (h : fX9_judge_123 z r47 σ v1 v2 v3 v4 t0 = some res) (hr47 : ∀ (σ : ST) (v3 : Int32) (v4 : Int32), r47 σ v3 v4 = some res → ∀ (H : Heap) (locs : List Loc) (ls : Array Slot), Wd cellM 13 G s.heap σ H locs → lv_has ls 7 [(0, .ref (aD G 0)), (1, .int v1), (2, .int v2), (3, .int v3), (4, .int v4)] → W p l e rX9_judge s m args below meth c H locs 0 0 (MQ below (XQi cellM 13 G res.1 res.2) args s 0 0 (gA 13 G)) (F0 m 47 ls [])) {H : Heap} {locs : List Loc} {ls : Array Slot} (hW : Wd cellM 13 G s.heap σ H locs) (hl : lv_has ls 7 [(0, .ref (aD G 0)), (1, .int v1), (2, .int v2), (3, .int v3), (4, .int v4)]) : W p l e rX9_judge s m args below meth c H locs 0 0 (MQ below (XQi cellM 13 G res.1 res.2) args s 0 0 (gA 13 G)) (F0 m 123 ls [.int t0]) := by
  unfold fX9_judge_123 at h
  refine lv_istore (lv' := [(6, .int t0), (0, .ref (aD G 0)), (1, .int v1), (2, .int v2), (3, .int v3), (4, .int v4)]) C0.1 C0.2.1 dX9_judge_123 hl (by decide) rfl (fun ls hl => ?_)
  refine lv_aload_n C0.1 C0.2.1 dX9_judge_125 rfl (lv_at hl 1 rfl) ?_
  refine x_get (v := .ref (aD G 4)) C0 G0 hW cM_0 (by decide) rfl 14 (by decide) inX9_judge_X9 lkX9_judge_19 rfl dX9_judge_126 ?_
  refine lv_bipush (v := (11 : Int32)) C0.1 C0.2.1 dX9_judge_129 (by decide) ?_
  refine lv_iload C0.1 C0.2.1 dX9_judge_131 (lv_at hl 0 rfl) ?_
  refine lv_iadd C0.1 C0.2.1 dX9_judge_133 ?_
  obtain ⟨g38, h⟩ := gd_some h
  refine x_lald C0 G0 hW cM_4 (by decide) g38 dX9_judge_134 ?_
  refine lv_lconst (v := (0 : Int64)) C0.1 C0.2.1 dX9_judge_135 (by decide) ?_
  refine x_lc_ne (tgt := 143) C0 dX9_judge_136 dX9_judge_137 (by decide) (fun c39 => ?_) (fun c39 => ?_)
  · rw [if_neg c39] at h
    refine lv_aload_n C0.1 C0.2.1 dX9_judge_143 rfl (lv_at hl 1 rfl) ?_
    refine lv_iconst (v := (1 : Int32)) C0.1 C0.2.1 dX9_judge_144 (by decide) ?_
    refine lv_iload C0.1 C0.2.1 dX9_judge_145 (lv_at hl 0 rfl) ?_
    obtain ⟨u40, hu40, h⟩ := bd_some h
    refine x_kl (r := u40.1) (x_runV (As := [.int (1 : Int32), .int t0]) (rest := []) C0 G0 hW (cX9_lookAt_met l hJ z σ (1 : Int32) t0 _ hu40) (cwV 2 C0.2.2.2.1 gX9_judge_X9_lookAt rfl rfl rfl hdvX9_lookAt ⟨Nat.le_of_ble_eq_true rfl, Nat.le_of_ble_eq_true rfl⟩) cM_0 (by decide) rfl rfl rfl hl (Nat.le_of_ble_eq_true rfl) dX9_judge_147 ⟨Nat.le_refl 0, Nat.le_refl 0⟩) hW (fun H locs hW => ?_)
    refine lv_pop2_2 C0.1 C0.2.1 dX9_judge_150 rfl ?_
    refine lv_aload_n C0.1 C0.2.1 dX9_judge_151 rfl (lv_at hl 1 rfl) ?_
    refine lv_iconst (v := (1 : Int32)) C0.1 C0.2.1 dX9_judge_152 (by decide) ?_
    refine lv_aload_n C0.1 C0.2.1 dX9_judge_153 rfl (lv_at hl 1 rfl) ?_
    refine x_get (v := .ref (aD G 5)) C0 G0 hW cM_0 (by decide) rfl 15 (by decide) inX9_judge_X9 lkX9_judge_23 rfl dX9_judge_154 ?_
    refine lv_iconst (v := (1 : Int32)) C0.1 C0.2.1 dX9_judge_157 (by decide) ?_
    obtain ⟨g41, h⟩ := gd_some h
    refine x_iald C0 G0 hW cM_5 (by decide) g41 dX9_judge_158 ?_
    refine lv_iload C0.1 C0.2.1 dX9_judge_159 (lv_at hl 5 rfl) ?_
    refine lv_iadd C0.1 C0.2.1 dX9_judge_161 ?_
    obtain ⟨u42, hu42, h⟩ := bd_some h
    refine x_kv (x_runV (As := [.int (1 : Int32), .int ((u40.2.1 5 ((1 : Int32)).toNatClampNeg) + v4)]) (rest := []) C0 G0 hW (cX9_drift_met l hJ z u40.2 (1 : Int32) ((u40.2.1 5 ((1 : Int32)).toNatClampNeg) + v4) _ hu42) (cwV 2 C0.2.2.2.1 gX9_judge_X9_drift rfl rfl rfl hdvX9_drift ⟨Nat.le_of_ble_eq_true rfl, Nat.le_of_ble_eq_true rfl⟩) cM_0 (by decide) rfl rfl rfl hl (Nat.le_of_ble_eq_true rfl) dX9_judge_162 ⟨Nat.le_refl 0, Nat.le_refl 0⟩) hW (fun H locs hW => ?_)
    refine lv_iinc (v := (v4 + 1)) (lv' := [(4, .int (v4 + 1)), (6, .int t0), (0, .ref (aD G 0)), (1, .int v1), (2, .int v2), (3, .int v3)]) C0.1 C0.2.1 dX9_judge_165 hl (k := 5) rfl rfl (by decide) rfl (fun ls hl => ?_)
    refine lv_goto (tgt := 47) C0.1 C0.2.1 dX9_judge_168 (by decide) ?_
    exact hr47 u42 v3 (v4 + 1) h _ _ _ hW (lv_sub hl [2, 3, 4, 5, 0] rfl)
  · rw [if_pos c39] at h
    refine lv_iload C0.1 C0.2.1 dX9_judge_140 (lv_at hl 5 rfl) ?_
    cases h
    exact x_iret C0 hW dX9_judge_142
set_option maxHeartbeats 4000000 in
set_option maxRecDepth 100000 in
theorem wX9_judge_110 (C0 : Cx p s m args meth c cX9_judge RX9 7 (some .int) wsX9_judge) (G0 : Gx G s) (hJ : gJ 13 G) (z : Nat) (r47 : ST → Int32 → Int32 → Option (Int32 × ST)) (σ : ST) (v1 : Int32) (v2 : Int32) (v4 : Int32) (v5 : Int32) (t0 : Int32) (res : (Int32 × ST)) (h : fX9_judge_110 z r47 σ v1 v2 v4 v5 t0 = some res) (hr47 : ∀ (σ : ST) (v3 : Int32) (v4 : Int32), r47 σ v3 v4 = some res → ∀ (H : Heap) (locs : List Loc) (ls : Array Slot), Wd cellM 13 G s.heap σ H locs → lv_has ls 7 [(0, .ref (aD G 0)), (1, .int v1), (2, .int v2), (3, .int v3), (4, .int v4)] → W p l e rX9_judge s m args below meth c H locs 0 0 (MQ below (XQi cellM 13 G res.1 res.2) args s 0 0 (gA 13 G)) (F0 m 47 ls [])) {H : Heap} {locs : List Loc} {ls : Array Slot} (hW : Wd cellM 13 G s.heap σ H locs) (hl : lv_has ls 7 [(0, .ref (aD G 0)), (1, .int v1), (2, .int v2), (4, .int v4), (5, .int v5)]) : W p l e rX9_judge s m args below meth c H locs 0 0 (MQ below (XQi cellM 13 G res.1 res.2) args s 0 0 (gA 13 G)) (F0 m 110 ls [.int t0]) := by
  unfold fX9_judge_110 at h
  refine lv_istore_n (lv' := [(3, .int t0), (0, .ref (aD G 0)), (1, .int v1), (2, .int v2), (4, .int v4), (5, .int v5)]) C0.1 C0.2.1 dX9_judge_110 rfl hl (by decide) rfl (fun ls hl => ?_)
  refine lv_iload C0.1 C0.2.1 dX9_judge_111 (lv_at hl 5 rfl) ?_
  refine lv_iconst (v := (3 : Int32)) C0.1 C0.2.1 dX9_judge_113 (by decide) ?_
  refine lv_icmp_ne (tgt := 122) C0.1 C0.2.1 dX9_judge_114 (by decide) (fun c37 => ?_) (fun c37 => ?_)
  · rw [if_neg c37] at h
    refine lv_iload_n C0.1 C0.2.1 dX9_judge_122 rfl (lv_at hl 0 rfl) ?_
    exact wX9_judge_123 C0 G0 hJ z r47 σ v1 v2 t0 v4 t0 _ h (by exact hr47) hW (lv_sub hl [1, 2, 3, 0, 4] rfl)
  · rw [if_pos c37] at h
    refine lv_bipush (v := (10 : Int32)) C0.1 C0.2.1 dX9_judge_117 (by decide) ?_
    refine lv_goto (tgt := 123) C0.1 C0.2.1 dX9_judge_119 (by decide) ?_
    exact wX9_judge_123 C0 G0 hJ z r47 σ v1 v2 t0 v4 (10 : Int32) _ h (by exact hr47) hW (lv_sub hl [1, 2, 3, 0, 4] rfl)
set_option maxHeartbeats 4000000 in
set_option maxRecDepth 100000 in
theorem wX9_judge_91 (C0 : Cx p s m args meth c cX9_judge RX9 7 (some .int) wsX9_judge) (G0 : Gx G s) (hJ : gJ 13 G) (z : Nat) (σ : ST) (v4 : Int32) (res : (Int32 × ST)) (h : fX9_judge_91 z σ v4 = some res)  {H : Heap} {locs : List Loc} {ls : Array Slot} (hW : Wd cellM 13 G s.heap σ H locs) (hl : lv_has ls 7 [(4, .int v4)]) : W p l e rX9_judge s m args below meth c H locs 0 0 (MQ below (XQi cellM 13 G res.1 res.2) args s 0 0 (gA 13 G)) (F0 m 91 ls []) := by
  unfold fX9_judge_91 at h
  refine lv_iload C0.1 C0.2.1 dX9_judge_91 (lv_at hl 0 rfl) ?_
  cases h
  exact x_iret C0 hW dX9_judge_93
set_option maxHeartbeats 4000000 in
set_option maxRecDepth 100000 in
theorem wX9_judge_47 (C0 : Cx p s m args meth c cX9_judge RX9 7 (some .int) wsX9_judge) (G0 : Gx G s) (hJ : gJ 13 G) (z : Nat) (v1 : Int32) (v2 : Int32) (n : Nat) (σ : ST) (v3 : Int32) (v4 : Int32) (res : (Int32 × ST)) (h : fX9_judge_47 z v1 v2 n σ v3 v4 = some res)  {H : Heap} {locs : List Loc} {ls : Array Slot} (hW : Wd cellM 13 G s.heap σ H locs) (hl : lv_has ls 7 [(0, .ref (aD G 0)), (1, .int v1), (2, .int v2), (3, .int v3), (4, .int v4)]) : W p l e rX9_judge s m args below meth c H locs 0 0 (MQ below (XQi cellM 13 G res.1 res.2) args s 0 0 (gA 13 G)) (F0 m 47 ls []) := by
  induction n generalizing σ v3 v4 H locs ls with
  | zero => cases h
  | succ n ih =>
    have hr47 : ∀ (σ : ST) (v3 : Int32) (v4 : Int32), fX9_judge_47 z v1 v2 n σ v3 v4 = some res → ∀ (H : Heap) (locs : List Loc) (ls : Array Slot), Wd cellM 13 G s.heap σ H locs → lv_has ls 7 [(0, .ref (aD G 0)), (1, .int v1), (2, .int v2), (3, .int v3), (4, .int v4)] → W p l e rX9_judge s m args below meth c H locs 0 0 (MQ below (XQi cellM 13 G res.1 res.2) args s 0 0 (gA 13 G)) (F0 m 47 ls []) := fun σ v3 v4 h H locs ls hW hl => ih σ v3 v4 h hW hl
    clear ih
    unfold fX9_judge_47 at h
    refine lv_iload C0.1 C0.2.1 dX9_judge_47 (lv_at hl 4 rfl) ?_
    refine lv_iload_n C0.1 C0.2.1 dX9_judge_49 rfl (lv_at hl 1 rfl) ?_
    refine lv_icmp_ge (tgt := 171) C0.1 C0.2.1 dX9_judge_50 (by decide) (fun c28 => ?_) (fun c28 => ?_)
    · rw [if_pos c28] at h
      refine lv_bipush (v := (-9 : Int32)) C0.1 C0.2.1 dX9_judge_171 (by decide) ?_
      cases h
      exact x_iret C0 hW dX9_judge_173
    · rw [if_neg c28] at h
      refine lv_iload_n C0.1 C0.2.1 dX9_judge_53 rfl (lv_at hl 2 rfl) ?_
      refine lv_iload_n C0.1 C0.2.1 dX9_judge_54 rfl (lv_at hl 1 rfl) ?_
      refine lv_iconst (v := (1 : Int32)) C0.1 C0.2.1 dX9_judge_55 (by decide) ?_
      refine lv_isub C0.1 C0.2.1 dX9_judge_56 ?_
      refine lv_iload C0.1 C0.2.1 dX9_judge_57 (lv_at hl 4 rfl) ?_
      refine lv_isub C0.1 C0.2.1 dX9_judge_59 ?_
      obtain ⟨u29, hu29, h⟩ := bd_some h
      refine x_ki (r := u29) (x_runS (As := [.int ((v1 - (1 : Int32)) - v4)]) (rest := [.int v2]) C0 G0 hW (cX9_tenTo_met l hJ z σ ((v1 - (1 : Int32)) - v4) _ hu29) (va_cwS 1 C0.2.2.2.1 gX9_judge_X9_tenTo rfl rfl rfl hdsX9_tenTo ⟨Nat.le_of_ble_eq_true rfl, Nat.le_of_ble_eq_true rfl⟩) rfl rfl hl (Nat.le_of_ble_eq_true rfl) dX9_judge_60 ⟨Nat.le_refl 0, Nat.le_refl 0⟩) hW (fun H locs hW => ?_)
      obtain ⟨g30, h⟩ := gd_some h
      refine lv_idiv C0.1 C0.2.1 dX9_judge_63 (nz_of g30) ?_
      refine lv_bipush (v := (10 : Int32)) C0.1 C0.2.1 dX9_judge_64 (by decide) ?_
      obtain ⟨g31, h⟩ := gd_some h
      refine lv_irem C0.1 C0.2.1 dX9_judge_66 (nz_of g31) ?_
      refine lv_istore (lv' := [(5, .int ((v2 / u29) - (v2 / u29) / (10 : Int32) * (10 : Int32))), (0, .ref (aD G 0)), (1, .int v1), (2, .int v2), (3, .int v3), (4, .int v4)]) C0.1 C0.2.1 dX9_judge_67 hl (by decide) rfl (fun ls hl => ?_)
      refine lv_iload C0.1 C0.2.1 dX9_judge_69 (lv_at hl 0 rfl) ?_
      refine lv_iconst (v := (3 : Int32)) C0.1 C0.2.1 dX9_judge_71 (by decide) ?_
      refine lv_icmp_gt (tgt := 91) C0.1 C0.2.1 dX9_judge_72 (by decide) (fun c32 => ?_) (fun c32 => ?_)
      · rw [if_pos c32] at h
        exact wX9_judge_91 C0 G0 hJ z σ v4 _ h hW (lv_sub hl [5] rfl)
      · rw [if_neg c32] at h
        refine lv_aload_n C0.1 C0.2.1 dX9_judge_75 rfl (lv_at hl 1 rfl) ?_
        refine x_get (v := .ref (aD G 5)) C0 G0 hW cM_0 (by decide) rfl 15 (by decide) inX9_judge_X9 lkX9_judge_23 rfl dX9_judge_76 ?_
        refine lv_iconst (v := (1 : Int32)) C0.1 C0.2.1 dX9_judge_79 (by decide) ?_
        obtain ⟨g33, h⟩ := gd_some h
        refine x_iald C0 G0 hW cM_5 (by decide) g33 dX9_judge_80 ?_
        refine lv_iload C0.1 C0.2.1 dX9_judge_81 (lv_at hl 5 rfl) ?_
        refine lv_iadd C0.1 C0.2.1 dX9_judge_83 ?_
        refine lv_aload_n C0.1 C0.2.1 dX9_judge_84 rfl (lv_at hl 1 rfl) ?_
        refine x_get (v := .int (σ.1 0 5)) C0 G0 hW cM_0 (by decide) rfl 5 (by decide) inX9_judge_X9 lkX9_judge_48 rfl dX9_judge_85 ?_
        refine lv_icmp_lt (tgt := 94) C0.1 C0.2.1 dX9_judge_88 (by decide) (fun c34 => ?_) (fun c34 => ?_)
        · rw [if_pos c34] at h
          refine lv_iload C0.1 C0.2.1 dX9_judge_94 (lv_at hl 0 rfl) ?_
          refine lv_iconst (v := (3 : Int32)) C0.1 C0.2.1 dX9_judge_96 (by decide) ?_
          refine lv_icmp_ne (tgt := 104) C0.1 C0.2.1 dX9_judge_97 (by decide) (fun c35 => ?_) (fun c35 => ?_)
          · rw [if_neg c35] at h
            refine lv_iload_n C0.1 C0.2.1 dX9_judge_104 rfl (lv_at hl 4 rfl) ?_
            refine lv_iload C0.1 C0.2.1 dX9_judge_105 (lv_at hl 0 rfl) ?_
            obtain ⟨u36, hu36, h⟩ := bd_some h
            refine x_ki (r := u36) (x_runS (As := [.int v3, .int ((v2 / u29) - (v2 / u29) / (10 : Int32) * (10 : Int32))]) (rest := []) C0 G0 hW (cX9_to_met l hJ z σ v3 ((v2 / u29) - (v2 / u29) / (10 : Int32) * (10 : Int32)) _ hu36) (va_cwS 2 C0.2.2.2.1 gX9_judge_X9_to rfl rfl rfl hdsX9_to ⟨Nat.le_of_ble_eq_true rfl, Nat.le_of_ble_eq_true rfl⟩) rfl rfl hl (Nat.le_of_ble_eq_true rfl) dX9_judge_107 ⟨Nat.le_refl 0, Nat.le_refl 0⟩) hW (fun H locs hW => ?_)
            exact wX9_judge_110 C0 G0 hJ z (fX9_judge_47 z v1 v2 n) σ v1 v2 v4 ((v2 / u29) - (v2 / u29) / (10 : Int32) * (10 : Int32)) u36 _ h (by exact hr47) hW (lv_sub hl [1, 2, 3, 5, 0] rfl)
          · rw [if_pos c35] at h
            refine lv_iload_n C0.1 C0.2.1 dX9_judge_100 rfl (lv_at hl 4 rfl) ?_
            refine lv_goto (tgt := 110) C0.1 C0.2.1 dX9_judge_101 (by decide) ?_
            exact wX9_judge_110 C0 G0 hJ z (fX9_judge_47 z v1 v2 n) σ v1 v2 v4 ((v2 / u29) - (v2 / u29) / (10 : Int32) * (10 : Int32)) v3 _ h (by exact hr47) hW (lv_sub hl [1, 2, 3, 5, 0] rfl)
        · rw [if_neg c34] at h
          exact wX9_judge_91 C0 G0 hJ z σ v4 _ h hW (lv_sub hl [5] rfl)
set_option maxHeartbeats 4000000 in
set_option maxRecDepth 100000 in
theorem wX9_judge_28 (C0 : Cx p s m args meth c cX9_judge RX9 7 (some .int) wsX9_judge) (G0 : Gx G s) (hJ : gJ 13 G) (z : Nat) (σ : ST) (res : (Int32 × ST)) (h : fX9_judge_28 z σ = some res)  {H : Heap} {locs : List Loc} {ls : Array Slot} (hW : Wd cellM 13 G s.heap σ H locs) (hl : lv_has ls 7 []) : W p l e rX9_judge s m args below meth c H locs 0 0 (MQ below (XQi cellM 13 G res.1 res.2) args s 0 0 (gA 13 G)) (F0 m 28 ls []) := by
  unfold fX9_judge_28 at h
  refine lv_bipush (v := (-2 : Int32)) C0.1 C0.2.1 dX9_judge_28 (by decide) ?_
  cases h
  exact x_iret C0 hW dX9_judge_30
set_option maxHeartbeats 4000000 in
set_option maxRecDepth 100000 in
theorem wX9_judge (C0 : Cx p s m args meth c cX9_judge RX9 7 (some .int) wsX9_judge) (G0 : Gx G s) (hJ : gJ 13 G) (z : Nat) (σ : ST) (v1 : Int32) (v2 : Int32) (res : (Int32 × ST)) (h : fX9_judge z σ v1 v2 = some res)  {H : Heap} {locs : List Loc} {ls : Array Slot} (hW : Wd cellM 13 G s.heap σ H locs) (hl : lv_has ls 7 [(0, .ref (aD G 0)), (1, .int v1), (2, .int v2)]) : W p l e rX9_judge s m args below meth c H locs 0 0 (MQ below (XQi cellM 13 G res.1 res.2) args s 0 0 (gA 13 G)) (F0 m 0 ls []) := by
  unfold fX9_judge at h
  refine lv_iload_n C0.1 C0.2.1 dX9_judge_0 rfl (lv_at hl 1 rfl) ?_
  refine lv_i2l (v := ((v1).toInt64)) C0.1 C0.2.1 dX9_judge_1 rfl ?_
  refine lv_lconst (v := (1 : Int64)) C0.1 C0.2.1 dX9_judge_2 (by decide) ?_
  refine lv_ldc2 (v := (8 : Int64)) C0.1 C0.2.1 C0.2.2.2.2.1 (C0.2.2.2.1 _ kcX9_judge_207) dX9_judge_3 ?_
  obtain ⟨u21, hu21, h⟩ := bd_some h
  refine x_ki (r := u21) (x_runS (As := [.long ((v1).toInt64), .long (1 : Int64), .long (8 : Int64)]) (rest := []) C0 G0 hW (cX9_in_met l hJ z σ ((v1).toInt64) (1 : Int64) (8 : Int64) _ hu21) (va_cwS 3 C0.2.2.2.1 gX9_judge_X9_in rfl rfl rfl hdsX9_in ⟨Nat.le_of_ble_eq_true rfl, Nat.le_of_ble_eq_true rfl⟩) rfl rfl hl (Nat.le_of_ble_eq_true rfl) dX9_judge_6 ⟨Nat.le_refl 0, Nat.le_refl 0⟩) hW (fun H locs hW => ?_)
  refine lv_if_eq (tgt := 28) C0.1 C0.2.1 dX9_judge_9 (by decide) (fun c22 => ?_) (fun c22 => ?_)
  · rw [if_pos c22] at h
    exact wX9_judge_28 C0 G0 hJ z σ _ h hW (lv_sub hl [] rfl)
  · rw [if_neg c22] at h
    refine lv_iload_n C0.1 C0.2.1 dX9_judge_12 rfl (lv_at hl 2 rfl) ?_
    refine lv_i2l (v := ((v2).toInt64)) C0.1 C0.2.1 dX9_judge_13 rfl ?_
    refine lv_lconst (v := (0 : Int64)) C0.1 C0.2.1 dX9_judge_14 (by decide) ?_
    refine lv_iload_n C0.1 C0.2.1 dX9_judge_15 rfl (lv_at hl 1 rfl) ?_
    obtain ⟨u23, hu23, h⟩ := bd_some h
    refine x_ki (r := u23) (x_runS (As := [.int v1]) (rest := [.long (0 : Int64), .long ((v2).toInt64)]) C0 G0 hW (cX9_tenTo_met l hJ z σ v1 _ hu23) (va_cwS 1 C0.2.2.2.1 gX9_judge_X9_tenTo rfl rfl rfl hdsX9_tenTo ⟨Nat.le_of_ble_eq_true rfl, Nat.le_of_ble_eq_true rfl⟩) rfl rfl hl (Nat.le_of_ble_eq_true rfl) dX9_judge_16 ⟨Nat.le_refl 0, Nat.le_refl 0⟩) hW (fun H locs hW => ?_)
    refine lv_iconst (v := (1 : Int32)) C0.1 C0.2.1 dX9_judge_19 (by decide) ?_
    refine lv_isub C0.1 C0.2.1 dX9_judge_20 ?_
    refine lv_i2l (v := (((u23 - (1 : Int32))).toInt64)) C0.1 C0.2.1 dX9_judge_21 rfl ?_
    obtain ⟨u24, hu24, h⟩ := bd_some h
    refine x_ki (r := u24) (x_runS (As := [.long ((v2).toInt64), .long (0 : Int64), .long (((u23 - (1 : Int32))).toInt64)]) (rest := []) C0 G0 hW (cX9_in_met l hJ z σ ((v2).toInt64) (0 : Int64) (((u23 - (1 : Int32))).toInt64) _ hu24) (va_cwS 3 C0.2.2.2.1 gX9_judge_X9_in rfl rfl rfl hdsX9_in ⟨Nat.le_of_ble_eq_true rfl, Nat.le_of_ble_eq_true rfl⟩) rfl rfl hl (Nat.le_of_ble_eq_true rfl) dX9_judge_22 ⟨Nat.le_refl 0, Nat.le_refl 0⟩) hW (fun H locs hW => ?_)
    refine lv_if_ne (tgt := 31) C0.1 C0.2.1 dX9_judge_25 (by decide) (fun c25 => ?_) (fun c25 => ?_)
    · rw [if_neg c25] at h
      refine lv_aload_n C0.1 C0.2.1 dX9_judge_31 rfl (lv_at hl 0 rfl) ?_
      refine lv_iconst (v := (0 : Int32)) C0.1 C0.2.1 dX9_judge_32 (by decide) ?_
      refine lv_iconst (v := (1 : Int32)) C0.1 C0.2.1 dX9_judge_33 (by decide) ?_
      obtain ⟨u26, hu26, h⟩ := bd_some h
      refine x_kv (x_runV (As := [.int (0 : Int32), .int (1 : Int32)]) (rest := []) C0 G0 hW (cX9_lay_met l hJ z σ (0 : Int32) (1 : Int32) _ hu26) (cwV 2 C0.2.2.2.1 gX9_judge_X9_lay rfl rfl rfl hdvX9_lay ⟨Nat.le_of_ble_eq_true rfl, Nat.le_of_ble_eq_true rfl⟩) cM_0 (by decide) rfl rfl rfl hl (Nat.le_of_ble_eq_true rfl) dX9_judge_34 ⟨Nat.le_refl 0, Nat.le_refl 0⟩) hW (fun H locs hW => ?_)
      refine lv_aload_n C0.1 C0.2.1 dX9_judge_37 rfl (lv_at hl 0 rfl) ?_
      refine x_get (v := .ref (aD G 5)) C0 G0 hW cM_0 (by decide) rfl 15 (by decide) inX9_judge_X9 lkX9_judge_23 rfl dX9_judge_38 ?_
      refine lv_iconst (v := (0 : Int32)) C0.1 C0.2.1 dX9_judge_41 (by decide) ?_
      obtain ⟨g27, h⟩ := gd_some h
      refine x_iald C0 G0 hW cM_5 (by decide) g27 dX9_judge_42 ?_
      refine lv_istore_n (lv' := [(3, .int (u26.1 5 ((0 : Int32)).toNatClampNeg)), (0, .ref (aD G 0)), (1, .int v1), (2, .int v2)]) C0.1 C0.2.1 dX9_judge_43 rfl hl (by decide) rfl (fun ls hl => ?_)
      refine lv_iconst (v := (0 : Int32)) C0.1 C0.2.1 dX9_judge_44 (by decide) ?_
      refine lv_istore (lv' := [(4, .int (0 : Int32)), (3, .int (u26.1 5 ((0 : Int32)).toNatClampNeg)), (0, .ref (aD G 0)), (1, .int v1), (2, .int v2)]) C0.1 C0.2.1 dX9_judge_45 hl (by decide) rfl (fun ls hl => ?_)
      exact wX9_judge_47 C0 G0 hJ z v1 v2 z u26 (u26.1 5 ((0 : Int32)).toNatClampNeg) (0 : Int32) _ h hW (lv_sub hl [2, 3, 4, 1, 0] rfl)
    · rw [if_pos c25] at h
      exact wX9_judge_28 C0 G0 hJ z σ _ h hW (lv_sub hl [] rfl)
theorem cX9_judge_met (l : Launch) {G : GT} (hJ : gJ 13 G) (z : Nat) (σ : ST) (v1 : Int32) (v2 : Int32) (res : (Int32 × ST)) (h : fX9_judge z σ v1 v2 = some res) : Met l yX9_judge wsX9_judge rX9_judge (XPc cellM 13 G σ [.ref (aD G 0), .int v1, .int v2]) (XQi cellM 13 G res.1 res.2) 0 0 (gA 13 G) :=
  x_met (ret := (some .int)) (maxL := 7) (by decide) rfl (Nat.le_of_ble_eq_true rfl) (fun p e s m args below meth c H locs ls C0 G0 hW hl => wX9_judge C0 G0 hJ z σ v1 v2 res h hW hl)
end
/-! X9_keep -/
def rX9_keep : Room := { frames := 1, cells := 0, slots := 0, locals := 25 }
theorem hdvX9_keep : yX9_keep.cls = RX9 ∧ yX9_keep.cls ≠ "java/lang/invoke/MethodHandle" ∧ yX9_keep.cls ≠ "java/lang/invoke/VarHandle" ∧ (parseMethodDescriptor yX9_keep.desc).map (fun d => d.parameters.length) = some 1 := by decide +kernel
theorem inX9_keep_X9 : ∀ w ∈ u_ws RX9 TX9 29, w ∈ wsX9_keep := by decide +kernel
theorem lkX9_keep_38 : Cond.fieldLink RX9 38 (TX9 26).1 (TX9 26).2.1 (TX9 26).2.2.1 ∈ wsX9_keep := by decide +kernel
theorem lkX9_keep_42 : Cond.fieldLink RX9 42 (TX9 27).1 (TX9 27).2.1 (TX9 27).2.2.1 ∈ wsX9_keep := by decide +kernel
theorem lkX9_keep_19 : Cond.fieldLink RX9 19 (TX9 14).1 (TX9 14).2.1 (TX9 14).2.2.1 ∈ wsX9_keep := by decide +kernel
theorem lkX9_keep_23 : Cond.fieldLink RX9 23 (TX9 15).1 (TX9 15).2.1 (TX9 15).2.2.1 ∈ wsX9_keep := by decide +kernel
theorem lkX9_keep_45 : Cond.fieldLink RX9 45 (TX9 28).1 (TX9 28).2.1 (TX9 28).2.2.1 ∈ wsX9_keep := by decide +kernel
def fX9_keep_52 (z : Nat) (v1 : Int32) : Nat → ST → Int32 → Option (Int32 × ST)
  | 0 => fun _ _ => none
  | n + 1 => fun σ v2 => (if (9 : Int32) ≤ v2 then gd (inb (1 : Int32) 9) ( some ((σ.1 5 ((1 : Int32)).toNatClampNeg), σ)) else gd (inb v2 9) ( gd (inb (((9 : Int32) * v1) + v2) 18) ( lt (pI σ 12 ((((9 : Int32) * v1) + v2)).toNatClampNeg (σ.1 5 (v2).toNatClampNeg)) (fun s34 => (fX9_keep_52 z v1 n) s34 (v2 + 1)))))
def fX9_keep_21 (z : Nat) (v1 : Int32) : Nat → ST → Int32 → Option (Int32 × ST)
  | 0 => fun _ _ => none
  | n + 1 => fun σ v2 => (if (11 : Int32) ≤ v2 then fX9_keep_52 z v1 z σ (0 : Int32) else gd (inb v2 33) ( gd (inb (((11 : Int32) * v1) + v2) 22) ( lt (pL σ 11 ((((11 : Int32) * v1) + v2)).toNatClampNeg (σ.2 4 (v2).toNatClampNeg)) (fun s29 => (fX9_keep_21 z v1 n) s29 (v2 + 1)))))
def fX9_keep (z : Nat) (σ : ST) (v1 : Int32) : Option (Int32 × ST) := bd (fX9_in z ((v1).toInt64) (0 : Int64) (1 : Int64)) (fun u21 => (if u21 = 0 then some ((-1 : Int32), σ) else gd (inb v1 2) ( gd (zok (1 : Int32)) ( lt (pI σ 10 (v1).toNatClampNeg (1 : Int32)) (fun s25 => fX9_keep_21 z v1 z s25 (0 : Int32))))))
section
variable {p : Program} {l : Launch} {e : Env} {s : State} {m : MethodId} {args : Array Value} {below : List Frame} {meth : Method} {c : Code} {G : GT}
set_option maxHeartbeats 4000000 in
set_option maxRecDepth 100000 in
theorem wX9_keep_52 (C0 : Cx p s m args meth c cX9_keep RX9 3 (some .int) wsX9_keep) (G0 : Gx G s) (hJ : gJ 13 G) (z : Nat) (v1 : Int32) (n : Nat) (σ : ST) (v2 : Int32) (res : (Int32 × ST)) (h : fX9_keep_52 z v1 n σ v2 = some res)  {H : Heap} {locs : List Loc} {ls : Array Slot} (hW : Wd cellM 13 G s.heap σ H locs) (hl : lv_has ls 3 [(0, .ref (aD G 0)), (1, .int v1), (2, .int v2)]) : W p l e rX9_keep s m args below meth c H locs 0 0 (MQ below (XQi cellM 13 G res.1 res.2) args s 0 0 (gA 13 G)) (F0 m 52 ls []) := by
  induction n generalizing σ v2 H locs ls with
  | zero => cases h
  | succ n ih =>
    have hr52 : ∀ (σ : ST) (v2 : Int32), fX9_keep_52 z v1 n σ v2 = some res → ∀ (H : Heap) (locs : List Loc) (ls : Array Slot), Wd cellM 13 G s.heap σ H locs → lv_has ls 3 [(0, .ref (aD G 0)), (1, .int v1), (2, .int v2)] → W p l e rX9_keep s m args below meth c H locs 0 0 (MQ below (XQi cellM 13 G res.1 res.2) args s 0 0 (gA 13 G)) (F0 m 52 ls []) := fun σ v2 h H locs ls hW hl => ih σ v2 h hW hl
    clear ih
    unfold fX9_keep_52 at h
    refine lv_iload_n C0.1 C0.2.1 dX9_keep_52 rfl (lv_at hl 2 rfl) ?_
    refine lv_bipush (v := (9 : Int32)) C0.1 C0.2.1 dX9_keep_53 (by decide) ?_
    refine lv_icmp_ge (tgt := 81) C0.1 C0.2.1 dX9_keep_55 (by decide) (fun c30 => ?_) (fun c30 => ?_)
    · rw [if_pos c30] at h
      refine lv_aload_n C0.1 C0.2.1 dX9_keep_81 rfl (lv_at hl 0 rfl) ?_
      refine x_get (v := .ref (aD G 5)) C0 G0 hW cM_0 (by decide) rfl 15 (by decide) inX9_keep_X9 lkX9_keep_23 rfl dX9_keep_82 ?_
      refine lv_iconst (v := (1 : Int32)) C0.1 C0.2.1 dX9_keep_85 (by decide) ?_
      obtain ⟨g31, h⟩ := gd_some h
      refine x_iald C0 G0 hW cM_5 (by decide) g31 dX9_keep_86 ?_
      cases h
      exact x_iret C0 hW dX9_keep_87
    · rw [if_neg c30] at h
      refine lv_aload_n C0.1 C0.2.1 dX9_keep_58 rfl (lv_at hl 0 rfl) ?_
      refine x_get (v := .ref (aD G 12)) C0 G0 hW cM_0 (by decide) rfl 28 (by decide) inX9_keep_X9 lkX9_keep_45 rfl dX9_keep_59 ?_
      refine lv_bipush (v := (9 : Int32)) C0.1 C0.2.1 dX9_keep_62 (by decide) ?_
      refine lv_iload_n C0.1 C0.2.1 dX9_keep_64 rfl (lv_at hl 1 rfl) ?_
      refine lv_imul C0.1 C0.2.1 dX9_keep_65 ?_
      refine lv_iload_n C0.1 C0.2.1 dX9_keep_66 rfl (lv_at hl 2 rfl) ?_
      refine lv_iadd C0.1 C0.2.1 dX9_keep_67 ?_
      refine lv_aload_n C0.1 C0.2.1 dX9_keep_68 rfl (lv_at hl 0 rfl) ?_
      refine x_get (v := .ref (aD G 5)) C0 G0 hW cM_0 (by decide) rfl 15 (by decide) inX9_keep_X9 lkX9_keep_23 rfl dX9_keep_69 ?_
      refine lv_iload_n C0.1 C0.2.1 dX9_keep_72 rfl (lv_at hl 2 rfl) ?_
      obtain ⟨g32, h⟩ := gd_some h
      refine x_iald C0 G0 hW cM_5 (by decide) g32 dX9_keep_73 ?_
      obtain ⟨g33, h⟩ := gd_some h
      refine x_iast C0 G0 hJ hW (fun f g => cM_12) (by decide) g33 dX9_keep_74 (fun H locs hW => ?_)
      obtain ⟨s34, es34, h⟩ := lt_some h
      rw [es34] at hW
      refine lv_iinc (v := (v2 + 1)) (lv' := [(2, .int (v2 + 1)), (0, .ref (aD G 0)), (1, .int v1)]) C0.1 C0.2.1 dX9_keep_75 hl (k := 2) rfl rfl (by decide) rfl (fun ls hl => ?_)
      refine lv_goto (tgt := 52) C0.1 C0.2.1 dX9_keep_78 (by decide) ?_
      exact hr52 s34 (v2 + 1) h _ _ _ hW (lv_sub hl [1, 2, 0] rfl)
set_option maxHeartbeats 4000000 in
set_option maxRecDepth 100000 in
theorem wX9_keep_21 (C0 : Cx p s m args meth c cX9_keep RX9 3 (some .int) wsX9_keep) (G0 : Gx G s) (hJ : gJ 13 G) (z : Nat) (v1 : Int32) (n : Nat) (σ : ST) (v2 : Int32) (res : (Int32 × ST)) (h : fX9_keep_21 z v1 n σ v2 = some res)  {H : Heap} {locs : List Loc} {ls : Array Slot} (hW : Wd cellM 13 G s.heap σ H locs) (hl : lv_has ls 3 [(0, .ref (aD G 0)), (1, .int v1), (2, .int v2)]) : W p l e rX9_keep s m args below meth c H locs 0 0 (MQ below (XQi cellM 13 G res.1 res.2) args s 0 0 (gA 13 G)) (F0 m 21 ls []) := by
  induction n generalizing σ v2 H locs ls with
  | zero => cases h
  | succ n ih =>
    have hr21 : ∀ (σ : ST) (v2 : Int32), fX9_keep_21 z v1 n σ v2 = some res → ∀ (H : Heap) (locs : List Loc) (ls : Array Slot), Wd cellM 13 G s.heap σ H locs → lv_has ls 3 [(0, .ref (aD G 0)), (1, .int v1), (2, .int v2)] → W p l e rX9_keep s m args below meth c H locs 0 0 (MQ below (XQi cellM 13 G res.1 res.2) args s 0 0 (gA 13 G)) (F0 m 21 ls []) := fun σ v2 h H locs ls hW hl => ih σ v2 h hW hl
    clear ih
    unfold fX9_keep_21 at h
    refine lv_iload_n C0.1 C0.2.1 dX9_keep_21 rfl (lv_at hl 2 rfl) ?_
    refine lv_bipush (v := (11 : Int32)) C0.1 C0.2.1 dX9_keep_22 (by decide) ?_
    refine lv_icmp_ge (tgt := 50) C0.1 C0.2.1 dX9_keep_24 (by decide) (fun c26 => ?_) (fun c26 => ?_)
    · rw [if_pos c26] at h
      refine lv_iconst (v := (0 : Int32)) C0.1 C0.2.1 dX9_keep_50 (by decide) ?_
      refine lv_istore_n (lv' := [(2, .int (0 : Int32)), (0, .ref (aD G 0)), (1, .int v1)]) C0.1 C0.2.1 dX9_keep_51 rfl hl (by decide) rfl (fun ls hl => ?_)
      exact wX9_keep_52 C0 G0 hJ z v1 z σ (0 : Int32) _ h hW (lv_sub hl [1, 2, 0] rfl)
    · rw [if_neg c26] at h
      refine lv_aload_n C0.1 C0.2.1 dX9_keep_27 rfl (lv_at hl 0 rfl) ?_
      refine x_get (v := .ref (aD G 11)) C0 G0 hW cM_0 (by decide) rfl 27 (by decide) inX9_keep_X9 lkX9_keep_42 rfl dX9_keep_28 ?_
      refine lv_bipush (v := (11 : Int32)) C0.1 C0.2.1 dX9_keep_31 (by decide) ?_
      refine lv_iload_n C0.1 C0.2.1 dX9_keep_33 rfl (lv_at hl 1 rfl) ?_
      refine lv_imul C0.1 C0.2.1 dX9_keep_34 ?_
      refine lv_iload_n C0.1 C0.2.1 dX9_keep_35 rfl (lv_at hl 2 rfl) ?_
      refine lv_iadd C0.1 C0.2.1 dX9_keep_36 ?_
      refine lv_aload_n C0.1 C0.2.1 dX9_keep_37 rfl (lv_at hl 0 rfl) ?_
      refine x_get (v := .ref (aD G 4)) C0 G0 hW cM_0 (by decide) rfl 14 (by decide) inX9_keep_X9 lkX9_keep_19 rfl dX9_keep_38 ?_
      refine lv_iload_n C0.1 C0.2.1 dX9_keep_41 rfl (lv_at hl 2 rfl) ?_
      obtain ⟨g27, h⟩ := gd_some h
      refine x_lald C0 G0 hW cM_4 (by decide) g27 dX9_keep_42 ?_
      obtain ⟨g28, h⟩ := gd_some h
      refine x_last C0 G0 hJ hW (fun f g => cM_11) (by decide) g28 dX9_keep_43 (fun H locs hW => ?_)
      obtain ⟨s29, es29, h⟩ := lt_some h
      rw [es29] at hW
      refine lv_iinc (v := (v2 + 1)) (lv' := [(2, .int (v2 + 1)), (0, .ref (aD G 0)), (1, .int v1)]) C0.1 C0.2.1 dX9_keep_44 hl (k := 2) rfl rfl (by decide) rfl (fun ls hl => ?_)
      refine lv_goto (tgt := 21) C0.1 C0.2.1 dX9_keep_47 (by decide) ?_
      exact hr21 s29 (v2 + 1) h _ _ _ hW (lv_sub hl [1, 2, 0] rfl)
set_option maxHeartbeats 4000000 in
set_option maxRecDepth 100000 in
theorem wX9_keep (C0 : Cx p s m args meth c cX9_keep RX9 3 (some .int) wsX9_keep) (G0 : Gx G s) (hJ : gJ 13 G) (z : Nat) (σ : ST) (v1 : Int32) (res : (Int32 × ST)) (h : fX9_keep z σ v1 = some res)  {H : Heap} {locs : List Loc} {ls : Array Slot} (hW : Wd cellM 13 G s.heap σ H locs) (hl : lv_has ls 3 [(0, .ref (aD G 0)), (1, .int v1)]) : W p l e rX9_keep s m args below meth c H locs 0 0 (MQ below (XQi cellM 13 G res.1 res.2) args s 0 0 (gA 13 G)) (F0 m 0 ls []) := by
  unfold fX9_keep at h
  refine lv_iload_n C0.1 C0.2.1 dX9_keep_0 rfl (lv_at hl 1 rfl) ?_
  refine lv_i2l (v := ((v1).toInt64)) C0.1 C0.2.1 dX9_keep_1 rfl ?_
  refine lv_lconst (v := (0 : Int64)) C0.1 C0.2.1 dX9_keep_2 (by decide) ?_
  refine lv_lconst (v := (1 : Int64)) C0.1 C0.2.1 dX9_keep_3 (by decide) ?_
  obtain ⟨u21, hu21, h⟩ := bd_some h
  refine x_ki (r := u21) (x_runS (As := [.long ((v1).toInt64), .long (0 : Int64), .long (1 : Int64)]) (rest := []) C0 G0 hW (cX9_in_met l hJ z σ ((v1).toInt64) (0 : Int64) (1 : Int64) _ hu21) (va_cwS 3 C0.2.2.2.1 gX9_keep_X9_in rfl rfl rfl hdsX9_in ⟨Nat.le_of_ble_eq_true rfl, Nat.le_of_ble_eq_true rfl⟩) rfl rfl hl (Nat.le_of_ble_eq_true rfl) dX9_keep_4 ⟨Nat.le_refl 0, Nat.le_refl 0⟩) hW (fun H locs hW => ?_)
  refine lv_if_ne (tgt := 12) C0.1 C0.2.1 dX9_keep_7 (by decide) (fun c22 => ?_) (fun c22 => ?_)
  · rw [if_neg c22] at h
    refine lv_aload_n C0.1 C0.2.1 dX9_keep_12 rfl (lv_at hl 0 rfl) ?_
    refine x_get (v := .ref (aD G 10)) C0 G0 hW cM_0 (by decide) rfl 26 (by decide) inX9_keep_X9 lkX9_keep_38 rfl dX9_keep_13 ?_
    refine lv_iload_n C0.1 C0.2.1 dX9_keep_16 rfl (lv_at hl 1 rfl) ?_
    refine lv_iconst (v := (1 : Int32)) C0.1 C0.2.1 dX9_keep_17 (by decide) ?_
    obtain ⟨g23, h⟩ := gd_some h
    obtain ⟨g24, h⟩ := gd_some h
    refine x_zast C0 G0 hJ hW (fun f g => cM_10) (by decide) g23 g24 dX9_keep_18 (fun H locs hW => ?_)
    obtain ⟨s25, es25, h⟩ := lt_some h
    rw [es25] at hW
    refine lv_iconst (v := (0 : Int32)) C0.1 C0.2.1 dX9_keep_19 (by decide) ?_
    refine lv_istore_n (lv' := [(2, .int (0 : Int32)), (0, .ref (aD G 0)), (1, .int v1)]) C0.1 C0.2.1 dX9_keep_20 rfl hl (by decide) rfl (fun ls hl => ?_)
    exact wX9_keep_21 C0 G0 hJ z v1 z s25 (0 : Int32) _ h hW (lv_sub hl [1, 2, 0] rfl)
  · rw [if_pos c22] at h
    refine lv_iconst (v := (-1 : Int32)) C0.1 C0.2.1 dX9_keep_10 (by decide) ?_
    cases h
    exact x_iret C0 hW dX9_keep_11
theorem cX9_keep_met (l : Launch) {G : GT} (hJ : gJ 13 G) (z : Nat) (σ : ST) (v1 : Int32) (res : (Int32 × ST)) (h : fX9_keep z σ v1 = some res) : Met l yX9_keep wsX9_keep rX9_keep (XPc cellM 13 G σ [.ref (aD G 0), .int v1]) (XQi cellM 13 G res.1 res.2) 0 0 (gA 13 G) :=
  x_met (ret := (some .int)) (maxL := 3) (by decide) rfl (Nat.le_of_ble_eq_true rfl) (fun p e s m args below meth c H locs ls C0 G0 hW hl => wX9_keep C0 G0 hJ z σ v1 res h hW hl)
end

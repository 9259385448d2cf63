theorem x_cat (r : Option Nat) : (va_rf r).category = 1 := by cases r <;> rfl
/-! X0_likelier -/
def rX0_likelier : Room := { frames := 0, cells := 0, slots := 0, locals := 0 }
theorem hdvX0_likelier : yX0_likelier.cls = RX0 ∧ yX0_likelier.cls ≠ "java/lang/invoke/MethodHandle" ∧ yX0_likelier.cls ≠ "java/lang/invoke/VarHandle" ∧ (parseMethodDescriptor yX0_likelier.desc).map (fun d => d.parameters.length) = some 0 := by decide +kernel
theorem inX0_likelier_X0 : ∀ w ∈ u_ws RX0 TX0 5, w ∈ wsX0_likelier := by decide +kernel
theorem lkX0_likelier_27 : Cond.fieldLink RX0 27 (TX0 2).1 (TX0 2).2.1 (TX0 2).2.2.1 ∈ wsX0_likelier := by decide +kernel
theorem inX0_likelier_X1 : ∀ w ∈ u_ws RX1 TX1 2, w ∈ wsX0_likelier := by decide +kernel
theorem nfX0_likelier_48 : (RX0, 48, (TX1 0).1, (TX1 0).2.1, (TX1 0).2.2.1) ∈ nwF := by decide +kernel
theorem lkX0_likelier_23 : Cond.fieldLink RX0 23 (TX0 1).1 (TX0 1).2.1 (TX0 1).2.2.1 ∈ wsX0_likelier := by decide +kernel
def fX0_likelier_29 (z : Nat) (σ : ST) (k90 : Nat) : Option (Option Nat) := some (some k90)
def fX0_likelier (z : Nat) (σ : ST) : Option (Option Nat) := (if (σ.2 77 0) ≤ (σ.2 76 0) then fX0_likelier_29 z σ 76 else fX0_likelier_29 z σ 77)
section
variable {p : Program} {l : Launch} {e : Env} {s : State} {m : MethodId} {args : Array Value} {below : List Frame} {meth : Method} {c : Code} {G : GT}
set_option maxHeartbeats 4000000 in
set_option maxRecDepth 100000 in
theorem wX0_likelier_29 (C0 : Cx p s m args meth c cX0_likelier RX0 1 (some (.object "GoneOverboard$Best")) wsX0_likelier) (G0 : Gx G s) (hJ : gJ 80 G) (z : Nat) (σ : ST) (k90 : Nat) (res : (Option Nat)) (h : fX0_likelier_29 z σ k90 = some res) (hk_k90 : kX k90 = 1) {H : Heap} {locs : List Loc} {ls : Array Slot} (hW : Wd cellX 80 G s.heap σ H locs) (hl : lv_has ls 1 []) : W p l e rX0_likelier s m args below meth c H locs 0 0 (MQ below (XQr cellX 80 G res σ) args s 0 0 (gA 80 G)) (F0 m 29 ls [.ref (aD G k90)]) := by
  unfold fX0_likelier_29 at h
  cases h
  exact x_rret C0 hW (r := (some k90)) rfl dX0_likelier_29
set_option maxHeartbeats 4000000 in
set_option maxRecDepth 100000 in
theorem wX0_likelier (C0 : Cx p s m args meth c cX0_likelier RX0 1 (some (.object "GoneOverboard$Best")) wsX0_likelier) (G0 : Gx G s) (hJ : gJ 80 G) (z : Nat) (σ : ST) (res : (Option Nat)) (h : fX0_likelier z σ = some res)  {H : Heap} {locs : List Loc} {ls : Array Slot} (hW : Wd cellX 80 G s.heap σ H locs) (hl : lv_has ls 1 [(0, .ref (aD G 57))]) : W p l e rX0_likelier s m args below meth c H locs 0 0 (MQ below (XQr cellX 80 G res σ) args s 0 0 (gA 80 G)) (F0 m 0 ls []) := by
  unfold fX0_likelier at h
  refine lv_aload_n C0.1 C0.2.1 dX0_likelier_0 rfl (lv_at hl 0 rfl) ?_
  refine x_get (v := .ref (aD G 77)) C0 G0 hW (cX_X0 rfl) (by decide) rfl 2 (by decide) inX0_likelier_X0 lkX0_likelier_27 rfl dX0_likelier_1 ?_
  refine x_getN (v := .long (σ.2 77 0)) C0 G0 hW (cX_X1 rfl) (by decide) rfl 0 (by decide) inX0_likelier_X1 nfX0_likelier_48 rfl dX0_likelier_4 ?_
  refine lv_aload_n C0.1 C0.2.1 dX0_likelier_7 rfl (lv_at hl 0 rfl) ?_
  refine x_get (v := .ref (aD G 76)) C0 G0 hW (cX_X0 rfl) (by decide) rfl 1 (by decide) inX0_likelier_X0 lkX0_likelier_23 rfl dX0_likelier_8 ?_
  refine x_getN (v := .long (σ.2 76 0)) C0 G0 hW (cX_X1 rfl) (by decide) rfl 0 (by decide) inX0_likelier_X1 nfX0_likelier_48 rfl dX0_likelier_11 ?_
  refine x_lc_le (tgt := 25) C0 dX0_likelier_14 dX0_likelier_15 (by decide) (fun c21 => ?_) (fun c21 => ?_)
  · rw [if_pos c21] at h
    refine lv_aload_n C0.1 C0.2.1 dX0_likelier_25 rfl (lv_at hl 0 rfl) ?_
    refine x_get (v := .ref (aD G 76)) C0 G0 hW (cX_X0 rfl) (by decide) rfl 1 (by decide) inX0_likelier_X0 lkX0_likelier_23 rfl dX0_likelier_26 ?_
    exact wX0_likelier_29 C0 G0 hJ z σ 76 _ h rfl hW (lv_sub hl [] rfl)
  · rw [if_neg c21] at h
    refine lv_aload_n C0.1 C0.2.1 dX0_likelier_18 rfl (lv_at hl 0 rfl) ?_
    refine x_get (v := .ref (aD G 77)) C0 G0 hW (cX_X0 rfl) (by decide) rfl 2 (by decide) inX0_likelier_X0 lkX0_likelier_27 rfl dX0_likelier_19 ?_
    refine lv_goto (tgt := 29) C0.1 C0.2.1 dX0_likelier_22 (by decide) ?_
    exact wX0_likelier_29 C0 G0 hJ z σ 77 _ h rfl hW (lv_sub hl [] rfl)
theorem cX0_likelier_met (l : Launch) {G : GT} (hJ : gJ 80 G) (z : Nat) (σ : ST)  (res : (Option Nat)) (h : fX0_likelier z σ = some res) : Met l yX0_likelier wsX0_likelier rX0_likelier (XPc cellX 80 G σ [.ref (aD G 57)]) (XQr cellX 80 G res σ) 0 0 (gA 80 G) :=
  x_met (ret := (some (.object "GoneOverboard$Best"))) (maxL := 1) (by decide) rfl (Nat.le_of_ble_eq_true rfl) (fun p e s m args below meth c H locs ls C0 G0 hW hl => wX0_likelier C0 G0 hJ z σ res h hW hl)
end
/-! X0_tryLook -/
def rX0_tryLook (d : Nat) : Room := { frames := 5 + d, cells := 0, slots := 0, locals := 108 + 33 * d }
theorem hdvX0_tryLook : yX0_tryLook.cls = RX0 ∧ yX0_tryLook.cls ≠ "java/lang/invoke/MethodHandle" ∧ yX0_tryLook.cls ≠ "java/lang/invoke/VarHandle" ∧ (parseMethodDescriptor yX0_tryLook.desc).map (fun d => d.parameters.length) = some 6 := by decide +kernel
theorem inX0_tryLook_X0 : ∀ w ∈ u_ws RX0 TX0 5, w ∈ wsX0_tryLook := by decide +kernel
theorem lkX0_tryLook_14 : Cond.fieldLink RX0 14 (TX0 0).1 (TX0 0).2.1 (TX0 0).2.2.1 ∈ wsX0_tryLook := by decide +kernel
theorem lkX0_tryLook_33 : Cond.fieldLink RX0 33 (TX0 4).1 (TX0 4).2.1 (TX0 4).2.2.1 ∈ wsX0_tryLook := by decide +kernel
theorem kcX0_tryLook_56 : Cond.constantLong RX0 56 (100 : Int64) ∈ wsX0_tryLook := by decide +kernel
theorem kcX0_tryLook_64 : Cond.constantLong RX0 64 (10 : Int64) ∈ wsX0_tryLook := by decide +kernel
def fX0_tryLook_108 (z : Nat) (self : ST → Int32 → Int32 → Int32 → Int64 → Nat → Option ST) (v2 : Int32) (k7 : Nat) (v9 : Int32) (v10 : Int64) : Nat → ST → Int32 → Option ST
  | 0 => fun _ _ => none
  | n + 1 => fun σ v13 => (if (3 : Int32) < v13 then some σ else bd (self σ (v2 + (1 : Int32)) v13 v9 v10 k7) (fun u32 => (fX0_tryLook_108 z self v2 k7 v9 v10 n) u32 (v13 + 1)))
def fX0_tryLook_23 (z : Nat) (self : ST → Int32 → Int32 → Int32 → Int64 → Nat → Option ST) (σ : ST) : Option ST := some σ
def fX0_tryLook (z : Nat) (self : ST → Int32 → Int32 → Int32 → Int64 → Nat → Option ST) (σ : ST) (v2 : Int32) (v3 : Int32) (v4 : Int32) (v5 : Int64) (k7 : Nat) : Option ST := gd (kX k7 == 1) (bd (fX5_at z σ 58 v2) (fun u21 => nl (u21) (fX0_tryLook_23 z self σ) (fun k22 => gd (kX k22 == 3) ((if v2 < (σ.1 57 4) then bd (fX4_foundNow z σ k22 v3) (fun u24 => (if (v2 + (1 : Int32)) = (σ.1 57 4) then bd (fX1_offer z σ k7 ((v5 * (100 : Int64)) + (u24 * (10 : Int64))) ((v4 * (10 : Int32)) + v3)) (fun u30 => some u30) else bd (fX5_at z σ 58 (v2 + (1 : Int32))) (fun u26 => nl (u26) (some σ) (fun k27 => gd (kX k27 == 3) (bd (fX4_copy z σ k27 k22) (fun u28 => bd (fX4_act z u28 k27 v3) (fun u29 => fX0_tryLook_108 z self v2 k7 ((v4 * (10 : Int32)) + v3) ((v5 * (100 : Int64)) + (u24 * (10 : Int64))) z u29 (0 : Int32)))))))) else fX0_tryLook_23 z self σ)))))
def fX0_tryLook_r (z : Nat) : Nat → ST → Int32 → Int32 → Int32 → Int64 → Nat → Option ST
  | 0 => fun _ _ _ _ _ _ => none
  | d + 1 => fun σ v2 v3 v4 v5 k7 => fX0_tryLook z (fX0_tryLook_r z d) σ v2 v3 v4 v5 k7
section
variable {p : Program} {l : Launch} {e : Env} {s : State} {m : MethodId} {args : Array Value} {below : List Frame} {meth : Method} {c : Code} {G : GT}
set_option maxHeartbeats 4000000 in
set_option maxRecDepth 100000 in
theorem wX0_tryLook_108 (C0 : Cx p s m args meth c cX0_tryLook RX0 14 none wsX0_tryLook) (G0 : Gx G s) (hJ : gJ 80 G) {d d0 : Nat} (hd0 : d = d0 + 1) (z : Nat) (self : ST → Int32 → Int32 → Int32 → Int64 → Nat → Option ST) (v2 : Int32) (k7 : Nat) (v9 : Int32) (v10 : Int64) (n : Nat) (σ : ST) (v13 : Int32) (res : ST) (h : fX0_tryLook_108 z self v2 k7 v9 v10 n σ v13 = some res) (hself : ∀ (σ : ST) (v2 : Int32) (v3 : Int32) (v4 : Int32) (v5 : Int64) (k7 : Nat) (res : ST), self σ v2 v3 v4 v5 k7 = some res → Met l yX0_tryLook wsX0_tryLook (rX0_tryLook d0) (XPc cellX 80 G σ [.ref (aD G 57), .ref (aD G 3), .int v2, .int v3, .int v4, .long v5, .ref (aD G k7)]) (XQv cellX 80 G res) 0 0 (gA 80 G)) (hk_k7 : kX k7 = 1) {H : Heap} {locs : List Loc} {ls : Array Slot} (hW : Wd cellX 80 G s.heap σ H locs) (hl : lv_has ls 14 [(0, .ref (aD G 57)), (1, .ref (aD G 3)), (2, .int v2), (7, .ref (aD G k7)), (9, .int v9), (10, .long v10), (13, .int v13)]) : W p l e (rX0_tryLook d) s m args below meth c H locs 0 0 (MQ below (XQv cellX 80 G res) args s 0 0 (gA 80 G)) (F0 m 108 ls []) := by
  induction n generalizing σ v13 H locs ls with
  | zero => cases h
  | succ n ih =>
    have hr108 : ∀ (σ : ST) (v13 : Int32), fX0_tryLook_108 z self v2 k7 v9 v10 n σ v13 = some res → ∀ (H : Heap) (locs : List Loc) (ls : Array Slot), Wd cellX 80 G s.heap σ H locs → lv_has ls 14 [(0, .ref (aD G 57)), (1, .ref (aD G 3)), (2, .int v2), (7, .ref (aD G k7)), (9, .int v9), (10, .long v10), (13, .int v13)] → W p l e (rX0_tryLook d) s m args below meth c H locs 0 0 (MQ below (XQv cellX 80 G res) args s 0 0 (gA 80 G)) (F0 m 108 ls []) := fun σ v13 h H locs ls hW hl => ih σ v13 h hW hl
    clear ih
    unfold fX0_tryLook_108 at h
    refine lv_iload C0.1 C0.2.1 dX0_tryLook_108 (lv_at hl 6 rfl) ?_
    refine lv_iconst (v := (3 : Int32)) C0.1 C0.2.1 dX0_tryLook_110 (by decide) ?_
    refine lv_icmp_gt (tgt := 136) C0.1 C0.2.1 dX0_tryLook_111 (by decide) (fun c31 => ?_) (fun c31 => ?_)
    · rw [if_pos c31] at h
      cases h
      exact x_vret C0 hW dX0_tryLook_136
    · rw [if_neg c31] at h
      refine lv_aload_n C0.1 C0.2.1 dX0_tryLook_114 rfl (lv_at hl 0 rfl) ?_
      refine lv_aload_n C0.1 C0.2.1 dX0_tryLook_115 rfl (lv_at hl 1 rfl) ?_
      refine lv_iload_n C0.1 C0.2.1 dX0_tryLook_116 rfl (lv_at hl 2 rfl) ?_
      refine lv_iconst (v := (1 : Int32)) C0.1 C0.2.1 dX0_tryLook_117 (by decide) ?_
      refine lv_iadd C0.1 C0.2.1 dX0_tryLook_118 ?_
      refine lv_iload C0.1 C0.2.1 dX0_tryLook_119 (lv_at hl 6 rfl) ?_
      refine lv_iload C0.1 C0.2.1 dX0_tryLook_121 (lv_at hl 4 rfl) ?_
      refine lv_lload C0.1 C0.2.1 dX0_tryLook_123 (lv_at hl 5 rfl) ?_
      refine lv_aload C0.1 C0.2.1 dX0_tryLook_125 (lv_at hl 3 rfl) ?_
      obtain ⟨u32, hu32, h⟩ := bd_some h
      refine x_kv (x_runV (As := [.ref (aD G 3), .int (v2 + (1 : Int32)), .int v13, .int v9, .long v10, .ref (aD G k7)]) (rest := []) C0 G0 hW (hself σ (v2 + (1 : Int32)) v13 v9 v10 k7 _ hu32) (cwV 6 C0.2.2.2.1 gX0_tryLook_X0_tryLook rfl rfl rfl hdvX0_tryLook ⟨by subst hd0; simp [rX0_tryLook]; try omega, by subst hd0; simp [rX0_tryLook]; try omega⟩) (cX_X0 rfl) (by decide) rfl rfl rfl hl (Nat.le_of_ble_eq_true rfl) dX0_tryLook_127 ⟨Nat.le_refl 0, Nat.le_refl 0⟩) hW (fun H locs hW => ?_)
      refine lv_iinc (v := (v13 + 1)) (lv' := [(13, .int (v13 + 1)), (0, .ref (aD G 57)), (1, .ref (aD G 3)), (2, .int v2), (7, .ref (aD G k7)), (9, .int v9), (10, .long v10)]) C0.1 C0.2.1 dX0_tryLook_130 hl (k := 6) rfl rfl (by decide) rfl (fun ls hl => ?_)
      refine lv_goto (tgt := 108) C0.1 C0.2.1 dX0_tryLook_133 (by decide) ?_
      exact hr108 u32 (v13 + 1) h _ _ _ hW (lv_sub hl [1, 2, 3, 4, 5, 6, 0] rfl)
set_option maxHeartbeats 4000000 in
set_option maxRecDepth 100000 in
theorem wX0_tryLook_23 (C0 : Cx p s m args meth c cX0_tryLook RX0 14 none wsX0_tryLook) (G0 : Gx G s) (hJ : gJ 80 G) {d d0 : Nat} (hd0 : d = d0 + 1) (z : Nat) (self : ST → Int32 → Int32 → Int32 → Int64 → Nat → Option ST) (σ : ST) (res : ST) (h : fX0_tryLook_23 z self σ = some res) (hself : ∀ (σ : ST) (v2 : Int32) (v3 : Int32) (v4 : Int32) (v5 : Int64) (k7 : Nat) (res : ST), self σ v2 v3 v4 v5 k7 = some res → Met l yX0_tryLook wsX0_tryLook (rX0_tryLook d0) (XPc cellX 80 G σ [.ref (aD G 57), .ref (aD G 3), .int v2, .int v3, .int v4, .long v5, .ref (aD G k7)]) (XQv cellX 80 G res) 0 0 (gA 80 G)) {H : Heap} {locs : List Loc} {ls : Array Slot} (hW : Wd cellX 80 G s.heap σ H locs) (hl : lv_has ls 14 []) : W p l e (rX0_tryLook d) s m args below meth c H locs 0 0 (MQ below (XQv cellX 80 G res) args s 0 0 (gA 80 G)) (F0 m 23 ls []) := by
  unfold fX0_tryLook_23 at h
  cases h
  exact x_vret C0 hW dX0_tryLook_23
set_option maxHeartbeats 4000000 in
set_option maxRecDepth 100000 in
theorem wX0_tryLook (C0 : Cx p s m args meth c cX0_tryLook RX0 14 none wsX0_tryLook) (G0 : Gx G s) (hJ : gJ 80 G) {d d0 : Nat} (hd0 : d = d0 + 1) (z : Nat) (self : ST → Int32 → Int32 → Int32 → Int64 → Nat → Option ST) (σ : ST) (v2 : Int32) (v3 : Int32) (v4 : Int32) (v5 : Int64) (k7 : Nat) (res : ST) (h : fX0_tryLook z self σ v2 v3 v4 v5 k7 = some res) (hself : ∀ (σ : ST) (v2 : Int32) (v3 : Int32) (v4 : Int32) (v5 : Int64) (k7 : Nat) (res : ST), self σ v2 v3 v4 v5 k7 = some res → Met l yX0_tryLook wsX0_tryLook (rX0_tryLook d0) (XPc cellX 80 G σ [.ref (aD G 57), .ref (aD G 3), .int v2, .int v3, .int v4, .long v5, .ref (aD G k7)]) (XQv cellX 80 G res) 0 0 (gA 80 G)) {H : Heap} {locs : List Loc} {ls : Array Slot} (hW : Wd cellX 80 G s.heap σ H locs) (hl : lv_has ls 14 [(0, .ref (aD G 57)), (1, .ref (aD G 3)), (2, .int v2), (3, .int v3), (4, .int v4), (5, .long v5), (7, .ref (aD G k7))]) : W p l e (rX0_tryLook d) s m args below meth c H locs 0 0 (MQ below (XQv cellX 80 G res) args s 0 0 (gA 80 G)) (F0 m 0 ls []) := by
  unfold fX0_tryLook at h
  obtain ⟨hk_k7, h⟩ := gd_some h
  have hk_k7 : kX k7 = 1 := eq_of_beq hk_k7
  refine lv_aload_n C0.1 C0.2.1 dX0_tryLook_0 rfl (lv_at hl 0 rfl) ?_
  refine x_get (v := .ref (aD G 58)) C0 G0 hW (cX_X0 rfl) (by decide) rfl 0 (by decide) inX0_tryLook_X0 lkX0_tryLook_14 rfl dX0_tryLook_1 ?_
  refine lv_iload_n C0.1 C0.2.1 dX0_tryLook_4 rfl (lv_at hl 2 rfl) ?_
  obtain ⟨u21, hu21, h⟩ := bd_some h
  refine x_kr (r := u21) (x_runV (As := [.int v2]) (rest := []) C0 G0 hW (cX5_at_met l hJ z σ 58 v2 _ hu21) (cwV 1 C0.2.2.2.1 gX0_tryLook_X5_at rfl rfl rfl hdvX5_at ⟨by subst hd0; simp [rX0_tryLook, rX5_at]; try omega, by subst hd0; simp [rX0_tryLook, rX5_at]; try omega⟩) (cX_X5 rfl) (by decide) rfl rfl rfl hl (Nat.le_of_ble_eq_true rfl) dX0_tryLook_5 ⟨Nat.le_refl 0, Nat.le_refl 0⟩) hW (fun H locs hW => ?_)
  refine x_astore (lv' := [(8, va_rf ((u21).map (aD G))), (0, .ref (aD G 57)), (1, .ref (aD G 3)), (2, .int v2), (3, .int v3), (4, .int v4), (5, .long v5), (7, .ref (aD G k7))]) C0 dX0_tryLook_8 hl (by decide) rfl (fun ls hl => ?_)
  refine x_aload C0 dX0_tryLook_10 (lv_at hl 0 rfl) ?_
  refine x_ifnull (tgt := 23) C0 dX0_tryLook_12 (by decide) (fun hn => ?_) (fun k22 hn => ?_)
  · subst hn
    have hl := lv_sub (l' := [(0, .ref (aD G 57)), (1, .ref (aD G 3)), (2, .int v2), (3, .int v3), (4, .int v4), (5, .long v5), (7, .ref (aD G k7))]) hl [1, 2, 3, 4, 5, 6, 7] rfl
    replace h := nl_none h
    exact wX0_tryLook_23 C0 G0 hJ hd0 z self σ _ h hself hW (lv_sub hl [] rfl)
  · subst hn
    have hl : lv_has ls 14 [(8, .ref (aD G k22)), (0, .ref (aD G 57)), (1, .ref (aD G 3)), (2, .int v2), (3, .int v3), (4, .int v4), (5, .long v5), (7, .ref (aD G k7))] := hl
    replace h := nl_k h
    obtain ⟨hk_k22, h⟩ := gd_some h
    have hk_k22 : kX k22 = 3 := eq_of_beq hk_k22
    refine lv_iload_n C0.1 C0.2.1 dX0_tryLook_15 rfl (lv_at hl 3 rfl) ?_
    refine lv_aload_n C0.1 C0.2.1 dX0_tryLook_16 rfl (lv_at hl 1 rfl) ?_
    refine x_get (v := .int (σ.1 57 4)) C0 G0 hW (cX_X0 rfl) (by decide) rfl 4 (by decide) inX0_tryLook_X0 lkX0_tryLook_33 rfl dX0_tryLook_17 ?_
    refine lv_icmp_lt (tgt := 24) C0.1 C0.2.1 dX0_tryLook_20 (by decide) (fun c23 => ?_) (fun c23 => ?_)
    · rw [if_pos c23] at h
      refine lv_iload C0.1 C0.2.1 dX0_tryLook_24 (lv_at hl 5 rfl) ?_
      refine lv_bipush (v := (10 : Int32)) C0.1 C0.2.1 dX0_tryLook_26 (by decide) ?_
      refine lv_imul C0.1 C0.2.1 dX0_tryLook_28 ?_
      refine lv_iload_n C0.1 C0.2.1 dX0_tryLook_29 rfl (lv_at hl 4 rfl) ?_
      refine lv_iadd C0.1 C0.2.1 dX0_tryLook_30 ?_
      refine lv_istore (lv' := [(9, .int ((v4 * (10 : Int32)) + v3)), (8, .ref (aD G k22)), (0, .ref (aD G 57)), (1, .ref (aD G 3)), (2, .int v2), (3, .int v3), (4, .int v4), (5, .long v5), (7, .ref (aD G k7))]) C0.1 C0.2.1 dX0_tryLook_31 hl (by decide) rfl (fun ls hl => ?_)
      refine lv_lload C0.1 C0.2.1 dX0_tryLook_33 (lv_at hl 7 rfl) ?_
      refine lv_ldc2 (v := (100 : Int64)) C0.1 C0.2.1 C0.2.2.2.2.1 (C0.2.2.2.1 _ kcX0_tryLook_56) dX0_tryLook_35 ?_
      refine lv_lmul C0.1 C0.2.1 dX0_tryLook_38 ?_
      refine lv_aload C0.1 C0.2.1 dX0_tryLook_39 (lv_at hl 1 rfl) ?_
      refine lv_aload_n C0.1 C0.2.1 dX0_tryLook_41 rfl (lv_at hl 3 rfl) ?_
      refine lv_iload_n C0.1 C0.2.1 dX0_tryLook_42 rfl (lv_at hl 5 rfl) ?_
      obtain ⟨u24, hu24, h⟩ := bd_some h
      refine x_kl (r := u24) (x_runV (As := [.ref (aD G 3), .int v3]) (rest := [.long (v5 * (100 : Int64))]) C0 G0 hW (cX4_foundNow_met l hJ z σ k22 v3 _ hu24) (cwV 2 C0.2.2.2.1 gX0_tryLook_X4_foundNow rfl rfl rfl hdvX4_foundNow ⟨by subst hd0; simp [rX0_tryLook, rX4_foundNow]; try omega, by subst hd0; simp [rX0_tryLook, rX4_foundNow]; try omega⟩) (cX_X4 hk_k22) (kX_lt hk_k22 (by decide)) rfl rfl rfl hl (Nat.le_of_ble_eq_true rfl) dX0_tryLook_43 ⟨Nat.le_refl 0, Nat.le_refl 0⟩) hW (fun H locs hW => ?_)
      refine lv_ldc2 (v := (10 : Int64)) C0.1 C0.2.1 C0.2.2.2.2.1 (C0.2.2.2.1 _ kcX0_tryLook_64) dX0_tryLook_46 ?_
      refine lv_lmul C0.1 C0.2.1 dX0_tryLook_49 ?_
      refine lv_ladd C0.1 C0.2.1 dX0_tryLook_50 ?_
      refine lv_lstore (lv' := [(10, .long ((v5 * (100 : Int64)) + (u24 * (10 : Int64)))), (9, .int ((v4 * (10 : Int32)) + v3)), (8, .ref (aD G k22)), (0, .ref (aD G 57)), (1, .ref (aD G 3)), (2, .int v2), (3, .int v3), (4, .int v4), (5, .long v5), (7, .ref (aD G k7))]) C0.1 C0.2.1 dX0_tryLook_51 hl (by decide) rfl (fun ls hl => ?_)
      refine lv_iload_n C0.1 C0.2.1 dX0_tryLook_53 rfl (lv_at hl 5 rfl) ?_
      refine lv_iconst (v := (1 : Int32)) C0.1 C0.2.1 dX0_tryLook_54 (by decide) ?_
      refine lv_iadd C0.1 C0.2.1 dX0_tryLook_55 ?_
      refine lv_aload_n C0.1 C0.2.1 dX0_tryLook_56 rfl (lv_at hl 3 rfl) ?_
      refine x_get (v := .int (σ.1 57 4)) C0 G0 hW (cX_X0 rfl) (by decide) rfl 4 (by decide) inX0_tryLook_X0 lkX0_tryLook_33 rfl dX0_tryLook_57 ?_
      refine lv_icmp_ne (tgt := 73) C0.1 C0.2.1 dX0_tryLook_60 (by decide) (fun c25 => ?_) (fun c25 => ?_)
      · rw [if_neg c25] at h
        refine lv_aload_n C0.1 C0.2.1 dX0_tryLook_73 rfl (lv_at hl 3 rfl) ?_
        refine x_get (v := .ref (aD G 58)) C0 G0 hW (cX_X0 rfl) (by decide) rfl 0 (by decide) inX0_tryLook_X0 lkX0_tryLook_14 rfl dX0_tryLook_74 ?_
        refine lv_iload_n C0.1 C0.2.1 dX0_tryLook_77 rfl (lv_at hl 5 rfl) ?_
        refine lv_iconst (v := (1 : Int32)) C0.1 C0.2.1 dX0_tryLook_78 (by decide) ?_
        refine lv_iadd C0.1 C0.2.1 dX0_tryLook_79 ?_
        obtain ⟨u26, hu26, h⟩ := bd_some h
        refine x_kr (r := u26) (x_runV (As := [.int (v2 + (1 : Int32))]) (rest := []) C0 G0 hW (cX5_at_met l hJ z σ 58 (v2 + (1 : Int32)) _ hu26) (cwV 1 C0.2.2.2.1 gX0_tryLook_X5_at rfl rfl rfl hdvX5_at ⟨by subst hd0; simp [rX0_tryLook, rX5_at]; try omega, by subst hd0; simp [rX0_tryLook, rX5_at]; try omega⟩) (cX_X5 rfl) (by decide) rfl rfl rfl hl (Nat.le_of_ble_eq_true rfl) dX0_tryLook_80 ⟨Nat.le_refl 0, Nat.le_refl 0⟩) hW (fun H locs hW => ?_)
        refine x_astore (lv' := [(12, va_rf ((u26).map (aD G))), (10, .long ((v5 * (100 : Int64)) + (u24 * (10 : Int64)))), (9, .int ((v4 * (10 : Int32)) + v3)), (8, .ref (aD G k22)), (0, .ref (aD G 57)), (1, .ref (aD G 3)), (2, .int v2), (3, .int v3), (4, .int v4), (5, .long v5), (7, .ref (aD G k7))]) C0 dX0_tryLook_83 hl (by decide) rfl (fun ls hl => ?_)
        refine x_aload C0 dX0_tryLook_85 (lv_at hl 0 rfl) ?_
        refine x_ifnonnull (tgt := 91) C0 dX0_tryLook_87 (by decide) (fun hn => ?_) (fun k27 hn => ?_)
        · subst hn
          have hl := lv_sub (l' := [(10, .long ((v5 * (100 : Int64)) + (u24 * (10 : Int64)))), (9, .int ((v4 * (10 : Int32)) + v3)), (8, .ref (aD G k22)), (0, .ref (aD G 57)), (1, .ref (aD G 3)), (2, .int v2), (3, .int v3), (4, .int v4), (5, .long v5), (7, .ref (aD G k7))]) hl [1, 2, 3, 4, 5, 6, 7, 8, 9, 10] rfl
          replace h := nl_none h
          cases h
          exact x_vret C0 hW dX0_tryLook_90
        · subst hn
          have hl : lv_has ls 14 [(12, .ref (aD G k27)), (10, .long ((v5 * (100 : Int64)) + (u24 * (10 : Int64)))), (9, .int ((v4 * (10 : Int32)) + v3)), (8, .ref (aD G k22)), (0, .ref (aD G 57)), (1, .ref (aD G 3)), (2, .int v2), (3, .int v3), (4, .int v4), (5, .long v5), (7, .ref (aD G k7))] := hl
          replace h := nl_k h
          obtain ⟨hk_k27, h⟩ := gd_some h
          have hk_k27 : kX k27 = 3 := eq_of_beq hk_k27
          refine lv_aload C0.1 C0.2.1 dX0_tryLook_91 (lv_at hl 0 rfl) ?_
          refine lv_aload C0.1 C0.2.1 dX0_tryLook_93 (lv_at hl 3 rfl) ?_
          obtain ⟨u28, hu28, h⟩ := bd_some h
          refine x_kv (x_runV (As := [.ref (aD G k22)]) (rest := []) C0 G0 hW (cX4_copy_met l hJ z σ k27 k22 _ hu28) (cwV 1 C0.2.2.2.1 gX0_tryLook_X4_copy rfl rfl rfl hdvX4_copy ⟨by subst hd0; simp [rX0_tryLook, rX4_copy]; try omega, by subst hd0; simp [rX0_tryLook, rX4_copy]; try omega⟩) (cX_X4 hk_k27) (kX_lt hk_k27 (by decide)) rfl rfl rfl hl (Nat.le_of_ble_eq_true rfl) dX0_tryLook_95 ⟨Nat.le_refl 0, Nat.le_refl 0⟩) hW (fun H locs hW => ?_)
          refine lv_aload C0.1 C0.2.1 dX0_tryLook_98 (lv_at hl 0 rfl) ?_
          refine lv_aload_n C0.1 C0.2.1 dX0_tryLook_100 rfl (lv_at hl 5 rfl) ?_
          refine lv_iload_n C0.1 C0.2.1 dX0_tryLook_101 rfl (lv_at hl 7 rfl) ?_
          obtain ⟨u29, hu29, h⟩ := bd_some h
          refine x_kv (x_runV (As := [.ref (aD G 3), .int v3]) (rest := []) C0 G0 hW (cX4_act_met l hJ z u28 k27 v3 _ hu29) (cwV 2 C0.2.2.2.1 gX0_tryLook_X4_act rfl rfl rfl hdvX4_act ⟨by subst hd0; simp [rX0_tryLook, rX4_act]; try omega, by subst hd0; simp [rX0_tryLook, rX4_act]; try omega⟩) (cX_X4 hk_k27) (kX_lt hk_k27 (by decide)) rfl rfl rfl hl (Nat.le_of_ble_eq_true rfl) dX0_tryLook_102 ⟨Nat.le_refl 0, Nat.le_refl 0⟩) hW (fun H locs hW => ?_)
          refine lv_iconst (v := (0 : Int32)) C0.1 C0.2.1 dX0_tryLook_105 (by decide) ?_
          refine lv_istore (lv' := [(13, .int (0 : Int32)), (12, .ref (aD G k27)), (10, .long ((v5 * (100 : Int64)) + (u24 * (10 : Int64)))), (9, .int ((v4 * (10 : Int32)) + v3)), (8, .ref (aD G k22)), (0, .ref (aD G 57)), (1, .ref (aD G 3)), (2, .int v2), (3, .int v3), (4, .int v4), (5, .long v5), (7, .ref (aD G k7))]) C0.1 C0.2.1 dX0_tryLook_106 hl (by decide) rfl (fun ls hl => ?_)
          exact wX0_tryLook_108 C0 G0 hJ hd0 z self v2 k7 ((v4 * (10 : Int32)) + v3) ((v5 * (100 : Int64)) + (u24 * (10 : Int64))) z u29 (0 : Int32) _ h hself hk_k7 hW (lv_sub hl [5, 6, 7, 11, 3, 2, 0] rfl)
      · rw [if_pos c25] at h
        refine lv_aload C0.1 C0.2.1 dX0_tryLook_63 (lv_at hl 9 rfl) ?_
        refine lv_lload C0.1 C0.2.1 dX0_tryLook_65 (lv_at hl 0 rfl) ?_
        refine lv_iload C0.1 C0.2.1 dX0_tryLook_67 (lv_at hl 1 rfl) ?_
        obtain ⟨u30, hu30, h⟩ := bd_some h
        refine x_kv (x_runV (As := [.long ((v5 * (100 : Int64)) + (u24 * (10 : Int64))), .int ((v4 * (10 : Int32)) + v3)]) (rest := []) C0 G0 hW (cX1_offer_met l hJ z σ k7 ((v5 * (100 : Int64)) + (u24 * (10 : Int64))) ((v4 * (10 : Int32)) + v3) _ hu30) (cwV 2 C0.2.2.2.1 gX0_tryLook_X1_offer rfl rfl rfl hdvX1_offer ⟨by subst hd0; simp [rX0_tryLook, rX1_offer]; try omega, by subst hd0; simp [rX0_tryLook, rX1_offer]; try omega⟩) (cX_X1 hk_k7) (kX_lt hk_k7 (by decide)) rfl rfl rfl hl (Nat.le_of_ble_eq_true rfl) dX0_tryLook_69 ⟨Nat.le_refl 0, Nat.le_refl 0⟩) hW (fun H locs hW => ?_)
        cases h
        exact x_vret C0 hW dX0_tryLook_72
    · rw [if_neg c23] at h
      exact wX0_tryLook_23 C0 G0 hJ hd0 z self σ _ h hself hW (lv_sub hl [] rfl)
theorem cX0_tryLook_met (l : Launch) {G : GT} (hJ : gJ 80 G) (z : Nat) : ∀ (d : Nat) (σ : ST) (v2 : Int32) (v3 : Int32) (v4 : Int32) (v5 : Int64) (k7 : Nat) (res : ST) (h : fX0_tryLook_r z d σ v2 v3 v4 v5 k7 = some res), Met l yX0_tryLook wsX0_tryLook (rX0_tryLook d) (XPc cellX 80 G σ [.ref (aD G 57), .ref (aD G 3), .int v2, .int v3, .int v4, .long v5, .ref (aD G k7)]) (XQv cellX 80 G res) 0 0 (gA 80 G) := by
  intro d
  induction d with
  | zero => intro σ v2 v3 v4 v5 k7 res h; cases h
  | succ d0 ih =>
    intro σ v2 v3 v4 v5 k7 res h
    exact x_met (ret := none) (maxL := 14) (by decide) rfl (Nat.le_of_ble_eq_true rfl) (fun p e s m args below meth c H locs ls C0 G0 hW hl => wX0_tryLook C0 G0 hJ rfl z (fX0_tryLook_r z d0) σ v2 v3 v4 v5 k7 res h ih hW hl)
end
/-! X0_tryAll -/
def rX0_tryAll : Room := { frames := 15, cells := 0, slots := 0, locals := 438 }
theorem hdvX0_tryAll : yX0_tryAll.cls = RX0 ∧ yX0_tryAll.cls ≠ "java/lang/invoke/MethodHandle" ∧ yX0_tryAll.cls ≠ "java/lang/invoke/VarHandle" ∧ (parseMethodDescriptor yX0_tryAll.desc).map (fun d => d.parameters.length) = some 3 := by decide +kernel
theorem inX0_tryAll_X0 : ∀ w ∈ u_ws RX0 TX0 5, w ∈ wsX0_tryAll := by decide +kernel
theorem lkX0_tryAll_33 : Cond.fieldLink RX0 33 (TX0 4).1 (TX0 4).2.1 (TX0 4).2.2.1 ∈ wsX0_tryAll := by decide +kernel
theorem lkX0_tryAll_23 : Cond.fieldLink RX0 23 (TX0 1).1 (TX0 1).2.1 (TX0 1).2.2.1 ∈ wsX0_tryAll := by decide +kernel
theorem lkX0_tryAll_27 : Cond.fieldLink RX0 27 (TX0 2).1 (TX0 2).2.1 (TX0 2).2.2.1 ∈ wsX0_tryAll := by decide +kernel
theorem lkX0_tryAll_14 : Cond.fieldLink RX0 14 (TX0 0).1 (TX0 0).2.1 (TX0 0).2.2.1 ∈ wsX0_tryAll := by decide +kernel
def fX0_tryAll_61 (z : Nat) (r31 : ST → Int32 → Option ST) (σ : ST) (v4 : Int32) (k90 : Nat) (t1 : Int64) (t2 : Int32) (t3 : Int32) (t4 : Int32) : Option ST := bd (fX0_tryLook_r z 9 σ t4 t3 t2 t1 k90) (fun u27 => r31 u27 (v4 + 1))
def fX0_tryAll_31 (z : Nat) : Nat → ST → Int32 → Option ST
  | 0 => fun _ _ => none
  | n + 1 => fun σ v4 => (if (3 : Int32) < v4 then some σ else (if v4 = (3 : Int32) then fX0_tryAll_61 z (fX0_tryAll_31 z n) σ v4 77 (0 : Int64) (0 : Int32) v4 (0 : Int32) else fX0_tryAll_61 z (fX0_tryAll_31 z n) σ v4 76 (0 : Int64) (0 : Int32) v4 (0 : Int32)))
def fX0_tryAll (z : Nat) (σ : ST) (k2 : Nat) (v3 : Int32) : Option ST := gd (kX k2 == 3) (lt (pI σ 57 4 v3) (fun s21 => bd (fX1_clear z s21 76) (fun u22 => bd (fX1_clear z u22 77) (fun u23 => bd (fX5_put z u23 58 (0 : Int32) k2) (fun u24 => fX0_tryAll_31 z z u24 (0 : Int32))))))
section
variable {p : Program} {l : Launch} {e : Env} {s : State} {m : MethodId} {args : Array Value} {below : List Frame} {meth : Method} {c : Code} {G : GT}
set_option maxHeartbeats 4000000 in
set_option maxRecDepth 100000 in
theorem wX0_tryAll_61 (C0 : Cx p s m args meth c cX0_tryAll RX0 5 none wsX0_tryAll) (G0 : Gx G s) (hJ : gJ 80 G) (z : Nat) (r31 : ST → Int32 → Option ST) (σ : ST) (v4 : Int32) (k90 : Nat) (t1 : Int64) (t2 : Int32) (t3 : Int32) (t4 : Int32) (res : ST) (h : fX0_tryAll_61 z r31 σ v4 k90 t1 t2 t3 t4 = some res) (hr31 : ∀ (σ : ST) (v4 : Int32), r31 σ v4 = some res → ∀ (H : Heap) (locs : List Loc) (ls : Array Slot), Wd cellX 80 G s.heap σ H locs → lv_has ls 5 [(0, .ref (aD G 57)), (1, .ref (aD G 3)), (4, .int v4)] → W p l e rX0_tryAll s m args below meth c H locs 0 0 (MQ below (XQv cellX 80 G res) args s 0 0 (gA 80 G)) (F0 m 31 ls [])) (hk_k90 : kX k90 = 1) {H : Heap} {locs : List Loc} {ls : Array Slot} (hW : Wd cellX 80 G s.heap σ H locs) (hl : lv_has ls 5 [(0, .ref (aD G 57)), (1, .ref (aD G 3)), (4, .int v4)]) : W p l e rX0_tryAll s m args below meth c H locs 0 0 (MQ below (XQv cellX 80 G res) args s 0 0 (gA 80 G)) (F0 m 61 ls [.ref (aD G k90), .long t1, .int t2, .int t3, .int t4, .ref (aD G 3), .ref (aD G 57)]) := by
  unfold fX0_tryAll_61 at h
  obtain ⟨u27, hu27, h⟩ := bd_some h
  refine x_kv (x_runV (As := [.ref (aD G 3), .int t4, .int t3, .int t2, .long t1, .ref (aD G k90)]) (rest := []) C0 G0 hW (cX0_tryLook_met l hJ z 9 σ t4 t3 t2 t1 k90 _ hu27) (cwV 6 C0.2.2.2.1 gX0_tryAll_X0_tryLook rfl rfl rfl hdvX0_tryLook ⟨Nat.le_of_ble_eq_true rfl, Nat.le_of_ble_eq_true rfl⟩) (cX_X0 rfl) (by decide) rfl rfl rfl hl (Nat.le_of_ble_eq_true rfl) dX0_tryAll_61 ⟨Nat.le_refl 0, Nat.le_refl 0⟩) hW (fun H locs hW => ?_)
  refine lv_iinc (v := (v4 + 1)) (lv' := [(4, .int (v4 + 1)), (0, .ref (aD G 57)), (1, .ref (aD G 3))]) C0.1 C0.2.1 dX0_tryAll_64 hl (k := 2) rfl rfl (by decide) rfl (fun ls hl => ?_)
  refine lv_goto (tgt := 31) C0.1 C0.2.1 dX0_tryAll_67 (by decide) ?_
  exact hr31 u27 (v4 + 1) h _ _ _ hW (lv_sub hl [1, 2, 0] rfl)
set_option maxHeartbeats 4000000 in
set_option maxRecDepth 100000 in
theorem wX0_tryAll_31 (C0 : Cx p s m args meth c cX0_tryAll RX0 5 none wsX0_tryAll) (G0 : Gx G s) (hJ : gJ 80 G) (z : Nat) (n : Nat) (σ : ST) (v4 : Int32) (res : ST) (h : fX0_tryAll_31 z n σ v4 = some res)  {H : Heap} {locs : List Loc} {ls : Array Slot} (hW : Wd cellX 80 G s.heap σ H locs) (hl : lv_has ls 5 [(0, .ref (aD G 57)), (1, .ref (aD G 3)), (4, .int v4)]) : W p l e rX0_tryAll s m args below meth c H locs 0 0 (MQ below (XQv cellX 80 G res) args s 0 0 (gA 80 G)) (F0 m 31 ls []) := by
  induction n generalizing σ v4 H locs ls with
  | zero => cases h
  | succ n ih =>
    have hr31 : ∀ (σ : ST) (v4 : Int32), fX0_tryAll_31 z n σ v4 = some res → ∀ (H : Heap) (locs : List Loc) (ls : Array Slot), Wd cellX 80 G s.heap σ H locs → lv_has ls 5 [(0, .ref (aD G 57)), (1, .ref (aD G 3)), (4, .int v4)] → W p l e rX0_tryAll s m args below meth c H locs 0 0 (MQ below (XQv cellX 80 G res) args s 0 0 (gA 80 G)) (F0 m 31 ls []) := fun σ v4 h H locs ls hW hl => ih σ v4 h hW hl
    clear ih
    unfold fX0_tryAll_31 at h
    refine lv_iload C0.1 C0.2.1 dX0_tryAll_31 (lv_at hl 2 rfl) ?_
    refine lv_iconst (v := (3 : Int32)) C0.1 C0.2.1 dX0_tryAll_33 (by decide) ?_
    refine lv_icmp_gt (tgt := 70) C0.1 C0.2.1 dX0_tryAll_34 (by decide) (fun c25 => ?_) (fun c25 => ?_)
    · rw [if_pos c25] at h
      cases h
      exact x_vret C0 hW dX0_tryAll_70
    · rw [if_neg c25] at h
      refine lv_aload_n C0.1 C0.2.1 dX0_tryAll_37 rfl (lv_at hl 0 rfl) ?_
      refine lv_aload_n C0.1 C0.2.1 dX0_tryAll_38 rfl (lv_at hl 1 rfl) ?_
      refine lv_iconst (v := (0 : Int32)) C0.1 C0.2.1 dX0_tryAll_39 (by decide) ?_
      refine lv_iload C0.1 C0.2.1 dX0_tryAll_40 (lv_at hl 2 rfl) ?_
      refine lv_iconst (v := (0 : Int32)) C0.1 C0.2.1 dX0_tryAll_42 (by decide) ?_
      refine lv_lconst (v := (0 : Int64)) C0.1 C0.2.1 dX0_tryAll_43 (by decide) ?_
      refine lv_iload C0.1 C0.2.1 dX0_tryAll_44 (lv_at hl 2 rfl) ?_
      refine lv_iconst (v := (3 : Int32)) C0.1 C0.2.1 dX0_tryAll_46 (by decide) ?_
      refine lv_icmp_ne (tgt := 57) C0.1 C0.2.1 dX0_tryAll_47 (by decide) (fun c26 => ?_) (fun c26 => ?_)
      · rw [if_neg c26] at h
        refine lv_aload_n C0.1 C0.2.1 dX0_tryAll_57 rfl (lv_at hl 0 rfl) ?_
        refine x_get (v := .ref (aD G 76)) C0 G0 hW (cX_X0 rfl) (by decide) rfl 1 (by decide) inX0_tryAll_X0 lkX0_tryAll_23 rfl dX0_tryAll_58 ?_
        exact wX0_tryAll_61 C0 G0 hJ z (fX0_tryAll_31 z n) σ v4 76 (0 : Int64) (0 : Int32) v4 (0 : Int32) _ h (by exact hr31) rfl hW (lv_sub hl [0, 1, 2] rfl)
      · rw [if_pos c26] at h
        refine lv_aload_n C0.1 C0.2.1 dX0_tryAll_50 rfl (lv_at hl 0 rfl) ?_
        refine x_get (v := .ref (aD G 77)) C0 G0 hW (cX_X0 rfl) (by decide) rfl 2 (by decide) inX0_tryAll_X0 lkX0_tryAll_27 rfl dX0_tryAll_51 ?_
        refine lv_goto (tgt := 61) C0.1 C0.2.1 dX0_tryAll_54 (by decide) ?_
        exact wX0_tryAll_61 C0 G0 hJ z (fX0_tryAll_31 z n) σ v4 77 (0 : Int64) (0 : Int32) v4 (0 : Int32) _ h (by exact hr31) rfl hW (lv_sub hl [0, 1, 2] rfl)
set_option maxHeartbeats 4000000 in
set_option maxRecDepth 100000 in
theorem wX0_tryAll (C0 : Cx p s m args meth c cX0_tryAll RX0 5 none wsX0_tryAll) (G0 : Gx G s) (hJ : gJ 80 G) (z : Nat) (σ : ST) (k2 : Nat) (v3 : Int32) (res : ST) (h : fX0_tryAll z σ k2 v3 = some res)  {H : Heap} {locs : List Loc} {ls : Array Slot} (hW : Wd cellX 80 G s.heap σ H locs) (hl : lv_has ls 5 [(0, .ref (aD G 57)), (1, .ref (aD G 3)), (2, .ref (aD G k2)), (3, .int v3)]) : W p l e rX0_tryAll s m args below meth c H locs 0 0 (MQ below (XQv cellX 80 G res) args s 0 0 (gA 80 G)) (F0 m 0 ls []) := by
  unfold fX0_tryAll at h
  obtain ⟨hk_k2, h⟩ := gd_some h
  have hk_k2 : kX k2 = 3 := eq_of_beq hk_k2
  refine lv_aload_n C0.1 C0.2.1 dX0_tryAll_0 rfl (lv_at hl 0 rfl) ?_
  refine lv_iload_n C0.1 C0.2.1 dX0_tryAll_1 rfl (lv_at hl 3 rfl) ?_
  refine x_putI (v := v3) C0 G0 hJ hW (cX_X0 rfl) (by decide) rfl 4 (by decide) inX0_tryAll_X0 lkX0_tryAll_33 tyX0 tyX0_ok nmX0 rfl rfl rfl (Nat.le_of_ble_eq_true rfl) (hu_X0_4 rfl) dX0_tryAll_2 (fun H locs hW => ?_)
  obtain ⟨s21, es21, h⟩ := lt_some h
  rw [es21] at hW
  refine lv_aload_n C0.1 C0.2.1 dX0_tryAll_5 rfl (lv_at hl 0 rfl) ?_
  refine x_get (v := .ref (aD G 76)) C0 G0 hW (cX_X0 rfl) (by decide) rfl 1 (by decide) inX0_tryAll_X0 lkX0_tryAll_23 rfl dX0_tryAll_6 ?_
  obtain ⟨u22, hu22, h⟩ := bd_some h
  refine x_kv (x_runV (As := []) (rest := []) C0 G0 hW (cX1_clear_met l hJ z s21 76 _ hu22) (cwV 0 C0.2.2.2.1 gX0_tryAll_X1_clear rfl rfl rfl hdvX1_clear ⟨Nat.le_of_ble_eq_true rfl, Nat.le_of_ble_eq_true rfl⟩) (cX_X1 rfl) (by decide) rfl rfl rfl hl (Nat.le_of_ble_eq_true rfl) dX0_tryAll_9 ⟨Nat.le_refl 0, Nat.le_refl 0⟩) hW (fun H locs hW => ?_)
  refine lv_aload_n C0.1 C0.2.1 dX0_tryAll_12 rfl (lv_at hl 0 rfl) ?_
  refine x_get (v := .ref (aD G 77)) C0 G0 hW (cX_X0 rfl) (by decide) rfl 2 (by decide) inX0_tryAll_X0 lkX0_tryAll_27 rfl dX0_tryAll_13 ?_
  obtain ⟨u23, hu23, h⟩ := bd_some h
  refine x_kv (x_runV (As := []) (rest := []) C0 G0 hW (cX1_clear_met l hJ z u22 77 _ hu23) (cwV 0 C0.2.2.2.1 gX0_tryAll_X1_clear rfl rfl rfl hdvX1_clear ⟨Nat.le_of_ble_eq_true rfl, Nat.le_of_ble_eq_true rfl⟩) (cX_X1 rfl) (by decide) rfl rfl rfl hl (Nat.le_of_ble_eq_true rfl) dX0_tryAll_16 ⟨Nat.le_refl 0, Nat.le_refl 0⟩) hW (fun H locs hW => ?_)
  refine lv_aload_n C0.1 C0.2.1 dX0_tryAll_19 rfl (lv_at hl 0 rfl) ?_
  refine x_get (v := .ref (aD G 58)) C0 G0 hW (cX_X0 rfl) (by decide) rfl 0 (by decide) inX0_tryAll_X0 lkX0_tryAll_14 rfl dX0_tryAll_20 ?_
  refine lv_iconst (v := (0 : Int32)) C0.1 C0.2.1 dX0_tryAll_23 (by decide) ?_
  refine lv_aload_n C0.1 C0.2.1 dX0_tryAll_24 rfl (lv_at hl 2 rfl) ?_
  obtain ⟨u24, hu24, h⟩ := bd_some h
  refine x_kv (x_runV (As := [.int (0 : Int32), .ref (aD G k2)]) (rest := []) C0 G0 hW (cX5_put_met l hJ z u23 58 (0 : Int32) k2 _ hu24) (cwV 2 C0.2.2.2.1 gX0_tryAll_X5_put rfl rfl rfl hdvX5_put ⟨Nat.le_of_ble_eq_true rfl, Nat.le_of_ble_eq_true rfl⟩) (cX_X5 rfl) (by decide) rfl rfl rfl hl (Nat.le_of_ble_eq_true rfl) dX0_tryAll_25 ⟨Nat.le_refl 0, Nat.le_refl 0⟩) hW (fun H locs hW => ?_)
  refine lv_iconst (v := (0 : Int32)) C0.1 C0.2.1 dX0_tryAll_28 (by decide) ?_
  refine lv_istore (lv' := [(4, .int (0 : Int32)), (0, .ref (aD G 57)), (1, .ref (aD G 3)), (2, .ref (aD G k2)), (3, .int v3)]) C0.1 C0.2.1 dX0_tryAll_29 hl (by decide) rfl (fun ls hl => ?_)
  exact wX0_tryAll_31 C0 G0 hJ z z u24 (0 : Int32) _ h hW (lv_sub hl [1, 2, 0] rfl)
theorem cX0_tryAll_met (l : Launch) {G : GT} (hJ : gJ 80 G) (z : Nat) (σ : ST) (k2 : Nat) (v3 : Int32) (res : ST) (h : fX0_tryAll z σ k2 v3 = some res) : Met l yX0_tryAll wsX0_tryAll rX0_tryAll (XPc cellX 80 G σ [.ref (aD G 57), .ref (aD G 3), .ref (aD G k2), .int v3]) (XQv cellX 80 G res) 0 0 (gA 80 G) :=
  x_met (ret := none) (maxL := 5) (by decide) rfl (Nat.le_of_ble_eq_true rfl) (fun p e s m args below meth c H locs ls C0 G0 hW hl => wX0_tryAll C0 G0 hJ z σ k2 v3 res h hW hl)
end
/-! X0_tryBoth -/
def rX0_tryBoth (d : Nat) : Room := { frames := 4 + d, cells := 0, slots := 0, locals := 86 + 33 * d }
theorem hdvX0_tryBoth : yX0_tryBoth.cls = RX0 ∧ yX0_tryBoth.cls ≠ "java/lang/invoke/MethodHandle" ∧ yX0_tryBoth.cls ≠ "java/lang/invoke/VarHandle" ∧ (parseMethodDescriptor yX0_tryBoth.desc).map (fun d => d.parameters.length) = some 4 := by decide +kernel
theorem inX0_tryBoth_X0 : ∀ w ∈ u_ws RX0 TX0 5, w ∈ wsX0_tryBoth := by decide +kernel
theorem lkX0_tryBoth_14 : Cond.fieldLink RX0 14 (TX0 0).1 (TX0 0).2.1 (TX0 0).2.2.1 ∈ wsX0_tryBoth := by decide +kernel
theorem lkX0_tryBoth_33 : Cond.fieldLink RX0 33 (TX0 4).1 (TX0 4).2.1 (TX0 4).2.2.1 ∈ wsX0_tryBoth := by decide +kernel
theorem inX0_tryBoth_X4 : ∀ w ∈ u_ws RX4 TX4 6, w ∈ wsX0_tryBoth := by decide +kernel
theorem nfX0_tryBoth_87 : (RX0, 87, (TX4 4).1, (TX4 4).2.1, (TX4 4).2.2.1) ∈ nwF := by decide +kernel
theorem inX0_tryBoth_X7 : ∀ w ∈ u_ws RX7 TX7 9, w ∈ wsX0_tryBoth := by decide +kernel
theorem nfX0_tryBoth_90 : (RX0, 90, (TX7 7).1, (TX7 7).2.1, (TX7 7).2.2.1) ∈ nwF := by decide +kernel
theorem siX0_tryBoth_X8_moved : Cond.initialized yX8_moved.cls ∈ wsX0_tryBoth := by decide +kernel
theorem ssX0_tryBoth_X8_moved : Cond.static yX8_moved ∈ wsX0_tryBoth := by decide +kernel
theorem nfX0_tryBoth_100 : (RX0, 100, (TX7 2).1, (TX7 2).2.1, (TX7 2).2.2.1) ∈ nwF := by decide +kernel
theorem kcX0_tryBoth_107 : Cond.constantLong RX0 107 (1000 : Int64) ∈ wsX0_tryBoth := by decide +kernel
theorem kcX0_tryBoth_56 : Cond.constantLong RX0 56 (100 : Int64) ∈ wsX0_tryBoth := by decide +kernel
theorem kcX0_tryBoth_64 : Cond.constantLong RX0 64 (10 : Int64) ∈ wsX0_tryBoth := by decide +kernel
theorem lkX0_tryBoth_30 : Cond.fieldLink RX0 30 (TX0 3).1 (TX0 3).2.1 (TX0 3).2.2.1 ∈ wsX0_tryBoth := by decide +kernel
def fX0_tryBoth_203 (z : Nat) (self : ST → Int32 → Int32 → Int64 → Option ST) (r63 : ST → Int32 → Option ST) (r72 : ST → Int32 → Option ST) (σ : ST) (v2 : Int32) (v3 : Int32) (v4 : Int64) (k6 : Nat) (k7 : Nat) (v8 : Int32) (v9 : Int32) (v10 : Int32) : Option ST := r72 σ (v10 + 1)
def fX0_tryBoth_124 (z : Nat) (self : ST → Int32 → Int32 → Int64 → Option ST) (r63 : ST → Int32 → Option ST) (r72 : ST → Int32 → Option ST) (σ : ST) (v2 : Int32) (v3 : Int32) (v4 : Int64) (k6 : Nat) (k7 : Nat) (v8 : Int32) (v9 : Int32) (v10 : Int32) (v11 : Int32) (t0 : Int32) : Option ST := bd (fX4_lessen z σ k7 t0 ((10 : Int32) - (σ.1 3 2))) (fun u34 => bd (fX4_together z u34 k6) (fun u35 => bd (fX4_together z u34 k7) (fun u36 => (if (v2 + (1 : Int32)) = (u34.1 57 4) then bd (fX1_offer z u34 78 ((v4 * (1000 : Int64)) + (((u35 * (100 : Int64)) - u36) * (10 : Int64))) (0 : Int32)) (fun u40 => fX0_tryBoth_203 z self r63 r72 u40 v2 v3 v4 k6 k7 v8 v9 v10) else bd (fX4_pass z u34 k7) (fun u38 => bd (self u38 (v2 + (1 : Int32)) v11 ((v4 * (1000 : Int64)) + (((u35 * (100 : Int64)) - u36) * (10 : Int64)))) (fun u39 => fX0_tryBoth_203 z self r63 r72 u39 v2 v3 v4 k6 k7 v8 v9 v10))))))
def fX0_tryBoth_84 (z : Nat) (self : ST → Int32 → Int32 → Int64 → Option ST) (r63 : ST → Int32 → Option ST) (r72 : ST → Int32 → Option ST) (σ : ST) (v2 : Int32) (v3 : Int32) (v4 : Int64) (k6 : Nat) (k7 : Nat) (v8 : Int32) (v9 : Int32) (v10 : Int32) (t0 : Int32) (t1 : Int32) : Option ST := (if t0 < t1 then r63 σ (v9 + 1) else bd (fX8_moved z v3 v10) (fun u30 => bd (fX4_copy z σ k7 k6) (fun u31 => bd (fX4_lookBy z u31 k7 v9) (fun u32 => (if v8 = 0 then fX0_tryBoth_124 z self r63 r72 u32 v2 v3 v4 k6 k7 v8 v9 v10 u30 (-9 : Int32) else fX0_tryBoth_124 z self r63 r72 u32 v2 v3 v4 k6 k7 v8 v9 v10 u30 u30)))))
def fX0_tryBoth_72 (z : Nat) (self : ST → Int32 → Int32 → Int64 → Option ST) (r63 : ST → Int32 → Option ST) (v2 : Int32) (v3 : Int32) (v4 : Int64) (k6 : Nat) (k7 : Nat) (v8 : Int32) (v9 : Int32) : Nat → ST → Int32 → Option ST
  | 0 => fun _ _ => none
  | n + 1 => fun σ v10 => (if v8 = 0 then fX0_tryBoth_84 z self r63 (fX0_tryBoth_72 z self r63 v2 v3 v4 k6 k7 v8 v9 n) σ v2 v3 v4 k6 k7 v8 v9 v10 (0 : Int32) v10 else fX0_tryBoth_84 z self r63 (fX0_tryBoth_72 z self r63 v2 v3 v4 k6 k7 v8 v9 n) σ v2 v3 v4 k6 k7 v8 v9 v10 (2 : Int32) v10)
def fX0_tryBoth_63 (z : Nat) (self : ST → Int32 → Int32 → Int64 → Option ST) (v2 : Int32) (v3 : Int32) (v4 : Int64) (k6 : Nat) (k7 : Nat) (v8 : Int32) : Nat → ST → Int32 → Option ST
  | 0 => fun _ _ => none
  | n + 1 => fun σ v9 => (if (3 : Int32) < v9 then some σ else fX0_tryBoth_72 z self (fX0_tryBoth_63 z self v2 v3 v4 k6 k7 v8 n) v2 v3 v4 k6 k7 v8 v9 z σ (0 : Int32))
def fX0_tryBoth_58 (z : Nat) (self : ST → Int32 → Int32 → Int64 → Option ST) (σ : ST) (v2 : Int32) (v3 : Int32) (v4 : Int64) (k6 : Nat) (k7 : Nat) (t0 : Int32) : Option ST := fX0_tryBoth_63 z self v2 v3 v4 k6 k7 t0 z σ (0 : Int32)
def fX0_tryBoth_40 (z : Nat) (self : ST → Int32 → Int32 → Int64 → Option ST) (σ : ST) : Option ST := some σ
def fX0_tryBoth (z : Nat) (self : ST → Int32 → Int32 → Int64 → Option ST) (σ : ST) (v2 : Int32) (v3 : Int32) (v4 : Int64) : Option ST := bd (fX5_at z σ 58 v2) (fun u21 => bd (fX5_at z σ 58 (v2 + (1 : Int32))) (fun u22 => nl (u21) (fX0_tryBoth_40 z self σ) (fun k23 => gd (kX k23 == 3) (nl (u22) (fX0_tryBoth_40 z self σ) (fun k24 => gd (kX k24 == 3) ((if v2 < (σ.1 57 4) then (if (σ.1 k23 4) < (σ.1 3 7) then fX0_tryBoth_58 z self σ v2 v3 v4 k23 k24 (0 : Int32) else fX0_tryBoth_58 z self σ v2 v3 v4 k23 k24 (1 : Int32)) else fX0_tryBoth_40 z self σ)))))))
def fX0_tryBoth_r (z : Nat) : Nat → ST → Int32 → Int32 → Int64 → Option ST
  | 0 => fun _ _ _ _ => none
  | d + 1 => fun σ v2 v3 v4 => fX0_tryBoth z (fX0_tryBoth_r z d) σ v2 v3 v4
section
variable {p : Program} {l : Launch} {e : Env} {s : State} {m : MethodId} {args : Array Value} {below : List Frame} {meth : Method} {c : Code} {G : GT}
set_option maxHeartbeats 4000000 in
set_option maxRecDepth 100000 in
theorem wX0_tryBoth_203 (C0 : Cx p s m args meth c cX0_tryBoth RX0 14 none wsX0_tryBoth) (G0 : Gx G s) (hJ : gJ 80 G) {d d0 : Nat} (hd0 : d = d0 + 1) (z : Nat) (self : ST → Int32 → Int32 → Int64 → Option ST) (r63 : ST → Int32 → Option ST) (r72 : ST → Int32 → Option ST) (σ : ST) (v2 : Int32) (v3 : Int32) (v4 : Int64) (k6 : Nat) (k7 : Nat) (v8 : Int32) (v9 : Int32) (v10 : Int32) (res : ST) (h : fX0_tryBoth_203 z self r63 r72 σ v2 v3 v4 k6 k7 v8 v9 v10 = some res) (hself : ∀ (σ : ST) (v2 : Int32) (v3 : Int32) (v4 : Int64) (res : ST), self σ v2 v3 v4 = some res → Met l yX0_tryBoth wsX0_tryBoth (rX0_tryBoth d0) (XPc cellX 80 G σ [.ref (aD G 57), .ref (aD G 3), .int v2, .int v3, .long v4]) (XQv cellX 80 G res) 0 0 (gA 80 G)) (hr63 : ∀ (σ : ST) (v9 : Int32), r63 σ v9 = some res → ∀ (H : Heap) (locs : List Loc) (ls : Array Slot), Wd cellX 80 G s.heap σ H locs → lv_has ls 14 [(0, .ref (aD G 57)), (1, .ref (aD G 3)), (2, .int v2), (3, .int v3), (4, .long v4), (6, .ref (aD G k6)), (7, .ref (aD G k7)), (8, .int v8), (9, .int v9)] → W p l e (rX0_tryBoth d) s m args below meth c H locs 0 0 (MQ below (XQv cellX 80 G res) args s 0 0 (gA 80 G)) (F0 m 63 ls [])) (hr72 : ∀ (σ : ST) (v10 : Int32), r72 σ v10 = some res → ∀ (H : Heap) (locs : List Loc) (ls : Array Slot), Wd cellX 80 G s.heap σ H locs → lv_has ls 14 [(0, .ref (aD G 57)), (1, .ref (aD G 3)), (2, .int v2), (3, .int v3), (4, .long v4), (6, .ref (aD G k6)), (7, .ref (aD G k7)), (8, .int v8), (9, .int v9), (10, .int v10)] → W p l e (rX0_tryBoth d) s m args below meth c H locs 0 0 (MQ below (XQv cellX 80 G res) args s 0 0 (gA 80 G)) (F0 m 72 ls [])) (hk_k6 : kX k6 = 3) (hk_k7 : kX k7 = 3) {H : Heap} {locs : List Loc} {ls : Array Slot} (hW : Wd cellX 80 G s.heap σ H locs) (hl : lv_has ls 14 [(0, .ref (aD G 57)), (1, .ref (aD G 3)), (2, .int v2), (3, .int v3), (4, .long v4), (6, .ref (aD G k6)), (7, .ref (aD G k7)), (8, .int v8), (9, .int v9), (10, .int v10)]) : W p l e (rX0_tryBoth d) s m args below meth c H locs 0 0 (MQ below (XQv cellX 80 G res) args s 0 0 (gA 80 G)) (F0 m 203 ls []) := by
  unfold fX0_tryBoth_203 at h
  refine lv_iinc (v := (v10 + 1)) (lv' := [(10, .int (v10 + 1)), (0, .ref (aD G 57)), (1, .ref (aD G 3)), (2, .int v2), (3, .int v3), (4, .long v4), (6, .ref (aD G k6)), (7, .ref (aD G k7)), (8, .int v8), (9, .int v9)]) C0.1 C0.2.1 dX0_tryBoth_203 hl (k := 9) rfl rfl (by decide) rfl (fun ls hl => ?_)
  refine lv_goto (tgt := 72) C0.1 C0.2.1 dX0_tryBoth_206 (by decide) ?_
  exact hr72 σ (v10 + 1) h _ _ _ hW (lv_sub hl [1, 2, 3, 4, 5, 6, 7, 8, 9, 0] rfl)
set_option maxHeartbeats 4000000 in
set_option maxRecDepth 100000 in
theorem wX0_tryBoth_124 (C0 : Cx p s m args meth c cX0_tryBoth RX0 14 none wsX0_tryBoth) (G0 : Gx G s) (hJ : gJ 80 G) {d d0 : Nat} (hd0 : d = d0 + 1) (z : Nat) (self : ST → Int32 → Int32 → Int64 → Option ST) (r63 : ST → Int32 → Option ST) (r72 : ST → Int32 → Option ST) (σ : ST) (v2 : Int32) (v3 : Int32) (v4 : Int64) (k6 : Nat) (k7 : Nat) (v8 : Int32) (v9 : Int32) (v10 : Int32) (v11 : Int32) (t0 : Int32) (res : ST) (h : fX0_tryBoth_124 z self r63 r72 σ v2 v3 v4 k6 k7 v8 v9 v10 v11 t0 = some res) (hself : ∀ (σ : ST) (v2 : Int32) (v3 : Int32) (v4 : Int64) (res : ST), self σ v2 v3 v4 = some res → Met l yX0_tryBoth wsX0_tryBoth (rX0_tryBoth d0) (XPc cellX 80 G σ [.ref (aD G 57), .ref (aD G 3), .int v2, .int v3, .long v4]) (XQv cellX 80 G res) 0 0 (gA 80 G)) (hr63 : ∀ (σ : ST) (v9 : Int32), r63 σ v9 = some res → ∀ (H : Heap) (locs : List Loc) (ls : Array Slot), Wd cellX 80 G s.heap σ H locs → lv_has ls 14 [(0, .ref (aD G 57)), (1, .ref (aD G 3)), (2, .int v2), (3, .int v3), (4, .long v4), (6, .ref (aD G k6)), (7, .ref (aD G k7)), (8, .int v8), (9, .int v9)] → W p l e (rX0_tryBoth d) s m args below meth c H locs 0 0 (MQ below (XQv cellX 80 G res) args s 0 0 (gA 80 G)) (F0 m 63 ls [])) (hr72 : ∀ (σ : ST) (v10 : Int32), r72 σ v10 = some res → ∀ (H : Heap) (locs : List Loc) (ls : Array Slot), Wd cellX 80 G s.heap σ H locs → lv_has ls 14 [(0, .ref (aD G 57)), (1, .ref (aD G 3)), (2, .int v2), (3, .int v3), (4, .long v4), (6, .ref (aD G k6)), (7, .ref (aD G k7)), (8, .int v8), (9, .int v9), (10, .int v10)] → W p l e (rX0_tryBoth d) s m args below meth c H locs 0 0 (MQ below (XQv cellX 80 G res) args s 0 0 (gA 80 G)) (F0 m 72 ls [])) (hk_k6 : kX k6 = 3) (hk_k7 : kX k7 = 3) {H : Heap} {locs : List Loc} {ls : Array Slot} (hW : Wd cellX 80 G s.heap σ H locs) (hl : lv_has ls 14 [(0, .ref (aD G 57)), (1, .ref (aD G 3)), (2, .int v2), (3, .int v3), (4, .long v4), (6, .ref (aD G k6)), (7, .ref (aD G k7)), (8, .int v8), (9, .int v9), (10, .int v10), (11, .int v11)]) : W p l e (rX0_tryBoth d) s m args below meth c H locs 0 0 (MQ below (XQv cellX 80 G res) args s 0 0 (gA 80 G)) (F0 m 124 ls [.int t0, .ref (aD G k7)]) := by
  unfold fX0_tryBoth_124 at h
  refine lv_bipush (v := (10 : Int32)) C0.1 C0.2.1 dX0_tryBoth_124 (by decide) ?_
  refine lv_aload_n C0.1 C0.2.1 dX0_tryBoth_126 rfl (lv_at hl 1 rfl) ?_
  refine x_getN (v := .int (σ.1 3 2)) C0 G0 hW (cX_X7 rfl) (by decide) rfl 2 (by decide) inX0_tryBoth_X7 nfX0_tryBoth_100 rfl dX0_tryBoth_127 ?_
  refine lv_isub C0.1 C0.2.1 dX0_tryBoth_130 ?_
  obtain ⟨u34, hu34, h⟩ := bd_some h
  refine x_kv (x_runV (As := [.int t0, .int ((10 : Int32) - (σ.1 3 2))]) (rest := []) C0 G0 hW (cX4_lessen_met l hJ z σ k7 t0 ((10 : Int32) - (σ.1 3 2)) _ hu34) (cwV 2 C0.2.2.2.1 gX0_tryBoth_X4_lessen rfl rfl rfl hdvX4_lessen ⟨by subst hd0; simp [rX0_tryBoth, rX4_lessen]; try omega, by subst hd0; simp [rX0_tryBoth, rX4_lessen]; try omega⟩) (cX_X4 hk_k7) (kX_lt hk_k7 (by decide)) rfl rfl rfl hl (Nat.le_of_ble_eq_true rfl) dX0_tryBoth_131 ⟨Nat.le_refl 0, Nat.le_refl 0⟩) hW (fun H locs hW => ?_)
  refine lv_lload C0.1 C0.2.1 dX0_tryBoth_134 (lv_at hl 4 rfl) ?_
  refine lv_ldc2 (v := (1000 : Int64)) C0.1 C0.2.1 C0.2.2.2.2.1 (C0.2.2.2.1 _ kcX0_tryBoth_107) dX0_tryBoth_136 ?_
  refine lv_lmul C0.1 C0.2.1 dX0_tryBoth_139 ?_
  refine lv_aload C0.1 C0.2.1 dX0_tryBoth_140 (lv_at hl 5 rfl) ?_
  obtain ⟨u35, hu35, h⟩ := bd_some h
  refine x_kl (r := u35) (x_runV (As := []) (rest := [.long (v4 * (1000 : Int64))]) C0 G0 hW (cX4_together_met l hJ z u34 k6 _ hu35) (cwV 0 C0.2.2.2.1 gX0_tryBoth_X4_together rfl rfl rfl hdvX4_together ⟨by subst hd0; simp [rX0_tryBoth, rX4_together]; try omega, by subst hd0; simp [rX0_tryBoth, rX4_together]; try omega⟩) (cX_X4 hk_k6) (kX_lt hk_k6 (by decide)) rfl rfl rfl hl (Nat.le_of_ble_eq_true rfl) dX0_tryBoth_142 ⟨Nat.le_refl 0, Nat.le_refl 0⟩) hW (fun H locs hW => ?_)
  refine lv_ldc2 (v := (100 : Int64)) C0.1 C0.2.1 C0.2.2.2.2.1 (C0.2.2.2.1 _ kcX0_tryBoth_56) dX0_tryBoth_145 ?_
  refine lv_lmul C0.1 C0.2.1 dX0_tryBoth_148 ?_
  refine lv_aload C0.1 C0.2.1 dX0_tryBoth_149 (lv_at hl 6 rfl) ?_
  obtain ⟨u36, hu36, h⟩ := bd_some h
  refine x_kl (r := u36) (x_runV (As := []) (rest := [.long (u35 * (100 : Int64)), .long (v4 * (1000 : Int64))]) C0 G0 hW (cX4_together_met l hJ z u34 k7 _ hu36) (cwV 0 C0.2.2.2.1 gX0_tryBoth_X4_together rfl rfl rfl hdvX4_together ⟨by subst hd0; simp [rX0_tryBoth, rX4_together]; try omega, by subst hd0; simp [rX0_tryBoth, rX4_together]; try omega⟩) (cX_X4 hk_k7) (kX_lt hk_k7 (by decide)) rfl rfl rfl hl (Nat.le_of_ble_eq_true rfl) dX0_tryBoth_151 ⟨Nat.le_refl 0, Nat.le_refl 0⟩) hW (fun H locs hW => ?_)
  refine lv_lsub C0.1 C0.2.1 dX0_tryBoth_154 ?_
  refine lv_ldc2 (v := (10 : Int64)) C0.1 C0.2.1 C0.2.2.2.2.1 (C0.2.2.2.1 _ kcX0_tryBoth_64) dX0_tryBoth_155 ?_
  refine lv_lmul C0.1 C0.2.1 dX0_tryBoth_158 ?_
  refine lv_ladd C0.1 C0.2.1 dX0_tryBoth_159 ?_
  refine lv_lstore (lv' := [(12, .long ((v4 * (1000 : Int64)) + (((u35 * (100 : Int64)) - u36) * (10 : Int64)))), (0, .ref (aD G 57)), (1, .ref (aD G 3)), (2, .int v2), (3, .int v3), (4, .long v4), (6, .ref (aD G k6)), (7, .ref (aD G k7)), (8, .int v8), (9, .int v9), (10, .int v10), (11, .int v11)]) C0.1 C0.2.1 dX0_tryBoth_160 hl (by decide) rfl (fun ls hl => ?_)
  refine lv_iload_n C0.1 C0.2.1 dX0_tryBoth_162 rfl (lv_at hl 3 rfl) ?_
  refine lv_iconst (v := (1 : Int32)) C0.1 C0.2.1 dX0_tryBoth_163 (by decide) ?_
  refine lv_iadd C0.1 C0.2.1 dX0_tryBoth_164 ?_
  refine lv_aload_n C0.1 C0.2.1 dX0_tryBoth_165 rfl (lv_at hl 1 rfl) ?_
  refine x_get (v := .int (u34.1 57 4)) C0 G0 hW (cX_X0 rfl) (by decide) rfl 4 (by decide) inX0_tryBoth_X0 lkX0_tryBoth_33 rfl dX0_tryBoth_166 ?_
  refine lv_icmp_ne (tgt := 185) C0.1 C0.2.1 dX0_tryBoth_169 (by decide) (fun c37 => ?_) (fun c37 => ?_)
  · rw [if_neg c37] at h
    refine lv_aload C0.1 C0.2.1 dX0_tryBoth_185 (lv_at hl 7 rfl) ?_
    refine lv_aload_n C0.1 C0.2.1 dX0_tryBoth_187 rfl (lv_at hl 2 rfl) ?_
    obtain ⟨u38, hu38, h⟩ := bd_some h
    refine x_kv (x_runV (As := [.ref (aD G 3)]) (rest := []) C0 G0 hW (cX4_pass_met l hJ z u34 k7 _ hu38) (cwV 1 C0.2.2.2.1 gX0_tryBoth_X4_pass rfl rfl rfl hdvX4_pass ⟨by subst hd0; simp [rX0_tryBoth, rX4_pass]; try omega, by subst hd0; simp [rX0_tryBoth, rX4_pass]; try omega⟩) (cX_X4 hk_k7) (kX_lt hk_k7 (by decide)) rfl rfl rfl hl (Nat.le_of_ble_eq_true rfl) dX0_tryBoth_188 ⟨Nat.le_refl 0, Nat.le_refl 0⟩) hW (fun H locs hW => ?_)
    refine lv_aload_n C0.1 C0.2.1 dX0_tryBoth_191 rfl (lv_at hl 1 rfl) ?_
    refine lv_aload_n C0.1 C0.2.1 dX0_tryBoth_192 rfl (lv_at hl 2 rfl) ?_
    refine lv_iload_n C0.1 C0.2.1 dX0_tryBoth_193 rfl (lv_at hl 3 rfl) ?_
    refine lv_iconst (v := (1 : Int32)) C0.1 C0.2.1 dX0_tryBoth_194 (by decide) ?_
    refine lv_iadd C0.1 C0.2.1 dX0_tryBoth_195 ?_
    refine lv_iload C0.1 C0.2.1 dX0_tryBoth_196 (lv_at hl 11 rfl) ?_
    refine lv_lload C0.1 C0.2.1 dX0_tryBoth_198 (lv_at hl 0 rfl) ?_
    obtain ⟨u39, hu39, h⟩ := bd_some h
    refine x_kv (x_runV (As := [.ref (aD G 3), .int (v2 + (1 : Int32)), .int v11, .long ((v4 * (1000 : Int64)) + (((u35 * (100 : Int64)) - u36) * (10 : Int64)))]) (rest := []) C0 G0 hW (hself u38 (v2 + (1 : Int32)) v11 ((v4 * (1000 : Int64)) + (((u35 * (100 : Int64)) - u36) * (10 : Int64))) _ hu39) (cwV 4 C0.2.2.2.1 gX0_tryBoth_X0_tryBoth rfl rfl rfl hdvX0_tryBoth ⟨by subst hd0; simp [rX0_tryBoth]; try omega, by subst hd0; simp [rX0_tryBoth]; try omega⟩) (cX_X0 rfl) (by decide) rfl rfl rfl hl (Nat.le_of_ble_eq_true rfl) dX0_tryBoth_200 ⟨Nat.le_refl 0, Nat.le_refl 0⟩) hW (fun H locs hW => ?_)
    exact wX0_tryBoth_203 C0 G0 hJ hd0 z self r63 r72 u39 v2 v3 v4 k6 k7 v8 v9 v10 _ h hself (by exact hr63) (by exact hr72) hk_k6 hk_k7 hW (lv_sub hl [1, 2, 3, 4, 5, 6, 7, 8, 9, 10] rfl)
  · rw [if_pos c37] at h
    refine lv_aload_n C0.1 C0.2.1 dX0_tryBoth_172 rfl (lv_at hl 1 rfl) ?_
    refine x_get (v := .ref (aD G 78)) C0 G0 hW (cX_X0 rfl) (by decide) rfl 3 (by decide) inX0_tryBoth_X0 lkX0_tryBoth_30 rfl dX0_tryBoth_173 ?_
    refine lv_lload C0.1 C0.2.1 dX0_tryBoth_176 (lv_at hl 0 rfl) ?_
    refine lv_iconst (v := (0 : Int32)) C0.1 C0.2.1 dX0_tryBoth_178 (by decide) ?_
    obtain ⟨u40, hu40, h⟩ := bd_some h
    refine x_kv (x_runV (As := [.long ((v4 * (1000 : Int64)) + (((u35 * (100 : Int64)) - u36) * (10 : Int64))), .int (0 : Int32)]) (rest := []) C0 G0 hW (cX1_offer_met l hJ z u34 78 ((v4 * (1000 : Int64)) + (((u35 * (100 : Int64)) - u36) * (10 : Int64))) (0 : Int32) _ hu40) (cwV 2 C0.2.2.2.1 gX0_tryBoth_X1_offer rfl rfl rfl hdvX1_offer ⟨by subst hd0; simp [rX0_tryBoth, rX1_offer]; try omega, by subst hd0; simp [rX0_tryBoth, rX1_offer]; try omega⟩) (cX_X1 rfl) (by decide) rfl rfl rfl hl (Nat.le_of_ble_eq_true rfl) dX0_tryBoth_179 ⟨Nat.le_refl 0, Nat.le_refl 0⟩) hW (fun H locs hW => ?_)
    refine lv_goto (tgt := 203) C0.1 C0.2.1 dX0_tryBoth_182 (by decide) ?_
    exact wX0_tryBoth_203 C0 G0 hJ hd0 z self r63 r72 u40 v2 v3 v4 k6 k7 v8 v9 v10 _ h hself (by exact hr63) (by exact hr72) hk_k6 hk_k7 hW (lv_sub hl [1, 2, 3, 4, 5, 6, 7, 8, 9, 10] rfl)
set_option maxHeartbeats 4000000 in
set_option maxRecDepth 100000 in
theorem wX0_tryBoth_84 (C0 : Cx p s m args meth c cX0_tryBoth RX0 14 none wsX0_tryBoth) (G0 : Gx G s) (hJ : gJ 80 G) {d d0 : Nat} (hd0 : d = d0 + 1) (z : Nat) (self : ST → Int32 → Int32 → Int64 → Option ST) (r63 : ST → Int32 → Option ST) (r72 : ST → Int32 → Option ST) (σ : ST) (v2 : Int32) (v3 : Int32) (v4 : Int64) (k6 : Nat) (k7 : Nat) (v8 : Int32) (v9 : Int32) (v10 : Int32) (t0 : Int32) (t1 : Int32) (res : ST) (h : fX0_tryBoth_84 z self r63 r72 σ v2 v3 v4 k6 k7 v8 v9 v10 t0 t1 = some res) (hself : ∀ (σ : ST) (v2 : Int32) (v3 : Int32) (v4 : Int64) (res : ST), self σ v2 v3 v4 = some res → Met l yX0_tryBoth wsX0_tryBoth (rX0_tryBoth d0) (XPc cellX 80 G σ [.ref (aD G 57), .ref (aD G 3), .int v2, .int v3, .long v4]) (XQv cellX 80 G res) 0 0 (gA 80 G)) (hr63 : ∀ (σ : ST) (v9 : Int32), r63 σ v9 = some res → ∀ (H : Heap) (locs : List Loc) (ls : Array Slot), Wd cellX 80 G s.heap σ H locs → lv_has ls 14 [(0, .ref (aD G 57)), (1, .ref (aD G 3)), (2, .int v2), (3, .int v3), (4, .long v4), (6, .ref (aD G k6)), (7, .ref (aD G k7)), (8, .int v8), (9, .int v9)] → W p l e (rX0_tryBoth d) s m args below meth c H locs 0 0 (MQ below (XQv cellX 80 G res) args s 0 0 (gA 80 G)) (F0 m 63 ls [])) (hr72 : ∀ (σ : ST) (v10 : Int32), r72 σ v10 = some res → ∀ (H : Heap) (locs : List Loc) (ls : Array Slot), Wd cellX 80 G s.heap σ H locs → lv_has ls 14 [(0, .ref (aD G 57)), (1, .ref (aD G 3)), (2, .int v2), (3, .int v3), (4, .long v4), (6, .ref (aD G k6)), (7, .ref (aD G k7)), (8, .int v8), (9, .int v9), (10, .int v10)] → W p l e (rX0_tryBoth d) s m args below meth c H locs 0 0 (MQ below (XQv cellX 80 G res) args s 0 0 (gA 80 G)) (F0 m 72 ls [])) (hk_k6 : kX k6 = 3) (hk_k7 : kX k7 = 3) {H : Heap} {locs : List Loc} {ls : Array Slot} (hW : Wd cellX 80 G s.heap σ H locs) (hl : lv_has ls 14 [(0, .ref (aD G 57)), (1, .ref (aD G 3)), (2, .int v2), (3, .int v3), (4, .long v4), (6, .ref (aD G k6)), (7, .ref (aD G k7)), (8, .int v8), (9, .int v9), (10, .int v10)]) : W p l e (rX0_tryBoth d) s m args below meth c H locs 0 0 (MQ below (XQv cellX 80 G res) args s 0 0 (gA 80 G)) (F0 m 84 ls [.int t0, .int t1]) := by
  unfold fX0_tryBoth_84 at h
  refine lv_icmp_gt (tgt := 209) C0.1 C0.2.1 dX0_tryBoth_84 (by decide) (fun c29 => ?_) (fun c29 => ?_)
  · rw [if_pos c29] at h
    refine lv_iinc (v := (v9 + 1)) (lv' := [(9, .int (v9 + 1)), (0, .ref (aD G 57)), (1, .ref (aD G 3)), (2, .int v2), (3, .int v3), (4, .long v4), (6, .ref (aD G k6)), (7, .ref (aD G k7)), (8, .int v8), (10, .int v10)]) C0.1 C0.2.1 dX0_tryBoth_209 hl (k := 8) rfl rfl (by decide) rfl (fun ls hl => ?_)
    refine lv_goto (tgt := 63) C0.1 C0.2.1 dX0_tryBoth_212 (by decide) ?_
    exact hr63 σ (v9 + 1) h _ _ _ hW (lv_sub hl [1, 2, 3, 4, 5, 6, 7, 8, 0] rfl)
  · rw [if_neg c29] at h
    refine lv_iload_n C0.1 C0.2.1 dX0_tryBoth_87 rfl (lv_at hl 3 rfl) ?_
    refine lv_iload C0.1 C0.2.1 dX0_tryBoth_88 (lv_at hl 9 rfl) ?_
    obtain ⟨u30, hu30, h⟩ := bd_some h
    refine x_ki (r := u30) (x_runSN (As := [.int v3, .int v10]) (rest := []) C0 G0 hW (cX8_moved_met l hJ z σ v3 v10 _ hu30) gX0_tryBoth_X8_moved_n93 rfl rfl rfl (by decide +kernel) siX0_tryBoth_X8_moved ssX0_tryBoth_X8_moved hdsX8_moved ⟨by subst hd0; simp [rX0_tryBoth, rX8_moved]; try omega, by subst hd0; simp [rX0_tryBoth, rX8_moved]; try omega⟩ rfl rfl hl (Nat.le_of_ble_eq_true rfl) dX0_tryBoth_90 ⟨Nat.le_refl 0, Nat.le_refl 0⟩) hW (fun H locs hW => ?_)
    refine lv_istore (lv' := [(11, .int u30), (0, .ref (aD G 57)), (1, .ref (aD G 3)), (2, .int v2), (3, .int v3), (4, .long v4), (6, .ref (aD G k6)), (7, .ref (aD G k7)), (8, .int v8), (9, .int v9), (10, .int v10)]) C0.1 C0.2.1 dX0_tryBoth_93 hl (by decide) rfl (fun ls hl => ?_)
    refine lv_aload C0.1 C0.2.1 dX0_tryBoth_95 (lv_at hl 7 rfl) ?_
    refine lv_aload C0.1 C0.2.1 dX0_tryBoth_97 (lv_at hl 6 rfl) ?_
    obtain ⟨u31, hu31, h⟩ := bd_some h
    refine x_kv (x_runV (As := [.ref (aD G k6)]) (rest := []) C0 G0 hW (cX4_copy_met l hJ z σ k7 k6 _ hu31) (cwV 1 C0.2.2.2.1 gX0_tryBoth_X4_copy rfl rfl rfl hdvX4_copy ⟨by subst hd0; simp [rX0_tryBoth, rX4_copy]; try omega, by subst hd0; simp [rX0_tryBoth, rX4_copy]; try omega⟩) (cX_X4 hk_k7) (kX_lt hk_k7 (by decide)) rfl rfl rfl hl (Nat.le_of_ble_eq_true rfl) dX0_tryBoth_99 ⟨Nat.le_refl 0, Nat.le_refl 0⟩) hW (fun H locs hW => ?_)
    refine lv_aload C0.1 C0.2.1 dX0_tryBoth_102 (lv_at hl 7 rfl) ?_
    refine lv_aload_n C0.1 C0.2.1 dX0_tryBoth_104 rfl (lv_at hl 2 rfl) ?_
    refine lv_iload C0.1 C0.2.1 dX0_tryBoth_105 (lv_at hl 9 rfl) ?_
    obtain ⟨u32, hu32, h⟩ := bd_some h
    refine x_kv (x_runV (As := [.ref (aD G 3), .int v9]) (rest := []) C0 G0 hW (cX4_lookBy_met l hJ z u31 k7 v9 _ hu32) (cwV 2 C0.2.2.2.1 gX0_tryBoth_X4_lookBy rfl rfl rfl hdvX4_lookBy ⟨by subst hd0; simp [rX0_tryBoth, rX4_lookBy]; try omega, by subst hd0; simp [rX0_tryBoth, rX4_lookBy]; try omega⟩) (cX_X4 hk_k7) (kX_lt hk_k7 (by decide)) rfl rfl rfl hl (Nat.le_of_ble_eq_true rfl) dX0_tryBoth_107 ⟨Nat.le_refl 0, Nat.le_refl 0⟩) hW (fun H locs hW => ?_)
    refine lv_aload C0.1 C0.2.1 dX0_tryBoth_110 (lv_at hl 7 rfl) ?_
    refine lv_iload C0.1 C0.2.1 dX0_tryBoth_112 (lv_at hl 8 rfl) ?_
    refine lv_if_eq (tgt := 122) C0.1 C0.2.1 dX0_tryBoth_114 (by decide) (fun c33 => ?_) (fun c33 => ?_)
    · rw [if_pos c33] at h
      refine lv_bipush (v := (-9 : Int32)) C0.1 C0.2.1 dX0_tryBoth_122 (by decide) ?_
      exact wX0_tryBoth_124 C0 G0 hJ hd0 z self r63 r72 u32 v2 v3 v4 k6 k7 v8 v9 v10 u30 (-9 : Int32) _ h hself (by exact hr63) (by exact hr72) hk_k6 hk_k7 hW (lv_sub hl [1, 2, 3, 4, 5, 6, 7, 8, 9, 10, 0] rfl)
    · rw [if_neg c33] at h
      refine lv_iload C0.1 C0.2.1 dX0_tryBoth_117 (lv_at hl 0 rfl) ?_
      refine lv_goto (tgt := 124) C0.1 C0.2.1 dX0_tryBoth_119 (by decide) ?_
      exact wX0_tryBoth_124 C0 G0 hJ hd0 z self r63 r72 u32 v2 v3 v4 k6 k7 v8 v9 v10 u30 u30 _ h hself (by exact hr63) (by exact hr72) hk_k6 hk_k7 hW (lv_sub hl [1, 2, 3, 4, 5, 6, 7, 8, 9, 10, 0] rfl)
set_option maxHeartbeats 4000000 in
set_option maxRecDepth 100000 in
theorem wX0_tryBoth_72 (C0 : Cx p s m args meth c cX0_tryBoth RX0 14 none wsX0_tryBoth) (G0 : Gx G s) (hJ : gJ 80 G) {d d0 : Nat} (hd0 : d = d0 + 1) (z : Nat) (self : ST → Int32 → Int32 → Int64 → Option ST) (r63 : ST → Int32 → Option ST) (v2 : Int32) (v3 : Int32) (v4 : Int64) (k6 : Nat) (k7 : Nat) (v8 : Int32) (v9 : Int32) (n : Nat) (σ : ST) (v10 : Int32) (res : ST) (h : fX0_tryBoth_72 z self r63 v2 v3 v4 k6 k7 v8 v9 n σ v10 = some res) (hself : ∀ (σ : ST) (v2 : Int32) (v3 : Int32) (v4 : Int64) (res : ST), self σ v2 v3 v4 = some res → Met l yX0_tryBoth wsX0_tryBoth (rX0_tryBoth d0) (XPc cellX 80 G σ [.ref (aD G 57), .ref (aD G 3), .int v2, .int v3, .long v4]) (XQv cellX 80 G res) 0 0 (gA 80 G)) (hr63 : ∀ (σ : ST) (v9 : Int32), r63 σ v9 = some res → ∀ (H : Heap) (locs : List Loc) (ls : Array Slot), Wd cellX 80 G s.heap σ H locs → lv_has ls 14 [(0, .ref (aD G 57)), (1, .ref (aD G 3)), (2, .int v2), (3, .int v3), (4, .long v4), (6, .ref (aD G k6)), (7, .ref (aD G k7)), (8, .int v8), (9, .int v9)] → W p l e (rX0_tryBoth d) s m args below meth c H locs 0 0 (MQ below (XQv cellX 80 G res) args s 0 0 (gA 80 G)) (F0 m 63 ls [])) (hk_k6 : kX k6 = 3) (hk_k7 : kX k7 = 3) {H : Heap} {locs : List Loc} {ls : Array Slot} (hW : Wd cellX 80 G s.heap σ H locs) (hl : lv_has ls 14 [(0, .ref (aD G 57)), (1, .ref (aD G 3)), (2, .int v2), (3, .int v3), (4, .long v4), (6, .ref (aD G k6)), (7, .ref (aD G k7)), (8, .int v8), (9, .int v9), (10, .int v10)]) : W p l e (rX0_tryBoth d) s m args below meth c H locs 0 0 (MQ below (XQv cellX 80 G res) args s 0 0 (gA 80 G)) (F0 m 72 ls []) := by
  induction n generalizing σ v10 H locs ls with
  | zero => cases h
  | succ n ih =>
    have hr72 : ∀ (σ : ST) (v10 : Int32), fX0_tryBoth_72 z self r63 v2 v3 v4 k6 k7 v8 v9 n σ v10 = some res → ∀ (H : Heap) (locs : List Loc) (ls : Array Slot), Wd cellX 80 G s.heap σ H locs → lv_has ls 14 [(0, .ref (aD G 57)), (1, .ref (aD G 3)), (2, .int v2), (3, .int v3), (4, .long v4), (6, .ref (aD G k6)), (7, .ref (aD G k7)), (8, .int v8), (9, .int v9), (10, .int v10)] → W p l e (rX0_tryBoth d) s m args below meth c H locs 0 0 (MQ below (XQv cellX 80 G res) args s 0 0 (gA 80 G)) (F0 m 72 ls []) := fun σ v10 h H locs ls hW hl => ih σ v10 h hW hl
    clear ih
    unfold fX0_tryBoth_72 at h
    refine lv_iload C0.1 C0.2.1 dX0_tryBoth_72 (lv_at hl 9 rfl) ?_
    refine lv_iload C0.1 C0.2.1 dX0_tryBoth_74 (lv_at hl 7 rfl) ?_
    refine lv_if_eq (tgt := 83) C0.1 C0.2.1 dX0_tryBoth_76 (by decide) (fun c28 => ?_) (fun c28 => ?_)
    · rw [if_pos c28] at h
      refine lv_iconst (v := (0 : Int32)) C0.1 C0.2.1 dX0_tryBoth_83 (by decide) ?_
      exact wX0_tryBoth_84 C0 G0 hJ hd0 z self r63 (fX0_tryBoth_72 z self r63 v2 v3 v4 k6 k7 v8 v9 n) σ v2 v3 v4 k6 k7 v8 v9 v10 (0 : Int32) v10 _ h hself (by exact hr63) (by exact hr72) hk_k6 hk_k7 hW (lv_sub hl [0, 1, 2, 3, 4, 5, 6, 7, 8, 9] rfl)
    · rw [if_neg c28] at h
      refine lv_iconst (v := (2 : Int32)) C0.1 C0.2.1 dX0_tryBoth_79 (by decide) ?_
      refine lv_goto (tgt := 84) C0.1 C0.2.1 dX0_tryBoth_80 (by decide) ?_
      exact wX0_tryBoth_84 C0 G0 hJ hd0 z self r63 (fX0_tryBoth_72 z self r63 v2 v3 v4 k6 k7 v8 v9 n) σ v2 v3 v4 k6 k7 v8 v9 v10 (2 : Int32) v10 _ h hself (by exact hr63) (by exact hr72) hk_k6 hk_k7 hW (lv_sub hl [0, 1, 2, 3, 4, 5, 6, 7, 8, 9] rfl)
set_option maxHeartbeats 4000000 in
set_option maxRecDepth 100000 in
theorem wX0_tryBoth_63 (C0 : Cx p s m args meth c cX0_tryBoth RX0 14 none wsX0_tryBoth) (G0 : Gx G s) (hJ : gJ 80 G) {d d0 : Nat} (hd0 : d = d0 + 1) (z : Nat) (self : ST → Int32 → Int32 → Int64 → Option ST) (v2 : Int32) (v3 : Int32) (v4 : Int64) (k6 : Nat) (k7 : Nat) (v8 : Int32) (n : Nat) (σ : ST) (v9 : Int32) (res : ST) (h : fX0_tryBoth_63 z self v2 v3 v4 k6 k7 v8 n σ v9 = some res) (hself : ∀ (σ : ST) (v2 : Int32) (v3 : Int32) (v4 : Int64) (res : ST), self σ v2 v3 v4 = some res → Met l yX0_tryBoth wsX0_tryBoth (rX0_tryBoth d0) (XPc cellX 80 G σ [.ref (aD G 57), .ref (aD G 3), .int v2, .int v3, .long v4]) (XQv cellX 80 G res) 0 0 (gA 80 G)) (hk_k6 : kX k6 = 3) (hk_k7 : kX k7 = 3) {H : Heap} {locs : List Loc} {ls : Array Slot} (hW : Wd cellX 80 G s.heap σ H locs) (hl : lv_has ls 14 [(0, .ref (aD G 57)), (1, .ref (aD G 3)), (2, .int v2), (3, .int v3), (4, .long v4), (6, .ref (aD G k6)), (7, .ref (aD G k7)), (8, .int v8), (9, .int v9)]) : W p l e (rX0_tryBoth d) s m args below meth c H locs 0 0 (MQ below (XQv cellX 80 G res) args s 0 0 (gA 80 G)) (F0 m 63 ls []) := by
  induction n generalizing σ v9 H locs ls with
  | zero => cases h
  | succ n ih =>
    have hr63 : ∀ (σ : ST) (v9 : Int32), fX0_tryBoth_63 z self v2 v3 v4 k6 k7 v8 n σ v9 = some res → ∀ (H : Heap) (locs : List Loc) (ls : Array Slot), Wd cellX 80 G s.heap σ H locs → lv_has ls 14 [(0, .ref (aD G 57)), (1, .ref (aD G 3)), (2, .int v2), (3, .int v3), (4, .long v4), (6, .ref (aD G k6)), (7, .ref (aD G k7)), (8, .int v8), (9, .int v9)] → W p l e (rX0_tryBoth d) s m args below meth c H locs 0 0 (MQ below (XQv cellX 80 G res) args s 0 0 (gA 80 G)) (F0 m 63 ls []) := fun σ v9 h H locs ls hW hl => ih σ v9 h hW hl
    clear ih
    unfold fX0_tryBoth_63 at h
    refine lv_iload C0.1 C0.2.1 dX0_tryBoth_63 (lv_at hl 8 rfl) ?_
    refine lv_iconst (v := (3 : Int32)) C0.1 C0.2.1 dX0_tryBoth_65 (by decide) ?_
    refine lv_icmp_gt (tgt := 215) C0.1 C0.2.1 dX0_tryBoth_66 (by decide) (fun c27 => ?_) (fun c27 => ?_)
    · rw [if_pos c27] at h
      cases h
      exact x_vret C0 hW dX0_tryBoth_215
    · rw [if_neg c27] at h
      refine lv_iconst (v := (0 : Int32)) C0.1 C0.2.1 dX0_tryBoth_69 (by decide) ?_
      refine lv_istore (lv' := [(10, .int (0 : Int32)), (0, .ref (aD G 57)), (1, .ref (aD G 3)), (2, .int v2), (3, .int v3), (4, .long v4), (6, .ref (aD G k6)), (7, .ref (aD G k7)), (8, .int v8), (9, .int v9)]) C0.1 C0.2.1 dX0_tryBoth_70 hl (by decide) rfl (fun ls hl => ?_)
      exact wX0_tryBoth_72 C0 G0 hJ hd0 z self (fX0_tryBoth_63 z self v2 v3 v4 k6 k7 v8 n) v2 v3 v4 k6 k7 v8 v9 z σ (0 : Int32) _ h hself (by exact hr63) hk_k6 hk_k7 hW (lv_sub hl [1, 2, 3, 4, 5, 6, 7, 8, 9, 0] rfl)
set_option maxHeartbeats 4000000 in
set_option maxRecDepth 100000 in
theorem wX0_tryBoth_58 (C0 : Cx p s m args meth c cX0_tryBoth RX0 14 none wsX0_tryBoth) (G0 : Gx G s) (hJ : gJ 80 G) {d d0 : Nat} (hd0 : d = d0 + 1) (z : Nat) (self : ST → Int32 → Int32 → Int64 → Option ST) (σ : ST) (v2 : Int32) (v3 : Int32) (v4 : Int64) (k6 : Nat) (k7 : Nat) (t0 : Int32) (res : ST) (h : fX0_tryBoth_58 z self σ v2 v3 v4 k6 k7 t0 = some res) (hself : ∀ (σ : ST) (v2 : Int32) (v3 : Int32) (v4 : Int64) (res : ST), self σ v2 v3 v4 = some res → Met l yX0_tryBoth wsX0_tryBoth (rX0_tryBoth d0) (XPc cellX 80 G σ [.ref (aD G 57), .ref (aD G 3), .int v2, .int v3, .long v4]) (XQv cellX 80 G res) 0 0 (gA 80 G)) (hk_k6 : kX k6 = 3) (hk_k7 : kX k7 = 3) {H : Heap} {locs : List Loc} {ls : Array Slot} (hW : Wd cellX 80 G s.heap σ H locs) (hl : lv_has ls 14 [(0, .ref (aD G 57)), (1, .ref (aD G 3)), (2, .int v2), (3, .int v3), (4, .long v4), (6, .ref (aD G k6)), (7, .ref (aD G k7))]) : W p l e (rX0_tryBoth d) s m args below meth c H locs 0 0 (MQ below (XQv cellX 80 G res) args s 0 0 (gA 80 G)) (F0 m 58 ls [.int t0]) := by
  unfold fX0_tryBoth_58 at h
  refine lv_istore (lv' := [(8, .int t0), (0, .ref (aD G 57)), (1, .ref (aD G 3)), (2, .int v2), (3, .int v3), (4, .long v4), (6, .ref (aD G k6)), (7, .ref (aD G k7))]) C0.1 C0.2.1 dX0_tryBoth_58 hl (by decide) rfl (fun ls hl => ?_)
  refine lv_iconst (v := (0 : Int32)) C0.1 C0.2.1 dX0_tryBoth_60 (by decide) ?_
  refine lv_istore (lv' := [(9, .int (0 : Int32)), (8, .int t0), (0, .ref (aD G 57)), (1, .ref (aD G 3)), (2, .int v2), (3, .int v3), (4, .long v4), (6, .ref (aD G k6)), (7, .ref (aD G k7))]) C0.1 C0.2.1 dX0_tryBoth_61 hl (by decide) rfl (fun ls hl => ?_)
  exact wX0_tryBoth_63 C0 G0 hJ hd0 z self v2 v3 v4 k6 k7 t0 z σ (0 : Int32) _ h hself hk_k6 hk_k7 hW (lv_sub hl [2, 3, 4, 5, 6, 7, 8, 1, 0] rfl)
set_option maxHeartbeats 4000000 in
set_option maxRecDepth 100000 in
theorem wX0_tryBoth_40 (C0 : Cx p s m args meth c cX0_tryBoth RX0 14 none wsX0_tryBoth) (G0 : Gx G s) (hJ : gJ 80 G) {d d0 : Nat} (hd0 : d = d0 + 1) (z : Nat) (self : ST → Int32 → Int32 → Int64 → Option ST) (σ : ST) (res : ST) (h : fX0_tryBoth_40 z self σ = some res) (hself : ∀ (σ : ST) (v2 : Int32) (v3 : Int32) (v4 : Int64) (res : ST), self σ v2 v3 v4 = some res → Met l yX0_tryBoth wsX0_tryBoth (rX0_tryBoth d0) (XPc cellX 80 G σ [.ref (aD G 57), .ref (aD G 3), .int v2, .int v3, .long v4]) (XQv cellX 80 G res) 0 0 (gA 80 G)) {H : Heap} {locs : List Loc} {ls : Array Slot} (hW : Wd cellX 80 G s.heap σ H locs) (hl : lv_has ls 14 []) : W p l e (rX0_tryBoth d) s m args below meth c H locs 0 0 (MQ below (XQv cellX 80 G res) args s 0 0 (gA 80 G)) (F0 m 40 ls []) := by
  unfold fX0_tryBoth_40 at h
  cases h
  exact x_vret C0 hW dX0_tryBoth_40
set_option maxHeartbeats 4000000 in
set_option maxRecDepth 100000 in
theorem wX0_tryBoth (C0 : Cx p s m args meth c cX0_tryBoth RX0 14 none wsX0_tryBoth) (G0 : Gx G s) (hJ : gJ 80 G) {d d0 : Nat} (hd0 : d = d0 + 1) (z : Nat) (self : ST → Int32 → Int32 → Int64 → Option ST) (σ : ST) (v2 : Int32) (v3 : Int32) (v4 : Int64) (res : ST) (h : fX0_tryBoth z self σ v2 v3 v4 = some res) (hself : ∀ (σ : ST) (v2 : Int32) (v3 : Int32) (v4 : Int64) (res : ST), self σ v2 v3 v4 = some res → Met l yX0_tryBoth wsX0_tryBoth (rX0_tryBoth d0) (XPc cellX 80 G σ [.ref (aD G 57), .ref (aD G 3), .int v2, .int v3, .long v4]) (XQv cellX 80 G res) 0 0 (gA 80 G)) {H : Heap} {locs : List Loc} {ls : Array Slot} (hW : Wd cellX 80 G s.heap σ H locs) (hl : lv_has ls 14 [(0, .ref (aD G 57)), (1, .ref (aD G 3)), (2, .int v2), (3, .int v3), (4, .long v4)]) : W p l e (rX0_tryBoth d) s m args below meth c H locs 0 0 (MQ below (XQv cellX 80 G res) args s 0 0 (gA 80 G)) (F0 m 0 ls []) := by
  unfold fX0_tryBoth at h
  refine lv_aload_n C0.1 C0.2.1 dX0_tryBoth_0 rfl (lv_at hl 0 rfl) ?_
  refine x_get (v := .ref (aD G 58)) C0 G0 hW (cX_X0 rfl) (by decide) rfl 0 (by decide) inX0_tryBoth_X0 lkX0_tryBoth_14 rfl dX0_tryBoth_1 ?_
  refine lv_iload_n C0.1 C0.2.1 dX0_tryBoth_4 rfl (lv_at hl 2 rfl) ?_
  obtain ⟨u21, hu21, h⟩ := bd_some h
  refine x_kr (r := u21) (x_runV (As := [.int v2]) (rest := []) C0 G0 hW (cX5_at_met l hJ z σ 58 v2 _ hu21) (cwV 1 C0.2.2.2.1 gX0_tryBoth_X5_at rfl rfl rfl hdvX5_at ⟨by subst hd0; simp [rX0_tryBoth, rX5_at]; try omega, by subst hd0; simp [rX0_tryBoth, rX5_at]; try omega⟩) (cX_X5 rfl) (by decide) rfl rfl rfl hl (Nat.le_of_ble_eq_true rfl) dX0_tryBoth_5 ⟨Nat.le_refl 0, Nat.le_refl 0⟩) hW (fun H locs hW => ?_)
  refine x_astore (lv' := [(6, va_rf ((u21).map (aD G))), (0, .ref (aD G 57)), (1, .ref (aD G 3)), (2, .int v2), (3, .int v3), (4, .long v4)]) C0 dX0_tryBoth_8 hl (by decide) rfl (fun ls hl => ?_)
  refine lv_aload_n C0.1 C0.2.1 dX0_tryBoth_10 rfl (lv_at hl 1 rfl) ?_
  refine x_get (v := .ref (aD G 58)) C0 G0 hW (cX_X0 rfl) (by decide) rfl 0 (by decide) inX0_tryBoth_X0 lkX0_tryBoth_14 rfl dX0_tryBoth_11 ?_
  refine lv_iload_n C0.1 C0.2.1 dX0_tryBoth_14 rfl (lv_at hl 3 rfl) ?_
  refine lv_iconst (v := (1 : Int32)) C0.1 C0.2.1 dX0_tryBoth_15 (by decide) ?_
  refine lv_iadd C0.1 C0.2.1 dX0_tryBoth_16 ?_
  obtain ⟨u22, hu22, h⟩ := bd_some h
  refine x_kr (r := u22) (x_runV (As := [.int (v2 + (1 : Int32))]) (rest := []) C0 G0 hW (cX5_at_met l hJ z σ 58 (v2 + (1 : Int32)) _ hu22) (cwV 1 C0.2.2.2.1 gX0_tryBoth_X5_at rfl rfl rfl hdvX5_at ⟨by subst hd0; simp [rX0_tryBoth, rX5_at]; try omega, by subst hd0; simp [rX0_tryBoth, rX5_at]; try omega⟩) (cX_X5 rfl) (by decide) rfl rfl rfl hl (Nat.le_of_ble_eq_true rfl) dX0_tryBoth_17 ⟨Nat.le_refl 0, Nat.le_refl 0⟩) hW (fun H locs hW => ?_)
  refine x_astore (lv' := [(7, va_rf ((u22).map (aD G))), (6, va_rf ((u21).map (aD G))), (0, .ref (aD G 57)), (1, .ref (aD G 3)), (2, .int v2), (3, .int v3), (4, .long v4)]) C0 dX0_tryBoth_20 hl (by decide) (by simp [List.filter, x_cat]) (fun ls hl => ?_)
  refine x_aload C0 dX0_tryBoth_22 (lv_at hl 1 rfl) ?_
  refine x_ifnull (tgt := 40) C0 dX0_tryBoth_24 (by decide) (fun hn => ?_) (fun k23 hn => ?_)
  · subst hn
    have hl := lv_sub (l' := [(7, va_rf ((u22).map (aD G))), (0, .ref (aD G 57)), (1, .ref (aD G 3)), (2, .int v2), (3, .int v3), (4, .long v4)]) hl [0, 2, 3, 4, 5, 6] rfl
    replace h := nl_none h
    exact wX0_tryBoth_40 C0 G0 hJ hd0 z self σ _ h hself hW (lv_sub hl [] rfl)
  · subst hn
    have hl : lv_has ls 14 [(7, va_rf ((u22).map (aD G))), (6, .ref (aD G k23)), (0, .ref (aD G 57)), (1, .ref (aD G 3)), (2, .int v2), (3, .int v3), (4, .long v4)] := hl
    replace h := nl_k h
    obtain ⟨hk_k23, h⟩ := gd_some h
    have hk_k23 : kX k23 = 3 := eq_of_beq hk_k23
    refine x_aload C0 dX0_tryBoth_27 (lv_at hl 0 rfl) ?_
    refine x_ifnull (tgt := 40) C0 dX0_tryBoth_29 (by decide) (fun hn => ?_) (fun k24 hn => ?_)
    · subst hn
      have hl := lv_sub (l' := [(6, .ref (aD G k23)), (0, .ref (aD G 57)), (1, .ref (aD G 3)), (2, .int v2), (3, .int v3), (4, .long v4)]) hl [1, 2, 3, 4, 5, 6] rfl
      replace h := nl_none h
      exact wX0_tryBoth_40 C0 G0 hJ hd0 z self σ _ h hself hW (lv_sub hl [] rfl)
    · subst hn
      have hl : lv_has ls 14 [(7, .ref (aD G k24)), (6, .ref (aD G k23)), (0, .ref (aD G 57)), (1, .ref (aD G 3)), (2, .int v2), (3, .int v3), (4, .long v4)] := hl
      replace h := nl_k h
      obtain ⟨hk_k24, h⟩ := gd_some h
      have hk_k24 : kX k24 = 3 := eq_of_beq hk_k24
      refine lv_iload_n C0.1 C0.2.1 dX0_tryBoth_32 rfl (lv_at hl 4 rfl) ?_
      refine lv_aload_n C0.1 C0.2.1 dX0_tryBoth_33 rfl (lv_at hl 2 rfl) ?_
      refine x_get (v := .int (σ.1 57 4)) C0 G0 hW (cX_X0 rfl) (by decide) rfl 4 (by decide) inX0_tryBoth_X0 lkX0_tryBoth_33 rfl dX0_tryBoth_34 ?_
      refine lv_icmp_lt (tgt := 41) C0.1 C0.2.1 dX0_tryBoth_37 (by decide) (fun c25 => ?_) (fun c25 => ?_)
      · rw [if_pos c25] at h
        refine lv_aload C0.1 C0.2.1 dX0_tryBoth_41 (lv_at hl 1 rfl) ?_
        refine x_getN (v := .int (σ.1 k23 4)) C0 G0 hW (cX_X4 hk_k23) (kX_lt hk_k23 (by decide)) rfl 4 (by decide) inX0_tryBoth_X4 nfX0_tryBoth_87 rfl dX0_tryBoth_43 ?_
        refine lv_aload_n C0.1 C0.2.1 dX0_tryBoth_46 rfl (lv_at hl 3 rfl) ?_
        refine x_getN (v := .int (σ.1 3 7)) C0 G0 hW (cX_X7 rfl) (by decide) rfl 7 (by decide) inX0_tryBoth_X7 nfX0_tryBoth_90 rfl dX0_tryBoth_47 ?_
        refine lv_icmp_lt (tgt := 57) C0.1 C0.2.1 dX0_tryBoth_50 (by decide) (fun c26 => ?_) (fun c26 => ?_)
        · rw [if_pos c26] at h
          refine lv_iconst (v := (0 : Int32)) C0.1 C0.2.1 dX0_tryBoth_57 (by decide) ?_
          exact wX0_tryBoth_58 C0 G0 hJ hd0 z self σ v2 v3 v4 k23 k24 (0 : Int32) _ h hself hk_k23 hk_k24 hW (lv_sub hl [2, 3, 4, 5, 6, 1, 0] rfl)
        · rw [if_neg c26] at h
          refine lv_iconst (v := (1 : Int32)) C0.1 C0.2.1 dX0_tryBoth_53 (by decide) ?_
          refine lv_goto (tgt := 58) C0.1 C0.2.1 dX0_tryBoth_54 (by decide) ?_
          exact wX0_tryBoth_58 C0 G0 hJ hd0 z self σ v2 v3 v4 k23 k24 (1 : Int32) _ h hself hk_k23 hk_k24 hW (lv_sub hl [2, 3, 4, 5, 6, 1, 0] rfl)
      · rw [if_neg c25] at h
        exact wX0_tryBoth_40 C0 G0 hJ hd0 z self σ _ h hself hW (lv_sub hl [] rfl)
theorem cX0_tryBoth_met (l : Launch) {G : GT} (hJ : gJ 80 G) (z : Nat) : ∀ (d : Nat) (σ : ST) (v2 : Int32) (v3 : Int32) (v4 : Int64) (res : ST) (h : fX0_tryBoth_r z d σ v2 v3 v4 = some res), Met l yX0_tryBoth wsX0_tryBoth (rX0_tryBoth d) (XPc cellX 80 G σ [.ref (aD G 57), .ref (aD G 3), .int v2, .int v3, .long v4]) (XQv cellX 80 G res) 0 0 (gA 80 G) := by
  intro d
  induction d with
  | zero => intro σ v2 v3 v4 res h; cases h
  | succ d0 ih =>
    intro σ v2 v3 v4 res h
    exact x_met (ret := none) (maxL := 14) (by decide) rfl (Nat.le_of_ble_eq_true rfl) (fun p e s m args below meth c H locs ls C0 G0 hW hl => wX0_tryBoth C0 G0 hJ rfl z (fX0_tryBoth_r z d0) σ v2 v3 v4 res h ih hW hl)
end
/-! X0_tryTogether -/
def rX0_tryTogether : Room := { frames := 14, cells := 0, slots := 0, locals := 416 }
theorem hdvX0_tryTogether : yX0_tryTogether.cls = RX0 ∧ yX0_tryTogether.cls ≠ "java/lang/invoke/MethodHandle" ∧ yX0_tryTogether.cls ≠ "java/lang/invoke/VarHandle" ∧ (parseMethodDescriptor yX0_tryTogether.desc).map (fun d => d.parameters.length) = some 3 := by decide +kernel
theorem inX0_tryTogether_X0 : ∀ w ∈ u_ws RX0 TX0 5, w ∈ wsX0_tryTogether := by decide +kernel
theorem lkX0_tryTogether_33 : Cond.fieldLink RX0 33 (TX0 4).1 (TX0 4).2.1 (TX0 4).2.2.1 ∈ wsX0_tryTogether := by decide +kernel
theorem lkX0_tryTogether_30 : Cond.fieldLink RX0 30 (TX0 3).1 (TX0 3).2.1 (TX0 3).2.2.1 ∈ wsX0_tryTogether := by decide +kernel
theorem lkX0_tryTogether_14 : Cond.fieldLink RX0 14 (TX0 0).1 (TX0 0).2.1 (TX0 0).2.2.1 ∈ wsX0_tryTogether := by decide +kernel
theorem inX0_tryTogether_X7 : ∀ w ∈ u_ws RX7 TX7 9, w ∈ wsX0_tryTogether := by decide +kernel
theorem nfX0_tryTogether_78 : (RX0, 78, (TX7 6).1, (TX7 6).2.1, (TX7 6).2.2.1) ∈ nwF := by decide +kernel
def fX0_tryTogether (z : Nat) (σ : ST) (k2 : Nat) (v3 : Int32) : Option ST := gd (kX k2 == 3) (lt (pI σ 57 4 v3) (fun s21 => bd (fX1_clear z s21 78) (fun u22 => bd (fX5_put z u22 58 (0 : Int32) k2) (fun u23 => bd (fX0_tryBoth_r z 9 u23 (0 : Int32) (u23.1 3 6) (0 : Int64)) (fun u24 => some u24)))))
section
variable {p : Program} {l : Launch} {e : Env} {s : State} {m : MethodId} {args : Array Value} {below : List Frame} {meth : Method} {c : Code} {G : GT}
set_option maxHeartbeats 4000000 in
set_option maxRecDepth 100000 in
theorem wX0_tryTogether (C0 : Cx p s m args meth c cX0_tryTogether RX0 4 none wsX0_tryTogether) (G0 : Gx G s) (hJ : gJ 80 G) (z : Nat) (σ : ST) (k2 : Nat) (v3 : Int32) (res : ST) (h : fX0_tryTogether z σ k2 v3 = some res)  {H : Heap} {locs : List Loc} {ls : Array Slot} (hW : Wd cellX 80 G s.heap σ H locs) (hl : lv_has ls 4 [(0, .ref (aD G 57)), (1, .ref (aD G 3)), (2, .ref (aD G k2)), (3, .int v3)]) : W p l e rX0_tryTogether s m args below meth c H locs 0 0 (MQ below (XQv cellX 80 G res) args s 0 0 (gA 80 G)) (F0 m 0 ls []) := by
  unfold fX0_tryTogether at h
  obtain ⟨hk_k2, h⟩ := gd_some h
  have hk_k2 : kX k2 = 3 := eq_of_beq hk_k2
  refine lv_aload_n C0.1 C0.2.1 dX0_tryTogether_0 rfl (lv_at hl 0 rfl) ?_
  refine lv_iload_n C0.1 C0.2.1 dX0_tryTogether_1 rfl (lv_at hl 3 rfl) ?_
  refine x_putI (v := v3) C0 G0 hJ hW (cX_X0 rfl) (by decide) rfl 4 (by decide) inX0_tryTogether_X0 lkX0_tryTogether_33 tyX0 tyX0_ok nmX0 rfl rfl rfl (Nat.le_of_ble_eq_true rfl) (hu_X0_4 rfl) dX0_tryTogether_2 (fun H locs hW => ?_)
  obtain ⟨s21, es21, h⟩ := lt_some h
  rw [es21] at hW
  refine lv_aload_n C0.1 C0.2.1 dX0_tryTogether_5 rfl (lv_at hl 0 rfl) ?_
  refine x_get (v := .ref (aD G 78)) C0 G0 hW (cX_X0 rfl) (by decide) rfl 3 (by decide) inX0_tryTogether_X0 lkX0_tryTogether_30 rfl dX0_tryTogether_6 ?_
  obtain ⟨u22, hu22, h⟩ := bd_some h
  refine x_kv (x_runV (As := []) (rest := []) C0 G0 hW (cX1_clear_met l hJ z s21 78 _ hu22) (cwV 0 C0.2.2.2.1 gX0_tryTogether_X1_clear rfl rfl rfl hdvX1_clear ⟨Nat.le_of_ble_eq_true rfl, Nat.le_of_ble_eq_true rfl⟩) (cX_X1 rfl) (by decide) rfl rfl rfl hl (Nat.le_of_ble_eq_true rfl) dX0_tryTogether_9 ⟨Nat.le_refl 0, Nat.le_refl 0⟩) hW (fun H locs hW => ?_)
  refine lv_aload_n C0.1 C0.2.1 dX0_tryTogether_12 rfl (lv_at hl 0 rfl) ?_
  refine x_get (v := .ref (aD G 58)) C0 G0 hW (cX_X0 rfl) (by decide) rfl 0 (by decide) inX0_tryTogether_X0 lkX0_tryTogether_14 rfl dX0_tryTogether_13 ?_
  refine lv_iconst (v := (0 : Int32)) C0.1 C0.2.1 dX0_tryTogether_16 (by decide) ?_
  refine lv_aload_n C0.1 C0.2.1 dX0_tryTogether_17 rfl (lv_at hl 2 rfl) ?_
  obtain ⟨u23, hu23, h⟩ := bd_some h
  refine x_kv (x_runV (As := [.int (0 : Int32), .ref (aD G k2)]) (rest := []) C0 G0 hW (cX5_put_met l hJ z u22 58 (0 : Int32) k2 _ hu23) (cwV 2 C0.2.2.2.1 gX0_tryTogether_X5_put rfl rfl rfl hdvX5_put ⟨Nat.le_of_ble_eq_true rfl, Nat.le_of_ble_eq_true rfl⟩) (cX_X5 rfl) (by decide) rfl rfl rfl hl (Nat.le_of_ble_eq_true rfl) dX0_tryTogether_18 ⟨Nat.le_refl 0, Nat.le_refl 0⟩) hW (fun H locs hW => ?_)
  refine lv_aload_n C0.1 C0.2.1 dX0_tryTogether_21 rfl (lv_at hl 0 rfl) ?_
  refine lv_aload_n C0.1 C0.2.1 dX0_tryTogether_22 rfl (lv_at hl 1 rfl) ?_
  refine lv_iconst (v := (0 : Int32)) C0.1 C0.2.1 dX0_tryTogether_23 (by decide) ?_
  refine lv_aload_n C0.1 C0.2.1 dX0_tryTogether_24 rfl (lv_at hl 1 rfl) ?_
  refine x_getN (v := .int (u23.1 3 6)) C0 G0 hW (cX_X7 rfl) (by decide) rfl 6 (by decide) inX0_tryTogether_X7 nfX0_tryTogether_78 rfl dX0_tryTogether_25 ?_
  refine lv_lconst (v := (0 : Int64)) C0.1 C0.2.1 dX0_tryTogether_28 (by decide) ?_
  obtain ⟨u24, hu24, h⟩ := bd_some h
  refine x_kv (x_runV (As := [.ref (aD G 3), .int (0 : Int32), .int (u23.1 3 6), .long (0 : Int64)]) (rest := []) C0 G0 hW (cX0_tryBoth_met l hJ z 9 u23 (0 : Int32) (u23.1 3 6) (0 : Int64) _ hu24) (cwV 4 C0.2.2.2.1 gX0_tryTogether_X0_tryBoth rfl rfl rfl hdvX0_tryBoth ⟨Nat.le_of_ble_eq_true rfl, Nat.le_of_ble_eq_true rfl⟩) (cX_X0 rfl) (by decide) rfl rfl rfl hl (Nat.le_of_ble_eq_true rfl) dX0_tryTogether_29 ⟨Nat.le_refl 0, Nat.le_refl 0⟩) hW (fun H locs hW => ?_)
  cases h
  exact x_vret C0 hW dX0_tryTogether_32
theorem cX0_tryTogether_met (l : Launch) {G : GT} (hJ : gJ 80 G) (z : Nat) (σ : ST) (k2 : Nat) (v3 : Int32) (res : ST) (h : fX0_tryTogether z σ k2 v3 = some res) : Met l yX0_tryTogether wsX0_tryTogether rX0_tryTogether (XPc cellX 80 G σ [.ref (aD G 57), .ref (aD G 3), .ref (aD G k2), .int v3]) (XQv cellX 80 G res) 0 0 (gA 80 G) :=
  x_met (ret := none) (maxL := 4) (by decide) rfl (Nat.le_of_ble_eq_true rfl) (fun p e s m args below meth c H locs ls C0 G0 hW hl => wX0_tryTogether C0 G0 hJ z σ k2 v3 res h hW hl)
end

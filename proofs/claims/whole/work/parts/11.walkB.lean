/-! X8_isWithin -/
def rX8_isWithin : Room := { frames := 0, cells := 0, slots := 0, locals := 0 }
theorem hdsX8_isWithin : yX8_isWithin.cls ≠ "java/lang/invoke/MethodHandle" ∧ yX8_isWithin.cls ≠ "java/lang/invoke/VarHandle" ∧ (parseMethodDescriptor yX8_isWithin.desc).map (fun d => d.parameters.length) = some 3 := by decide +kernel
def fX8_isWithin_15 (z : Nat) (t0 : Int32) : Option Int32 := gd (zok t0) ( some t0)
def fX8_isWithin_14 (z : Nat) : Option Int32 := fX8_isWithin_15 z (0 : Int32)
def fX8_isWithin (z : Nat) (v0 : Int32) (v1 : Int32) (v2 : Int32) : Option Int32 := (if v0 < v1 then fX8_isWithin_14 z else (if v2 < v0 then fX8_isWithin_14 z else fX8_isWithin_15 z (1 : Int32)))
section
variable {p : Program} {l : Launch} {e : Env} {s : State} {m : MethodId} {args : Array Value} {below : List Frame} {meth : Method} {c : Code} {G : GT}
set_option maxHeartbeats 4000000 in
set_option maxRecDepth 100000 in
theorem wX8_isWithin_15 (C0 : Cx p s m args meth c cX8_isWithin RX8 3 (some .boolean) wsX8_isWithin) {σ : ST} (G0 : Gx G s) (hJ : gJ 80 G) (z : Nat) (t0 : Int32) (res : Int32) (h : fX8_isWithin_15 z t0 = some res)  {H : Heap} {locs : List Loc} {ls : Array Slot} (hW : Wd cellX 80 G s.heap σ H locs) (hl : lv_has ls 3 []) : W p l e rX8_isWithin s m args below meth c H locs 0 0 (MQ below (XQi cellX 80 G res σ) args s 0 0 (gA 80 G)) (F0 m 15 ls [.int t0]) := by
  unfold fX8_isWithin_15 at h
  obtain ⟨g23, h⟩ := gd_some h
  cases h
  exact x_zret C0 hW g23 dX8_isWithin_15
set_option maxHeartbeats 4000000 in
set_option maxRecDepth 100000 in
theorem wX8_isWithin_14 (C0 : Cx p s m args meth c cX8_isWithin RX8 3 (some .boolean) wsX8_isWithin) {σ : ST} (G0 : Gx G s) (hJ : gJ 80 G) (z : Nat) (res : Int32) (h : fX8_isWithin_14 z = some res)  {H : Heap} {locs : List Loc} {ls : Array Slot} (hW : Wd cellX 80 G s.heap σ H locs) (hl : lv_has ls 3 []) : W p l e rX8_isWithin s m args below meth c H locs 0 0 (MQ below (XQi cellX 80 G res σ) args s 0 0 (gA 80 G)) (F0 m 14 ls []) := by
  unfold fX8_isWithin_14 at h
  refine lv_iconst (v := (0 : Int32)) C0.1 C0.2.1 dX8_isWithin_14 (by decide) ?_
  exact wX8_isWithin_15 C0 G0 hJ z (0 : Int32) _ h hW (lv_sub hl [] rfl)
set_option maxHeartbeats 4000000 in
set_option maxRecDepth 100000 in
theorem wX8_isWithin (C0 : Cx p s m args meth c cX8_isWithin RX8 3 (some .boolean) wsX8_isWithin) {σ : ST} (G0 : Gx G s) (hJ : gJ 80 G) (z : Nat) (v0 : Int32) (v1 : Int32) (v2 : Int32) (res : Int32) (h : fX8_isWithin z v0 v1 v2 = some res)  {H : Heap} {locs : List Loc} {ls : Array Slot} (hW : Wd cellX 80 G s.heap σ H locs) (hl : lv_has ls 3 [(0, .int v0), (1, .int v1), (2, .int v2)]) : W p l e rX8_isWithin s m args below meth c H locs 0 0 (MQ below (XQi cellX 80 G res σ) args s 0 0 (gA 80 G)) (F0 m 0 ls []) := by
  unfold fX8_isWithin at h
  refine lv_iload_n C0.1 C0.2.1 dX8_isWithin_0 rfl (lv_at hl 0 rfl) ?_
  refine lv_iload_n C0.1 C0.2.1 dX8_isWithin_1 rfl (lv_at hl 1 rfl) ?_
  refine lv_icmp_lt (tgt := 14) C0.1 C0.2.1 dX8_isWithin_2 (by decide) (fun c21 => ?_) (fun c21 => ?_)
  · rw [if_pos c21] at h
    exact wX8_isWithin_14 C0 G0 hJ z _ h hW (lv_sub hl [] rfl)
  · rw [if_neg c21] at h
    refine lv_iload_n C0.1 C0.2.1 dX8_isWithin_5 rfl (lv_at hl 0 rfl) ?_
    refine lv_iload_n C0.1 C0.2.1 dX8_isWithin_6 rfl (lv_at hl 2 rfl) ?_
    refine lv_icmp_gt (tgt := 14) C0.1 C0.2.1 dX8_isWithin_7 (by decide) (fun c22 => ?_) (fun c22 => ?_)
    · rw [if_pos c22] at h
      exact wX8_isWithin_14 C0 G0 hJ z _ h hW (lv_sub hl [] rfl)
    · rw [if_neg c22] at h
      refine lv_iconst (v := (1 : Int32)) C0.1 C0.2.1 dX8_isWithin_10 (by decide) ?_
      refine lv_goto (tgt := 15) C0.1 C0.2.1 dX8_isWithin_11 (by decide) ?_
      exact wX8_isWithin_15 C0 G0 hJ z (1 : Int32) _ h hW (lv_sub hl [] rfl)
theorem cX8_isWithin_met (l : Launch) {G : GT} (hJ : gJ 80 G) (z : Nat) (σ : ST) (v0 : Int32) (v1 : Int32) (v2 : Int32) (res : Int32) (h : fX8_isWithin z v0 v1 v2 = some res) : Met l yX8_isWithin wsX8_isWithin rX8_isWithin (XPc cellX 80 G σ [.int v0, .int v1, .int v2]) (XQi cellX 80 G res σ) 0 0 (gA 80 G) :=
  x_met (ret := (some .boolean)) (maxL := 3) (by decide) rfl (Nat.le_of_ble_eq_true rfl) (fun p e s m args below meth c H locs ls C0 G0 hW hl => wX8_isWithin C0 G0 hJ z v0 v1 v2 res h hW hl)
end
/-! X4_believe -/
def rX4_believe : Room := { frames := 1, cells := 0, slots := 0, locals := 22 }
theorem hdvX4_believe : yX4_believe.cls = RX4 ∧ yX4_believe.cls ≠ "java/lang/invoke/MethodHandle" ∧ yX4_believe.cls ≠ "java/lang/invoke/VarHandle" ∧ (parseMethodDescriptor yX4_believe.desc).map (fun d => d.parameters.length) = some 3 := by decide +kernel
theorem inX4_believe_X4 : ∀ w ∈ u_ws RX4 TX4 6, w ∈ wsX4_believe := by decide +kernel
theorem lkX4_believe_9 : Cond.fieldLink RX4 9 (TX4 0).1 (TX4 0).2.1 (TX4 0).2.2.1 ∈ wsX4_believe := by decide +kernel
theorem lkX4_believe_38 : Cond.fieldLink RX4 38 (TX4 5).1 (TX4 5).2.1 (TX4 5).2.2.1 ∈ wsX4_believe := by decide +kernel
theorem lkX4_believe_15 : Cond.fieldLink RX4 15 (TX4 1).1 (TX4 1).2.1 (TX4 1).2.2.1 ∈ wsX4_believe := by decide +kernel
theorem lkX4_believe_19 : Cond.fieldLink RX4 19 (TX4 2).1 (TX4 2).2.1 (TX4 2).2.2.1 ∈ wsX4_believe := by decide +kernel
theorem siX4_believe_X8_isWithin : Cond.initialized yX8_isWithin.cls ∈ wsX4_believe := by decide +kernel
theorem ssX4_believe_X8_isWithin : Cond.static yX8_isWithin ∈ wsX4_believe := by decide +kernel
theorem kcX4_believe_84 : Cond.constantLong RX4 84 (5 : Int64) ∈ wsX4_believe := by decide +kernel
def fX4_believe_133 (z : Nat) (σ : ST) : Option ST := some σ
def fX4_believe_66 (z : Nat) (r3 : ST → Int32 → Option ST) (σ : ST) (k0 : Nat) (v1 : Int32) (v2 : Int32) (v3 : Int32) (v4 : Int32) : Option ST := r3 σ (v4 + 1)
def fX4_believe_64 (z : Nat) (r3 : ST → Int32 → Option ST) (σ : ST) (k0 : Nat) (v1 : Int32) (v2 : Int32) (v3 : Int32) (v4 : Int32) (t0 : Int64) (t1 : Int64) (t2 : Int32) : Option ST := gd (inb t2 11) ( lt (pL σ (k0 + 1) (t2).toNatClampNeg (t1 * t0)) (fun s38 => fX4_believe_66 z r3 s38 k0 v1 v2 v3 v4))
def fX4_believe_3 (z : Nat) (k0 : Nat) (v1 : Int32) (v2 : Int32) (v3 : Int32) : Nat → ST → Int32 → Option ST
  | 0 => fun _ _ => none
  | n + 1 => fun σ v4 => (if (11 : Int32) ≤ v4 then (if (σ.1 k0 5) < 0 then fX4_believe_133 z σ else (if (2 : Int32) ≤ (σ.1 k0 5) then fX4_believe_133 z σ else (if (2 : Int32) ≤ (σ.1 k0 5) then fX4_believe_133 z σ else gd (inb (σ.1 k0 5) 2) ( lt (pI σ (k0 + 2) ((σ.1 k0 5)).toNatClampNeg v1) (fun s26 => gd (inb (s26.1 k0 5) 2) ( lt (pI s26 (k0 + 3) ((s26.1 k0 5)).toNatClampNeg v2) (fun s28 => lt (pI s28 k0 5 ((s28.1 k0 5) + (1 : Int32))) (fun s29 => fX4_believe_133 z s29)))))))) else (if v4 = (10 : Int32) then gd (inb v4 11) ( gd (inb v4 11) ( lt (pL σ (k0 + 1) (v4).toNatClampNeg ((σ.2 (k0 + 1) (v4).toNatClampNeg) * (5 : Int64))) (fun s36 => fX4_believe_66 z (fX4_believe_3 z k0 v1 v2 v3 n) s36 k0 v1 v2 v3 v4))) else gd (inb v4 11) ( bd (fX8_isWithin z v4 v1 v2) (fun u32 => (if u32 = 0 then fX4_believe_64 z (fX4_believe_3 z k0 v1 v2 v3 n) σ k0 v1 v2 v3 v4 ((((10 : Int32) - v3)).toInt64) (σ.2 (k0 + 1) (v4).toNatClampNeg) v4 else fX4_believe_64 z (fX4_believe_3 z k0 v1 v2 v3 n) σ k0 v1 v2 v3 v4 ((v3).toInt64) (σ.2 (k0 + 1) (v4).toNatClampNeg) v4)))))
def fX4_believe (z : Nat) (σ : ST) (k0 : Nat) (v1 : Int32) (v2 : Int32) (v3 : Int32) : Option ST := gd (kX k0 == 3) (fX4_believe_3 z k0 v1 v2 v3 z σ (0 : Int32))
section
variable {p : Program} {l : Launch} {e : Env} {s : State} {m : MethodId} {args : Array Value} {below : List Frame} {meth : Method} {c : Code} {G : GT}
set_option maxHeartbeats 4000000 in
set_option maxRecDepth 100000 in
theorem wX4_believe_133 (C0 : Cx p s m args meth c cX4_believe RX4 5 none wsX4_believe) (G0 : Gx G s) (hJ : gJ 80 G) (z : Nat) (σ : ST) (res : ST) (h : fX4_believe_133 z σ = some res)  {H : Heap} {locs : List Loc} {ls : Array Slot} (hW : Wd cellX 80 G s.heap σ H locs) (hl : lv_has ls 5 []) : W p l e rX4_believe s m args below meth c H locs 0 0 (MQ below (XQv cellX 80 G res) args s 0 0 (gA 80 G)) (F0 m 133 ls []) := by
  unfold fX4_believe_133 at h
  cases h
  exact x_vret C0 hW dX4_believe_133
set_option maxHeartbeats 4000000 in
set_option maxRecDepth 100000 in
theorem wX4_believe_66 (C0 : Cx p s m args meth c cX4_believe RX4 5 none wsX4_believe) (G0 : Gx G s) (hJ : gJ 80 G) (z : Nat) (r3 : ST → Int32 → Option ST) (σ : ST) (k0 : Nat) (v1 : Int32) (v2 : Int32) (v3 : Int32) (v4 : Int32) (res : ST) (h : fX4_believe_66 z r3 σ k0 v1 v2 v3 v4 = some res) (hr3 : ∀ (σ : ST) (v4 : Int32), r3 σ v4 = some res → ∀ (H : Heap) (locs : List Loc) (ls : Array Slot), Wd cellX 80 G s.heap σ H locs → lv_has ls 5 [(0, .ref (aD G k0)), (1, .int v1), (2, .int v2), (3, .int v3), (4, .int v4)] → W p l e rX4_believe s m args below meth c H locs 0 0 (MQ below (XQv cellX 80 G res) args s 0 0 (gA 80 G)) (F0 m 3 ls [])) (hk_k0 : kX k0 = 3) {H : Heap} {locs : List Loc} {ls : Array Slot} (hW : Wd cellX 80 G s.heap σ H locs) (hl : lv_has ls 5 [(0, .ref (aD G k0)), (1, .int v1), (2, .int v2), (3, .int v3), (4, .int v4)]) : W p l e rX4_believe s m args below meth c H locs 0 0 (MQ below (XQv cellX 80 G res) args s 0 0 (gA 80 G)) (F0 m 66 ls []) := by
  unfold fX4_believe_66 at h
  refine lv_iinc (v := (v4 + 1)) (lv' := [(4, .int (v4 + 1)), (0, .ref (aD G k0)), (1, .int v1), (2, .int v2), (3, .int v3)]) C0.1 C0.2.1 dX4_believe_66 hl (k := 4) rfl rfl (by decide) rfl (fun ls hl => ?_)
  refine lv_goto (tgt := 3) C0.1 C0.2.1 dX4_believe_69 (by decide) ?_
  exact hr3 σ (v4 + 1) h _ _ _ hW (lv_sub hl [1, 2, 3, 4, 0] rfl)
set_option maxHeartbeats 4000000 in
set_option maxRecDepth 100000 in
theorem wX4_believe_64 (C0 : Cx p s m args meth c cX4_believe RX4 5 none wsX4_believe) (G0 : Gx G s) (hJ : gJ 80 G) (z : Nat) (r3 : ST → Int32 → Option ST) (σ : ST) (k0 : Nat) (v1 : Int32) (v2 : Int32) (v3 : Int32) (v4 : Int32) (t0 : Int64) (t1 : Int64) (t2 : Int32) (res : ST) (h : fX4_believe_64 z r3 σ k0 v1 v2 v3 v4 t0 t1 t2 = some res) (hr3 : ∀ (σ : ST) (v4 : Int32), r3 σ v4 = some res → ∀ (H : Heap) (locs : List Loc) (ls : Array Slot), Wd cellX 80 G s.heap σ H locs → lv_has ls 5 [(0, .ref (aD G k0)), (1, .int v1), (2, .int v2), (3, .int v3), (4, .int v4)] → W p l e rX4_believe s m args below meth c H locs 0 0 (MQ below (XQv cellX 80 G res) args s 0 0 (gA 80 G)) (F0 m 3 ls [])) (hk_k0 : kX k0 = 3) {H : Heap} {locs : List Loc} {ls : Array Slot} (hW : Wd cellX 80 G s.heap σ H locs) (hl : lv_has ls 5 [(0, .ref (aD G k0)), (1, .int v1), (2, .int v2), (3, .int v3), (4, .int v4)]) : W p l e rX4_believe s m args below meth c H locs 0 0 (MQ below (XQv cellX 80 G res) args s 0 0 (gA 80 G)) (F0 m 64 ls [.long t0, .long t1, .int t2, .ref (aD G (k0 + 1))]) := by
  unfold fX4_believe_64 at h
  refine lv_lmul C0.1 C0.2.1 dX4_believe_64 ?_
  obtain ⟨g37, h⟩ := gd_some h
  refine x_last C0 G0 hJ hW (fun f g => (cX_J11 (kSX4_1 hk_k0))) (kX_lt (kSX4_1 hk_k0) (by decide)) g37 dX4_believe_65 (fun H locs hW => ?_)
  obtain ⟨s38, es38, h⟩ := lt_some h
  rw [es38] at hW
  exact wX4_believe_66 C0 G0 hJ z r3 s38 k0 v1 v2 v3 v4 _ h (by exact hr3) hk_k0 hW (lv_sub hl [0, 1, 2, 3, 4] rfl)
set_option maxHeartbeats 4000000 in
set_option maxRecDepth 100000 in
theorem wX4_believe_3 (C0 : Cx p s m args meth c cX4_believe RX4 5 none wsX4_believe) (G0 : Gx G s) (hJ : gJ 80 G) (z : Nat) (k0 : Nat) (v1 : Int32) (v2 : Int32) (v3 : Int32) (n : Nat) (σ : ST) (v4 : Int32) (res : ST) (h : fX4_believe_3 z k0 v1 v2 v3 n σ v4 = some res) (hk_k0 : kX k0 = 3) {H : Heap} {locs : List Loc} {ls : Array Slot} (hW : Wd cellX 80 G s.heap σ H locs) (hl : lv_has ls 5 [(0, .ref (aD G k0)), (1, .int v1), (2, .int v2), (3, .int v3), (4, .int v4)]) : W p l e rX4_believe s m args below meth c H locs 0 0 (MQ below (XQv cellX 80 G res) args s 0 0 (gA 80 G)) (F0 m 3 ls []) := by
  induction n generalizing σ v4 H locs ls with
  | zero => cases h
  | succ n ih =>
    have hr3 : ∀ (σ : ST) (v4 : Int32), fX4_believe_3 z k0 v1 v2 v3 n σ v4 = some res → ∀ (H : Heap) (locs : List Loc) (ls : Array Slot), Wd cellX 80 G s.heap σ H locs → lv_has ls 5 [(0, .ref (aD G k0)), (1, .int v1), (2, .int v2), (3, .int v3), (4, .int v4)] → W p l e rX4_believe s m args below meth c H locs 0 0 (MQ below (XQv cellX 80 G res) args s 0 0 (gA 80 G)) (F0 m 3 ls []) := fun σ v4 h H locs ls hW hl => ih σ v4 h hW hl
    clear ih
    unfold fX4_believe_3 at h
    refine lv_iload C0.1 C0.2.1 dX4_believe_3 (lv_at hl 4 rfl) ?_
    refine lv_aload_n C0.1 C0.2.1 dX4_believe_5 rfl (lv_at hl 0 rfl) ?_
    refine x_get (v := .ref (aD G (k0 + 1))) C0 G0 hW (cX_X4 hk_k0) (kX_lt hk_k0 (by decide)) rfl 0 (by decide) inX4_believe_X4 lkX4_believe_9 rfl dX4_believe_6 ?_
    refine x_alen (v := (11 : Int32)) C0 G0 hW 1 (cX_J11 (kSX4_1 hk_k0)) (kX_lt (kSX4_1 hk_k0) (by decide)) rfl rfl dX4_believe_9 ?_
    refine lv_icmp_ge (tgt := 72) C0.1 C0.2.1 dX4_believe_10 (by decide) (fun c21 => ?_) (fun c21 => ?_)
    · rw [if_pos c21] at h
      refine lv_aload_n C0.1 C0.2.1 dX4_believe_72 rfl (lv_at hl 0 rfl) ?_
      refine x_get (v := .int (σ.1 k0 5)) C0 G0 hW (cX_X4 hk_k0) (kX_lt hk_k0 (by decide)) rfl 5 (by decide) inX4_believe_X4 lkX4_believe_38 rfl dX4_believe_73 ?_
      refine lv_if_lt (tgt := 133) C0.1 C0.2.1 dX4_believe_76 (by decide) (fun c22 => ?_) (fun c22 => ?_)
      · rw [if_pos c22] at h
        exact wX4_believe_133 C0 G0 hJ z σ _ h hW (lv_sub hl [] rfl)
      · rw [if_neg c22] at h
        refine lv_aload_n C0.1 C0.2.1 dX4_believe_79 rfl (lv_at hl 0 rfl) ?_
        refine x_get (v := .int (σ.1 k0 5)) C0 G0 hW (cX_X4 hk_k0) (kX_lt hk_k0 (by decide)) rfl 5 (by decide) inX4_believe_X4 lkX4_believe_38 rfl dX4_believe_80 ?_
        refine lv_aload_n C0.1 C0.2.1 dX4_believe_83 rfl (lv_at hl 0 rfl) ?_
        refine x_get (v := .ref (aD G (k0 + 2))) C0 G0 hW (cX_X4 hk_k0) (kX_lt hk_k0 (by decide)) rfl 1 (by decide) inX4_believe_X4 lkX4_believe_15 rfl dX4_believe_84 ?_
        refine x_alen (v := (2 : Int32)) C0 G0 hW 0 (cX_I2 (kSX4_2 hk_k0)) (kX_lt (kSX4_2 hk_k0) (by decide)) rfl rfl dX4_believe_87 ?_
        refine lv_icmp_ge (tgt := 133) C0.1 C0.2.1 dX4_believe_88 (by decide) (fun c23 => ?_) (fun c23 => ?_)
        · rw [if_pos c23] at h
          exact wX4_believe_133 C0 G0 hJ z σ _ h hW (lv_sub hl [] rfl)
        · rw [if_neg c23] at h
          refine lv_aload_n C0.1 C0.2.1 dX4_believe_91 rfl (lv_at hl 0 rfl) ?_
          refine x_get (v := .int (σ.1 k0 5)) C0 G0 hW (cX_X4 hk_k0) (kX_lt hk_k0 (by decide)) rfl 5 (by decide) inX4_believe_X4 lkX4_believe_38 rfl dX4_believe_92 ?_
          refine lv_aload_n C0.1 C0.2.1 dX4_believe_95 rfl (lv_at hl 0 rfl) ?_
          refine x_get (v := .ref (aD G (k0 + 3))) C0 G0 hW (cX_X4 hk_k0) (kX_lt hk_k0 (by decide)) rfl 2 (by decide) inX4_believe_X4 lkX4_believe_19 rfl dX4_believe_96 ?_
          refine x_alen (v := (2 : Int32)) C0 G0 hW 0 (cX_I2 (kSX4_3 hk_k0)) (kX_lt (kSX4_3 hk_k0) (by decide)) rfl rfl dX4_believe_99 ?_
          refine lv_icmp_ge (tgt := 133) C0.1 C0.2.1 dX4_believe_100 (by decide) (fun c24 => ?_) (fun c24 => ?_)
          · rw [if_pos c24] at h
            exact wX4_believe_133 C0 G0 hJ z σ _ h hW (lv_sub hl [] rfl)
          · rw [if_neg c24] at h
            refine lv_aload_n C0.1 C0.2.1 dX4_believe_103 rfl (lv_at hl 0 rfl) ?_
            refine x_get (v := .ref (aD G (k0 + 2))) C0 G0 hW (cX_X4 hk_k0) (kX_lt hk_k0 (by decide)) rfl 1 (by decide) inX4_believe_X4 lkX4_believe_15 rfl dX4_believe_104 ?_
            refine lv_aload_n C0.1 C0.2.1 dX4_believe_107 rfl (lv_at hl 0 rfl) ?_
            refine x_get (v := .int (σ.1 k0 5)) C0 G0 hW (cX_X4 hk_k0) (kX_lt hk_k0 (by decide)) rfl 5 (by decide) inX4_believe_X4 lkX4_believe_38 rfl dX4_believe_108 ?_
            refine lv_iload_n C0.1 C0.2.1 dX4_believe_111 rfl (lv_at hl 1 rfl) ?_
            obtain ⟨g25, h⟩ := gd_some h
            refine x_iast C0 G0 hJ hW (fun f g => (cX_I2 (kSX4_2 hk_k0))) (kX_lt (kSX4_2 hk_k0) (by decide)) g25 dX4_believe_112 (fun H locs hW => ?_)
            obtain ⟨s26, es26, h⟩ := lt_some h
            rw [es26] at hW
            refine lv_aload_n C0.1 C0.2.1 dX4_believe_113 rfl (lv_at hl 0 rfl) ?_
            refine x_get (v := .ref (aD G (k0 + 3))) C0 G0 hW (cX_X4 hk_k0) (kX_lt hk_k0 (by decide)) rfl 2 (by decide) inX4_believe_X4 lkX4_believe_19 rfl dX4_believe_114 ?_
            refine lv_aload_n C0.1 C0.2.1 dX4_believe_117 rfl (lv_at hl 0 rfl) ?_
            refine x_get (v := .int (s26.1 k0 5)) C0 G0 hW (cX_X4 hk_k0) (kX_lt hk_k0 (by decide)) rfl 5 (by decide) inX4_believe_X4 lkX4_believe_38 rfl dX4_believe_118 ?_
            refine lv_iload_n C0.1 C0.2.1 dX4_believe_121 rfl (lv_at hl 2 rfl) ?_
            obtain ⟨g27, h⟩ := gd_some h
            refine x_iast C0 G0 hJ hW (fun f g => (cX_I2 (kSX4_3 hk_k0))) (kX_lt (kSX4_3 hk_k0) (by decide)) g27 dX4_believe_122 (fun H locs hW => ?_)
            obtain ⟨s28, es28, h⟩ := lt_some h
            rw [es28] at hW
            refine lv_aload_n C0.1 C0.2.1 dX4_believe_123 rfl (lv_at hl 0 rfl) ?_
            refine lv_dup C0.1 C0.2.1 dX4_believe_124 rfl ?_
            refine x_get (v := .int (s28.1 k0 5)) C0 G0 hW (cX_X4 hk_k0) (kX_lt hk_k0 (by decide)) rfl 5 (by decide) inX4_believe_X4 lkX4_believe_38 rfl dX4_believe_125 ?_
            refine lv_iconst (v := (1 : Int32)) C0.1 C0.2.1 dX4_believe_128 (by decide) ?_
            refine lv_iadd C0.1 C0.2.1 dX4_believe_129 ?_
            refine x_putI (v := ((s28.1 k0 5) + (1 : Int32))) C0 G0 hJ hW (cX_X4 hk_k0) (kX_lt hk_k0 (by decide)) rfl 5 (by decide) inX4_believe_X4 lkX4_believe_38 tyX4 tyX4_ok nmX4 rfl rfl rfl (Nat.le_of_ble_eq_true rfl) (hu_X4_5 hk_k0) dX4_believe_130 (fun H locs hW => ?_)
            obtain ⟨s29, es29, h⟩ := lt_some h
            rw [es29] at hW
            exact wX4_believe_133 C0 G0 hJ z s29 _ h hW (lv_sub hl [] rfl)
    · rw [if_neg c21] at h
      refine lv_iload C0.1 C0.2.1 dX4_believe_13 (lv_at hl 4 rfl) ?_
      refine lv_bipush (v := (10 : Int32)) C0.1 C0.2.1 dX4_believe_15 (by decide) ?_
      refine lv_icmp_ne (tgt := 36) C0.1 C0.2.1 dX4_believe_17 (by decide) (fun c30 => ?_) (fun c30 => ?_)
      · rw [if_neg c30] at h
        refine lv_aload_n C0.1 C0.2.1 dX4_believe_36 rfl (lv_at hl 0 rfl) ?_
        refine x_get (v := .ref (aD G (k0 + 1))) C0 G0 hW (cX_X4 hk_k0) (kX_lt hk_k0 (by decide)) rfl 0 (by decide) inX4_believe_X4 lkX4_believe_9 rfl dX4_believe_37 ?_
        refine lv_iload C0.1 C0.2.1 dX4_believe_40 (lv_at hl 4 rfl) ?_
        refine lv_dup2_11 C0.1 C0.2.1 dX4_believe_42 rfl rfl ?_
        obtain ⟨g31, h⟩ := gd_some h
        refine x_lald C0 G0 hW (cX_J11 (kSX4_1 hk_k0)) (kX_lt (kSX4_1 hk_k0) (by decide)) g31 dX4_believe_43 ?_
        refine lv_iload C0.1 C0.2.1 dX4_believe_44 (lv_at hl 4 rfl) ?_
        refine lv_iload_n C0.1 C0.2.1 dX4_believe_46 rfl (lv_at hl 1 rfl) ?_
        refine lv_iload_n C0.1 C0.2.1 dX4_believe_47 rfl (lv_at hl 2 rfl) ?_
        obtain ⟨u32, hu32, h⟩ := bd_some h
        refine x_ki (r := u32) (x_runSN (As := [.int v4, .int v1, .int v2]) (rest := [.long (σ.2 (k0 + 1) (v4).toNatClampNeg), .int v4, .ref (aD G (k0 + 1))]) C0 G0 hW (cX8_isWithin_met l hJ z σ v4 v1 v2 _ hu32) gX4_believe_X8_isWithin_n86 rfl rfl rfl (by decide +kernel) siX4_believe_X8_isWithin ssX4_believe_X8_isWithin hdsX8_isWithin ⟨Nat.le_of_ble_eq_true rfl, Nat.le_of_ble_eq_true rfl⟩ rfl rfl hl (Nat.le_of_ble_eq_true rfl) dX4_believe_48 ⟨Nat.le_refl 0, Nat.le_refl 0⟩) hW (fun H locs hW => ?_)
        refine lv_if_eq (tgt := 59) C0.1 C0.2.1 dX4_believe_51 (by decide) (fun c33 => ?_) (fun c33 => ?_)
        · rw [if_pos c33] at h
          refine lv_bipush (v := (10 : Int32)) C0.1 C0.2.1 dX4_believe_59 (by decide) ?_
          refine lv_iload_n C0.1 C0.2.1 dX4_believe_61 rfl (lv_at hl 3 rfl) ?_
          refine lv_isub C0.1 C0.2.1 dX4_believe_62 ?_
          refine lv_i2l (v := ((((10 : Int32) - v3)).toInt64)) C0.1 C0.2.1 dX4_believe_63 rfl ?_
          exact wX4_believe_64 C0 G0 hJ z (fX4_believe_3 z k0 v1 v2 v3 n) σ k0 v1 v2 v3 v4 ((((10 : Int32) - v3)).toInt64) (σ.2 (k0 + 1) (v4).toNatClampNeg) v4 _ h (by exact hr3) hk_k0 hW (lv_sub hl [0, 1, 2, 3, 4] rfl)
        · rw [if_neg c33] at h
          refine lv_iload_n C0.1 C0.2.1 dX4_believe_54 rfl (lv_at hl 3 rfl) ?_
          refine lv_i2l (v := ((v3).toInt64)) C0.1 C0.2.1 dX4_believe_55 rfl ?_
          refine lv_goto (tgt := 64) C0.1 C0.2.1 dX4_believe_56 (by decide) ?_
          exact wX4_believe_64 C0 G0 hJ z (fX4_believe_3 z k0 v1 v2 v3 n) σ k0 v1 v2 v3 v4 ((v3).toInt64) (σ.2 (k0 + 1) (v4).toNatClampNeg) v4 _ h (by exact hr3) hk_k0 hW (lv_sub hl [0, 1, 2, 3, 4] rfl)
      · rw [if_pos c30] at h
        refine lv_aload_n C0.1 C0.2.1 dX4_believe_20 rfl (lv_at hl 0 rfl) ?_
        refine x_get (v := .ref (aD G (k0 + 1))) C0 G0 hW (cX_X4 hk_k0) (kX_lt hk_k0 (by decide)) rfl 0 (by decide) inX4_believe_X4 lkX4_believe_9 rfl dX4_believe_21 ?_
        refine lv_iload C0.1 C0.2.1 dX4_believe_24 (lv_at hl 4 rfl) ?_
        refine lv_dup2_11 C0.1 C0.2.1 dX4_believe_26 rfl rfl ?_
        obtain ⟨g34, h⟩ := gd_some h
        refine x_lald C0 G0 hW (cX_J11 (kSX4_1 hk_k0)) (kX_lt (kSX4_1 hk_k0) (by decide)) g34 dX4_believe_27 ?_
        refine lv_ldc2 (v := (5 : Int64)) C0.1 C0.2.1 C0.2.2.2.2.1 (C0.2.2.2.1 _ kcX4_believe_84) dX4_believe_28 ?_
        refine lv_lmul C0.1 C0.2.1 dX4_believe_31 ?_
        obtain ⟨g35, h⟩ := gd_some h
        refine x_last C0 G0 hJ hW (fun f g => (cX_J11 (kSX4_1 hk_k0))) (kX_lt (kSX4_1 hk_k0) (by decide)) g35 dX4_believe_32 (fun H locs hW => ?_)
        obtain ⟨s36, es36, h⟩ := lt_some h
        rw [es36] at hW
        refine lv_goto (tgt := 66) C0.1 C0.2.1 dX4_believe_33 (by decide) ?_
        exact wX4_believe_66 C0 G0 hJ z (fX4_believe_3 z k0 v1 v2 v3 n) s36 k0 v1 v2 v3 v4 _ h (by exact hr3) hk_k0 hW (lv_sub hl [0, 1, 2, 3, 4] rfl)
set_option maxHeartbeats 4000000 in
set_option maxRecDepth 100000 in
theorem wX4_believe (C0 : Cx p s m args meth c cX4_believe RX4 5 none wsX4_believe) (G0 : Gx G s) (hJ : gJ 80 G) (z : Nat) (σ : ST) (k0 : Nat) (v1 : Int32) (v2 : Int32) (v3 : Int32) (res : ST) (h : fX4_believe z σ k0 v1 v2 v3 = some res)  {H : Heap} {locs : List Loc} {ls : Array Slot} (hW : Wd cellX 80 G s.heap σ H locs) (hl : lv_has ls 5 [(0, .ref (aD G k0)), (1, .int v1), (2, .int v2), (3, .int v3)]) : W p l e rX4_believe s m args below meth c H locs 0 0 (MQ below (XQv cellX 80 G res) args s 0 0 (gA 80 G)) (F0 m 0 ls []) := by
  unfold fX4_believe at h
  obtain ⟨hk_k0, h⟩ := gd_some h
  have hk_k0 : kX k0 = 3 := eq_of_beq hk_k0
  refine lv_iconst (v := (0 : Int32)) C0.1 C0.2.1 dX4_believe_0 (by decide) ?_
  refine lv_istore (lv' := [(4, .int (0 : Int32)), (0, .ref (aD G k0)), (1, .int v1), (2, .int v2), (3, .int v3)]) C0.1 C0.2.1 dX4_believe_1 hl (by decide) rfl (fun ls hl => ?_)
  exact wX4_believe_3 C0 G0 hJ z k0 v1 v2 v3 z σ (0 : Int32) _ h hk_k0 hW (lv_sub hl [1, 2, 3, 4, 0] rfl)
theorem cX4_believe_met (l : Launch) {G : GT} (hJ : gJ 80 G) (z : Nat) (σ : ST) (k0 : Nat) (v1 : Int32) (v2 : Int32) (v3 : Int32) (res : ST) (h : fX4_believe z σ k0 v1 v2 v3 = some res) : Met l yX4_believe wsX4_believe rX4_believe (XPc cellX 80 G σ [.ref (aD G k0), .int v1, .int v2, .int v3]) (XQv cellX 80 G res) 0 0 (gA 80 G) :=
  x_met (ret := none) (maxL := 5) (by decide) rfl (Nat.le_of_ble_eq_true rfl) (fun p e s m args below meth c H locs ls C0 G0 hW hl => wX4_believe C0 G0 hJ z σ k0 v1 v2 v3 res h hW hl)
end
/-! X4_cellBits -/
def rX4_cellBits : Room := { frames := 1, cells := 0, slots := 0, locals := 21 }
theorem hdvX4_cellBits : yX4_cellBits.cls = RX4 ∧ yX4_cellBits.cls ≠ "java/lang/invoke/MethodHandle" ∧ yX4_cellBits.cls ≠ "java/lang/invoke/VarHandle" ∧ (parseMethodDescriptor yX4_cellBits.desc).map (fun d => d.parameters.length) = some 0 := by decide +kernel
def fX4_cellBits_26 (z : Nat) (r4 : Int32 → Int32 → Option Int32) (σ : ST) (k0 : Nat) (v1 : Int32) (v2 : Int32) : Option Int32 := r4 v1 (v2 + 1)
def fX4_cellBits_4 (z : Nat) (σ : ST) (k0 : Nat) : Nat → Int32 → Int32 → Option Int32
  | 0 => fun _ _ => none
  | n + 1 => fun v1 v2 => (if (10 : Int32) ≤ v2 then some v1 else bd (fX4_of z σ k0 v2) (fun u22 => (if u22 ≤ (0 : Int64) then fX4_cellBits_26 z (fX4_cellBits_4 z σ k0 n) σ k0 v1 v2 else fX4_cellBits_26 z (fX4_cellBits_4 z σ k0 n) σ k0 (v1 ||| ((1 : Int32) <<< (v2 &&& 31))) v2)))
def fX4_cellBits (z : Nat) (σ : ST) (k0 : Nat) : Option Int32 := gd (kX k0 == 3) (fX4_cellBits_4 z σ k0 z (0 : Int32) (0 : Int32))
section
variable {p : Program} {l : Launch} {e : Env} {s : State} {m : MethodId} {args : Array Value} {below : List Frame} {meth : Method} {c : Code} {G : GT}
set_option maxHeartbeats 4000000 in
set_option maxRecDepth 100000 in
theorem wX4_cellBits_26 (C0 : Cx p s m args meth c cX4_cellBits RX4 3 (some .int) wsX4_cellBits) (G0 : Gx G s) (hJ : gJ 80 G) (z : Nat) (r4 : Int32 → Int32 → Option Int32) (σ : ST) (k0 : Nat) (v1 : Int32) (v2 : Int32) (res : Int32) (h : fX4_cellBits_26 z r4 σ k0 v1 v2 = some res) (hr4 : ∀ (v1 : Int32) (v2 : Int32), r4 v1 v2 = some res → ∀ (H : Heap) (locs : List Loc) (ls : Array Slot), Wd cellX 80 G s.heap σ H locs → lv_has ls 3 [(0, .ref (aD G k0)), (1, .int v1), (2, .int v2)] → W p l e rX4_cellBits s m args below meth c H locs 0 0 (MQ below (XQi cellX 80 G res σ) args s 0 0 (gA 80 G)) (F0 m 4 ls [])) (hk_k0 : kX k0 = 3) {H : Heap} {locs : List Loc} {ls : Array Slot} (hW : Wd cellX 80 G s.heap σ H locs) (hl : lv_has ls 3 [(0, .ref (aD G k0)), (1, .int v1), (2, .int v2)]) : W p l e rX4_cellBits s m args below meth c H locs 0 0 (MQ below (XQi cellX 80 G res σ) args s 0 0 (gA 80 G)) (F0 m 26 ls []) := by
  unfold fX4_cellBits_26 at h
  refine lv_iinc (v := (v2 + 1)) (lv' := [(2, .int (v2 + 1)), (0, .ref (aD G k0)), (1, .int v1)]) C0.1 C0.2.1 dX4_cellBits_26 hl (k := 2) rfl rfl (by decide) rfl (fun ls hl => ?_)
  refine lv_goto (tgt := 4) C0.1 C0.2.1 dX4_cellBits_29 (by decide) ?_
  exact hr4 v1 (v2 + 1) h _ _ _ hW (lv_sub hl [1, 2, 0] rfl)
set_option maxHeartbeats 4000000 in
set_option maxRecDepth 100000 in
theorem wX4_cellBits_4 (C0 : Cx p s m args meth c cX4_cellBits RX4 3 (some .int) wsX4_cellBits) (G0 : Gx G s) (hJ : gJ 80 G) (z : Nat) (σ : ST) (k0 : Nat) (n : Nat) (v1 : Int32) (v2 : Int32) (res : Int32) (h : fX4_cellBits_4 z σ k0 n v1 v2 = some res) (hk_k0 : kX k0 = 3) {H : Heap} {locs : List Loc} {ls : Array Slot} (hW : Wd cellX 80 G s.heap σ H locs) (hl : lv_has ls 3 [(0, .ref (aD G k0)), (1, .int v1), (2, .int v2)]) : W p l e rX4_cellBits s m args below meth c H locs 0 0 (MQ below (XQi cellX 80 G res σ) args s 0 0 (gA 80 G)) (F0 m 4 ls []) := by
  induction n generalizing v1 v2 H locs ls with
  | zero => cases h
  | succ n ih =>
    have hr4 : ∀ (v1 : Int32) (v2 : Int32), fX4_cellBits_4 z σ k0 n v1 v2 = some res → ∀ (H : Heap) (locs : List Loc) (ls : Array Slot), Wd cellX 80 G s.heap σ H locs → lv_has ls 3 [(0, .ref (aD G k0)), (1, .int v1), (2, .int v2)] → W p l e rX4_cellBits s m args below meth c H locs 0 0 (MQ below (XQi cellX 80 G res σ) args s 0 0 (gA 80 G)) (F0 m 4 ls []) := fun v1 v2 h H locs ls hW hl => ih v1 v2 h hW hl
    clear ih
    unfold fX4_cellBits_4 at h
    refine lv_iload_n C0.1 C0.2.1 dX4_cellBits_4 rfl (lv_at hl 2 rfl) ?_
    refine lv_bipush (v := (10 : Int32)) C0.1 C0.2.1 dX4_cellBits_5 (by decide) ?_
    refine lv_icmp_ge (tgt := 32) C0.1 C0.2.1 dX4_cellBits_7 (by decide) (fun c21 => ?_) (fun c21 => ?_)
    · rw [if_pos c21] at h
      refine lv_iload_n C0.1 C0.2.1 dX4_cellBits_32 rfl (lv_at hl 1 rfl) ?_
      cases h
      exact x_iret C0 hW dX4_cellBits_33
    · rw [if_neg c21] at h
      refine lv_aload_n C0.1 C0.2.1 dX4_cellBits_10 rfl (lv_at hl 0 rfl) ?_
      refine lv_iload_n C0.1 C0.2.1 dX4_cellBits_11 rfl (lv_at hl 2 rfl) ?_
      obtain ⟨u22, hu22, h⟩ := bd_some h
      refine x_kl (r := u22) (x_runV (As := [.int v2]) (rest := []) C0 G0 hW (cX4_of_met l hJ z σ k0 v2 _ hu22) (cwV 1 C0.2.2.2.1 gX4_cellBits_X4_of rfl rfl rfl hdvX4_of ⟨Nat.le_of_ble_eq_true rfl, Nat.le_of_ble_eq_true rfl⟩) (cX_X4 hk_k0) (kX_lt hk_k0 (by decide)) rfl rfl rfl hl (Nat.le_of_ble_eq_true rfl) dX4_cellBits_12 ⟨Nat.le_refl 0, Nat.le_refl 0⟩) hW (fun H locs hW => ?_)
      refine lv_lconst (v := (0 : Int64)) C0.1 C0.2.1 dX4_cellBits_15 (by decide) ?_
      refine x_lc_le (tgt := 26) C0 dX4_cellBits_16 dX4_cellBits_17 (by decide) (fun c23 => ?_) (fun c23 => ?_)
      · rw [if_pos c23] at h
        exact wX4_cellBits_26 C0 G0 hJ z (fX4_cellBits_4 z σ k0 n) σ k0 v1 v2 _ h (by exact hr4) hk_k0 hW (lv_sub hl [0, 1, 2] rfl)
      · rw [if_neg c23] at h
        refine lv_iload_n C0.1 C0.2.1 dX4_cellBits_20 rfl (lv_at hl 1 rfl) ?_
        refine lv_iconst (v := (1 : Int32)) C0.1 C0.2.1 dX4_cellBits_21 (by decide) ?_
        refine lv_iload_n C0.1 C0.2.1 dX4_cellBits_22 rfl (lv_at hl 2 rfl) ?_
        refine lv_ishl C0.1 C0.2.1 dX4_cellBits_23 ?_
        refine lv_ior C0.1 C0.2.1 dX4_cellBits_24 ?_
        refine lv_istore_n (lv' := [(1, .int (v1 ||| ((1 : Int32) <<< (v2 &&& 31)))), (0, .ref (aD G k0)), (2, .int v2)]) C0.1 C0.2.1 dX4_cellBits_25 rfl hl (by decide) rfl (fun ls hl => ?_)
        exact wX4_cellBits_26 C0 G0 hJ z (fX4_cellBits_4 z σ k0 n) σ k0 (v1 ||| ((1 : Int32) <<< (v2 &&& 31))) v2 _ h (by exact hr4) hk_k0 hW (lv_sub hl [1, 0, 2] rfl)
set_option maxHeartbeats 4000000 in
set_option maxRecDepth 100000 in
theorem wX4_cellBits (C0 : Cx p s m args meth c cX4_cellBits RX4 3 (some .int) wsX4_cellBits) (G0 : Gx G s) (hJ : gJ 80 G) (z : Nat) (σ : ST) (k0 : Nat) (res : Int32) (h : fX4_cellBits z σ k0 = some res)  {H : Heap} {locs : List Loc} {ls : Array Slot} (hW : Wd cellX 80 G s.heap σ H locs) (hl : lv_has ls 3 [(0, .ref (aD G k0))]) : W p l e rX4_cellBits s m args below meth c H locs 0 0 (MQ below (XQi cellX 80 G res σ) args s 0 0 (gA 80 G)) (F0 m 0 ls []) := by
  unfold fX4_cellBits at h
  obtain ⟨hk_k0, h⟩ := gd_some h
  have hk_k0 : kX k0 = 3 := eq_of_beq hk_k0
  refine lv_iconst (v := (0 : Int32)) C0.1 C0.2.1 dX4_cellBits_0 (by decide) ?_
  refine lv_istore_n (lv' := [(1, .int (0 : Int32)), (0, .ref (aD G k0))]) C0.1 C0.2.1 dX4_cellBits_1 rfl hl (by decide) rfl (fun ls hl => ?_)
  refine lv_iconst (v := (0 : Int32)) C0.1 C0.2.1 dX4_cellBits_2 (by decide) ?_
  refine lv_istore_n (lv' := [(2, .int (0 : Int32)), (1, .int (0 : Int32)), (0, .ref (aD G k0))]) C0.1 C0.2.1 dX4_cellBits_3 rfl hl (by decide) rfl (fun ls hl => ?_)
  exact wX4_cellBits_4 C0 G0 hJ z σ k0 z (0 : Int32) (0 : Int32) _ h hk_k0 hW (lv_sub hl [2, 1, 0] rfl)
theorem cX4_cellBits_met (l : Launch) {G : GT} (hJ : gJ 80 G) (z : Nat) (σ : ST) (k0 : Nat) (res : Int32) (h : fX4_cellBits z σ k0 = some res) : Met l yX4_cellBits wsX4_cellBits rX4_cellBits (XPc cellX 80 G σ [.ref (aD G k0)]) (XQi cellX 80 G res σ) 0 0 (gA 80 G) :=
  x_met (ret := (some .int)) (maxL := 3) (by decide) rfl (Nat.le_of_ble_eq_true rfl) (fun p e s m args below meth c H locs ls C0 G0 hW hl => wX4_cellBits C0 G0 hJ z σ k0 res h hW hl)
end
/-! X5_give -/
def rX5_give : Room := { frames := 2, cells := 0, slots := 0, locals := 43 }
theorem hdvX5_give : yX5_give.cls = RX5 ∧ yX5_give.cls ≠ "java/lang/invoke/MethodHandle" ∧ yX5_give.cls ≠ "java/lang/invoke/VarHandle" ∧ (parseMethodDescriptor yX5_give.desc).map (fun d => d.parameters.length) = some 2 := by decide +kernel
def fX5_give_15 (z : Nat) (σ : ST) : Option ST := some σ
def fX5_give (z : Nat) (σ : ST) (k0 : Nat) (v1 : Int32) (k2 : Nat) : Option ST := gd (kX k0 == 4) (gd (kX k2 == 3) (bd (fX5_at z σ k0 v1) (fun u21 => nl (u21) (fX5_give_15 z σ) (fun k22 => gd (kX k22 == 3) (bd (fX4_copy z σ k2 k22) (fun u23 => fX5_give_15 z u23))))))
section
variable {p : Program} {l : Launch} {e : Env} {s : State} {m : MethodId} {args : Array Value} {below : List Frame} {meth : Method} {c : Code} {G : GT}
set_option maxHeartbeats 4000000 in
set_option maxRecDepth 100000 in
theorem wX5_give_15 (C0 : Cx p s m args meth c cX5_give RX5 4 none wsX5_give) (G0 : Gx G s) (hJ : gJ 80 G) (z : Nat) (σ : ST) (res : ST) (h : fX5_give_15 z σ = some res)  {H : Heap} {locs : List Loc} {ls : Array Slot} (hW : Wd cellX 80 G s.heap σ H locs) (hl : lv_has ls 4 []) : W p l e rX5_give s m args below meth c H locs 0 0 (MQ below (XQv cellX 80 G res) args s 0 0 (gA 80 G)) (F0 m 15 ls []) := by
  unfold fX5_give_15 at h
  cases h
  exact x_vret C0 hW dX5_give_15
set_option maxHeartbeats 4000000 in
set_option maxRecDepth 100000 in
theorem wX5_give (C0 : Cx p s m args meth c cX5_give RX5 4 none wsX5_give) (G0 : Gx G s) (hJ : gJ 80 G) (z : Nat) (σ : ST) (k0 : Nat) (v1 : Int32) (k2 : Nat) (res : ST) (h : fX5_give z σ k0 v1 k2 = some res)  {H : Heap} {locs : List Loc} {ls : Array Slot} (hW : Wd cellX 80 G s.heap σ H locs) (hl : lv_has ls 4 [(0, .ref (aD G k0)), (1, .int v1), (2, .ref (aD G k2))]) : W p l e rX5_give s m args below meth c H locs 0 0 (MQ below (XQv cellX 80 G res) args s 0 0 (gA 80 G)) (F0 m 0 ls []) := by
  unfold fX5_give at h
  obtain ⟨hk_k0, h⟩ := gd_some h
  have hk_k0 : kX k0 = 4 := eq_of_beq hk_k0
  obtain ⟨hk_k2, h⟩ := gd_some h
  have hk_k2 : kX k2 = 3 := eq_of_beq hk_k2
  refine lv_aload_n C0.1 C0.2.1 dX5_give_0 rfl (lv_at hl 0 rfl) ?_
  refine lv_iload_n C0.1 C0.2.1 dX5_give_1 rfl (lv_at hl 1 rfl) ?_
  obtain ⟨u21, hu21, h⟩ := bd_some h
  refine x_kr (r := u21) (x_runV (As := [.int v1]) (rest := []) C0 G0 hW (cX5_at_met l hJ z σ k0 v1 _ hu21) (cwV 1 C0.2.2.2.1 gX5_give_X5_at rfl rfl rfl hdvX5_at ⟨Nat.le_of_ble_eq_true rfl, Nat.le_of_ble_eq_true rfl⟩) (cX_X5 hk_k0) (kX_lt hk_k0 (by decide)) rfl rfl rfl hl (Nat.le_of_ble_eq_true rfl) dX5_give_2 ⟨Nat.le_refl 0, Nat.le_refl 0⟩) hW (fun H locs hW => ?_)
  refine x_astore_n (lv' := [(3, va_rf ((u21).map (aD G))), (0, .ref (aD G k0)), (1, .int v1), (2, .ref (aD G k2))]) C0 dX5_give_5 rfl hl (by decide) rfl (fun ls hl => ?_)
  refine x_aload_n C0 dX5_give_6 rfl (lv_at hl 0 rfl) ?_
  refine x_ifnull (tgt := 15) C0 dX5_give_7 (by decide) (fun hn => ?_) (fun k22 hn => ?_)
  · subst hn
    have hl := lv_sub (l' := [(0, .ref (aD G k0)), (1, .int v1), (2, .ref (aD G k2))]) hl [1, 2, 3] rfl
    replace h := nl_none h
    exact wX5_give_15 C0 G0 hJ z σ _ h hW (lv_sub hl [] rfl)
  · subst hn
    have hl : lv_has ls 4 [(3, .ref (aD G k22)), (0, .ref (aD G k0)), (1, .int v1), (2, .ref (aD G k2))] := hl
    replace h := nl_k h
    obtain ⟨hk_k22, h⟩ := gd_some h
    have hk_k22 : kX k22 = 3 := eq_of_beq hk_k22
    refine lv_aload_n C0.1 C0.2.1 dX5_give_10 rfl (lv_at hl 3 rfl) ?_
    refine lv_aload_n C0.1 C0.2.1 dX5_give_11 rfl (lv_at hl 0 rfl) ?_
    obtain ⟨u23, hu23, h⟩ := bd_some h
    refine x_kv (x_runV (As := [.ref (aD G k22)]) (rest := []) C0 G0 hW (cX4_copy_met l hJ z σ k2 k22 _ hu23) (cwV 1 C0.2.2.2.1 gX5_give_X4_copy rfl rfl rfl hdvX4_copy ⟨Nat.le_of_ble_eq_true rfl, Nat.le_of_ble_eq_true rfl⟩) (cX_X4 hk_k2) (kX_lt hk_k2 (by decide)) rfl rfl rfl hl (Nat.le_of_ble_eq_true rfl) dX5_give_12 ⟨Nat.le_refl 0, Nat.le_refl 0⟩) hW (fun H locs hW => ?_)
    exact wX5_give_15 C0 G0 hJ z u23 _ h hW (lv_sub hl [] rfl)
theorem cX5_give_met (l : Launch) {G : GT} (hJ : gJ 80 G) (z : Nat) (σ : ST) (k0 : Nat) (v1 : Int32) (k2 : Nat) (res : ST) (h : fX5_give z σ k0 v1 k2 = some res) : Met l yX5_give wsX5_give rX5_give (XPc cellX 80 G σ [.ref (aD G k0), .int v1, .ref (aD G k2)]) (XQv cellX 80 G res) 0 0 (gA 80 G) :=
  x_met (ret := none) (maxL := 4) (by decide) rfl (Nat.le_of_ble_eq_true rfl) (fun p e s m args below meth c H locs ls C0 G0 hW hl => wX5_give C0 G0 hJ z σ k0 v1 k2 res h hW hl)
end
/-! X6_add -/
def rX6_add : Room := { frames := 0, cells := 0, slots := 0, locals := 0 }
theorem hdvX6_add : yX6_add.cls = RX6 ∧ yX6_add.cls ≠ "java/lang/invoke/MethodHandle" ∧ yX6_add.cls ≠ "java/lang/invoke/VarHandle" ∧ (parseMethodDescriptor yX6_add.desc).map (fun d => d.parameters.length) = some 1 := by decide +kernel
theorem inX6_add_X6 : ∀ w ∈ u_ws RX6 TX6 6, w ∈ wsX6_add := by decide +kernel
theorem lkX6_add_15 : Cond.fieldLink RX6 15 (TX6 1).1 (TX6 1).2.1 (TX6 1).2.2.1 ∈ wsX6_add := by decide +kernel
theorem lkX6_add_11 : Cond.fieldLink RX6 11 (TX6 0).1 (TX6 0).2.1 (TX6 0).2.2.1 ∈ wsX6_add := by decide +kernel
def fX6_add_39 (z : Nat) (σ : ST) : Option (Int32 × ST) := some ((σ.1 1 1), σ)
def fX6_add (z : Nat) (σ : ST) (v1 : Int32) : Option (Int32 × ST) := (if (σ.1 1 1) < 0 then fX6_add_39 z σ else (if (40 : Int32) ≤ (σ.1 1 1) then fX6_add_39 z σ else gd (inb (σ.1 1 1) 40) ( lt (pI σ 2 ((σ.1 1 1)).toNatClampNeg v1) (fun s24 => lt (pI s24 1 1 ((s24.1 1 1) + (1 : Int32))) (fun s25 => fX6_add_39 z s25)))))
section
variable {p : Program} {l : Launch} {e : Env} {s : State} {m : MethodId} {args : Array Value} {below : List Frame} {meth : Method} {c : Code} {G : GT}
set_option maxHeartbeats 4000000 in
set_option maxRecDepth 100000 in
theorem wX6_add_39 (C0 : Cx p s m args meth c cX6_add RX6 2 (some .int) wsX6_add) (G0 : Gx G s) (hJ : gJ 80 G) (z : Nat) (σ : ST) (res : (Int32 × ST)) (h : fX6_add_39 z σ = some res)  {H : Heap} {locs : List Loc} {ls : Array Slot} (hW : Wd cellX 80 G s.heap σ H locs) (hl : lv_has ls 2 [(0, .ref (aD G 1))]) : W p l e rX6_add s m args below meth c H locs 0 0 (MQ below (XQi cellX 80 G res.1 res.2) args s 0 0 (gA 80 G)) (F0 m 39 ls []) := by
  unfold fX6_add_39 at h
  refine lv_aload_n C0.1 C0.2.1 dX6_add_39 rfl (lv_at hl 0 rfl) ?_
  refine x_get (v := .int (σ.1 1 1)) C0 G0 hW (cX_X6 rfl) (by decide) rfl 1 (by decide) inX6_add_X6 lkX6_add_15 rfl dX6_add_40 ?_
  cases h
  exact x_iret C0 hW dX6_add_43
set_option maxHeartbeats 4000000 in
set_option maxRecDepth 100000 in
theorem wX6_add (C0 : Cx p s m args meth c cX6_add RX6 2 (some .int) wsX6_add) (G0 : Gx G s) (hJ : gJ 80 G) (z : Nat) (σ : ST) (v1 : Int32) (res : (Int32 × ST)) (h : fX6_add z σ v1 = some res)  {H : Heap} {locs : List Loc} {ls : Array Slot} (hW : Wd cellX 80 G s.heap σ H locs) (hl : lv_has ls 2 [(0, .ref (aD G 1)), (1, .int v1)]) : W p l e rX6_add s m args below meth c H locs 0 0 (MQ below (XQi cellX 80 G res.1 res.2) args s 0 0 (gA 80 G)) (F0 m 0 ls []) := by
  unfold fX6_add at h
  refine lv_aload_n C0.1 C0.2.1 dX6_add_0 rfl (lv_at hl 0 rfl) ?_
  refine x_get (v := .int (σ.1 1 1)) C0 G0 hW (cX_X6 rfl) (by decide) rfl 1 (by decide) inX6_add_X6 lkX6_add_15 rfl dX6_add_1 ?_
  refine lv_if_lt (tgt := 39) C0.1 C0.2.1 dX6_add_4 (by decide) (fun c21 => ?_) (fun c21 => ?_)
  · rw [if_pos c21] at h
    exact wX6_add_39 C0 G0 hJ z σ _ h hW (lv_sub hl [0] rfl)
  · rw [if_neg c21] at h
    refine lv_aload_n C0.1 C0.2.1 dX6_add_7 rfl (lv_at hl 0 rfl) ?_
    refine x_get (v := .int (σ.1 1 1)) C0 G0 hW (cX_X6 rfl) (by decide) rfl 1 (by decide) inX6_add_X6 lkX6_add_15 rfl dX6_add_8 ?_
    refine lv_aload_n C0.1 C0.2.1 dX6_add_11 rfl (lv_at hl 0 rfl) ?_
    refine x_get (v := .ref (aD G 2)) C0 G0 hW (cX_X6 rfl) (by decide) rfl 0 (by decide) inX6_add_X6 lkX6_add_11 rfl dX6_add_12 ?_
    refine x_alen (v := (40 : Int32)) C0 G0 hW 0 (cX_I40 rfl) (by decide) rfl rfl dX6_add_15 ?_
    refine lv_icmp_ge (tgt := 39) C0.1 C0.2.1 dX6_add_16 (by decide) (fun c22 => ?_) (fun c22 => ?_)
    · rw [if_pos c22] at h
      exact wX6_add_39 C0 G0 hJ z σ _ h hW (lv_sub hl [0] rfl)
    · rw [if_neg c22] at h
      refine lv_aload_n C0.1 C0.2.1 dX6_add_19 rfl (lv_at hl 0 rfl) ?_
      refine x_get (v := .ref (aD G 2)) C0 G0 hW (cX_X6 rfl) (by decide) rfl 0 (by decide) inX6_add_X6 lkX6_add_11 rfl dX6_add_20 ?_
      refine lv_aload_n C0.1 C0.2.1 dX6_add_23 rfl (lv_at hl 0 rfl) ?_
      refine x_get (v := .int (σ.1 1 1)) C0 G0 hW (cX_X6 rfl) (by decide) rfl 1 (by decide) inX6_add_X6 lkX6_add_15 rfl dX6_add_24 ?_
      refine lv_iload_n C0.1 C0.2.1 dX6_add_27 rfl (lv_at hl 1 rfl) ?_
      obtain ⟨g23, h⟩ := gd_some h
      refine x_iast C0 G0 hJ hW (fun f g => (cX_I40 rfl)) (by decide) g23 dX6_add_28 (fun H locs hW => ?_)
      obtain ⟨s24, es24, h⟩ := lt_some h
      rw [es24] at hW
      refine lv_aload_n C0.1 C0.2.1 dX6_add_29 rfl (lv_at hl 0 rfl) ?_
      refine lv_dup C0.1 C0.2.1 dX6_add_30 rfl ?_
      refine x_get (v := .int (s24.1 1 1)) C0 G0 hW (cX_X6 rfl) (by decide) rfl 1 (by decide) inX6_add_X6 lkX6_add_15 rfl dX6_add_31 ?_
      refine lv_iconst (v := (1 : Int32)) C0.1 C0.2.1 dX6_add_34 (by decide) ?_
      refine lv_iadd C0.1 C0.2.1 dX6_add_35 ?_
      refine x_putI (v := ((s24.1 1 1) + (1 : Int32))) C0 G0 hJ hW (cX_X6 rfl) (by decide) rfl 1 (by decide) inX6_add_X6 lkX6_add_15 tyX6 tyX6_ok nmX6 rfl rfl rfl (Nat.le_of_ble_eq_true rfl) (hu_X6_1 rfl) dX6_add_36 (fun H locs hW => ?_)
      obtain ⟨s25, es25, h⟩ := lt_some h
      rw [es25] at hW
      exact wX6_add_39 C0 G0 hJ z s25 _ h hW (lv_sub hl [0] rfl)
theorem cX6_add_met (l : Launch) {G : GT} (hJ : gJ 80 G) (z : Nat) (σ : ST) (v1 : Int32) (res : (Int32 × ST)) (h : fX6_add z σ v1 = some res) : Met l yX6_add wsX6_add rX6_add (XPc cellX 80 G σ [.ref (aD G 1), .int v1]) (XQi cellX 80 G res.1 res.2) 0 0 (gA 80 G) :=
  x_met (ret := (some .int)) (maxL := 2) (by decide) rfl (Nat.le_of_ble_eq_true rfl) (fun p e s m args below meth c H locs ls C0 G0 hW hl => wX6_add C0 G0 hJ z σ v1 res h hW hl)
end
/-! X6_clear -/
def rX6_clear : Room := { frames := 0, cells := 0, slots := 0, locals := 0 }
theorem hdvX6_clear : yX6_clear.cls = RX6 ∧ yX6_clear.cls ≠ "java/lang/invoke/MethodHandle" ∧ yX6_clear.cls ≠ "java/lang/invoke/VarHandle" ∧ (parseMethodDescriptor yX6_clear.desc).map (fun d => d.parameters.length) = some 0 := by decide +kernel
theorem inX6_clear_X6 : ∀ w ∈ u_ws RX6 TX6 6, w ∈ wsX6_clear := by decide +kernel
theorem lkX6_clear_15 : Cond.fieldLink RX6 15 (TX6 1).1 (TX6 1).2.1 (TX6 1).2.2.1 ∈ wsX6_clear := by decide +kernel
def fX6_clear (z : Nat) (σ : ST) : Option (Int32 × ST) := lt (pI σ 1 1 (0 : Int32)) (fun s21 => some ((σ.1 1 1), s21))
section
variable {p : Program} {l : Launch} {e : Env} {s : State} {m : MethodId} {args : Array Value} {below : List Frame} {meth : Method} {c : Code} {G : GT}
set_option maxHeartbeats 4000000 in
set_option maxRecDepth 100000 in
theorem wX6_clear (C0 : Cx p s m args meth c cX6_clear RX6 2 (some .int) wsX6_clear) (G0 : Gx G s) (hJ : gJ 80 G) (z : Nat) (σ : ST) (res : (Int32 × ST)) (h : fX6_clear z σ = some res)  {H : Heap} {locs : List Loc} {ls : Array Slot} (hW : Wd cellX 80 G s.heap σ H locs) (hl : lv_has ls 2 [(0, .ref (aD G 1))]) : W p l e rX6_clear s m args below meth c H locs 0 0 (MQ below (XQi cellX 80 G res.1 res.2) args s 0 0 (gA 80 G)) (F0 m 0 ls []) := by
  unfold fX6_clear at h
  refine lv_aload_n C0.1 C0.2.1 dX6_clear_0 rfl (lv_at hl 0 rfl) ?_
  refine x_get (v := .int (σ.1 1 1)) C0 G0 hW (cX_X6 rfl) (by decide) rfl 1 (by decide) inX6_clear_X6 lkX6_clear_15 rfl dX6_clear_1 ?_
  refine lv_istore_n (lv' := [(1, .int (σ.1 1 1)), (0, .ref (aD G 1))]) C0.1 C0.2.1 dX6_clear_4 rfl hl (by decide) rfl (fun ls hl => ?_)
  refine lv_aload_n C0.1 C0.2.1 dX6_clear_5 rfl (lv_at hl 1 rfl) ?_
  refine lv_iconst (v := (0 : Int32)) C0.1 C0.2.1 dX6_clear_6 (by decide) ?_
  refine x_putI (v := (0 : Int32)) C0 G0 hJ hW (cX_X6 rfl) (by decide) rfl 1 (by decide) inX6_clear_X6 lkX6_clear_15 tyX6 tyX6_ok nmX6 rfl rfl rfl (Nat.le_of_ble_eq_true rfl) (hu_X6_1 rfl) dX6_clear_7 (fun H locs hW => ?_)
  obtain ⟨s21, es21, h⟩ := lt_some h
  rw [es21] at hW
  refine lv_iload_n C0.1 C0.2.1 dX6_clear_10 rfl (lv_at hl 0 rfl) ?_
  cases h
  exact x_iret C0 hW dX6_clear_11
theorem cX6_clear_met (l : Launch) {G : GT} (hJ : gJ 80 G) (z : Nat) (σ : ST)  (res : (Int32 × ST)) (h : fX6_clear z σ = some res) : Met l yX6_clear wsX6_clear rX6_clear (XPc cellX 80 G σ [.ref (aD G 1)]) (XQi cellX 80 G res.1 res.2) 0 0 (gA 80 G) :=
  x_met (ret := (some .int)) (maxL := 2) (by decide) rfl (Nat.le_of_ble_eq_true rfl) (fun p e s m args below meth c H locs ls C0 G0 hW hl => wX6_clear C0 G0 hJ z σ res h hW hl)
end
/-! X6_letterAt -/
def rX6_letterAt : Room := { frames := 0, cells := 0, slots := 0, locals := 0 }
theorem hdvX6_letterAt : yX6_letterAt.cls = RX6 ∧ yX6_letterAt.cls ≠ "java/lang/invoke/MethodHandle" ∧ yX6_letterAt.cls ≠ "java/lang/invoke/VarHandle" ∧ (parseMethodDescriptor yX6_letterAt.desc).map (fun d => d.parameters.length) = some 1 := by decide +kernel
theorem inX6_letterAt_X6 : ∀ w ∈ u_ws RX6 TX6 6, w ∈ wsX6_letterAt := by decide +kernel
theorem lkX6_letterAt_15 : Cond.fieldLink RX6 15 (TX6 1).1 (TX6 1).2.1 (TX6 1).2.2.1 ∈ wsX6_letterAt := by decide +kernel
theorem lkX6_letterAt_11 : Cond.fieldLink RX6 11 (TX6 0).1 (TX6 0).2.1 (TX6 0).2.2.1 ∈ wsX6_letterAt := by decide +kernel
def fX6_letterAt_32 (z : Nat) (σ : ST) (t0 : Int32) : Option Int32 := some t0
def fX6_letterAt_30 (z : Nat) (σ : ST) : Option Int32 := fX6_letterAt_32 z σ (-9 : Int32)
def fX6_letterAt (z : Nat) (σ : ST) (v1 : Int32) : Option Int32 := (if v1 < 0 then fX6_letterAt_30 z σ else (if (σ.1 1 1) ≤ v1 then fX6_letterAt_30 z σ else (if (40 : Int32) ≤ v1 then fX6_letterAt_30 z σ else gd (inb v1 40) ( fX6_letterAt_32 z σ (σ.1 2 (v1).toNatClampNeg)))))
section
variable {p : Program} {l : Launch} {e : Env} {s : State} {m : MethodId} {args : Array Value} {below : List Frame} {meth : Method} {c : Code} {G : GT}
set_option maxHeartbeats 4000000 in
set_option maxRecDepth 100000 in
theorem wX6_letterAt_32 (C0 : Cx p s m args meth c cX6_letterAt RX6 2 (some .int) wsX6_letterAt) (G0 : Gx G s) (hJ : gJ 80 G) (z : Nat) (σ : ST) (t0 : Int32) (res : Int32) (h : fX6_letterAt_32 z σ t0 = some res)  {H : Heap} {locs : List Loc} {ls : Array Slot} (hW : Wd cellX 80 G s.heap σ H locs) (hl : lv_has ls 2 []) : W p l e rX6_letterAt s m args below meth c H locs 0 0 (MQ below (XQi cellX 80 G res σ) args s 0 0 (gA 80 G)) (F0 m 32 ls [.int t0]) := by
  unfold fX6_letterAt_32 at h
  cases h
  exact x_iret C0 hW dX6_letterAt_32
set_option maxHeartbeats 4000000 in
set_option maxRecDepth 100000 in
theorem wX6_letterAt_30 (C0 : Cx p s m args meth c cX6_letterAt RX6 2 (some .int) wsX6_letterAt) (G0 : Gx G s) (hJ : gJ 80 G) (z : Nat) (σ : ST) (res : Int32) (h : fX6_letterAt_30 z σ = some res)  {H : Heap} {locs : List Loc} {ls : Array Slot} (hW : Wd cellX 80 G s.heap σ H locs) (hl : lv_has ls 2 []) : W p l e rX6_letterAt s m args below meth c H locs 0 0 (MQ below (XQi cellX 80 G res σ) args s 0 0 (gA 80 G)) (F0 m 30 ls []) := by
  unfold fX6_letterAt_30 at h
  refine lv_bipush (v := (-9 : Int32)) C0.1 C0.2.1 dX6_letterAt_30 (by decide) ?_
  exact wX6_letterAt_32 C0 G0 hJ z σ (-9 : Int32) _ h hW (lv_sub hl [] rfl)
set_option maxHeartbeats 4000000 in
set_option maxRecDepth 100000 in
theorem wX6_letterAt (C0 : Cx p s m args meth c cX6_letterAt RX6 2 (some .int) wsX6_letterAt) (G0 : Gx G s) (hJ : gJ 80 G) (z : Nat) (σ : ST) (v1 : Int32) (res : Int32) (h : fX6_letterAt z σ v1 = some res)  {H : Heap} {locs : List Loc} {ls : Array Slot} (hW : Wd cellX 80 G s.heap σ H locs) (hl : lv_has ls 2 [(0, .ref (aD G 1)), (1, .int v1)]) : W p l e rX6_letterAt s m args below meth c H locs 0 0 (MQ below (XQi cellX 80 G res σ) args s 0 0 (gA 80 G)) (F0 m 0 ls []) := by
  unfold fX6_letterAt at h
  refine lv_iload_n C0.1 C0.2.1 dX6_letterAt_0 rfl (lv_at hl 1 rfl) ?_
  refine lv_if_lt (tgt := 30) C0.1 C0.2.1 dX6_letterAt_1 (by decide) (fun c21 => ?_) (fun c21 => ?_)
  · rw [if_pos c21] at h
    exact wX6_letterAt_30 C0 G0 hJ z σ _ h hW (lv_sub hl [] rfl)
  · rw [if_neg c21] at h
    refine lv_iload_n C0.1 C0.2.1 dX6_letterAt_4 rfl (lv_at hl 1 rfl) ?_
    refine lv_aload_n C0.1 C0.2.1 dX6_letterAt_5 rfl (lv_at hl 0 rfl) ?_
    refine x_get (v := .int (σ.1 1 1)) C0 G0 hW (cX_X6 rfl) (by decide) rfl 1 (by decide) inX6_letterAt_X6 lkX6_letterAt_15 rfl dX6_letterAt_6 ?_
    refine lv_icmp_ge (tgt := 30) C0.1 C0.2.1 dX6_letterAt_9 (by decide) (fun c22 => ?_) (fun c22 => ?_)
    · rw [if_pos c22] at h
      exact wX6_letterAt_30 C0 G0 hJ z σ _ h hW (lv_sub hl [] rfl)
    · rw [if_neg c22] at h
      refine lv_iload_n C0.1 C0.2.1 dX6_letterAt_12 rfl (lv_at hl 1 rfl) ?_
      refine lv_aload_n C0.1 C0.2.1 dX6_letterAt_13 rfl (lv_at hl 0 rfl) ?_
      refine x_get (v := .ref (aD G 2)) C0 G0 hW (cX_X6 rfl) (by decide) rfl 0 (by decide) inX6_letterAt_X6 lkX6_letterAt_11 rfl dX6_letterAt_14 ?_
      refine x_alen (v := (40 : Int32)) C0 G0 hW 0 (cX_I40 rfl) (by decide) rfl rfl dX6_letterAt_17 ?_
      refine lv_icmp_ge (tgt := 30) C0.1 C0.2.1 dX6_letterAt_18 (by decide) (fun c23 => ?_) (fun c23 => ?_)
      · rw [if_pos c23] at h
        exact wX6_letterAt_30 C0 G0 hJ z σ _ h hW (lv_sub hl [] rfl)
      · rw [if_neg c23] at h
        refine lv_aload_n C0.1 C0.2.1 dX6_letterAt_21 rfl (lv_at hl 0 rfl) ?_
        refine x_get (v := .ref (aD G 2)) C0 G0 hW (cX_X6 rfl) (by decide) rfl 0 (by decide) inX6_letterAt_X6 lkX6_letterAt_11 rfl dX6_letterAt_22 ?_
        refine lv_iload_n C0.1 C0.2.1 dX6_letterAt_25 rfl (lv_at hl 1 rfl) ?_
        obtain ⟨g24, h⟩ := gd_some h
        refine x_iald C0 G0 hW (cX_I40 rfl) (by decide) g24 dX6_letterAt_26 ?_
        refine lv_goto (tgt := 32) C0.1 C0.2.1 dX6_letterAt_27 (by decide) ?_
        exact wX6_letterAt_32 C0 G0 hJ z σ (σ.1 2 (v1).toNatClampNeg) _ h hW (lv_sub hl [] rfl)
theorem cX6_letterAt_met (l : Launch) {G : GT} (hJ : gJ 80 G) (z : Nat) (σ : ST) (v1 : Int32) (res : Int32) (h : fX6_letterAt z σ v1 = some res) : Met l yX6_letterAt wsX6_letterAt rX6_letterAt (XPc cellX 80 G σ [.ref (aD G 1), .int v1]) (XQi cellX 80 G res σ) 0 0 (gA 80 G) :=
  x_met (ret := (some .int)) (maxL := 2) (by decide) rfl (Nat.le_of_ble_eq_true rfl) (fun p e s m args below meth c H locs ls C0 G0 hW hl => wX6_letterAt C0 G0 hJ z σ v1 res h hW hl)
end
/-! X6_digitAt -/
def rX6_digitAt : Room := { frames := 1, cells := 0, slots := 0, locals := 21 }
theorem hdvX6_digitAt : yX6_digitAt.cls = RX6 ∧ yX6_digitAt.cls ≠ "java/lang/invoke/MethodHandle" ∧ yX6_digitAt.cls ≠ "java/lang/invoke/VarHandle" ∧ (parseMethodDescriptor yX6_digitAt.desc).map (fun d => d.parameters.length) = some 1 := by decide +kernel
def fX6_digitAt_27 (z : Nat) (σ : ST) (t0 : Int32) : Option Int32 := some t0
def fX6_digitAt_25 (z : Nat) (σ : ST) : Option Int32 := fX6_digitAt_27 z σ (-9 : Int32)
def fX6_digitAt (z : Nat) (σ : ST) (v1 : Int32) : Option Int32 := bd (fX6_letterAt z σ v1) (fun u21 => (if u21 < (48 : Int32) then fX6_digitAt_25 z σ else (if (57 : Int32) < u21 then fX6_digitAt_25 z σ else fX6_digitAt_27 z σ (u21 - (48 : Int32)))))
section
variable {p : Program} {l : Launch} {e : Env} {s : State} {m : MethodId} {args : Array Value} {below : List Frame} {meth : Method} {c : Code} {G : GT}
set_option maxHeartbeats 4000000 in
set_option maxRecDepth 100000 in
theorem wX6_digitAt_27 (C0 : Cx p s m args meth c cX6_digitAt RX6 3 (some .int) wsX6_digitAt) (G0 : Gx G s) (hJ : gJ 80 G) (z : Nat) (σ : ST) (t0 : Int32) (res : Int32) (h : fX6_digitAt_27 z σ t0 = some res)  {H : Heap} {locs : List Loc} {ls : Array Slot} (hW : Wd cellX 80 G s.heap σ H locs) (hl : lv_has ls 3 []) : W p l e rX6_digitAt s m args below meth c H locs 0 0 (MQ below (XQi cellX 80 G res σ) args s 0 0 (gA 80 G)) (F0 m 27 ls [.int t0]) := by
  unfold fX6_digitAt_27 at h
  cases h
  exact x_iret C0 hW dX6_digitAt_27
set_option maxHeartbeats 4000000 in
set_option maxRecDepth 100000 in
theorem wX6_digitAt_25 (C0 : Cx p s m args meth c cX6_digitAt RX6 3 (some .int) wsX6_digitAt) (G0 : Gx G s) (hJ : gJ 80 G) (z : Nat) (σ : ST) (res : Int32) (h : fX6_digitAt_25 z σ = some res)  {H : Heap} {locs : List Loc} {ls : Array Slot} (hW : Wd cellX 80 G s.heap σ H locs) (hl : lv_has ls 3 []) : W p l e rX6_digitAt s m args below meth c H locs 0 0 (MQ below (XQi cellX 80 G res σ) args s 0 0 (gA 80 G)) (F0 m 25 ls []) := by
  unfold fX6_digitAt_25 at h
  refine lv_bipush (v := (-9 : Int32)) C0.1 C0.2.1 dX6_digitAt_25 (by decide) ?_
  exact wX6_digitAt_27 C0 G0 hJ z σ (-9 : Int32) _ h hW (lv_sub hl [] rfl)
set_option maxHeartbeats 4000000 in
set_option maxRecDepth 100000 in
theorem wX6_digitAt (C0 : Cx p s m args meth c cX6_digitAt RX6 3 (some .int) wsX6_digitAt) (G0 : Gx G s) (hJ : gJ 80 G) (z : Nat) (σ : ST) (v1 : Int32) (res : Int32) (h : fX6_digitAt z σ v1 = some res)  {H : Heap} {locs : List Loc} {ls : Array Slot} (hW : Wd cellX 80 G s.heap σ H locs) (hl : lv_has ls 3 [(0, .ref (aD G 1)), (1, .int v1)]) : W p l e rX6_digitAt s m args below meth c H locs 0 0 (MQ below (XQi cellX 80 G res σ) args s 0 0 (gA 80 G)) (F0 m 0 ls []) := by
  unfold fX6_digitAt at h
  refine lv_aload_n C0.1 C0.2.1 dX6_digitAt_0 rfl (lv_at hl 0 rfl) ?_
  refine lv_iload_n C0.1 C0.2.1 dX6_digitAt_1 rfl (lv_at hl 1 rfl) ?_
  obtain ⟨u21, hu21, h⟩ := bd_some h
  refine x_ki (r := u21) (x_runV (As := [.int v1]) (rest := []) C0 G0 hW (cX6_letterAt_met l hJ z σ v1 _ hu21) (cwV 1 C0.2.2.2.1 gX6_digitAt_X6_letterAt rfl rfl rfl hdvX6_letterAt ⟨Nat.le_of_ble_eq_true rfl, Nat.le_of_ble_eq_true rfl⟩) (cX_X6 rfl) (by decide) rfl rfl rfl hl (Nat.le_of_ble_eq_true rfl) dX6_digitAt_2 ⟨Nat.le_refl 0, Nat.le_refl 0⟩) hW (fun H locs hW => ?_)
  refine lv_istore_n (lv' := [(2, .int u21), (0, .ref (aD G 1)), (1, .int v1)]) C0.1 C0.2.1 dX6_digitAt_5 rfl hl (by decide) rfl (fun ls hl => ?_)
  refine lv_iload_n C0.1 C0.2.1 dX6_digitAt_6 rfl (lv_at hl 0 rfl) ?_
  refine lv_bipush (v := (48 : Int32)) C0.1 C0.2.1 dX6_digitAt_7 (by decide) ?_
  refine lv_icmp_lt (tgt := 25) C0.1 C0.2.1 dX6_digitAt_9 (by decide) (fun c22 => ?_) (fun c22 => ?_)
  · rw [if_pos c22] at h
    exact wX6_digitAt_25 C0 G0 hJ z σ _ h hW (lv_sub hl [] rfl)
  · rw [if_neg c22] at h
    refine lv_iload_n C0.1 C0.2.1 dX6_digitAt_12 rfl (lv_at hl 0 rfl) ?_
    refine lv_bipush (v := (57 : Int32)) C0.1 C0.2.1 dX6_digitAt_13 (by decide) ?_
    refine lv_icmp_gt (tgt := 25) C0.1 C0.2.1 dX6_digitAt_15 (by decide) (fun c23 => ?_) (fun c23 => ?_)
    · rw [if_pos c23] at h
      exact wX6_digitAt_25 C0 G0 hJ z σ _ h hW (lv_sub hl [] rfl)
    · rw [if_neg c23] at h
      refine lv_iload_n C0.1 C0.2.1 dX6_digitAt_18 rfl (lv_at hl 0 rfl) ?_
      refine lv_bipush (v := (48 : Int32)) C0.1 C0.2.1 dX6_digitAt_19 (by decide) ?_
      refine lv_isub C0.1 C0.2.1 dX6_digitAt_21 ?_
      refine lv_goto (tgt := 27) C0.1 C0.2.1 dX6_digitAt_22 (by decide) ?_
      exact wX6_digitAt_27 C0 G0 hJ z σ (u21 - (48 : Int32)) _ h hW (lv_sub hl [] rfl)
theorem cX6_digitAt_met (l : Launch) {G : GT} (hJ : gJ 80 G) (z : Nat) (σ : ST) (v1 : Int32) (res : Int32) (h : fX6_digitAt z σ v1 = some res) : Met l yX6_digitAt wsX6_digitAt rX6_digitAt (XPc cellX 80 G σ [.ref (aD G 1), .int v1]) (XQi cellX 80 G res σ) 0 0 (gA 80 G) :=
  x_met (ret := (some .int)) (maxL := 3) (by decide) rfl (Nat.le_of_ble_eq_true rfl) (fun p e s m args below meth c H locs ls C0 G0 hW hl => wX6_digitAt C0 G0 hJ z σ v1 res h hW hl)
end
/-! X6_headFits -/
def rX6_headFits : Room := { frames := 2, cells := 0, slots := 0, locals := 43 }
theorem hdvX6_headFits : yX6_headFits.cls = RX6 ∧ yX6_headFits.cls ≠ "java/lang/invoke/MethodHandle" ∧ yX6_headFits.cls ≠ "java/lang/invoke/VarHandle" ∧ (parseMethodDescriptor yX6_headFits.desc).map (fun d => d.parameters.length) = some 1 := by decide +kernel
def fX6_headFits_104 (z : Nat) (σ : ST) (t0 : Int32) : Option Int32 := gd (zok t0) ( some t0)
def fX6_headFits_94 (z : Nat) (σ : ST) (t0 : Int32) : Option Int32 := gd (zok t0) ( some t0)
def fX6_headFits_93 (z : Nat) (σ : ST) : Option Int32 := fX6_headFits_94 z σ (0 : Int32)
def fX6_headFits_77 (z : Nat) (σ : ST) (t0 : Int32) : Option Int32 := gd (zok t0) ( some t0)
def fX6_headFits_76 (z : Nat) (σ : ST) : Option Int32 := fX6_headFits_77 z σ (0 : Int32)
def fX6_headFits_55 (z : Nat) (σ : ST) (t0 : Int32) : Option Int32 := gd (zok t0) ( some t0)
def fX6_headFits (z : Nat) (σ : ST) (v1 : Int32) : Option Int32 := bd (fX6_digitAt z σ v1) (fun u21 => (if v1 = (0 : Int32) then bd (fX6_letterAt z σ v1) (fun u23 => (if u23 = (83 : Int32) then fX6_headFits_55 z σ (1 : Int32) else fX6_headFits_55 z σ (0 : Int32))) else (if v1 = (2 : Int32) then (if u21 < 0 then fX6_headFits_76 z σ else bd (fX6_digitAt z σ (1 : Int32)) (fun u27 => (if (10 : Int32) < (u27 + u21) then fX6_headFits_76 z σ else fX6_headFits_77 z σ (1 : Int32)))) else (if v1 = (6 : Int32) then (if u21 < (1 : Int32) then fX6_headFits_93 z σ else (if (6 : Int32) < u21 then fX6_headFits_93 z σ else fX6_headFits_94 z σ (1 : Int32))) else (if u21 < 0 then fX6_headFits_104 z σ (0 : Int32) else fX6_headFits_104 z σ (1 : Int32))))))
section
variable {p : Program} {l : Launch} {e : Env} {s : State} {m : MethodId} {args : Array Value} {below : List Frame} {meth : Method} {c : Code} {G : GT}
set_option maxHeartbeats 4000000 in
set_option maxRecDepth 100000 in
theorem wX6_headFits_104 (C0 : Cx p s m args meth c cX6_headFits RX6 3 (some .boolean) wsX6_headFits) (G0 : Gx G s) (hJ : gJ 80 G) (z : Nat) (σ : ST) (t0 : Int32) (res : Int32) (h : fX6_headFits_104 z σ t0 = some res)  {H : Heap} {locs : List Loc} {ls : Array Slot} (hW : Wd cellX 80 G s.heap σ H locs) (hl : lv_has ls 3 []) : W p l e rX6_headFits s m args below meth c H locs 0 0 (MQ below (XQi cellX 80 G res σ) args s 0 0 (gA 80 G)) (F0 m 104 ls [.int t0]) := by
  unfold fX6_headFits_104 at h
  obtain ⟨g36, h⟩ := gd_some h
  cases h
  exact x_zret C0 hW g36 dX6_headFits_104
set_option maxHeartbeats 4000000 in
set_option maxRecDepth 100000 in
theorem wX6_headFits_94 (C0 : Cx p s m args meth c cX6_headFits RX6 3 (some .boolean) wsX6_headFits) (G0 : Gx G s) (hJ : gJ 80 G) (z : Nat) (σ : ST) (t0 : Int32) (res : Int32) (h : fX6_headFits_94 z σ t0 = some res)  {H : Heap} {locs : List Loc} {ls : Array Slot} (hW : Wd cellX 80 G s.heap σ H locs) (hl : lv_has ls 3 []) : W p l e rX6_headFits s m args below meth c H locs 0 0 (MQ below (XQi cellX 80 G res σ) args s 0 0 (gA 80 G)) (F0 m 94 ls [.int t0]) := by
  unfold fX6_headFits_94 at h
  obtain ⟨g35, h⟩ := gd_some h
  cases h
  exact x_zret C0 hW g35 dX6_headFits_94
set_option maxHeartbeats 4000000 in
set_option maxRecDepth 100000 in
theorem wX6_headFits_93 (C0 : Cx p s m args meth c cX6_headFits RX6 3 (some .boolean) wsX6_headFits) (G0 : Gx G s) (hJ : gJ 80 G) (z : Nat) (σ : ST) (res : Int32) (h : fX6_headFits_93 z σ = some res)  {H : Heap} {locs : List Loc} {ls : Array Slot} (hW : Wd cellX 80 G s.heap σ H locs) (hl : lv_has ls 3 []) : W p l e rX6_headFits s m args below meth c H locs 0 0 (MQ below (XQi cellX 80 G res σ) args s 0 0 (gA 80 G)) (F0 m 93 ls []) := by
  unfold fX6_headFits_93 at h
  refine lv_iconst (v := (0 : Int32)) C0.1 C0.2.1 dX6_headFits_93 (by decide) ?_
  exact wX6_headFits_94 C0 G0 hJ z σ (0 : Int32) _ h hW (lv_sub hl [] rfl)
set_option maxHeartbeats 4000000 in
set_option maxRecDepth 100000 in
theorem wX6_headFits_77 (C0 : Cx p s m args meth c cX6_headFits RX6 3 (some .boolean) wsX6_headFits) (G0 : Gx G s) (hJ : gJ 80 G) (z : Nat) (σ : ST) (t0 : Int32) (res : Int32) (h : fX6_headFits_77 z σ t0 = some res)  {H : Heap} {locs : List Loc} {ls : Array Slot} (hW : Wd cellX 80 G s.heap σ H locs) (hl : lv_has ls 3 []) : W p l e rX6_headFits s m args below meth c H locs 0 0 (MQ below (XQi cellX 80 G res σ) args s 0 0 (gA 80 G)) (F0 m 77 ls [.int t0]) := by
  unfold fX6_headFits_77 at h
  obtain ⟨g34, h⟩ := gd_some h
  cases h
  exact x_zret C0 hW g34 dX6_headFits_77
set_option maxHeartbeats 4000000 in
set_option maxRecDepth 100000 in
theorem wX6_headFits_76 (C0 : Cx p s m args meth c cX6_headFits RX6 3 (some .boolean) wsX6_headFits) (G0 : Gx G s) (hJ : gJ 80 G) (z : Nat) (σ : ST) (res : Int32) (h : fX6_headFits_76 z σ = some res)  {H : Heap} {locs : List Loc} {ls : Array Slot} (hW : Wd cellX 80 G s.heap σ H locs) (hl : lv_has ls 3 []) : W p l e rX6_headFits s m args below meth c H locs 0 0 (MQ below (XQi cellX 80 G res σ) args s 0 0 (gA 80 G)) (F0 m 76 ls []) := by
  unfold fX6_headFits_76 at h
  refine lv_iconst (v := (0 : Int32)) C0.1 C0.2.1 dX6_headFits_76 (by decide) ?_
  exact wX6_headFits_77 C0 G0 hJ z σ (0 : Int32) _ h hW (lv_sub hl [] rfl)
set_option maxHeartbeats 4000000 in
set_option maxRecDepth 100000 in
theorem wX6_headFits_55 (C0 : Cx p s m args meth c cX6_headFits RX6 3 (some .boolean) wsX6_headFits) (G0 : Gx G s) (hJ : gJ 80 G) (z : Nat) (σ : ST) (t0 : Int32) (res : Int32) (h : fX6_headFits_55 z σ t0 = some res)  {H : Heap} {locs : List Loc} {ls : Array Slot} (hW : Wd cellX 80 G s.heap σ H locs) (hl : lv_has ls 3 []) : W p l e rX6_headFits s m args below meth c H locs 0 0 (MQ below (XQi cellX 80 G res σ) args s 0 0 (gA 80 G)) (F0 m 55 ls [.int t0]) := by
  unfold fX6_headFits_55 at h
  obtain ⟨g33, h⟩ := gd_some h
  cases h
  exact x_zret C0 hW g33 dX6_headFits_55
set_option maxHeartbeats 4000000 in
set_option maxRecDepth 100000 in
theorem wX6_headFits (C0 : Cx p s m args meth c cX6_headFits RX6 3 (some .boolean) wsX6_headFits) (G0 : Gx G s) (hJ : gJ 80 G) (z : Nat) (σ : ST) (v1 : Int32) (res : Int32) (h : fX6_headFits z σ v1 = some res)  {H : Heap} {locs : List Loc} {ls : Array Slot} (hW : Wd cellX 80 G s.heap σ H locs) (hl : lv_has ls 3 [(0, .ref (aD G 1)), (1, .int v1)]) : W p l e rX6_headFits s m args below meth c H locs 0 0 (MQ below (XQi cellX 80 G res σ) args s 0 0 (gA 80 G)) (F0 m 0 ls []) := by
  unfold fX6_headFits at h
  refine lv_aload_n C0.1 C0.2.1 dX6_headFits_0 rfl (lv_at hl 0 rfl) ?_
  refine lv_iload_n C0.1 C0.2.1 dX6_headFits_1 rfl (lv_at hl 1 rfl) ?_
  obtain ⟨u21, hu21, h⟩ := bd_some h
  refine x_ki (r := u21) (x_runV (As := [.int v1]) (rest := []) C0 G0 hW (cX6_digitAt_met l hJ z σ v1 _ hu21) (cwV 1 C0.2.2.2.1 gX6_headFits_X6_digitAt rfl rfl rfl hdvX6_digitAt ⟨Nat.le_of_ble_eq_true rfl, Nat.le_of_ble_eq_true rfl⟩) (cX_X6 rfl) (by decide) rfl rfl rfl hl (Nat.le_of_ble_eq_true rfl) dX6_headFits_2 ⟨Nat.le_refl 0, Nat.le_refl 0⟩) hW (fun H locs hW => ?_)
  refine lv_istore_n (lv' := [(2, .int u21), (0, .ref (aD G 1)), (1, .int v1)]) C0.1 C0.2.1 dX6_headFits_5 rfl hl (by decide) rfl (fun ls hl => ?_)
  refine lv_iload_n C0.1 C0.2.1 dX6_headFits_6 rfl (lv_at hl 2 rfl) ?_
  by_cases c22 : v1 = (0 : Int32)
  · rw [if_pos c22] at h
    refine lv_lookup (off := 33) (tgt := 40) C0.1 C0.2.1 dX6_headFits_7 (by decide) (by rw [c22] <;> rfl) (by decide) ?_
    refine lv_aload_n C0.1 C0.2.1 dX6_headFits_40 rfl (lv_at hl 1 rfl) ?_
    refine lv_iload_n C0.1 C0.2.1 dX6_headFits_41 rfl (lv_at hl 2 rfl) ?_
    obtain ⟨u23, hu23, h⟩ := bd_some h
    refine x_ki (r := u23) (x_runV (As := [.int v1]) (rest := []) C0 G0 hW (cX6_letterAt_met l hJ z σ v1 _ hu23) (cwV 1 C0.2.2.2.1 gX6_headFits_X6_letterAt rfl rfl rfl hdvX6_letterAt ⟨Nat.le_of_ble_eq_true rfl, Nat.le_of_ble_eq_true rfl⟩) (cX_X6 rfl) (by decide) rfl rfl rfl hl (Nat.le_of_ble_eq_true rfl) dX6_headFits_42 ⟨Nat.le_refl 0, Nat.le_refl 0⟩) hW (fun H locs hW => ?_)
    refine lv_bipush (v := (83 : Int32)) C0.1 C0.2.1 dX6_headFits_45 (by decide) ?_
    refine lv_icmp_ne (tgt := 54) C0.1 C0.2.1 dX6_headFits_47 (by decide) (fun c24 => ?_) (fun c24 => ?_)
    · rw [if_neg c24] at h
      refine lv_iconst (v := (0 : Int32)) C0.1 C0.2.1 dX6_headFits_54 (by decide) ?_
      exact wX6_headFits_55 C0 G0 hJ z σ (0 : Int32) _ h hW (lv_sub hl [] rfl)
    · rw [if_pos c24] at h
      refine lv_iconst (v := (1 : Int32)) C0.1 C0.2.1 dX6_headFits_50 (by decide) ?_
      refine lv_goto (tgt := 55) C0.1 C0.2.1 dX6_headFits_51 (by decide) ?_
      exact wX6_headFits_55 C0 G0 hJ z σ (1 : Int32) _ h hW (lv_sub hl [] rfl)
  rw [if_neg c22] at h
  by_cases c25 : v1 = (2 : Int32)
  · rw [if_pos c25] at h
    refine lv_lookup (off := 49) (tgt := 56) C0.1 C0.2.1 dX6_headFits_7 (by decide) (by rw [c25] <;> rfl) (by decide) ?_
    refine lv_iload_n C0.1 C0.2.1 dX6_headFits_56 rfl (lv_at hl 0 rfl) ?_
    refine lv_if_lt (tgt := 76) C0.1 C0.2.1 dX6_headFits_57 (by decide) (fun c26 => ?_) (fun c26 => ?_)
    · rw [if_pos c26] at h
      exact wX6_headFits_76 C0 G0 hJ z σ _ h hW (lv_sub hl [] rfl)
    · rw [if_neg c26] at h
      refine lv_aload_n C0.1 C0.2.1 dX6_headFits_60 rfl (lv_at hl 1 rfl) ?_
      refine lv_iconst (v := (1 : Int32)) C0.1 C0.2.1 dX6_headFits_61 (by decide) ?_
      obtain ⟨u27, hu27, h⟩ := bd_some h
      refine x_ki (r := u27) (x_runV (As := [.int (1 : Int32)]) (rest := []) C0 G0 hW (cX6_digitAt_met l hJ z σ (1 : Int32) _ hu27) (cwV 1 C0.2.2.2.1 gX6_headFits_X6_digitAt rfl rfl rfl hdvX6_digitAt ⟨Nat.le_of_ble_eq_true rfl, Nat.le_of_ble_eq_true rfl⟩) (cX_X6 rfl) (by decide) rfl rfl rfl hl (Nat.le_of_ble_eq_true rfl) dX6_headFits_62 ⟨Nat.le_refl 0, Nat.le_refl 0⟩) hW (fun H locs hW => ?_)
      refine lv_iload_n C0.1 C0.2.1 dX6_headFits_65 rfl (lv_at hl 0 rfl) ?_
      refine lv_iadd C0.1 C0.2.1 dX6_headFits_66 ?_
      refine lv_bipush (v := (10 : Int32)) C0.1 C0.2.1 dX6_headFits_67 (by decide) ?_
      refine lv_icmp_gt (tgt := 76) C0.1 C0.2.1 dX6_headFits_69 (by decide) (fun c28 => ?_) (fun c28 => ?_)
      · rw [if_pos c28] at h
        exact wX6_headFits_76 C0 G0 hJ z σ _ h hW (lv_sub hl [] rfl)
      · rw [if_neg c28] at h
        refine lv_iconst (v := (1 : Int32)) C0.1 C0.2.1 dX6_headFits_72 (by decide) ?_
        refine lv_goto (tgt := 77) C0.1 C0.2.1 dX6_headFits_73 (by decide) ?_
        exact wX6_headFits_77 C0 G0 hJ z σ (1 : Int32) _ h hW (lv_sub hl [] rfl)
  rw [if_neg c25] at h
  by_cases c29 : v1 = (6 : Int32)
  · rw [if_pos c29] at h
    refine lv_lookup (off := 71) (tgt := 78) C0.1 C0.2.1 dX6_headFits_7 (by decide) (by rw [c29] <;> rfl) (by decide) ?_
    refine lv_iload_n C0.1 C0.2.1 dX6_headFits_78 rfl (lv_at hl 0 rfl) ?_
    refine lv_iconst (v := (1 : Int32)) C0.1 C0.2.1 dX6_headFits_79 (by decide) ?_
    refine lv_icmp_lt (tgt := 93) C0.1 C0.2.1 dX6_headFits_80 (by decide) (fun c30 => ?_) (fun c30 => ?_)
    · rw [if_pos c30] at h
      exact wX6_headFits_93 C0 G0 hJ z σ _ h hW (lv_sub hl [] rfl)
    · rw [if_neg c30] at h
      refine lv_iload_n C0.1 C0.2.1 dX6_headFits_83 rfl (lv_at hl 0 rfl) ?_
      refine lv_bipush (v := (6 : Int32)) C0.1 C0.2.1 dX6_headFits_84 (by decide) ?_
      refine lv_icmp_gt (tgt := 93) C0.1 C0.2.1 dX6_headFits_86 (by decide) (fun c31 => ?_) (fun c31 => ?_)
      · rw [if_pos c31] at h
        exact wX6_headFits_93 C0 G0 hJ z σ _ h hW (lv_sub hl [] rfl)
      · rw [if_neg c31] at h
        refine lv_iconst (v := (1 : Int32)) C0.1 C0.2.1 dX6_headFits_89 (by decide) ?_
        refine lv_goto (tgt := 94) C0.1 C0.2.1 dX6_headFits_90 (by decide) ?_
        exact wX6_headFits_94 C0 G0 hJ z σ (1 : Int32) _ h hW (lv_sub hl [] rfl)
  rw [if_neg c29] at h
  refine lv_lookup (off := 88) (tgt := 95) C0.1 C0.2.1 dX6_headFits_7 (by decide) (by show Op.lookupswitch.offset [(0, 33), (2, 49), (6, 71)] _ _ = _; rw [Op.lookupswitch.offset_cons, if_neg (fun q => i32_ne c22 q.symm), Op.lookupswitch.offset_cons, if_neg (fun q => i32_ne c25 q.symm), Op.lookupswitch.offset_cons, if_neg (fun q => i32_ne c29 q.symm)]; rfl) (by decide) ?_
  refine lv_iload_n C0.1 C0.2.1 dX6_headFits_95 rfl (lv_at hl 0 rfl) ?_
  refine lv_if_lt (tgt := 103) C0.1 C0.2.1 dX6_headFits_96 (by decide) (fun c32 => ?_) (fun c32 => ?_)
  · rw [if_pos c32] at h
    refine lv_iconst (v := (0 : Int32)) C0.1 C0.2.1 dX6_headFits_103 (by decide) ?_
    exact wX6_headFits_104 C0 G0 hJ z σ (0 : Int32) _ h hW (lv_sub hl [] rfl)
  · rw [if_neg c32] at h
    refine lv_iconst (v := (1 : Int32)) C0.1 C0.2.1 dX6_headFits_99 (by decide) ?_
    refine lv_goto (tgt := 104) C0.1 C0.2.1 dX6_headFits_100 (by decide) ?_
    exact wX6_headFits_104 C0 G0 hJ z σ (1 : Int32) _ h hW (lv_sub hl [] rfl)
theorem cX6_headFits_met (l : Launch) {G : GT} (hJ : gJ 80 G) (z : Nat) (σ : ST) (v1 : Int32) (res : Int32) (h : fX6_headFits z σ v1 = some res) : Met l yX6_headFits wsX6_headFits rX6_headFits (XPc cellX 80 G σ [.ref (aD G 1), .int v1]) (XQi cellX 80 G res σ) 0 0 (gA 80 G) :=
  x_met (ret := (some .boolean)) (maxL := 3) (by decide) rfl (Nat.le_of_ble_eq_true rfl) (fun p e s m args below meth c H locs ls C0 G0 hW hl => wX6_headFits C0 G0 hJ z σ v1 res h hW hl)
end
/-! X6_partBegins -/
def rX6_partBegins : Room := { frames := 0, cells := 0, slots := 0, locals := 0 }
theorem hdvX6_partBegins : yX6_partBegins.cls = RX6 ∧ yX6_partBegins.cls ≠ "java/lang/invoke/MethodHandle" ∧ yX6_partBegins.cls ≠ "java/lang/invoke/VarHandle" ∧ (parseMethodDescriptor yX6_partBegins.desc).map (fun d => d.parameters.length) = some 1 := by decide +kernel
theorem inX6_partBegins_X6 : ∀ w ∈ u_ws RX6 TX6 6, w ∈ wsX6_partBegins := by decide +kernel
theorem lkX6_partBegins_33 : Cond.fieldLink RX6 33 (TX6 5).1 (TX6 5).2.1 (TX6 5).2.2.1 ∈ wsX6_partBegins := by decide +kernel
theorem lkX6_partBegins_23 : Cond.fieldLink RX6 23 (TX6 2).1 (TX6 2).2.1 (TX6 2).2.2.1 ∈ wsX6_partBegins := by decide +kernel
theorem lkX6_partBegins_29 : Cond.fieldLink RX6 29 (TX6 4).1 (TX6 4).2.1 (TX6 4).2.2.1 ∈ wsX6_partBegins := by decide +kernel
theorem lkX6_partBegins_26 : Cond.fieldLink RX6 26 (TX6 3).1 (TX6 3).2.1 (TX6 3).2.2.1 ∈ wsX6_partBegins := by decide +kernel
def fX6_partBegins_74 (z : Nat) (σ : ST) (v2 : Int32) : Option (Int32 × ST) := gd (zok v2) ( some (v2, σ))
def fX6_partBegins_20 (z : Nat) (σ : ST) (t0 : Int32) : Option (Int32 × ST) := lt (pI σ 1 2 (1 : Int32)) (fun s32 => fX6_partBegins_74 z s32 t0)
def fX6_partBegins (z : Nat) (σ : ST) (v1 : Int32) : Option (Int32 × ST) := (if v1 = (70 : Int32) then (if (σ.1 1 3) = 0 then fX6_partBegins_20 z σ (0 : Int32) else fX6_partBegins_20 z σ (1 : Int32)) else (if v1 = (65 : Int32) then gd (zok (0 : Int32)) ( lt (pI σ 1 4 (0 : Int32)) (fun s28 => lt (pI s28 1 2 (2 : Int32)) (fun s29 => fX6_partBegins_74 z s29 (σ.1 1 4)))) else (if v1 = (84 : Int32) then gd (zok (0 : Int32)) ( lt (pI σ 1 5 (0 : Int32)) (fun s25 => lt (pI s25 1 2 (3 : Int32)) (fun s26 => fX6_partBegins_74 z s26 (σ.1 1 5)))) else fX6_partBegins_74 z σ (0 : Int32))))
section
variable {p : Program} {l : Launch} {e : Env} {s : State} {m : MethodId} {args : Array Value} {below : List Frame} {meth : Method} {c : Code} {G : GT}
set_option maxHeartbeats 4000000 in
set_option maxRecDepth 100000 in
theorem wX6_partBegins_74 (C0 : Cx p s m args meth c cX6_partBegins RX6 3 (some .boolean) wsX6_partBegins) (G0 : Gx G s) (hJ : gJ 80 G) (z : Nat) (σ : ST) (v2 : Int32) (res : (Int32 × ST)) (h : fX6_partBegins_74 z σ v2 = some res)  {H : Heap} {locs : List Loc} {ls : Array Slot} (hW : Wd cellX 80 G s.heap σ H locs) (hl : lv_has ls 3 [(2, .int v2)]) : W p l e rX6_partBegins s m args below meth c H locs 0 0 (MQ below (XQi cellX 80 G res.1 res.2) args s 0 0 (gA 80 G)) (F0 m 74 ls []) := by
  unfold fX6_partBegins_74 at h
  refine lv_iload_n C0.1 C0.2.1 dX6_partBegins_74 rfl (lv_at hl 0 rfl) ?_
  obtain ⟨g31, h⟩ := gd_some h
  cases h
  exact x_zret C0 hW g31 dX6_partBegins_75
set_option maxHeartbeats 4000000 in
set_option maxRecDepth 100000 in
theorem wX6_partBegins_20 (C0 : Cx p s m args meth c cX6_partBegins RX6 3 (some .boolean) wsX6_partBegins) (G0 : Gx G s) (hJ : gJ 80 G) (z : Nat) (σ : ST) (t0 : Int32) (res : (Int32 × ST)) (h : fX6_partBegins_20 z σ t0 = some res)  {H : Heap} {locs : List Loc} {ls : Array Slot} (hW : Wd cellX 80 G s.heap σ H locs) (hl : lv_has ls 3 [(0, .ref (aD G 1))]) : W p l e rX6_partBegins s m args below meth c H locs 0 0 (MQ below (XQi cellX 80 G res.1 res.2) args s 0 0 (gA 80 G)) (F0 m 20 ls [.int t0]) := by
  unfold fX6_partBegins_20 at h
  refine lv_istore_n (lv' := [(2, .int t0), (0, .ref (aD G 1))]) C0.1 C0.2.1 dX6_partBegins_20 rfl hl (by decide) rfl (fun ls hl => ?_)
  refine lv_aload_n C0.1 C0.2.1 dX6_partBegins_21 rfl (lv_at hl 1 rfl) ?_
  refine lv_iconst (v := (1 : Int32)) C0.1 C0.2.1 dX6_partBegins_22 (by decide) ?_
  refine x_putI (v := (1 : Int32)) C0 G0 hJ hW (cX_X6 rfl) (by decide) rfl 2 (by decide) inX6_partBegins_X6 lkX6_partBegins_23 tyX6 tyX6_ok nmX6 rfl rfl rfl (Nat.le_of_ble_eq_true rfl) (hu_X6_2 rfl) dX6_partBegins_23 (fun H locs hW => ?_)
  obtain ⟨s32, es32, h⟩ := lt_some h
  rw [es32] at hW
  refine lv_goto (tgt := 74) C0.1 C0.2.1 dX6_partBegins_26 (by decide) ?_
  exact wX6_partBegins_74 C0 G0 hJ z s32 t0 _ h hW (lv_sub hl [0] rfl)
set_option maxHeartbeats 4000000 in
set_option maxRecDepth 100000 in
theorem wX6_partBegins (C0 : Cx p s m args meth c cX6_partBegins RX6 3 (some .boolean) wsX6_partBegins) (G0 : Gx G s) (hJ : gJ 80 G) (z : Nat) (σ : ST) (v1 : Int32) (res : (Int32 × ST)) (h : fX6_partBegins z σ v1 = some res)  {H : Heap} {locs : List Loc} {ls : Array Slot} (hW : Wd cellX 80 G s.heap σ H locs) (hl : lv_has ls 3 [(0, .ref (aD G 1)), (1, .int v1)]) : W p l e rX6_partBegins s m args below meth c H locs 0 0 (MQ below (XQi cellX 80 G res.1 res.2) args s 0 0 (gA 80 G)) (F0 m 0 ls []) := by
  unfold fX6_partBegins at h
  refine lv_iconst (v := (0 : Int32)) C0.1 C0.2.1 dX6_partBegins_0 (by decide) ?_
  refine lv_istore_n (lv' := [(2, .int (0 : Int32)), (0, .ref (aD G 1)), (1, .int v1)]) C0.1 C0.2.1 dX6_partBegins_1 rfl hl (by decide) rfl (fun ls hl => ?_)
  refine lv_iload_n C0.1 C0.2.1 dX6_partBegins_2 rfl (lv_at hl 2 rfl) ?_
  refine lv_bipush (v := (70 : Int32)) C0.1 C0.2.1 dX6_partBegins_3 (by decide) ?_
  refine lv_icmp_ne (tgt := 29) C0.1 C0.2.1 dX6_partBegins_5 (by decide) (fun c21 => ?_) (fun c21 => ?_)
  · rw [if_neg c21] at h
    refine lv_iload_n C0.1 C0.2.1 dX6_partBegins_29 rfl (lv_at hl 2 rfl) ?_
    refine lv_bipush (v := (65 : Int32)) C0.1 C0.2.1 dX6_partBegins_30 (by decide) ?_
    refine lv_icmp_ne (tgt := 53) C0.1 C0.2.1 dX6_partBegins_32 (by decide) (fun c22 => ?_) (fun c22 => ?_)
    · rw [if_neg c22] at h
      refine lv_iload_n C0.1 C0.2.1 dX6_partBegins_53 rfl (lv_at hl 2 rfl) ?_
      refine lv_bipush (v := (84 : Int32)) C0.1 C0.2.1 dX6_partBegins_54 (by decide) ?_
      refine lv_icmp_ne (tgt := 74) C0.1 C0.2.1 dX6_partBegins_56 (by decide) (fun c23 => ?_) (fun c23 => ?_)
      · rw [if_neg c23] at h
        exact wX6_partBegins_74 C0 G0 hJ z σ (0 : Int32) _ h hW (lv_sub hl [0] rfl)
      · rw [if_pos c23] at h
        refine lv_aload_n C0.1 C0.2.1 dX6_partBegins_59 rfl (lv_at hl 1 rfl) ?_
        refine x_get (v := .int (σ.1 1 5)) C0 G0 hW (cX_X6 rfl) (by decide) rfl 5 (by decide) inX6_partBegins_X6 lkX6_partBegins_33 rfl dX6_partBegins_60 ?_
        refine lv_istore_n (lv' := [(2, .int (σ.1 1 5)), (0, .ref (aD G 1)), (1, .int v1)]) C0.1 C0.2.1 dX6_partBegins_63 rfl hl (by decide) rfl (fun ls hl => ?_)
        refine lv_aload_n C0.1 C0.2.1 dX6_partBegins_64 rfl (lv_at hl 1 rfl) ?_
        refine lv_iconst (v := (0 : Int32)) C0.1 C0.2.1 dX6_partBegins_65 (by decide) ?_
        obtain ⟨g24, h⟩ := gd_some h
        refine x_putI (v := (0 : Int32)) C0 G0 hJ hW (cX_X6 rfl) (by decide) rfl 5 (by decide) inX6_partBegins_X6 lkX6_partBegins_33 tyX6 tyX6_ok nmX6 rfl (zok_n g24) (zok_f g24) (Nat.le_of_ble_eq_true rfl) (hu_X6_5 rfl) dX6_partBegins_66 (fun H locs hW => ?_)
        obtain ⟨s25, es25, h⟩ := lt_some h
        rw [es25] at hW
        refine lv_aload_n C0.1 C0.2.1 dX6_partBegins_69 rfl (lv_at hl 1 rfl) ?_
        refine lv_iconst (v := (3 : Int32)) C0.1 C0.2.1 dX6_partBegins_70 (by decide) ?_
        refine x_putI (v := (3 : Int32)) C0 G0 hJ hW (cX_X6 rfl) (by decide) rfl 2 (by decide) inX6_partBegins_X6 lkX6_partBegins_23 tyX6 tyX6_ok nmX6 rfl rfl rfl (Nat.le_of_ble_eq_true rfl) (hu_X6_2 rfl) dX6_partBegins_71 (fun H locs hW => ?_)
        obtain ⟨s26, es26, h⟩ := lt_some h
        rw [es26] at hW
        exact wX6_partBegins_74 C0 G0 hJ z s26 (σ.1 1 5) _ h hW (lv_sub hl [0] rfl)
    · rw [if_pos c22] at h
      refine lv_aload_n C0.1 C0.2.1 dX6_partBegins_35 rfl (lv_at hl 1 rfl) ?_
      refine x_get (v := .int (σ.1 1 4)) C0 G0 hW (cX_X6 rfl) (by decide) rfl 4 (by decide) inX6_partBegins_X6 lkX6_partBegins_29 rfl dX6_partBegins_36 ?_
      refine lv_istore_n (lv' := [(2, .int (σ.1 1 4)), (0, .ref (aD G 1)), (1, .int v1)]) C0.1 C0.2.1 dX6_partBegins_39 rfl hl (by decide) rfl (fun ls hl => ?_)
      refine lv_aload_n C0.1 C0.2.1 dX6_partBegins_40 rfl (lv_at hl 1 rfl) ?_
      refine lv_iconst (v := (0 : Int32)) C0.1 C0.2.1 dX6_partBegins_41 (by decide) ?_
      obtain ⟨g27, h⟩ := gd_some h
      refine x_putI (v := (0 : Int32)) C0 G0 hJ hW (cX_X6 rfl) (by decide) rfl 4 (by decide) inX6_partBegins_X6 lkX6_partBegins_29 tyX6 tyX6_ok nmX6 rfl (zok_n g27) (zok_f g27) (Nat.le_of_ble_eq_true rfl) (hu_X6_4 rfl) dX6_partBegins_42 (fun H locs hW => ?_)
      obtain ⟨s28, es28, h⟩ := lt_some h
      rw [es28] at hW
      refine lv_aload_n C0.1 C0.2.1 dX6_partBegins_45 rfl (lv_at hl 1 rfl) ?_
      refine lv_iconst (v := (2 : Int32)) C0.1 C0.2.1 dX6_partBegins_46 (by decide) ?_
      refine x_putI (v := (2 : Int32)) C0 G0 hJ hW (cX_X6 rfl) (by decide) rfl 2 (by decide) inX6_partBegins_X6 lkX6_partBegins_23 tyX6 tyX6_ok nmX6 rfl rfl rfl (Nat.le_of_ble_eq_true rfl) (hu_X6_2 rfl) dX6_partBegins_47 (fun H locs hW => ?_)
      obtain ⟨s29, es29, h⟩ := lt_some h
      rw [es29] at hW
      refine lv_goto (tgt := 74) C0.1 C0.2.1 dX6_partBegins_50 (by decide) ?_
      exact wX6_partBegins_74 C0 G0 hJ z s29 (σ.1 1 4) _ h hW (lv_sub hl [0] rfl)
  · rw [if_pos c21] at h
    refine lv_aload_n C0.1 C0.2.1 dX6_partBegins_8 rfl (lv_at hl 1 rfl) ?_
    refine x_get (v := .int (σ.1 1 3)) C0 G0 hW (cX_X6 rfl) (by decide) rfl 3 (by decide) inX6_partBegins_X6 lkX6_partBegins_26 rfl dX6_partBegins_9 ?_
    refine lv_if_eq (tgt := 19) C0.1 C0.2.1 dX6_partBegins_12 (by decide) (fun c30 => ?_) (fun c30 => ?_)
    · rw [if_pos c30] at h
      refine lv_iconst (v := (0 : Int32)) C0.1 C0.2.1 dX6_partBegins_19 (by decide) ?_
      exact wX6_partBegins_20 C0 G0 hJ z σ (0 : Int32) _ h hW (lv_sub hl [1] rfl)
    · rw [if_neg c30] at h
      refine lv_iconst (v := (1 : Int32)) C0.1 C0.2.1 dX6_partBegins_15 (by decide) ?_
      refine lv_goto (tgt := 20) C0.1 C0.2.1 dX6_partBegins_16 (by decide) ?_
      exact wX6_partBegins_20 C0 G0 hJ z σ (1 : Int32) _ h hW (lv_sub hl [1] rfl)
theorem cX6_partBegins_met (l : Launch) {G : GT} (hJ : gJ 80 G) (z : Nat) (σ : ST) (v1 : Int32) (res : (Int32 × ST)) (h : fX6_partBegins z σ v1 = some res) : Met l yX6_partBegins wsX6_partBegins rX6_partBegins (XPc cellX 80 G σ [.ref (aD G 1), .int v1]) (XQi cellX 80 G res.1 res.2) 0 0 (gA 80 G) :=
  x_met (ret := (some .boolean)) (maxL := 3) (by decide) rfl (Nat.le_of_ble_eq_true rfl) (fun p e s m args below meth c H locs ls C0 G0 hW hl => wX6_partBegins C0 G0 hJ z σ v1 res h hW hl)
end
/-! X6_takeCell -/
def rX6_takeCell : Room := { frames := 0, cells := 0, slots := 0, locals := 0 }
theorem hdvX6_takeCell : yX6_takeCell.cls = RX6 ∧ yX6_takeCell.cls ≠ "java/lang/invoke/MethodHandle" ∧ yX6_takeCell.cls ≠ "java/lang/invoke/VarHandle" ∧ (parseMethodDescriptor yX6_takeCell.desc).map (fun d => d.parameters.length) = some 1 := by decide +kernel
theorem inX6_takeCell_X6 : ∀ w ∈ u_ws RX6 TX6 6, w ∈ wsX6_takeCell := by decide +kernel
theorem lkX6_takeCell_26 : Cond.fieldLink RX6 26 (TX6 3).1 (TX6 3).2.1 (TX6 3).2.2.1 ∈ wsX6_takeCell := by decide +kernel
def fX6_takeCell_16 (z : Nat) (σ : ST) (v1 : Int32) (t0 : Int32) : Option (Int32 × ST) := lt (pI σ 1 3 ((σ.1 1 3) &&& (((1 : Int32) <<< (v1 &&& 31)) ^^^ (-1 : Int32)))) (fun s22 => gd (zok t0) ( some (t0, s22)))
def fX6_takeCell (z : Nat) (σ : ST) (v1 : Int32) : Option (Int32 × ST) := (if (((σ.1 1 3) >>> (v1 &&& 31)) &&& (1 : Int32)) = 0 then fX6_takeCell_16 z σ v1 (0 : Int32) else fX6_takeCell_16 z σ v1 (1 : Int32))
section
variable {p : Program} {l : Launch} {e : Env} {s : State} {m : MethodId} {args : Array Value} {below : List Frame} {meth : Method} {c : Code} {G : GT}
set_option maxHeartbeats 4000000 in
set_option maxRecDepth 100000 in
theorem wX6_takeCell_16 (C0 : Cx p s m args meth c cX6_takeCell RX6 3 (some .boolean) wsX6_takeCell) (G0 : Gx G s) (hJ : gJ 80 G) (z : Nat) (σ : ST) (v1 : Int32) (t0 : Int32) (res : (Int32 × ST)) (h : fX6_takeCell_16 z σ v1 t0 = some res)  {H : Heap} {locs : List Loc} {ls : Array Slot} (hW : Wd cellX 80 G s.heap σ H locs) (hl : lv_has ls 3 [(0, .ref (aD G 1)), (1, .int v1)]) : W p l e rX6_takeCell s m args below meth c H locs 0 0 (MQ below (XQi cellX 80 G res.1 res.2) args s 0 0 (gA 80 G)) (F0 m 16 ls [.int t0]) := by
  unfold fX6_takeCell_16 at h
  refine lv_istore_n (lv' := [(2, .int t0), (0, .ref (aD G 1)), (1, .int v1)]) C0.1 C0.2.1 dX6_takeCell_16 rfl hl (by decide) rfl (fun ls hl => ?_)
  refine lv_aload_n C0.1 C0.2.1 dX6_takeCell_17 rfl (lv_at hl 1 rfl) ?_
  refine lv_dup C0.1 C0.2.1 dX6_takeCell_18 rfl ?_
  refine x_get (v := .int (σ.1 1 3)) C0 G0 hW (cX_X6 rfl) (by decide) rfl 3 (by decide) inX6_takeCell_X6 lkX6_takeCell_26 rfl dX6_takeCell_19 ?_
  refine lv_iconst (v := (1 : Int32)) C0.1 C0.2.1 dX6_takeCell_22 (by decide) ?_
  refine lv_iload_n C0.1 C0.2.1 dX6_takeCell_23 rfl (lv_at hl 2 rfl) ?_
  refine lv_ishl C0.1 C0.2.1 dX6_takeCell_24 ?_
  refine lv_iconst (v := (-1 : Int32)) C0.1 C0.2.1 dX6_takeCell_25 (by decide) ?_
  refine lv_ixor C0.1 C0.2.1 dX6_takeCell_26 ?_
  refine lv_iand C0.1 C0.2.1 dX6_takeCell_27 ?_
  refine x_putI (v := ((σ.1 1 3) &&& (((1 : Int32) <<< (v1 &&& 31)) ^^^ (-1 : Int32)))) C0 G0 hJ hW (cX_X6 rfl) (by decide) rfl 3 (by decide) inX6_takeCell_X6 lkX6_takeCell_26 tyX6 tyX6_ok nmX6 rfl rfl rfl (Nat.le_of_ble_eq_true rfl) (hu_X6_3 rfl) dX6_takeCell_28 (fun H locs hW => ?_)
  obtain ⟨s22, es22, h⟩ := lt_some h
  rw [es22] at hW
  refine lv_iload_n C0.1 C0.2.1 dX6_takeCell_31 rfl (lv_at hl 0 rfl) ?_
  obtain ⟨g23, h⟩ := gd_some h
  cases h
  exact x_zret C0 hW g23 dX6_takeCell_32
set_option maxHeartbeats 4000000 in
set_option maxRecDepth 100000 in
theorem wX6_takeCell (C0 : Cx p s m args meth c cX6_takeCell RX6 3 (some .boolean) wsX6_takeCell) (G0 : Gx G s) (hJ : gJ 80 G) (z : Nat) (σ : ST) (v1 : Int32) (res : (Int32 × ST)) (h : fX6_takeCell z σ v1 = some res)  {H : Heap} {locs : List Loc} {ls : Array Slot} (hW : Wd cellX 80 G s.heap σ H locs) (hl : lv_has ls 3 [(0, .ref (aD G 1)), (1, .int v1)]) : W p l e rX6_takeCell s m args below meth c H locs 0 0 (MQ below (XQi cellX 80 G res.1 res.2) args s 0 0 (gA 80 G)) (F0 m 0 ls []) := by
  unfold fX6_takeCell at h
  refine lv_aload_n C0.1 C0.2.1 dX6_takeCell_0 rfl (lv_at hl 0 rfl) ?_
  refine x_get (v := .int (σ.1 1 3)) C0 G0 hW (cX_X6 rfl) (by decide) rfl 3 (by decide) inX6_takeCell_X6 lkX6_takeCell_26 rfl dX6_takeCell_1 ?_
  refine lv_iload_n C0.1 C0.2.1 dX6_takeCell_4 rfl (lv_at hl 1 rfl) ?_
  refine lv_ishr C0.1 C0.2.1 dX6_takeCell_5 ?_
  refine lv_iconst (v := (1 : Int32)) C0.1 C0.2.1 dX6_takeCell_6 (by decide) ?_
  refine lv_iand C0.1 C0.2.1 dX6_takeCell_7 ?_
  refine lv_if_eq (tgt := 15) C0.1 C0.2.1 dX6_takeCell_8 (by decide) (fun c21 => ?_) (fun c21 => ?_)
  · rw [if_pos c21] at h
    refine lv_iconst (v := (0 : Int32)) C0.1 C0.2.1 dX6_takeCell_15 (by decide) ?_
    exact wX6_takeCell_16 C0 G0 hJ z σ v1 (0 : Int32) _ h hW (lv_sub hl [0, 1] rfl)
  · rw [if_neg c21] at h
    refine lv_iconst (v := (1 : Int32)) C0.1 C0.2.1 dX6_takeCell_11 (by decide) ?_
    refine lv_goto (tgt := 16) C0.1 C0.2.1 dX6_takeCell_12 (by decide) ?_
    exact wX6_takeCell_16 C0 G0 hJ z σ v1 (1 : Int32) _ h hW (lv_sub hl [0, 1] rfl)
theorem cX6_takeCell_met (l : Launch) {G : GT} (hJ : gJ 80 G) (z : Nat) (σ : ST) (v1 : Int32) (res : (Int32 × ST)) (h : fX6_takeCell z σ v1 = some res) : Met l yX6_takeCell wsX6_takeCell rX6_takeCell (XPc cellX 80 G σ [.ref (aD G 1), .int v1]) (XQi cellX 80 G res.1 res.2) 0 0 (gA 80 G) :=
  x_met (ret := (some .boolean)) (maxL := 3) (by decide) rfl (Nat.le_of_ble_eq_true rfl) (fun p e s m args below meth c H locs ls C0 G0 hW hl => wX6_takeCell C0 G0 hJ z σ v1 res h hW hl)
end
/-! X6_partFits -/
def rX6_partFits : Room := { frames := 2, cells := 0, slots := 0, locals := 43 }
theorem hdvX6_partFits : yX6_partFits.cls = RX6 ∧ yX6_partFits.cls ≠ "java/lang/invoke/MethodHandle" ∧ yX6_partFits.cls ≠ "java/lang/invoke/VarHandle" ∧ (parseMethodDescriptor yX6_partFits.desc).map (fun d => d.parameters.length) = some 1 := by decide +kernel
theorem inX6_partFits_X6 : ∀ w ∈ u_ws RX6 TX6 6, w ∈ wsX6_partFits := by decide +kernel
theorem lkX6_partFits_23 : Cond.fieldLink RX6 23 (TX6 2).1 (TX6 2).2.1 (TX6 2).2.2.1 ∈ wsX6_partFits := by decide +kernel
def fX6_partFits_124 (z : Nat) (σ : ST) (t0 : Int32) : Option (Int32 × ST) := gd (zok t0) ( some (t0, σ))
def fX6_partFits_123 (z : Nat) (σ : ST) : Option (Int32 × ST) := fX6_partFits_124 z σ (0 : Int32)
def fX6_partFits_103 (z : Nat) (σ : ST) (t0 : Int32) : Option (Int32 × ST) := gd (zok t0) ( some (t0, σ))
def fX6_partFits_88 (z : Nat) (σ : ST) (t0 : Int32) : Option (Int32 × ST) := gd (zok t0) ( some (t0, σ))
def fX6_partFits_72 (z : Nat) (σ : ST) (t0 : Int32) : Option (Int32 × ST) := gd (zok t0) ( some (t0, σ))
def fX6_partFits_71 (z : Nat) (σ : ST) : Option (Int32 × ST) := fX6_partFits_72 z σ (0 : Int32)
def fX6_partFits (z : Nat) (σ : ST) (v1 : Int32) : Option (Int32 × ST) := bd (fX6_digitAt z σ v1) (fun u21 => (if (σ.1 1 2) = (0 : Int32) then bd (fX6_letterAt z σ v1) (fun u23 => bd (fX6_partBegins z σ u23) (fun u24 => gd (zok u24.1) ( some (u24.1, u24.2)))) else (if (σ.1 1 2) = (1 : Int32) then lt (pI σ 1 2 (2 : Int32)) (fun s27 => (if u21 < 0 then fX6_partFits_71 z s27 else bd (fX6_takeCell z s27 u21) (fun u29 => (if u29.1 = 0 then fX6_partFits_71 z u29.2 else fX6_partFits_72 z u29.2 (1 : Int32))))) else (if (σ.1 1 2) = (2 : Int32) then lt (pI σ 1 2 (0 : Int32)) (fun s32 => (if u21 < (1 : Int32) then fX6_partFits_88 z s32 (0 : Int32) else fX6_partFits_88 z s32 (1 : Int32))) else (if (σ.1 1 2) = (3 : Int32) then lt (pI σ 1 2 (4 : Int32)) (fun s35 => (if u21 < 0 then fX6_partFits_103 z s35 (0 : Int32) else fX6_partFits_103 z s35 (1 : Int32))) else lt (pI σ 1 2 (0 : Int32)) (fun s37 => (if u21 < 0 then fX6_partFits_123 z s37 else (if (6 : Int32) < u21 then fX6_partFits_123 z s37 else fX6_partFits_124 z s37 (1 : Int32)))))))))
section
variable {p : Program} {l : Launch} {e : Env} {s : State} {m : MethodId} {args : Array Value} {below : List Frame} {meth : Method} {c : Code} {G : GT}
set_option maxHeartbeats 4000000 in
set_option maxRecDepth 100000 in
theorem wX6_partFits_124 (C0 : Cx p s m args meth c cX6_partFits RX6 3 (some .boolean) wsX6_partFits) (G0 : Gx G s) (hJ : gJ 80 G) (z : Nat) (σ : ST) (t0 : Int32) (res : (Int32 × ST)) (h : fX6_partFits_124 z σ t0 = some res)  {H : Heap} {locs : List Loc} {ls : Array Slot} (hW : Wd cellX 80 G s.heap σ H locs) (hl : lv_has ls 3 []) : W p l e rX6_partFits s m args below meth c H locs 0 0 (MQ below (XQi cellX 80 G res.1 res.2) args s 0 0 (gA 80 G)) (F0 m 124 ls [.int t0]) := by
  unfold fX6_partFits_124 at h
  obtain ⟨g43, h⟩ := gd_some h
  cases h
  exact x_zret C0 hW g43 dX6_partFits_124
set_option maxHeartbeats 4000000 in
set_option maxRecDepth 100000 in
theorem wX6_partFits_123 (C0 : Cx p s m args meth c cX6_partFits RX6 3 (some .boolean) wsX6_partFits) (G0 : Gx G s) (hJ : gJ 80 G) (z : Nat) (σ : ST) (res : (Int32 × ST)) (h : fX6_partFits_123 z σ = some res)  {H : Heap} {locs : List Loc} {ls : Array Slot} (hW : Wd cellX 80 G s.heap σ H locs) (hl : lv_has ls 3 []) : W p l e rX6_partFits s m args below meth c H locs 0 0 (MQ below (XQi cellX 80 G res.1 res.2) args s 0 0 (gA 80 G)) (F0 m 123 ls []) := by
  unfold fX6_partFits_123 at h
  refine lv_iconst (v := (0 : Int32)) C0.1 C0.2.1 dX6_partFits_123 (by decide) ?_
  exact wX6_partFits_124 C0 G0 hJ z σ (0 : Int32) _ h hW (lv_sub hl [] rfl)
set_option maxHeartbeats 4000000 in
set_option maxRecDepth 100000 in
theorem wX6_partFits_103 (C0 : Cx p s m args meth c cX6_partFits RX6 3 (some .boolean) wsX6_partFits) (G0 : Gx G s) (hJ : gJ 80 G) (z : Nat) (σ : ST) (t0 : Int32) (res : (Int32 × ST)) (h : fX6_partFits_103 z σ t0 = some res)  {H : Heap} {locs : List Loc} {ls : Array Slot} (hW : Wd cellX 80 G s.heap σ H locs) (hl : lv_has ls 3 []) : W p l e rX6_partFits s m args below meth c H locs 0 0 (MQ below (XQi cellX 80 G res.1 res.2) args s 0 0 (gA 80 G)) (F0 m 103 ls [.int t0]) := by
  unfold fX6_partFits_103 at h
  obtain ⟨g42, h⟩ := gd_some h
  cases h
  exact x_zret C0 hW g42 dX6_partFits_103
set_option maxHeartbeats 4000000 in
set_option maxRecDepth 100000 in
theorem wX6_partFits_88 (C0 : Cx p s m args meth c cX6_partFits RX6 3 (some .boolean) wsX6_partFits) (G0 : Gx G s) (hJ : gJ 80 G) (z : Nat) (σ : ST) (t0 : Int32) (res : (Int32 × ST)) (h : fX6_partFits_88 z σ t0 = some res)  {H : Heap} {locs : List Loc} {ls : Array Slot} (hW : Wd cellX 80 G s.heap σ H locs) (hl : lv_has ls 3 []) : W p l e rX6_partFits s m args below meth c H locs 0 0 (MQ below (XQi cellX 80 G res.1 res.2) args s 0 0 (gA 80 G)) (F0 m 88 ls [.int t0]) := by
  unfold fX6_partFits_88 at h
  obtain ⟨g41, h⟩ := gd_some h
  cases h
  exact x_zret C0 hW g41 dX6_partFits_88
set_option maxHeartbeats 4000000 in
set_option maxRecDepth 100000 in
theorem wX6_partFits_72 (C0 : Cx p s m args meth c cX6_partFits RX6 3 (some .boolean) wsX6_partFits) (G0 : Gx G s) (hJ : gJ 80 G) (z : Nat) (σ : ST) (t0 : Int32) (res : (Int32 × ST)) (h : fX6_partFits_72 z σ t0 = some res)  {H : Heap} {locs : List Loc} {ls : Array Slot} (hW : Wd cellX 80 G s.heap σ H locs) (hl : lv_has ls 3 []) : W p l e rX6_partFits s m args below meth c H locs 0 0 (MQ below (XQi cellX 80 G res.1 res.2) args s 0 0 (gA 80 G)) (F0 m 72 ls [.int t0]) := by
  unfold fX6_partFits_72 at h
  obtain ⟨g40, h⟩ := gd_some h
  cases h
  exact x_zret C0 hW g40 dX6_partFits_72
set_option maxHeartbeats 4000000 in
set_option maxRecDepth 100000 in
theorem wX6_partFits_71 (C0 : Cx p s m args meth c cX6_partFits RX6 3 (some .boolean) wsX6_partFits) (G0 : Gx G s) (hJ : gJ 80 G) (z : Nat) (σ : ST) (res : (Int32 × ST)) (h : fX6_partFits_71 z σ = some res)  {H : Heap} {locs : List Loc} {ls : Array Slot} (hW : Wd cellX 80 G s.heap σ H locs) (hl : lv_has ls 3 []) : W p l e rX6_partFits s m args below meth c H locs 0 0 (MQ below (XQi cellX 80 G res.1 res.2) args s 0 0 (gA 80 G)) (F0 m 71 ls []) := by
  unfold fX6_partFits_71 at h
  refine lv_iconst (v := (0 : Int32)) C0.1 C0.2.1 dX6_partFits_71 (by decide) ?_
  exact wX6_partFits_72 C0 G0 hJ z σ (0 : Int32) _ h hW (lv_sub hl [] rfl)
set_option maxHeartbeats 4000000 in
set_option maxRecDepth 100000 in
theorem wX6_partFits (C0 : Cx p s m args meth c cX6_partFits RX6 3 (some .boolean) wsX6_partFits) (G0 : Gx G s) (hJ : gJ 80 G) (z : Nat) (σ : ST) (v1 : Int32) (res : (Int32 × ST)) (h : fX6_partFits z σ v1 = some res)  {H : Heap} {locs : List Loc} {ls : Array Slot} (hW : Wd cellX 80 G s.heap σ H locs) (hl : lv_has ls 3 [(0, .ref (aD G 1)), (1, .int v1)]) : W p l e rX6_partFits s m args below meth c H locs 0 0 (MQ below (XQi cellX 80 G res.1 res.2) args s 0 0 (gA 80 G)) (F0 m 0 ls []) := by
  unfold fX6_partFits at h
  refine lv_aload_n C0.1 C0.2.1 dX6_partFits_0 rfl (lv_at hl 0 rfl) ?_
  refine lv_iload_n C0.1 C0.2.1 dX6_partFits_1 rfl (lv_at hl 1 rfl) ?_
  obtain ⟨u21, hu21, h⟩ := bd_some h
  refine x_ki (r := u21) (x_runV (As := [.int v1]) (rest := []) C0 G0 hW (cX6_digitAt_met l hJ z σ v1 _ hu21) (cwV 1 C0.2.2.2.1 gX6_partFits_X6_digitAt rfl rfl rfl hdvX6_digitAt ⟨Nat.le_of_ble_eq_true rfl, Nat.le_of_ble_eq_true rfl⟩) (cX_X6 rfl) (by decide) rfl rfl rfl hl (Nat.le_of_ble_eq_true rfl) dX6_partFits_2 ⟨Nat.le_refl 0, Nat.le_refl 0⟩) hW (fun H locs hW => ?_)
  refine lv_istore_n (lv' := [(2, .int u21), (0, .ref (aD G 1)), (1, .int v1)]) C0.1 C0.2.1 dX6_partFits_5 rfl hl (by decide) rfl (fun ls hl => ?_)
  refine lv_aload_n C0.1 C0.2.1 dX6_partFits_6 rfl (lv_at hl 1 rfl) ?_
  refine x_get (v := .int (σ.1 1 2)) C0 G0 hW (cX_X6 rfl) (by decide) rfl 2 (by decide) inX6_partFits_X6 lkX6_partFits_23 rfl dX6_partFits_7 ?_
  by_cases c22 : (σ.1 1 2) = (0 : Int32)
  · rw [if_pos c22] at h
    refine lv_tableIn (tgt := 40) C0.1 C0.2.1 dX6_partFits_10 (by rw [c22]; decide) (by rw [c22]; decide) (by rw [c22]; rfl) (by decide) ?_
    refine lv_aload_n C0.1 C0.2.1 dX6_partFits_40 rfl (lv_at hl 1 rfl) ?_
    refine lv_aload_n C0.1 C0.2.1 dX6_partFits_41 rfl (lv_at hl 1 rfl) ?_
    refine lv_iload_n C0.1 C0.2.1 dX6_partFits_42 rfl (lv_at hl 2 rfl) ?_
    obtain ⟨u23, hu23, h⟩ := bd_some h
    refine x_ki (r := u23) (x_runV (As := [.int v1]) (rest := [.ref (aD G 1)]) C0 G0 hW (cX6_letterAt_met l hJ z σ v1 _ hu23) (cwV 1 C0.2.2.2.1 gX6_partFits_X6_letterAt rfl rfl rfl hdvX6_letterAt ⟨Nat.le_of_ble_eq_true rfl, Nat.le_of_ble_eq_true rfl⟩) (cX_X6 rfl) (by decide) rfl rfl rfl hl (Nat.le_of_ble_eq_true rfl) dX6_partFits_43 ⟨Nat.le_refl 0, Nat.le_refl 0⟩) hW (fun H locs hW => ?_)
    obtain ⟨u24, hu24, h⟩ := bd_some h
    refine x_ki (r := u24.1) (x_runV (As := [.int u23]) (rest := []) C0 G0 hW (cX6_partBegins_met l hJ z σ u23 _ hu24) (cwV 1 C0.2.2.2.1 gX6_partFits_X6_partBegins rfl rfl rfl hdvX6_partBegins ⟨Nat.le_of_ble_eq_true rfl, Nat.le_of_ble_eq_true rfl⟩) (cX_X6 rfl) (by decide) rfl rfl rfl hl (Nat.le_of_ble_eq_true rfl) dX6_partFits_46 ⟨Nat.le_refl 0, Nat.le_refl 0⟩) hW (fun H locs hW => ?_)
    obtain ⟨g25, h⟩ := gd_some h
    cases h
    exact x_zret C0 hW g25 dX6_partFits_49
  rw [if_neg c22] at h
  by_cases c26 : (σ.1 1 2) = (1 : Int32)
  · rw [if_pos c26] at h
    refine lv_tableIn (tgt := 50) C0.1 C0.2.1 dX6_partFits_10 (by rw [c26]; decide) (by rw [c26]; decide) (by rw [c26]; rfl) (by decide) ?_
    refine lv_aload_n C0.1 C0.2.1 dX6_partFits_50 rfl (lv_at hl 1 rfl) ?_
    refine lv_iconst (v := (2 : Int32)) C0.1 C0.2.1 dX6_partFits_51 (by decide) ?_
    refine x_putI (v := (2 : Int32)) C0 G0 hJ hW (cX_X6 rfl) (by decide) rfl 2 (by decide) inX6_partFits_X6 lkX6_partFits_23 tyX6 tyX6_ok nmX6 rfl rfl rfl (Nat.le_of_ble_eq_true rfl) (hu_X6_2 rfl) dX6_partFits_52 (fun H locs hW => ?_)
    obtain ⟨s27, es27, h⟩ := lt_some h
    rw [es27] at hW
    refine lv_iload_n C0.1 C0.2.1 dX6_partFits_55 rfl (lv_at hl 0 rfl) ?_
    refine lv_if_lt (tgt := 71) C0.1 C0.2.1 dX6_partFits_56 (by decide) (fun c28 => ?_) (fun c28 => ?_)
    · rw [if_pos c28] at h
      exact wX6_partFits_71 C0 G0 hJ z s27 _ h hW (lv_sub hl [] rfl)
    · rw [if_neg c28] at h
      refine lv_aload_n C0.1 C0.2.1 dX6_partFits_59 rfl (lv_at hl 1 rfl) ?_
      refine lv_iload_n C0.1 C0.2.1 dX6_partFits_60 rfl (lv_at hl 0 rfl) ?_
      obtain ⟨u29, hu29, h⟩ := bd_some h
      refine x_ki (r := u29.1) (x_runV (As := [.int u21]) (rest := []) C0 G0 hW (cX6_takeCell_met l hJ z s27 u21 _ hu29) (cwV 1 C0.2.2.2.1 gX6_partFits_X6_takeCell rfl rfl rfl hdvX6_takeCell ⟨Nat.le_of_ble_eq_true rfl, Nat.le_of_ble_eq_true rfl⟩) (cX_X6 rfl) (by decide) rfl rfl rfl hl (Nat.le_of_ble_eq_true rfl) dX6_partFits_61 ⟨Nat.le_refl 0, Nat.le_refl 0⟩) hW (fun H locs hW => ?_)
      refine lv_if_eq (tgt := 71) C0.1 C0.2.1 dX6_partFits_64 (by decide) (fun c30 => ?_) (fun c30 => ?_)
      · rw [if_pos c30] at h
        exact wX6_partFits_71 C0 G0 hJ z u29.2 _ h hW (lv_sub hl [] rfl)
      · rw [if_neg c30] at h
        refine lv_iconst (v := (1 : Int32)) C0.1 C0.2.1 dX6_partFits_67 (by decide) ?_
        refine lv_goto (tgt := 72) C0.1 C0.2.1 dX6_partFits_68 (by decide) ?_
        exact wX6_partFits_72 C0 G0 hJ z u29.2 (1 : Int32) _ h hW (lv_sub hl [] rfl)
  rw [if_neg c26] at h
  by_cases c31 : (σ.1 1 2) = (2 : Int32)
  · rw [if_pos c31] at h
    refine lv_tableIn (tgt := 73) C0.1 C0.2.1 dX6_partFits_10 (by rw [c31]; decide) (by rw [c31]; decide) (by rw [c31]; rfl) (by decide) ?_
    refine lv_aload_n C0.1 C0.2.1 dX6_partFits_73 rfl (lv_at hl 1 rfl) ?_
    refine lv_iconst (v := (0 : Int32)) C0.1 C0.2.1 dX6_partFits_74 (by decide) ?_
    refine x_putI (v := (0 : Int32)) C0 G0 hJ hW (cX_X6 rfl) (by decide) rfl 2 (by decide) inX6_partFits_X6 lkX6_partFits_23 tyX6 tyX6_ok nmX6 rfl rfl rfl (Nat.le_of_ble_eq_true rfl) (hu_X6_2 rfl) dX6_partFits_75 (fun H locs hW => ?_)
    obtain ⟨s32, es32, h⟩ := lt_some h
    rw [es32] at hW
    refine lv_iload_n C0.1 C0.2.1 dX6_partFits_78 rfl (lv_at hl 0 rfl) ?_
    refine lv_iconst (v := (1 : Int32)) C0.1 C0.2.1 dX6_partFits_79 (by decide) ?_
    refine lv_icmp_lt (tgt := 87) C0.1 C0.2.1 dX6_partFits_80 (by decide) (fun c33 => ?_) (fun c33 => ?_)
    · rw [if_pos c33] at h
      refine lv_iconst (v := (0 : Int32)) C0.1 C0.2.1 dX6_partFits_87 (by decide) ?_
      exact wX6_partFits_88 C0 G0 hJ z s32 (0 : Int32) _ h hW (lv_sub hl [] rfl)
    · rw [if_neg c33] at h
      refine lv_iconst (v := (1 : Int32)) C0.1 C0.2.1 dX6_partFits_83 (by decide) ?_
      refine lv_goto (tgt := 88) C0.1 C0.2.1 dX6_partFits_84 (by decide) ?_
      exact wX6_partFits_88 C0 G0 hJ z s32 (1 : Int32) _ h hW (lv_sub hl [] rfl)
  rw [if_neg c31] at h
  by_cases c34 : (σ.1 1 2) = (3 : Int32)
  · rw [if_pos c34] at h
    refine lv_tableIn (tgt := 89) C0.1 C0.2.1 dX6_partFits_10 (by rw [c34]; decide) (by rw [c34]; decide) (by rw [c34]; rfl) (by decide) ?_
    refine lv_aload_n C0.1 C0.2.1 dX6_partFits_89 rfl (lv_at hl 1 rfl) ?_
    refine lv_iconst (v := (4 : Int32)) C0.1 C0.2.1 dX6_partFits_90 (by decide) ?_
    refine x_putI (v := (4 : Int32)) C0 G0 hJ hW (cX_X6 rfl) (by decide) rfl 2 (by decide) inX6_partFits_X6 lkX6_partFits_23 tyX6 tyX6_ok nmX6 rfl rfl rfl (Nat.le_of_ble_eq_true rfl) (hu_X6_2 rfl) dX6_partFits_91 (fun H locs hW => ?_)
    obtain ⟨s35, es35, h⟩ := lt_some h
    rw [es35] at hW
    refine lv_iload_n C0.1 C0.2.1 dX6_partFits_94 rfl (lv_at hl 0 rfl) ?_
    refine lv_if_lt (tgt := 102) C0.1 C0.2.1 dX6_partFits_95 (by decide) (fun c36 => ?_) (fun c36 => ?_)
    · rw [if_pos c36] at h
      refine lv_iconst (v := (0 : Int32)) C0.1 C0.2.1 dX6_partFits_102 (by decide) ?_
      exact wX6_partFits_103 C0 G0 hJ z s35 (0 : Int32) _ h hW (lv_sub hl [] rfl)
    · rw [if_neg c36] at h
      refine lv_iconst (v := (1 : Int32)) C0.1 C0.2.1 dX6_partFits_98 (by decide) ?_
      refine lv_goto (tgt := 103) C0.1 C0.2.1 dX6_partFits_99 (by decide) ?_
      exact wX6_partFits_103 C0 G0 hJ z s35 (1 : Int32) _ h hW (lv_sub hl [] rfl)
  rw [if_neg c34] at h
  refine lv_tableOut (tgt := 104) C0.1 C0.2.1 dX6_partFits_10 (by have := i32_ne c22; have := i32_ne c26; have := i32_ne c31; have := i32_ne c34; simp only [Int32.reduceToInt] at *; omega) (by decide) ?_
  refine lv_aload_n C0.1 C0.2.1 dX6_partFits_104 rfl (lv_at hl 1 rfl) ?_
  refine lv_iconst (v := (0 : Int32)) C0.1 C0.2.1 dX6_partFits_105 (by decide) ?_
  refine x_putI (v := (0 : Int32)) C0 G0 hJ hW (cX_X6 rfl) (by decide) rfl 2 (by decide) inX6_partFits_X6 lkX6_partFits_23 tyX6 tyX6_ok nmX6 rfl rfl rfl (Nat.le_of_ble_eq_true rfl) (hu_X6_2 rfl) dX6_partFits_106 (fun H locs hW => ?_)
  obtain ⟨s37, es37, h⟩ := lt_some h
  rw [es37] at hW
  refine lv_iload_n C0.1 C0.2.1 dX6_partFits_109 rfl (lv_at hl 0 rfl) ?_
  refine lv_if_lt (tgt := 123) C0.1 C0.2.1 dX6_partFits_110 (by decide) (fun c38 => ?_) (fun c38 => ?_)
  · rw [if_pos c38] at h
    exact wX6_partFits_123 C0 G0 hJ z s37 _ h hW (lv_sub hl [] rfl)
  · rw [if_neg c38] at h
    refine lv_iload_n C0.1 C0.2.1 dX6_partFits_113 rfl (lv_at hl 0 rfl) ?_
    refine lv_bipush (v := (6 : Int32)) C0.1 C0.2.1 dX6_partFits_114 (by decide) ?_
    refine lv_icmp_gt (tgt := 123) C0.1 C0.2.1 dX6_partFits_116 (by decide) (fun c39 => ?_) (fun c39 => ?_)
    · rw [if_pos c39] at h
      exact wX6_partFits_123 C0 G0 hJ z s37 _ h hW (lv_sub hl [] rfl)
    · rw [if_neg c39] at h
      refine lv_iconst (v := (1 : Int32)) C0.1 C0.2.1 dX6_partFits_119 (by decide) ?_
      refine lv_goto (tgt := 124) C0.1 C0.2.1 dX6_partFits_120 (by decide) ?_
      exact wX6_partFits_124 C0 G0 hJ z s37 (1 : Int32) _ h hW (lv_sub hl [] rfl)
theorem cX6_partFits_met (l : Launch) {G : GT} (hJ : gJ 80 G) (z : Nat) (σ : ST) (v1 : Int32) (res : (Int32 × ST)) (h : fX6_partFits z σ v1 = some res) : Met l yX6_partFits wsX6_partFits rX6_partFits (XPc cellX 80 G σ [.ref (aD G 1), .int v1]) (XQi cellX 80 G res.1 res.2) 0 0 (gA 80 G) :=
  x_met (ret := (some .boolean)) (maxL := 3) (by decide) rfl (Nat.le_of_ble_eq_true rfl) (fun p e s m args below meth c H locs ls C0 G0 hW hl => wX6_partFits C0 G0 hJ z σ v1 res h hW hl)
end
/-! X6_firstFault -/
def rX6_firstFault : Room := { frames := 3, cells := 0, slots := 0, locals := 65 }
theorem hdvX6_firstFault : yX6_firstFault.cls = RX6 ∧ yX6_firstFault.cls ≠ "java/lang/invoke/MethodHandle" ∧ yX6_firstFault.cls ≠ "java/lang/invoke/VarHandle" ∧ (parseMethodDescriptor yX6_firstFault.desc).map (fun d => d.parameters.length) = some 0 := by decide +kernel
theorem inX6_firstFault_X6 : ∀ w ∈ u_ws RX6 TX6 6, w ∈ wsX6_firstFault := by decide +kernel
theorem lkX6_firstFault_23 : Cond.fieldLink RX6 23 (TX6 2).1 (TX6 2).2.1 (TX6 2).2.2.1 ∈ wsX6_firstFault := by decide +kernel
theorem lkX6_firstFault_26 : Cond.fieldLink RX6 26 (TX6 3).1 (TX6 3).2.1 (TX6 3).2.2.1 ∈ wsX6_firstFault := by decide +kernel
theorem lkX6_firstFault_29 : Cond.fieldLink RX6 29 (TX6 4).1 (TX6 4).2.1 (TX6 4).2.2.1 ∈ wsX6_firstFault := by decide +kernel
theorem lkX6_firstFault_33 : Cond.fieldLink RX6 33 (TX6 5).1 (TX6 5).2.1 (TX6 5).2.2.1 ∈ wsX6_firstFault := by decide +kernel
theorem lkX6_firstFault_15 : Cond.fieldLink RX6 15 (TX6 1).1 (TX6 1).2.1 (TX6 1).2.2.1 ∈ wsX6_firstFault := by decide +kernel
def fX6_firstFault_89 (z : Nat) (σ : ST) (t0 : Int32) : Option (Int32 × ST) := some (t0, σ)
def fX6_firstFault_80 (z : Nat) (σ : ST) : Option (Int32 × ST) := fX6_firstFault_89 z σ (σ.1 1 1)
def fX6_firstFault_51 (z : Nat) (r24 : ST → Int32 → Option (Int32 × ST)) (σ : ST) (v1 : Int32) (t0 : Int32) : Option (Int32 × ST) := (if t0 = 0 then some (v1, σ) else r24 σ (v1 + 1))
def fX6_firstFault_24 (z : Nat) : Nat → ST → Int32 → Option (Int32 × ST)
  | 0 => fun _ _ => none
  | n + 1 => fun σ v1 => (if (σ.1 1 1) ≤ v1 then (if (σ.1 1 1) < (7 : Int32) then fX6_firstFault_80 z σ else (if (σ.1 1 2) = 0 then fX6_firstFault_89 z σ (-9 : Int32) else fX6_firstFault_80 z σ)) else (if (7 : Int32) ≤ v1 then bd (fX6_partFits z σ v1) (fun u31 => fX6_firstFault_51 z (fX6_firstFault_24 z n) u31.2 v1 u31.1) else bd (fX6_headFits z σ v1) (fun u32 => fX6_firstFault_51 z (fX6_firstFault_24 z n) σ v1 u32)))
def fX6_firstFault (z : Nat) (σ : ST) : Option (Int32 × ST) := lt (pI σ 1 2 (0 : Int32)) (fun s21 => lt (pI s21 1 3 (1023 : Int32)) (fun s22 => gd (zok (1 : Int32)) ( lt (pI s22 1 4 (1 : Int32)) (fun s24 => gd (zok (1 : Int32)) ( lt (pI s24 1 5 (1 : Int32)) (fun s26 => fX6_firstFault_24 z z s26 (0 : Int32)))))))
section
variable {p : Program} {l : Launch} {e : Env} {s : State} {m : MethodId} {args : Array Value} {below : List Frame} {meth : Method} {c : Code} {G : GT}
set_option maxHeartbeats 4000000 in
set_option maxRecDepth 100000 in
theorem wX6_firstFault_89 (C0 : Cx p s m args meth c cX6_firstFault RX6 3 (some .int) wsX6_firstFault) (G0 : Gx G s) (hJ : gJ 80 G) (z : Nat) (σ : ST) (t0 : Int32) (res : (Int32 × ST)) (h : fX6_firstFault_89 z σ t0 = some res)  {H : Heap} {locs : List Loc} {ls : Array Slot} (hW : Wd cellX 80 G s.heap σ H locs) (hl : lv_has ls 3 []) : W p l e rX6_firstFault s m args below meth c H locs 0 0 (MQ below (XQi cellX 80 G res.1 res.2) args s 0 0 (gA 80 G)) (F0 m 89 ls [.int t0]) := by
  unfold fX6_firstFault_89 at h
  cases h
  exact x_iret C0 hW dX6_firstFault_89
set_option maxHeartbeats 4000000 in
set_option maxRecDepth 100000 in
theorem wX6_firstFault_80 (C0 : Cx p s m args meth c cX6_firstFault RX6 3 (some .int) wsX6_firstFault) (G0 : Gx G s) (hJ : gJ 80 G) (z : Nat) (σ : ST) (res : (Int32 × ST)) (h : fX6_firstFault_80 z σ = some res)  {H : Heap} {locs : List Loc} {ls : Array Slot} (hW : Wd cellX 80 G s.heap σ H locs) (hl : lv_has ls 3 [(0, .ref (aD G 1))]) : W p l e rX6_firstFault s m args below meth c H locs 0 0 (MQ below (XQi cellX 80 G res.1 res.2) args s 0 0 (gA 80 G)) (F0 m 80 ls []) := by
  unfold fX6_firstFault_80 at h
  refine lv_aload_n C0.1 C0.2.1 dX6_firstFault_80 rfl (lv_at hl 0 rfl) ?_
  refine x_get (v := .int (σ.1 1 1)) C0 G0 hW (cX_X6 rfl) (by decide) rfl 1 (by decide) inX6_firstFault_X6 lkX6_firstFault_15 rfl dX6_firstFault_81 ?_
  refine lv_goto (tgt := 89) C0.1 C0.2.1 dX6_firstFault_84 (by decide) ?_
  exact wX6_firstFault_89 C0 G0 hJ z σ (σ.1 1 1) _ h hW (lv_sub hl [] rfl)
set_option maxHeartbeats 4000000 in
set_option maxRecDepth 100000 in
theorem wX6_firstFault_51 (C0 : Cx p s m args meth c cX6_firstFault RX6 3 (some .int) wsX6_firstFault) (G0 : Gx G s) (hJ : gJ 80 G) (z : Nat) (r24 : ST → Int32 → Option (Int32 × ST)) (σ : ST) (v1 : Int32) (t0 : Int32) (res : (Int32 × ST)) (h : fX6_firstFault_51 z r24 σ v1 t0 = some res) (hr24 : ∀ (σ : ST) (v1 : Int32), r24 σ v1 = some res → ∀ (H : Heap) (locs : List Loc) (ls : Array Slot), Wd cellX 80 G s.heap σ H locs → lv_has ls 3 [(0, .ref (aD G 1)), (1, .int v1)] → W p l e rX6_firstFault s m args below meth c H locs 0 0 (MQ below (XQi cellX 80 G res.1 res.2) args s 0 0 (gA 80 G)) (F0 m 24 ls [])) {H : Heap} {locs : List Loc} {ls : Array Slot} (hW : Wd cellX 80 G s.heap σ H locs) (hl : lv_has ls 3 [(0, .ref (aD G 1)), (1, .int v1)]) : W p l e rX6_firstFault s m args below meth c H locs 0 0 (MQ below (XQi cellX 80 G res.1 res.2) args s 0 0 (gA 80 G)) (F0 m 51 ls [.int t0]) := by
  unfold fX6_firstFault_51 at h
  refine lv_istore_n (lv' := [(2, .int t0), (0, .ref (aD G 1)), (1, .int v1)]) C0.1 C0.2.1 dX6_firstFault_51 rfl hl (by decide) rfl (fun ls hl => ?_)
  refine lv_iload_n C0.1 C0.2.1 dX6_firstFault_52 rfl (lv_at hl 0 rfl) ?_
  refine lv_if_ne (tgt := 58) C0.1 C0.2.1 dX6_firstFault_53 (by decide) (fun c33 => ?_) (fun c33 => ?_)
  · rw [if_neg c33] at h
    refine lv_iinc (v := (v1 + 1)) (lv' := [(1, .int (v1 + 1)), (2, .int t0), (0, .ref (aD G 1))]) C0.1 C0.2.1 dX6_firstFault_58 hl (k := 2) rfl rfl (by decide) rfl (fun ls hl => ?_)
    refine lv_goto (tgt := 24) C0.1 C0.2.1 dX6_firstFault_61 (by decide) ?_
    exact hr24 σ (v1 + 1) h _ _ _ hW (lv_sub hl [2, 0] rfl)
  · rw [if_pos c33] at h
    refine lv_iload_n C0.1 C0.2.1 dX6_firstFault_56 rfl (lv_at hl 2 rfl) ?_
    cases h
    exact x_iret C0 hW dX6_firstFault_57
set_option maxHeartbeats 4000000 in
set_option maxRecDepth 100000 in
theorem wX6_firstFault_24 (C0 : Cx p s m args meth c cX6_firstFault RX6 3 (some .int) wsX6_firstFault) (G0 : Gx G s) (hJ : gJ 80 G) (z : Nat) (n : Nat) (σ : ST) (v1 : Int32) (res : (Int32 × ST)) (h : fX6_firstFault_24 z n σ v1 = some res)  {H : Heap} {locs : List Loc} {ls : Array Slot} (hW : Wd cellX 80 G s.heap σ H locs) (hl : lv_has ls 3 [(0, .ref (aD G 1)), (1, .int v1)]) : W p l e rX6_firstFault s m args below meth c H locs 0 0 (MQ below (XQi cellX 80 G res.1 res.2) args s 0 0 (gA 80 G)) (F0 m 24 ls []) := by
  induction n generalizing σ v1 H locs ls with
  | zero => cases h
  | succ n ih =>
    have hr24 : ∀ (σ : ST) (v1 : Int32), fX6_firstFault_24 z n σ v1 = some res → ∀ (H : Heap) (locs : List Loc) (ls : Array Slot), Wd cellX 80 G s.heap σ H locs → lv_has ls 3 [(0, .ref (aD G 1)), (1, .int v1)] → W p l e rX6_firstFault s m args below meth c H locs 0 0 (MQ below (XQi cellX 80 G res.1 res.2) args s 0 0 (gA 80 G)) (F0 m 24 ls []) := fun σ v1 h H locs ls hW hl => ih σ v1 h hW hl
    clear ih
    unfold fX6_firstFault_24 at h
    refine lv_iload_n C0.1 C0.2.1 dX6_firstFault_24 rfl (lv_at hl 1 rfl) ?_
    refine lv_aload_n C0.1 C0.2.1 dX6_firstFault_25 rfl (lv_at hl 0 rfl) ?_
    refine x_get (v := .int (σ.1 1 1)) C0 G0 hW (cX_X6 rfl) (by decide) rfl 1 (by decide) inX6_firstFault_X6 lkX6_firstFault_15 rfl dX6_firstFault_26 ?_
    refine lv_icmp_ge (tgt := 64) C0.1 C0.2.1 dX6_firstFault_29 (by decide) (fun c27 => ?_) (fun c27 => ?_)
    · rw [if_pos c27] at h
      refine lv_aload_n C0.1 C0.2.1 dX6_firstFault_64 rfl (lv_at hl 0 rfl) ?_
      refine x_get (v := .int (σ.1 1 1)) C0 G0 hW (cX_X6 rfl) (by decide) rfl 1 (by decide) inX6_firstFault_X6 lkX6_firstFault_15 rfl dX6_firstFault_65 ?_
      refine lv_bipush (v := (7 : Int32)) C0.1 C0.2.1 dX6_firstFault_68 (by decide) ?_
      refine lv_icmp_lt (tgt := 80) C0.1 C0.2.1 dX6_firstFault_70 (by decide) (fun c28 => ?_) (fun c28 => ?_)
      · rw [if_pos c28] at h
        exact wX6_firstFault_80 C0 G0 hJ z σ _ h hW (lv_sub hl [0] rfl)
      · rw [if_neg c28] at h
        refine lv_aload_n C0.1 C0.2.1 dX6_firstFault_73 rfl (lv_at hl 0 rfl) ?_
        refine x_get (v := .int (σ.1 1 2)) C0 G0 hW (cX_X6 rfl) (by decide) rfl 2 (by decide) inX6_firstFault_X6 lkX6_firstFault_23 rfl dX6_firstFault_74 ?_
        refine lv_if_eq (tgt := 87) C0.1 C0.2.1 dX6_firstFault_77 (by decide) (fun c29 => ?_) (fun c29 => ?_)
        · rw [if_pos c29] at h
          refine lv_bipush (v := (-9 : Int32)) C0.1 C0.2.1 dX6_firstFault_87 (by decide) ?_
          exact wX6_firstFault_89 C0 G0 hJ z σ (-9 : Int32) _ h hW (lv_sub hl [] rfl)
        · rw [if_neg c29] at h
          exact wX6_firstFault_80 C0 G0 hJ z σ _ h hW (lv_sub hl [0] rfl)
    · rw [if_neg c27] at h
      refine lv_iload_n C0.1 C0.2.1 dX6_firstFault_32 rfl (lv_at hl 1 rfl) ?_
      refine lv_bipush (v := (7 : Int32)) C0.1 C0.2.1 dX6_firstFault_33 (by decide) ?_
      refine lv_icmp_ge (tgt := 46) C0.1 C0.2.1 dX6_firstFault_35 (by decide) (fun c30 => ?_) (fun c30 => ?_)
      · rw [if_pos c30] at h
        refine lv_aload_n C0.1 C0.2.1 dX6_firstFault_46 rfl (lv_at hl 0 rfl) ?_
        refine lv_iload_n C0.1 C0.2.1 dX6_firstFault_47 rfl (lv_at hl 1 rfl) ?_
        obtain ⟨u31, hu31, h⟩ := bd_some h
        refine x_ki (r := u31.1) (x_runV (As := [.int v1]) (rest := []) C0 G0 hW (cX6_partFits_met l hJ z σ v1 _ hu31) (cwV 1 C0.2.2.2.1 gX6_firstFault_X6_partFits rfl rfl rfl hdvX6_partFits ⟨Nat.le_of_ble_eq_true rfl, Nat.le_of_ble_eq_true rfl⟩) (cX_X6 rfl) (by decide) rfl rfl rfl hl (Nat.le_of_ble_eq_true rfl) dX6_firstFault_48 ⟨Nat.le_refl 0, Nat.le_refl 0⟩) hW (fun H locs hW => ?_)
        exact wX6_firstFault_51 C0 G0 hJ z (fX6_firstFault_24 z n) u31.2 v1 u31.1 _ h (by exact hr24) hW (lv_sub hl [0, 1] rfl)
      · rw [if_neg c30] at h
        refine lv_aload_n C0.1 C0.2.1 dX6_firstFault_38 rfl (lv_at hl 0 rfl) ?_
        refine lv_iload_n C0.1 C0.2.1 dX6_firstFault_39 rfl (lv_at hl 1 rfl) ?_
        obtain ⟨u32, hu32, h⟩ := bd_some h
        refine x_ki (r := u32) (x_runV (As := [.int v1]) (rest := []) C0 G0 hW (cX6_headFits_met l hJ z σ v1 _ hu32) (cwV 1 C0.2.2.2.1 gX6_firstFault_X6_headFits rfl rfl rfl hdvX6_headFits ⟨Nat.le_of_ble_eq_true rfl, Nat.le_of_ble_eq_true rfl⟩) (cX_X6 rfl) (by decide) rfl rfl rfl hl (Nat.le_of_ble_eq_true rfl) dX6_firstFault_40 ⟨Nat.le_refl 0, Nat.le_refl 0⟩) hW (fun H locs hW => ?_)
        refine lv_goto (tgt := 51) C0.1 C0.2.1 dX6_firstFault_43 (by decide) ?_
        exact wX6_firstFault_51 C0 G0 hJ z (fX6_firstFault_24 z n) σ v1 u32 _ h (by exact hr24) hW (lv_sub hl [0, 1] rfl)
set_option maxHeartbeats 4000000 in
set_option maxRecDepth 100000 in
theorem wX6_firstFault (C0 : Cx p s m args meth c cX6_firstFault RX6 3 (some .int) wsX6_firstFault) (G0 : Gx G s) (hJ : gJ 80 G) (z : Nat) (σ : ST) (res : (Int32 × ST)) (h : fX6_firstFault z σ = some res)  {H : Heap} {locs : List Loc} {ls : Array Slot} (hW : Wd cellX 80 G s.heap σ H locs) (hl : lv_has ls 3 [(0, .ref (aD G 1))]) : W p l e rX6_firstFault s m args below meth c H locs 0 0 (MQ below (XQi cellX 80 G res.1 res.2) args s 0 0 (gA 80 G)) (F0 m 0 ls []) := by
  unfold fX6_firstFault at h
  refine lv_aload_n C0.1 C0.2.1 dX6_firstFault_0 rfl (lv_at hl 0 rfl) ?_
  refine lv_iconst (v := (0 : Int32)) C0.1 C0.2.1 dX6_firstFault_1 (by decide) ?_
  refine x_putI (v := (0 : Int32)) C0 G0 hJ hW (cX_X6 rfl) (by decide) rfl 2 (by decide) inX6_firstFault_X6 lkX6_firstFault_23 tyX6 tyX6_ok nmX6 rfl rfl rfl (Nat.le_of_ble_eq_true rfl) (hu_X6_2 rfl) dX6_firstFault_2 (fun H locs hW => ?_)
  obtain ⟨s21, es21, h⟩ := lt_some h
  rw [es21] at hW
  refine lv_aload_n C0.1 C0.2.1 dX6_firstFault_5 rfl (lv_at hl 0 rfl) ?_
  refine lv_sipush (v := (1023 : Int32)) C0.1 C0.2.1 dX6_firstFault_6 (by decide) ?_
  refine x_putI (v := (1023 : Int32)) C0 G0 hJ hW (cX_X6 rfl) (by decide) rfl 3 (by decide) inX6_firstFault_X6 lkX6_firstFault_26 tyX6 tyX6_ok nmX6 rfl rfl rfl (Nat.le_of_ble_eq_true rfl) (hu_X6_3 rfl) dX6_firstFault_9 (fun H locs hW => ?_)
  obtain ⟨s22, es22, h⟩ := lt_some h
  rw [es22] at hW
  refine lv_aload_n C0.1 C0.2.1 dX6_firstFault_12 rfl (lv_at hl 0 rfl) ?_
  refine lv_iconst (v := (1 : Int32)) C0.1 C0.2.1 dX6_firstFault_13 (by decide) ?_
  obtain ⟨g23, h⟩ := gd_some h
  refine x_putI (v := (1 : Int32)) C0 G0 hJ hW (cX_X6 rfl) (by decide) rfl 4 (by decide) inX6_firstFault_X6 lkX6_firstFault_29 tyX6 tyX6_ok nmX6 rfl (zok_n g23) (zok_f g23) (Nat.le_of_ble_eq_true rfl) (hu_X6_4 rfl) dX6_firstFault_14 (fun H locs hW => ?_)
  obtain ⟨s24, es24, h⟩ := lt_some h
  rw [es24] at hW
  refine lv_aload_n C0.1 C0.2.1 dX6_firstFault_17 rfl (lv_at hl 0 rfl) ?_
  refine lv_iconst (v := (1 : Int32)) C0.1 C0.2.1 dX6_firstFault_18 (by decide) ?_
  obtain ⟨g25, h⟩ := gd_some h
  refine x_putI (v := (1 : Int32)) C0 G0 hJ hW (cX_X6 rfl) (by decide) rfl 5 (by decide) inX6_firstFault_X6 lkX6_firstFault_33 tyX6 tyX6_ok nmX6 rfl (zok_n g25) (zok_f g25) (Nat.le_of_ble_eq_true rfl) (hu_X6_5 rfl) dX6_firstFault_19 (fun H locs hW => ?_)
  obtain ⟨s26, es26, h⟩ := lt_some h
  rw [es26] at hW
  refine lv_iconst (v := (0 : Int32)) C0.1 C0.2.1 dX6_firstFault_22 (by decide) ?_
  refine lv_istore_n (lv' := [(1, .int (0 : Int32)), (0, .ref (aD G 1))]) C0.1 C0.2.1 dX6_firstFault_23 rfl hl (by decide) rfl (fun ls hl => ?_)
  exact wX6_firstFault_24 C0 G0 hJ z z s26 (0 : Int32) _ h hW (lv_sub hl [1, 0] rfl)
theorem cX6_firstFault_met (l : Launch) {G : GT} (hJ : gJ 80 G) (z : Nat) (σ : ST)  (res : (Int32 × ST)) (h : fX6_firstFault z σ = some res) : Met l yX6_firstFault wsX6_firstFault rX6_firstFault (XPc cellX 80 G σ [.ref (aD G 1)]) (XQi cellX 80 G res.1 res.2) 0 0 (gA 80 G) :=
  x_met (ret := (some .int)) (maxL := 3) (by decide) rfl (Nat.le_of_ble_eq_true rfl) (fun p e s m args below meth c H locs ls C0 G0 hW hl => wX6_firstFault C0 G0 hJ z σ res h hW hl)
end
/-! X6_isFull -/
def rX6_isFull : Room := { frames := 0, cells := 0, slots := 0, locals := 0 }
theorem hdvX6_isFull : yX6_isFull.cls = RX6 ∧ yX6_isFull.cls ≠ "java/lang/invoke/MethodHandle" ∧ yX6_isFull.cls ≠ "java/lang/invoke/VarHandle" ∧ (parseMethodDescriptor yX6_isFull.desc).map (fun d => d.parameters.length) = some 0 := by decide +kernel
theorem inX6_isFull_X6 : ∀ w ∈ u_ws RX6 TX6 6, w ∈ wsX6_isFull := by decide +kernel
theorem lkX6_isFull_15 : Cond.fieldLink RX6 15 (TX6 1).1 (TX6 1).2.1 (TX6 1).2.2.1 ∈ wsX6_isFull := by decide +kernel
theorem lkX6_isFull_11 : Cond.fieldLink RX6 11 (TX6 0).1 (TX6 0).2.1 (TX6 0).2.2.1 ∈ wsX6_isFull := by decide +kernel
def fX6_isFull_17 (z : Nat) (σ : ST) (t0 : Int32) : Option Int32 := gd (zok t0) ( some t0)
def fX6_isFull (z : Nat) (σ : ST) : Option Int32 := (if (σ.1 1 1) < (40 : Int32) then fX6_isFull_17 z σ (0 : Int32) else fX6_isFull_17 z σ (1 : Int32))
section
variable {p : Program} {l : Launch} {e : Env} {s : State} {m : MethodId} {args : Array Value} {below : List Frame} {meth : Method} {c : Code} {G : GT}
set_option maxHeartbeats 4000000 in
set_option maxRecDepth 100000 in
theorem wX6_isFull_17 (C0 : Cx p s m args meth c cX6_isFull RX6 1 (some .boolean) wsX6_isFull) (G0 : Gx G s) (hJ : gJ 80 G) (z : Nat) (σ : ST) (t0 : Int32) (res : Int32) (h : fX6_isFull_17 z σ t0 = some res)  {H : Heap} {locs : List Loc} {ls : Array Slot} (hW : Wd cellX 80 G s.heap σ H locs) (hl : lv_has ls 1 []) : W p l e rX6_isFull s m args below meth c H locs 0 0 (MQ below (XQi cellX 80 G res σ) args s 0 0 (gA 80 G)) (F0 m 17 ls [.int t0]) := by
  unfold fX6_isFull_17 at h
  obtain ⟨g22, h⟩ := gd_some h
  cases h
  exact x_zret C0 hW g22 dX6_isFull_17
set_option maxHeartbeats 4000000 in
set_option maxRecDepth 100000 in
theorem wX6_isFull (C0 : Cx p s m args meth c cX6_isFull RX6 1 (some .boolean) wsX6_isFull) (G0 : Gx G s) (hJ : gJ 80 G) (z : Nat) (σ : ST) (res : Int32) (h : fX6_isFull z σ = some res)  {H : Heap} {locs : List Loc} {ls : Array Slot} (hW : Wd cellX 80 G s.heap σ H locs) (hl : lv_has ls 1 [(0, .ref (aD G 1))]) : W p l e rX6_isFull s m args below meth c H locs 0 0 (MQ below (XQi cellX 80 G res σ) args s 0 0 (gA 80 G)) (F0 m 0 ls []) := by
  unfold fX6_isFull at h
  refine lv_aload_n C0.1 C0.2.1 dX6_isFull_0 rfl (lv_at hl 0 rfl) ?_
  refine x_get (v := .int (σ.1 1 1)) C0 G0 hW (cX_X6 rfl) (by decide) rfl 1 (by decide) inX6_isFull_X6 lkX6_isFull_15 rfl dX6_isFull_1 ?_
  refine lv_aload_n C0.1 C0.2.1 dX6_isFull_4 rfl (lv_at hl 0 rfl) ?_
  refine x_get (v := .ref (aD G 2)) C0 G0 hW (cX_X6 rfl) (by decide) rfl 0 (by decide) inX6_isFull_X6 lkX6_isFull_11 rfl dX6_isFull_5 ?_
  refine x_alen (v := (40 : Int32)) C0 G0 hW 0 (cX_I40 rfl) (by decide) rfl rfl dX6_isFull_8 ?_
  refine lv_icmp_lt (tgt := 16) C0.1 C0.2.1 dX6_isFull_9 (by decide) (fun c21 => ?_) (fun c21 => ?_)
  · rw [if_pos c21] at h
    refine lv_iconst (v := (0 : Int32)) C0.1 C0.2.1 dX6_isFull_16 (by decide) ?_
    exact wX6_isFull_17 C0 G0 hJ z σ (0 : Int32) _ h hW (lv_sub hl [] rfl)
  · rw [if_neg c21] at h
    refine lv_iconst (v := (1 : Int32)) C0.1 C0.2.1 dX6_isFull_12 (by decide) ?_
    refine lv_goto (tgt := 17) C0.1 C0.2.1 dX6_isFull_13 (by decide) ?_
    exact wX6_isFull_17 C0 G0 hJ z σ (1 : Int32) _ h hW (lv_sub hl [] rfl)
theorem cX6_isFull_met (l : Launch) {G : GT} (hJ : gJ 80 G) (z : Nat) (σ : ST)  (res : Int32) (h : fX6_isFull z σ = some res) : Met l yX6_isFull wsX6_isFull rX6_isFull (XPc cellX 80 G σ [.ref (aD G 1)]) (XQi cellX 80 G res σ) 0 0 (gA 80 G) :=
  x_met (ret := (some .boolean)) (maxL := 1) (by decide) rfl (Nat.le_of_ble_eq_true rfl) (fun p e s m args below meth c H locs ls C0 G0 hW hl => wX6_isFull C0 G0 hJ z σ res h hW hl)
end
/-! X6_size -/
def rX6_size : Room := { frames := 0, cells := 0, slots := 0, locals := 0 }
theorem hdvX6_size : yX6_size.cls = RX6 ∧ yX6_size.cls ≠ "java/lang/invoke/MethodHandle" ∧ yX6_size.cls ≠ "java/lang/invoke/VarHandle" ∧ (parseMethodDescriptor yX6_size.desc).map (fun d => d.parameters.length) = some 0 := by decide +kernel
theorem inX6_size_X6 : ∀ w ∈ u_ws RX6 TX6 6, w ∈ wsX6_size := by decide +kernel
theorem lkX6_size_15 : Cond.fieldLink RX6 15 (TX6 1).1 (TX6 1).2.1 (TX6 1).2.2.1 ∈ wsX6_size := by decide +kernel
def fX6_size (z : Nat) (σ : ST) : Option Int32 := some (σ.1 1 1)
section
variable {p : Program} {l : Launch} {e : Env} {s : State} {m : MethodId} {args : Array Value} {below : List Frame} {meth : Method} {c : Code} {G : GT}
set_option maxHeartbeats 4000000 in
set_option maxRecDepth 100000 in
theorem wX6_size (C0 : Cx p s m args meth c cX6_size RX6 1 (some .int) wsX6_size) (G0 : Gx G s) (hJ : gJ 80 G) (z : Nat) (σ : ST) (res : Int32) (h : fX6_size z σ = some res)  {H : Heap} {locs : List Loc} {ls : Array Slot} (hW : Wd cellX 80 G s.heap σ H locs) (hl : lv_has ls 1 [(0, .ref (aD G 1))]) : W p l e rX6_size s m args below meth c H locs 0 0 (MQ below (XQi cellX 80 G res σ) args s 0 0 (gA 80 G)) (F0 m 0 ls []) := by
  unfold fX6_size at h
  refine lv_aload_n C0.1 C0.2.1 dX6_size_0 rfl (lv_at hl 0 rfl) ?_
  refine x_get (v := .int (σ.1 1 1)) C0 G0 hW (cX_X6 rfl) (by decide) rfl 1 (by decide) inX6_size_X6 lkX6_size_15 rfl dX6_size_1 ?_
  cases h
  exact x_iret C0 hW dX6_size_4
theorem cX6_size_met (l : Launch) {G : GT} (hJ : gJ 80 G) (z : Nat) (σ : ST)  (res : Int32) (h : fX6_size z σ = some res) : Met l yX6_size wsX6_size rX6_size (XPc cellX 80 G σ [.ref (aD G 1)]) (XQi cellX 80 G res σ) 0 0 (gA 80 G) :=
  x_met (ret := (some .int)) (maxL := 1) (by decide) rfl (Nat.le_of_ble_eq_true rfl) (fun p e s m args below meth c H locs ls C0 G0 hW hl => wX6_size C0 G0 hJ z σ res h hW hl)
end
/-! X7_partsFrom -/
def rX7_partsFrom : Room := { frames := 1, cells := 0, slots := 0, locals := 22 }
theorem hdvX7_partsFrom : yX7_partsFrom.cls = RX7 ∧ yX7_partsFrom.cls ≠ "java/lang/invoke/MethodHandle" ∧ yX7_partsFrom.cls ≠ "java/lang/invoke/VarHandle" ∧ (parseMethodDescriptor yX7_partsFrom.desc).map (fun d => d.parameters.length) = some 2 := by decide +kernel
theorem siX7_partsFrom_X8_isWithin : Cond.initialized yX8_isWithin.cls ∈ wsX7_partsFrom := by decide +kernel
theorem ssX7_partsFrom_X8_isWithin : Cond.static yX8_isWithin ∈ wsX7_partsFrom := by decide +kernel
def fX7_partsFrom_31 (z : Nat) (r5 : Int32 → Int32 → Option Int32) (σ : ST) (v1 : Int32) (v2 : Int32) (v3 : Int32) (v4 : Int32) : Option Int32 := r5 v3 (v4 + 1)
def fX7_partsFrom_5 (z : Nat) (σ : ST) (v1 : Int32) (v2 : Int32) : Nat → Int32 → Int32 → Option Int32
  | 0 => fun _ _ => none
  | n + 1 => fun v3 v4 => (if (11 : Int32) ≤ v4 then some v3 else bd (fX8_isWithin z v4 v1 v2) (fun u22 => (if u22 = 0 then fX7_partsFrom_31 z (fX7_partsFrom_5 z σ v1 v2 n) σ v1 v2 v3 v4 else bd (fX7_partAt z σ v4) (fun u24 => fX7_partsFrom_31 z (fX7_partsFrom_5 z σ v1 v2 n) σ v1 v2 (v3 + u24) v4))))
def fX7_partsFrom (z : Nat) (σ : ST) (v1 : Int32) (v2 : Int32) : Option Int32 := fX7_partsFrom_5 z σ v1 v2 z (0 : Int32) (0 : Int32)
section
variable {p : Program} {l : Launch} {e : Env} {s : State} {m : MethodId} {args : Array Value} {below : List Frame} {meth : Method} {c : Code} {G : GT}
set_option maxHeartbeats 4000000 in
set_option maxRecDepth 100000 in
theorem wX7_partsFrom_31 (C0 : Cx p s m args meth c cX7_partsFrom RX7 5 (some .int) wsX7_partsFrom) (G0 : Gx G s) (hJ : gJ 80 G) (z : Nat) (r5 : Int32 → Int32 → Option Int32) (σ : ST) (v1 : Int32) (v2 : Int32) (v3 : Int32) (v4 : Int32) (res : Int32) (h : fX7_partsFrom_31 z r5 σ v1 v2 v3 v4 = some res) (hr5 : ∀ (v3 : Int32) (v4 : Int32), r5 v3 v4 = some res → ∀ (H : Heap) (locs : List Loc) (ls : Array Slot), Wd cellX 80 G s.heap σ H locs → lv_has ls 5 [(0, .ref (aD G 3)), (1, .int v1), (2, .int v2), (3, .int v3), (4, .int v4)] → W p l e rX7_partsFrom s m args below meth c H locs 0 0 (MQ below (XQi cellX 80 G res σ) args s 0 0 (gA 80 G)) (F0 m 5 ls [])) {H : Heap} {locs : List Loc} {ls : Array Slot} (hW : Wd cellX 80 G s.heap σ H locs) (hl : lv_has ls 5 [(0, .ref (aD G 3)), (1, .int v1), (2, .int v2), (3, .int v3), (4, .int v4)]) : W p l e rX7_partsFrom s m args below meth c H locs 0 0 (MQ below (XQi cellX 80 G res σ) args s 0 0 (gA 80 G)) (F0 m 31 ls []) := by
  unfold fX7_partsFrom_31 at h
  refine lv_iinc (v := (v4 + 1)) (lv' := [(4, .int (v4 + 1)), (0, .ref (aD G 3)), (1, .int v1), (2, .int v2), (3, .int v3)]) C0.1 C0.2.1 dX7_partsFrom_31 hl (k := 4) rfl rfl (by decide) rfl (fun ls hl => ?_)
  refine lv_goto (tgt := 5) C0.1 C0.2.1 dX7_partsFrom_34 (by decide) ?_
  exact hr5 v3 (v4 + 1) h _ _ _ hW (lv_sub hl [1, 2, 3, 4, 0] rfl)
set_option maxHeartbeats 4000000 in
set_option maxRecDepth 100000 in
theorem wX7_partsFrom_5 (C0 : Cx p s m args meth c cX7_partsFrom RX7 5 (some .int) wsX7_partsFrom) (G0 : Gx G s) (hJ : gJ 80 G) (z : Nat) (σ : ST) (v1 : Int32) (v2 : Int32) (n : Nat) (v3 : Int32) (v4 : Int32) (res : Int32) (h : fX7_partsFrom_5 z σ v1 v2 n v3 v4 = some res)  {H : Heap} {locs : List Loc} {ls : Array Slot} (hW : Wd cellX 80 G s.heap σ H locs) (hl : lv_has ls 5 [(0, .ref (aD G 3)), (1, .int v1), (2, .int v2), (3, .int v3), (4, .int v4)]) : W p l e rX7_partsFrom s m args below meth c H locs 0 0 (MQ below (XQi cellX 80 G res σ) args s 0 0 (gA 80 G)) (F0 m 5 ls []) := by
  induction n generalizing v3 v4 H locs ls with
  | zero => cases h
  | succ n ih =>
    have hr5 : ∀ (v3 : Int32) (v4 : Int32), fX7_partsFrom_5 z σ v1 v2 n v3 v4 = some res → ∀ (H : Heap) (locs : List Loc) (ls : Array Slot), Wd cellX 80 G s.heap σ H locs → lv_has ls 5 [(0, .ref (aD G 3)), (1, .int v1), (2, .int v2), (3, .int v3), (4, .int v4)] → W p l e rX7_partsFrom s m args below meth c H locs 0 0 (MQ below (XQi cellX 80 G res σ) args s 0 0 (gA 80 G)) (F0 m 5 ls []) := fun v3 v4 h H locs ls hW hl => ih v3 v4 h hW hl
    clear ih
    unfold fX7_partsFrom_5 at h
    refine lv_iload C0.1 C0.2.1 dX7_partsFrom_5 (lv_at hl 4 rfl) ?_
    refine lv_bipush (v := (11 : Int32)) C0.1 C0.2.1 dX7_partsFrom_7 (by decide) ?_
    refine lv_icmp_ge (tgt := 37) C0.1 C0.2.1 dX7_partsFrom_9 (by decide) (fun c21 => ?_) (fun c21 => ?_)
    · rw [if_pos c21] at h
      refine lv_iload_n C0.1 C0.2.1 dX7_partsFrom_37 rfl (lv_at hl 3 rfl) ?_
      cases h
      exact x_iret C0 hW dX7_partsFrom_38
    · rw [if_neg c21] at h
      refine lv_iload C0.1 C0.2.1 dX7_partsFrom_12 (lv_at hl 4 rfl) ?_
      refine lv_iload_n C0.1 C0.2.1 dX7_partsFrom_14 rfl (lv_at hl 1 rfl) ?_
      refine lv_iload_n C0.1 C0.2.1 dX7_partsFrom_15 rfl (lv_at hl 2 rfl) ?_
      obtain ⟨u22, hu22, h⟩ := bd_some h
      refine x_ki (r := u22) (x_runSN (As := [.int v4, .int v1, .int v2]) (rest := []) C0 G0 hW (cX8_isWithin_met l hJ z σ v4 v1 v2 _ hu22) gX7_partsFrom_X8_isWithin_n61 rfl rfl rfl (by decide +kernel) siX7_partsFrom_X8_isWithin ssX7_partsFrom_X8_isWithin hdsX8_isWithin ⟨Nat.le_of_ble_eq_true rfl, Nat.le_of_ble_eq_true rfl⟩ rfl rfl hl (Nat.le_of_ble_eq_true rfl) dX7_partsFrom_16 ⟨Nat.le_refl 0, Nat.le_refl 0⟩) hW (fun H locs hW => ?_)
      refine lv_if_eq (tgt := 31) C0.1 C0.2.1 dX7_partsFrom_19 (by decide) (fun c23 => ?_) (fun c23 => ?_)
      · rw [if_pos c23] at h
        exact wX7_partsFrom_31 C0 G0 hJ z (fX7_partsFrom_5 z σ v1 v2 n) σ v1 v2 v3 v4 _ h (by exact hr5) hW (lv_sub hl [0, 1, 2, 3, 4] rfl)
      · rw [if_neg c23] at h
        refine lv_iload_n C0.1 C0.2.1 dX7_partsFrom_22 rfl (lv_at hl 3 rfl) ?_
        refine lv_aload_n C0.1 C0.2.1 dX7_partsFrom_23 rfl (lv_at hl 0 rfl) ?_
        refine lv_iload C0.1 C0.2.1 dX7_partsFrom_24 (lv_at hl 4 rfl) ?_
        obtain ⟨u24, hu24, h⟩ := bd_some h
        refine x_ki (r := u24) (x_runV (As := [.int v4]) (rest := [.int v3]) C0 G0 hW (cX7_partAt_met l hJ z σ v4 _ hu24) (cwV 1 C0.2.2.2.1 gX7_partsFrom_X7_partAt rfl rfl rfl hdvX7_partAt ⟨Nat.le_of_ble_eq_true rfl, Nat.le_of_ble_eq_true rfl⟩) (cX_X7 rfl) (by decide) rfl rfl rfl hl (Nat.le_of_ble_eq_true rfl) dX7_partsFrom_26 ⟨Nat.le_refl 0, Nat.le_refl 0⟩) hW (fun H locs hW => ?_)
        refine lv_iadd C0.1 C0.2.1 dX7_partsFrom_29 ?_
        refine lv_istore_n (lv' := [(3, .int (v3 + u24)), (0, .ref (aD G 3)), (1, .int v1), (2, .int v2), (4, .int v4)]) C0.1 C0.2.1 dX7_partsFrom_30 rfl hl (by decide) rfl (fun ls hl => ?_)
        exact wX7_partsFrom_31 C0 G0 hJ z (fX7_partsFrom_5 z σ v1 v2 n) σ v1 v2 (v3 + u24) v4 _ h (by exact hr5) hW (lv_sub hl [1, 2, 3, 0, 4] rfl)
set_option maxHeartbeats 4000000 in
set_option maxRecDepth 100000 in
theorem wX7_partsFrom (C0 : Cx p s m args meth c cX7_partsFrom RX7 5 (some .int) wsX7_partsFrom) (G0 : Gx G s) (hJ : gJ 80 G) (z : Nat) (σ : ST) (v1 : Int32) (v2 : Int32) (res : Int32) (h : fX7_partsFrom z σ v1 v2 = some res)  {H : Heap} {locs : List Loc} {ls : Array Slot} (hW : Wd cellX 80 G s.heap σ H locs) (hl : lv_has ls 5 [(0, .ref (aD G 3)), (1, .int v1), (2, .int v2)]) : W p l e rX7_partsFrom s m args below meth c H locs 0 0 (MQ below (XQi cellX 80 G res σ) args s 0 0 (gA 80 G)) (F0 m 0 ls []) := by
  unfold fX7_partsFrom at h
  refine lv_iconst (v := (0 : Int32)) C0.1 C0.2.1 dX7_partsFrom_0 (by decide) ?_
  refine lv_istore_n (lv' := [(3, .int (0 : Int32)), (0, .ref (aD G 3)), (1, .int v1), (2, .int v2)]) C0.1 C0.2.1 dX7_partsFrom_1 rfl hl (by decide) rfl (fun ls hl => ?_)
  refine lv_iconst (v := (0 : Int32)) C0.1 C0.2.1 dX7_partsFrom_2 (by decide) ?_
  refine lv_istore (lv' := [(4, .int (0 : Int32)), (3, .int (0 : Int32)), (0, .ref (aD G 3)), (1, .int v1), (2, .int v2)]) C0.1 C0.2.1 dX7_partsFrom_3 hl (by decide) rfl (fun ls hl => ?_)
  exact wX7_partsFrom_5 C0 G0 hJ z σ v1 v2 z (0 : Int32) (0 : Int32) _ h hW (lv_sub hl [2, 3, 4, 1, 0] rfl)
theorem cX7_partsFrom_met (l : Launch) {G : GT} (hJ : gJ 80 G) (z : Nat) (σ : ST) (v1 : Int32) (v2 : Int32) (res : Int32) (h : fX7_partsFrom z σ v1 v2 = some res) : Met l yX7_partsFrom wsX7_partsFrom rX7_partsFrom (XPc cellX 80 G σ [.ref (aD G 3), .int v1, .int v2]) (XQi cellX 80 G res σ) 0 0 (gA 80 G) :=
  x_met (ret := (some .int)) (maxL := 5) (by decide) rfl (Nat.le_of_ble_eq_true rfl) (fun p e s m args below meth c H locs ls C0 G0 hW hl => wX7_partsFrom C0 G0 hJ z σ v1 v2 res h hW hl)
end
/-! X7_allParts -/
def rX7_allParts : Room := { frames := 2, cells := 0, slots := 0, locals := 46 }
theorem hdvX7_allParts : yX7_allParts.cls = RX7 ∧ yX7_allParts.cls ≠ "java/lang/invoke/MethodHandle" ∧ yX7_allParts.cls ≠ "java/lang/invoke/VarHandle" ∧ (parseMethodDescriptor yX7_allParts.desc).map (fun d => d.parameters.length) = some 0 := by decide +kernel
def fX7_allParts (z : Nat) (σ : ST) : Option Int32 := bd (fX7_partsFrom z σ (0 : Int32) (10 : Int32)) (fun u21 => some u21)
section
variable {p : Program} {l : Launch} {e : Env} {s : State} {m : MethodId} {args : Array Value} {below : List Frame} {meth : Method} {c : Code} {G : GT}
set_option maxHeartbeats 4000000 in
set_option maxRecDepth 100000 in
theorem wX7_allParts (C0 : Cx p s m args meth c cX7_allParts RX7 1 (some .int) wsX7_allParts) (G0 : Gx G s) (hJ : gJ 80 G) (z : Nat) (σ : ST) (res : Int32) (h : fX7_allParts z σ = some res)  {H : Heap} {locs : List Loc} {ls : Array Slot} (hW : Wd cellX 80 G s.heap σ H locs) (hl : lv_has ls 1 [(0, .ref (aD G 3))]) : W p l e rX7_allParts s m args below meth c H locs 0 0 (MQ below (XQi cellX 80 G res σ) args s 0 0 (gA 80 G)) (F0 m 0 ls []) := by
  unfold fX7_allParts at h
  refine lv_aload_n C0.1 C0.2.1 dX7_allParts_0 rfl (lv_at hl 0 rfl) ?_
  refine lv_iconst (v := (0 : Int32)) C0.1 C0.2.1 dX7_allParts_1 (by decide) ?_
  refine lv_bipush (v := (10 : Int32)) C0.1 C0.2.1 dX7_allParts_2 (by decide) ?_
  obtain ⟨u21, hu21, h⟩ := bd_some h
  refine x_ki (r := u21) (x_runV (As := [.int (0 : Int32), .int (10 : Int32)]) (rest := []) C0 G0 hW (cX7_partsFrom_met l hJ z σ (0 : Int32) (10 : Int32) _ hu21) (cwV 2 C0.2.2.2.1 gX7_allParts_X7_partsFrom rfl rfl rfl hdvX7_partsFrom ⟨Nat.le_of_ble_eq_true rfl, Nat.le_of_ble_eq_true rfl⟩) (cX_X7 rfl) (by decide) rfl rfl rfl hl (Nat.le_of_ble_eq_true rfl) dX7_allParts_4 ⟨Nat.le_refl 0, Nat.le_refl 0⟩) hW (fun H locs hW => ?_)
  cases h
  exact x_iret C0 hW dX7_allParts_7
theorem cX7_allParts_met (l : Launch) {G : GT} (hJ : gJ 80 G) (z : Nat) (σ : ST)  (res : Int32) (h : fX7_allParts z σ = some res) : Met l yX7_allParts wsX7_allParts rX7_allParts (XPc cellX 80 G σ [.ref (aD G 3)]) (XQi cellX 80 G res σ) 0 0 (gA 80 G) :=
  x_met (ret := (some .int)) (maxL := 1) (by decide) rfl (Nat.le_of_ble_eq_true rfl) (fun p e s m args below meth c H locs ls C0 G0 hW hl => wX7_allParts C0 G0 hJ z σ res h hW hl)
end
/-! X7_drifted -/
def rX7_drifted : Room := { frames := 2, cells := 0, slots := 0, locals := 42 }
theorem hdvX7_drifted : yX7_drifted.cls = RX7 ∧ yX7_drifted.cls ≠ "java/lang/invoke/MethodHandle" ∧ yX7_drifted.cls ≠ "java/lang/invoke/VarHandle" ∧ (parseMethodDescriptor yX7_drifted.desc).map (fun d => d.parameters.length) = some 2 := by decide +kernel
theorem inX7_drifted_X7 : ∀ w ∈ u_ws RX7 TX7 9, w ∈ wsX7_drifted := by decide +kernel
theorem lkX7_drifted_28 : Cond.fieldLink RX7 28 (TX7 0).1 (TX7 0).2.1 (TX7 0).2.2.1 ∈ wsX7_drifted := by decide +kernel
theorem lkX7_drifted_31 : Cond.fieldLink RX7 31 (TX7 1).1 (TX7 1).2.1 (TX7 1).2.2.1 ∈ wsX7_drifted := by decide +kernel
theorem siX7_drifted_X8_moved : Cond.initialized yX8_moved.cls ∈ wsX7_drifted := by decide +kernel
theorem ssX7_drifted_X8_moved : Cond.static yX8_moved ∈ wsX7_drifted := by decide +kernel
def fX7_drifted_36 (z : Nat) (σ : ST) (t0 : Int32) : Option Int32 := some t0
def fX7_drifted (z : Nat) (σ : ST) (v1 : Int32) (v2 : Int32) : Option Int32 := (if (σ.1 3 0) ≤ v2 then (if ((σ.1 3 0) + (σ.1 3 1)) ≤ v2 then fX7_drifted_36 z σ v1 else bd (fX8_moved z v1 (2 : Int32)) (fun u23 => fX7_drifted_36 z σ u23)) else bd (fX8_moved z v1 (1 : Int32)) (fun u24 => some u24))
section
variable {p : Program} {l : Launch} {e : Env} {s : State} {m : MethodId} {args : Array Value} {below : List Frame} {meth : Method} {c : Code} {G : GT}
set_option maxHeartbeats 4000000 in
set_option maxRecDepth 100000 in
theorem wX7_drifted_36 (C0 : Cx p s m args meth c cX7_drifted RX7 3 (some .int) wsX7_drifted) (G0 : Gx G s) (hJ : gJ 80 G) (z : Nat) (σ : ST) (t0 : Int32) (res : Int32) (h : fX7_drifted_36 z σ t0 = some res)  {H : Heap} {locs : List Loc} {ls : Array Slot} (hW : Wd cellX 80 G s.heap σ H locs) (hl : lv_has ls 3 []) : W p l e rX7_drifted s m args below meth c H locs 0 0 (MQ below (XQi cellX 80 G res σ) args s 0 0 (gA 80 G)) (F0 m 36 ls [.int t0]) := by
  unfold fX7_drifted_36 at h
  cases h
  exact x_iret C0 hW dX7_drifted_36
set_option maxHeartbeats 4000000 in
set_option maxRecDepth 100000 in
theorem wX7_drifted (C0 : Cx p s m args meth c cX7_drifted RX7 3 (some .int) wsX7_drifted) (G0 : Gx G s) (hJ : gJ 80 G) (z : Nat) (σ : ST) (v1 : Int32) (v2 : Int32) (res : Int32) (h : fX7_drifted z σ v1 v2 = some res)  {H : Heap} {locs : List Loc} {ls : Array Slot} (hW : Wd cellX 80 G s.heap σ H locs) (hl : lv_has ls 3 [(0, .ref (aD G 3)), (1, .int v1), (2, .int v2)]) : W p l e rX7_drifted s m args below meth c H locs 0 0 (MQ below (XQi cellX 80 G res σ) args s 0 0 (gA 80 G)) (F0 m 0 ls []) := by
  unfold fX7_drifted at h
  refine lv_iload_n C0.1 C0.2.1 dX7_drifted_0 rfl (lv_at hl 2 rfl) ?_
  refine lv_aload_n C0.1 C0.2.1 dX7_drifted_1 rfl (lv_at hl 0 rfl) ?_
  refine x_get (v := .int (σ.1 3 0)) C0 G0 hW (cX_X7 rfl) (by decide) rfl 0 (by decide) inX7_drifted_X7 lkX7_drifted_28 rfl dX7_drifted_2 ?_
  refine lv_icmp_ge (tgt := 14) C0.1 C0.2.1 dX7_drifted_5 (by decide) (fun c21 => ?_) (fun c21 => ?_)
  · rw [if_pos c21] at h
    refine lv_iload_n C0.1 C0.2.1 dX7_drifted_14 rfl (lv_at hl 2 rfl) ?_
    refine lv_aload_n C0.1 C0.2.1 dX7_drifted_15 rfl (lv_at hl 0 rfl) ?_
    refine x_get (v := .int (σ.1 3 0)) C0 G0 hW (cX_X7 rfl) (by decide) rfl 0 (by decide) inX7_drifted_X7 lkX7_drifted_28 rfl dX7_drifted_16 ?_
    refine lv_aload_n C0.1 C0.2.1 dX7_drifted_19 rfl (lv_at hl 0 rfl) ?_
    refine x_get (v := .int (σ.1 3 1)) C0 G0 hW (cX_X7 rfl) (by decide) rfl 1 (by decide) inX7_drifted_X7 lkX7_drifted_31 rfl dX7_drifted_20 ?_
    refine lv_iadd C0.1 C0.2.1 dX7_drifted_23 ?_
    refine lv_icmp_ge (tgt := 35) C0.1 C0.2.1 dX7_drifted_24 (by decide) (fun c22 => ?_) (fun c22 => ?_)
    · rw [if_pos c22] at h
      refine lv_iload_n C0.1 C0.2.1 dX7_drifted_35 rfl (lv_at hl 1 rfl) ?_
      exact wX7_drifted_36 C0 G0 hJ z σ v1 _ h hW (lv_sub hl [] rfl)
    · rw [if_neg c22] at h
      refine lv_iload_n C0.1 C0.2.1 dX7_drifted_27 rfl (lv_at hl 1 rfl) ?_
      refine lv_iconst (v := (2 : Int32)) C0.1 C0.2.1 dX7_drifted_28 (by decide) ?_
      obtain ⟨u23, hu23, h⟩ := bd_some h
      refine x_ki (r := u23) (x_runSN (As := [.int v1, .int (2 : Int32)]) (rest := []) C0 G0 hW (cX8_moved_met l hJ z σ v1 (2 : Int32) _ hu23) gX7_drifted_X8_moved_n72 rfl rfl rfl (by decide +kernel) siX7_drifted_X8_moved ssX7_drifted_X8_moved hdsX8_moved ⟨Nat.le_of_ble_eq_true rfl, Nat.le_of_ble_eq_true rfl⟩ rfl rfl hl (Nat.le_of_ble_eq_true rfl) dX7_drifted_29 ⟨Nat.le_refl 0, Nat.le_refl 0⟩) hW (fun H locs hW => ?_)
      refine lv_goto (tgt := 36) C0.1 C0.2.1 dX7_drifted_32 (by decide) ?_
      exact wX7_drifted_36 C0 G0 hJ z σ u23 _ h hW (lv_sub hl [] rfl)
  · rw [if_neg c21] at h
    refine lv_iload_n C0.1 C0.2.1 dX7_drifted_8 rfl (lv_at hl 1 rfl) ?_
    refine lv_iconst (v := (1 : Int32)) C0.1 C0.2.1 dX7_drifted_9 (by decide) ?_
    obtain ⟨u24, hu24, h⟩ := bd_some h
    refine x_ki (r := u24) (x_runSN (As := [.int v1, .int (1 : Int32)]) (rest := []) C0 G0 hW (cX8_moved_met l hJ z σ v1 (1 : Int32) _ hu24) gX7_drifted_X8_moved_n72 rfl rfl rfl (by decide +kernel) siX7_drifted_X8_moved ssX7_drifted_X8_moved hdsX8_moved ⟨Nat.le_of_ble_eq_true rfl, Nat.le_of_ble_eq_true rfl⟩ rfl rfl hl (Nat.le_of_ble_eq_true rfl) dX7_drifted_10 ⟨Nat.le_refl 0, Nat.le_refl 0⟩) hW (fun H locs hW => ?_)
    cases h
    exact x_iret C0 hW dX7_drifted_13
theorem cX7_drifted_met (l : Launch) {G : GT} (hJ : gJ 80 G) (z : Nat) (σ : ST) (v1 : Int32) (v2 : Int32) (res : Int32) (h : fX7_drifted z σ v1 v2 = some res) : Met l yX7_drifted wsX7_drifted rX7_drifted (XPc cellX 80 G σ [.ref (aD G 3), .int v1, .int v2]) (XQi cellX 80 G res σ) 0 0 (gA 80 G) :=
  x_met (ret := (some .int)) (maxL := 3) (by decide) rfl (Nat.le_of_ble_eq_true rfl) (fun p e s m args below meth c H locs ls C0 G0 hW hl => wX7_drifted C0 G0 hJ z σ v1 v2 res h hW hl)
end
/-! X7_placeOfPart -/
def rX7_placeOfPart : Room := { frames := 1, cells := 0, slots := 0, locals := 21 }
theorem hdvX7_placeOfPart : yX7_placeOfPart.cls = RX7 ∧ yX7_placeOfPart.cls ≠ "java/lang/invoke/MethodHandle" ∧ yX7_placeOfPart.cls ≠ "java/lang/invoke/VarHandle" ∧ (parseMethodDescriptor yX7_placeOfPart.desc).map (fun d => d.parameters.length) = some 1 := by decide +kernel
def fX7_placeOfPart_4 (z : Nat) (σ : ST) : Nat → Int32 → Int32 → Option Int32
  | 0 => fun _ _ => none
  | n + 1 => fun v2 v3 => (if (10 : Int32) ≤ v3 then some (10 : Int32) else bd (fX7_partAt z σ v3) (fun u22 => (if 0 ≤ (v2 - u22) then (fX7_placeOfPart_4 z σ n) (v2 - u22) (v3 + 1) else some v3)))
def fX7_placeOfPart (z : Nat) (σ : ST) (v1 : Int32) : Option Int32 := fX7_placeOfPart_4 z σ z v1 (0 : Int32)
section
variable {p : Program} {l : Launch} {e : Env} {s : State} {m : MethodId} {args : Array Value} {below : List Frame} {meth : Method} {c : Code} {G : GT}
set_option maxHeartbeats 4000000 in
set_option maxRecDepth 100000 in
theorem wX7_placeOfPart_4 (C0 : Cx p s m args meth c cX7_placeOfPart RX7 4 (some .int) wsX7_placeOfPart) (G0 : Gx G s) (hJ : gJ 80 G) (z : Nat) (σ : ST) (n : Nat) (v2 : Int32) (v3 : Int32) (res : Int32) (h : fX7_placeOfPart_4 z σ n v2 v3 = some res)  {H : Heap} {locs : List Loc} {ls : Array Slot} (hW : Wd cellX 80 G s.heap σ H locs) (hl : lv_has ls 4 [(0, .ref (aD G 3)), (2, .int v2), (3, .int v3)]) : W p l e rX7_placeOfPart s m args below meth c H locs 0 0 (MQ below (XQi cellX 80 G res σ) args s 0 0 (gA 80 G)) (F0 m 4 ls []) := by
  induction n generalizing v2 v3 H locs ls with
  | zero => cases h
  | succ n ih =>
    have hr4 : ∀ (v2 : Int32) (v3 : Int32), fX7_placeOfPart_4 z σ n v2 v3 = some res → ∀ (H : Heap) (locs : List Loc) (ls : Array Slot), Wd cellX 80 G s.heap σ H locs → lv_has ls 4 [(0, .ref (aD G 3)), (2, .int v2), (3, .int v3)] → W p l e rX7_placeOfPart s m args below meth c H locs 0 0 (MQ below (XQi cellX 80 G res σ) args s 0 0 (gA 80 G)) (F0 m 4 ls []) := fun v2 v3 h H locs ls hW hl => ih v2 v3 h hW hl
    clear ih
    unfold fX7_placeOfPart_4 at h
    refine lv_iload_n C0.1 C0.2.1 dX7_placeOfPart_4 rfl (lv_at hl 2 rfl) ?_
    refine lv_bipush (v := (10 : Int32)) C0.1 C0.2.1 dX7_placeOfPart_5 (by decide) ?_
    refine lv_icmp_ge (tgt := 30) C0.1 C0.2.1 dX7_placeOfPart_7 (by decide) (fun c21 => ?_) (fun c21 => ?_)
    · rw [if_pos c21] at h
      refine lv_bipush (v := (10 : Int32)) C0.1 C0.2.1 dX7_placeOfPart_30 (by decide) ?_
      cases h
      exact x_iret C0 hW dX7_placeOfPart_32
    · rw [if_neg c21] at h
      refine lv_iload_n C0.1 C0.2.1 dX7_placeOfPart_10 rfl (lv_at hl 1 rfl) ?_
      refine lv_aload_n C0.1 C0.2.1 dX7_placeOfPart_11 rfl (lv_at hl 0 rfl) ?_
      refine lv_iload_n C0.1 C0.2.1 dX7_placeOfPart_12 rfl (lv_at hl 2 rfl) ?_
      obtain ⟨u22, hu22, h⟩ := bd_some h
      refine x_ki (r := u22) (x_runV (As := [.int v3]) (rest := [.int v2]) C0 G0 hW (cX7_partAt_met l hJ z σ v3 _ hu22) (cwV 1 C0.2.2.2.1 gX7_placeOfPart_X7_partAt rfl rfl rfl hdvX7_partAt ⟨Nat.le_of_ble_eq_true rfl, Nat.le_of_ble_eq_true rfl⟩) (cX_X7 rfl) (by decide) rfl rfl rfl hl (Nat.le_of_ble_eq_true rfl) dX7_placeOfPart_13 ⟨Nat.le_refl 0, Nat.le_refl 0⟩) hW (fun H locs hW => ?_)
      refine lv_isub C0.1 C0.2.1 dX7_placeOfPart_16 ?_
      refine lv_istore_n (lv' := [(2, .int (v2 - u22)), (0, .ref (aD G 3)), (3, .int v3)]) C0.1 C0.2.1 dX7_placeOfPart_17 rfl hl (by decide) rfl (fun ls hl => ?_)
      refine lv_iload_n C0.1 C0.2.1 dX7_placeOfPart_18 rfl (lv_at hl 0 rfl) ?_
      refine lv_if_ge (tgt := 24) C0.1 C0.2.1 dX7_placeOfPart_19 (by decide) (fun c23 => ?_) (fun c23 => ?_)
      · rw [if_pos c23] at h
        refine lv_iinc (v := (v3 + 1)) (lv' := [(3, .int (v3 + 1)), (2, .int (v2 - u22)), (0, .ref (aD G 3))]) C0.1 C0.2.1 dX7_placeOfPart_24 hl (k := 2) rfl rfl (by decide) rfl (fun ls hl => ?_)
        refine lv_goto (tgt := 4) C0.1 C0.2.1 dX7_placeOfPart_27 (by decide) ?_
        exact hr4 (v2 - u22) (v3 + 1) h _ _ _ hW (lv_sub hl [2, 1, 0] rfl)
      · rw [if_neg c23] at h
        refine lv_iload_n C0.1 C0.2.1 dX7_placeOfPart_22 rfl (lv_at hl 2 rfl) ?_
        cases h
        exact x_iret C0 hW dX7_placeOfPart_23
set_option maxHeartbeats 4000000 in
set_option maxRecDepth 100000 in
theorem wX7_placeOfPart (C0 : Cx p s m args meth c cX7_placeOfPart RX7 4 (some .int) wsX7_placeOfPart) (G0 : Gx G s) (hJ : gJ 80 G) (z : Nat) (σ : ST) (v1 : Int32) (res : Int32) (h : fX7_placeOfPart z σ v1 = some res)  {H : Heap} {locs : List Loc} {ls : Array Slot} (hW : Wd cellX 80 G s.heap σ H locs) (hl : lv_has ls 4 [(0, .ref (aD G 3)), (1, .int v1)]) : W p l e rX7_placeOfPart s m args below meth c H locs 0 0 (MQ below (XQi cellX 80 G res σ) args s 0 0 (gA 80 G)) (F0 m 0 ls []) := by
  unfold fX7_placeOfPart at h
  refine lv_iload_n C0.1 C0.2.1 dX7_placeOfPart_0 rfl (lv_at hl 1 rfl) ?_
  refine lv_istore_n (lv' := [(2, .int v1), (0, .ref (aD G 3)), (1, .int v1)]) C0.1 C0.2.1 dX7_placeOfPart_1 rfl hl (by decide) rfl (fun ls hl => ?_)
  refine lv_iconst (v := (0 : Int32)) C0.1 C0.2.1 dX7_placeOfPart_2 (by decide) ?_
  refine lv_istore_n (lv' := [(3, .int (0 : Int32)), (2, .int v1), (0, .ref (aD G 3)), (1, .int v1)]) C0.1 C0.2.1 dX7_placeOfPart_3 rfl hl (by decide) rfl (fun ls hl => ?_)
  exact wX7_placeOfPart_4 C0 G0 hJ z σ z v1 (0 : Int32) _ h hW (lv_sub hl [2, 1, 0] rfl)
theorem cX7_placeOfPart_met (l : Launch) {G : GT} (hJ : gJ 80 G) (z : Nat) (σ : ST) (v1 : Int32) (res : Int32) (h : fX7_placeOfPart z σ v1 = some res) : Met l yX7_placeOfPart wsX7_placeOfPart rX7_placeOfPart (XPc cellX 80 G σ [.ref (aD G 3), .int v1]) (XQi cellX 80 G res σ) 0 0 (gA 80 G) :=
  x_met (ret := (some .int)) (maxL := 4) (by decide) rfl (Nat.le_of_ble_eq_true rfl) (fun p e s m args below meth c H locs ls C0 G0 hW hl => wX7_placeOfPart C0 G0 hJ z σ v1 res h hW hl)
end
/-! X7_setPart -/
def rX7_setPart : Room := { frames := 0, cells := 0, slots := 0, locals := 0 }
theorem hdvX7_setPart : yX7_setPart.cls = RX7 ∧ yX7_setPart.cls ≠ "java/lang/invoke/MethodHandle" ∧ yX7_setPart.cls ≠ "java/lang/invoke/VarHandle" ∧ (parseMethodDescriptor yX7_setPart.desc).map (fun d => d.parameters.length) = some 2 := by decide +kernel
theorem inX7_setPart_X7 : ∀ w ∈ u_ws RX7 TX7 9, w ∈ wsX7_setPart := by decide +kernel
theorem lkX7_setPart_9 : Cond.fieldLink RX7 9 (TX7 8).1 (TX7 8).2.1 (TX7 8).2.2.1 ∈ wsX7_setPart := by decide +kernel
def fX7_setPart_20 (z : Nat) (σ : ST) : Option ST := some σ
def fX7_setPart (z : Nat) (σ : ST) (v1 : Int32) (v2 : Int32) : Option ST := (if v1 < 0 then fX7_setPart_20 z σ else (if (11 : Int32) ≤ v1 then fX7_setPart_20 z σ else gd (inb v1 11) ( lt (pI σ 4 (v1).toNatClampNeg v2) (fun s24 => fX7_setPart_20 z s24))))
section
variable {p : Program} {l : Launch} {e : Env} {s : State} {m : MethodId} {args : Array Value} {below : List Frame} {meth : Method} {c : Code} {G : GT}
set_option maxHeartbeats 4000000 in
set_option maxRecDepth 100000 in
theorem wX7_setPart_20 (C0 : Cx p s m args meth c cX7_setPart RX7 3 none wsX7_setPart) (G0 : Gx G s) (hJ : gJ 80 G) (z : Nat) (σ : ST) (res : ST) (h : fX7_setPart_20 z σ = some res)  {H : Heap} {locs : List Loc} {ls : Array Slot} (hW : Wd cellX 80 G s.heap σ H locs) (hl : lv_has ls 3 []) : W p l e rX7_setPart s m args below meth c H locs 0 0 (MQ below (XQv cellX 80 G res) args s 0 0 (gA 80 G)) (F0 m 20 ls []) := by
  unfold fX7_setPart_20 at h
  cases h
  exact x_vret C0 hW dX7_setPart_20
set_option maxHeartbeats 4000000 in
set_option maxRecDepth 100000 in
theorem wX7_setPart (C0 : Cx p s m args meth c cX7_setPart RX7 3 none wsX7_setPart) (G0 : Gx G s) (hJ : gJ 80 G) (z : Nat) (σ : ST) (v1 : Int32) (v2 : Int32) (res : ST) (h : fX7_setPart z σ v1 v2 = some res)  {H : Heap} {locs : List Loc} {ls : Array Slot} (hW : Wd cellX 80 G s.heap σ H locs) (hl : lv_has ls 3 [(0, .ref (aD G 3)), (1, .int v1), (2, .int v2)]) : W p l e rX7_setPart s m args below meth c H locs 0 0 (MQ below (XQv cellX 80 G res) args s 0 0 (gA 80 G)) (F0 m 0 ls []) := by
  unfold fX7_setPart at h
  refine lv_iload_n C0.1 C0.2.1 dX7_setPart_0 rfl (lv_at hl 1 rfl) ?_
  refine lv_if_lt (tgt := 20) C0.1 C0.2.1 dX7_setPart_1 (by decide) (fun c21 => ?_) (fun c21 => ?_)
  · rw [if_pos c21] at h
    exact wX7_setPart_20 C0 G0 hJ z σ _ h hW (lv_sub hl [] rfl)
  · rw [if_neg c21] at h
    refine lv_iload_n C0.1 C0.2.1 dX7_setPart_4 rfl (lv_at hl 1 rfl) ?_
    refine lv_aload_n C0.1 C0.2.1 dX7_setPart_5 rfl (lv_at hl 0 rfl) ?_
    refine x_get (v := .ref (aD G 4)) C0 G0 hW (cX_X7 rfl) (by decide) rfl 8 (by decide) inX7_setPart_X7 lkX7_setPart_9 rfl dX7_setPart_6 ?_
    refine x_alen (v := (11 : Int32)) C0 G0 hW 0 (cX_I11 rfl) (by decide) rfl rfl dX7_setPart_9 ?_
    refine lv_icmp_ge (tgt := 20) C0.1 C0.2.1 dX7_setPart_10 (by decide) (fun c22 => ?_) (fun c22 => ?_)
    · rw [if_pos c22] at h
      exact wX7_setPart_20 C0 G0 hJ z σ _ h hW (lv_sub hl [] rfl)
    · rw [if_neg c22] at h
      refine lv_aload_n C0.1 C0.2.1 dX7_setPart_13 rfl (lv_at hl 0 rfl) ?_
      refine x_get (v := .ref (aD G 4)) C0 G0 hW (cX_X7 rfl) (by decide) rfl 8 (by decide) inX7_setPart_X7 lkX7_setPart_9 rfl dX7_setPart_14 ?_
      refine lv_iload_n C0.1 C0.2.1 dX7_setPart_17 rfl (lv_at hl 1 rfl) ?_
      refine lv_iload_n C0.1 C0.2.1 dX7_setPart_18 rfl (lv_at hl 2 rfl) ?_
      obtain ⟨g23, h⟩ := gd_some h
      refine x_iast C0 G0 hJ hW (fun f g => (cX_I11 rfl)) (by decide) g23 dX7_setPart_19 (fun H locs hW => ?_)
      obtain ⟨s24, es24, h⟩ := lt_some h
      rw [es24] at hW
      exact wX7_setPart_20 C0 G0 hJ z s24 _ h hW (lv_sub hl [] rfl)
theorem cX7_setPart_met (l : Launch) {G : GT} (hJ : gJ 80 G) (z : Nat) (σ : ST) (v1 : Int32) (v2 : Int32) (res : ST) (h : fX7_setPart z σ v1 v2 = some res) : Met l yX7_setPart wsX7_setPart rX7_setPart (XPc cellX 80 G σ [.ref (aD G 3), .int v1, .int v2]) (XQv cellX 80 G res) 0 0 (gA 80 G) :=
  x_met (ret := none) (maxL := 3) (by decide) rfl (Nat.le_of_ble_eq_true rfl) (fun p e s m args below meth c H locs ls C0 G0 hW hl => wX7_setPart C0 G0 hJ z σ v1 v2 res h hW hl)
end
/-! X7_takePart -/
def rX7_takePart : Room := { frames := 2, cells := 0, slots := 0, locals := 43 }
theorem hdvX7_takePart : yX7_takePart.cls = RX7 ∧ yX7_takePart.cls ≠ "java/lang/invoke/MethodHandle" ∧ yX7_takePart.cls ≠ "java/lang/invoke/VarHandle" ∧ (parseMethodDescriptor yX7_takePart.desc).map (fun d => d.parameters.length) = some 2 := by decide +kernel
theorem inX7_takePart_X7 : ∀ w ∈ u_ws RX7 TX7 9, w ∈ wsX7_takePart := by decide +kernel
theorem lkX7_takePart_19 : Cond.fieldLink RX7 19 (TX7 6).1 (TX7 6).2.1 (TX7 6).2.2.1 ∈ wsX7_takePart := by decide +kernel
theorem lkX7_takePart_43 : Cond.fieldLink RX7 43 (TX7 7).1 (TX7 7).2.1 (TX7 7).2.2.1 ∈ wsX7_takePart := by decide +kernel
def fX7_takePart_91 (z : Nat) (σ : ST) : Option ST := some σ
def fX7_takePart (z : Nat) (σ : ST) (v2 : Int32) : Option ST := bd (fX6_letterAt z σ v2) (fun u21 => (if u21 = (65 : Int32) then bd (fX6_digitAt z σ (v2 + (1 : Int32))) (fun u23 => bd (fX7_setPart z σ (10 : Int32) u23) (fun u24 => fX7_takePart_91 z u24)) else (if u21 = (70 : Int32) then bd (fX6_digitAt z σ (v2 + (1 : Int32))) (fun u26 => bd (fX6_digitAt z σ (v2 + (2 : Int32))) (fun u27 => bd (fX7_setPart z σ u26 u27) (fun u28 => fX7_takePart_91 z u28))) else bd (fX6_digitAt z σ (v2 + (1 : Int32))) (fun u29 => lt (pI σ 3 6 u29) (fun s30 => bd (fX6_digitAt z s30 (v2 + (2 : Int32))) (fun u31 => lt (pI s30 3 7 u31) (fun s32 => fX7_takePart_91 z s32)))))))
section
variable {p : Program} {l : Launch} {e : Env} {s : State} {m : MethodId} {args : Array Value} {below : List Frame} {meth : Method} {c : Code} {G : GT}
set_option maxHeartbeats 4000000 in
set_option maxRecDepth 100000 in
theorem wX7_takePart_91 (C0 : Cx p s m args meth c cX7_takePart RX7 3 none wsX7_takePart) (G0 : Gx G s) (hJ : gJ 80 G) (z : Nat) (σ : ST) (res : ST) (h : fX7_takePart_91 z σ = some res)  {H : Heap} {locs : List Loc} {ls : Array Slot} (hW : Wd cellX 80 G s.heap σ H locs) (hl : lv_has ls 3 []) : W p l e rX7_takePart s m args below meth c H locs 0 0 (MQ below (XQv cellX 80 G res) args s 0 0 (gA 80 G)) (F0 m 91 ls []) := by
  unfold fX7_takePart_91 at h
  cases h
  exact x_vret C0 hW dX7_takePart_91
set_option maxHeartbeats 4000000 in
set_option maxRecDepth 100000 in
theorem wX7_takePart (C0 : Cx p s m args meth c cX7_takePart RX7 3 none wsX7_takePart) (G0 : Gx G s) (hJ : gJ 80 G) (z : Nat) (σ : ST) (v2 : Int32) (res : ST) (h : fX7_takePart z σ v2 = some res)  {H : Heap} {locs : List Loc} {ls : Array Slot} (hW : Wd cellX 80 G s.heap σ H locs) (hl : lv_has ls 3 [(0, .ref (aD G 3)), (1, .ref (aD G 1)), (2, .int v2)]) : W p l e rX7_takePart s m args below meth c H locs 0 0 (MQ below (XQv cellX 80 G res) args s 0 0 (gA 80 G)) (F0 m 0 ls []) := by
  unfold fX7_takePart at h
  refine lv_aload_n C0.1 C0.2.1 dX7_takePart_0 rfl (lv_at hl 1 rfl) ?_
  refine lv_iload_n C0.1 C0.2.1 dX7_takePart_1 rfl (lv_at hl 2 rfl) ?_
  obtain ⟨u21, hu21, h⟩ := bd_some h
  refine x_ki (r := u21) (x_runV (As := [.int v2]) (rest := []) C0 G0 hW (cX6_letterAt_met l hJ z σ v2 _ hu21) (cwV 1 C0.2.2.2.1 gX7_takePart_X6_letterAt rfl rfl rfl hdvX6_letterAt ⟨Nat.le_of_ble_eq_true rfl, Nat.le_of_ble_eq_true rfl⟩) (cX_X6 rfl) (by decide) rfl rfl rfl hl (Nat.le_of_ble_eq_true rfl) dX7_takePart_2 ⟨Nat.le_refl 0, Nat.le_refl 0⟩) hW (fun H locs hW => ?_)
  by_cases c22 : u21 = (65 : Int32)
  · rw [if_pos c22] at h
    refine lv_lookup (off := 48) (tgt := 53) C0.1 C0.2.1 dX7_takePart_5 (by decide) (by rw [c22] <;> rfl) (by decide) ?_
    refine lv_aload_n C0.1 C0.2.1 dX7_takePart_53 rfl (lv_at hl 0 rfl) ?_
    refine lv_bipush (v := (10 : Int32)) C0.1 C0.2.1 dX7_takePart_54 (by decide) ?_
    refine lv_aload_n C0.1 C0.2.1 dX7_takePart_56 rfl (lv_at hl 1 rfl) ?_
    refine lv_iload_n C0.1 C0.2.1 dX7_takePart_57 rfl (lv_at hl 2 rfl) ?_
    refine lv_iconst (v := (1 : Int32)) C0.1 C0.2.1 dX7_takePart_58 (by decide) ?_
    refine lv_iadd C0.1 C0.2.1 dX7_takePart_59 ?_
    obtain ⟨u23, hu23, h⟩ := bd_some h
    refine x_ki (r := u23) (x_runV (As := [.int (v2 + (1 : Int32))]) (rest := [.int (10 : Int32), .ref (aD G 3)]) C0 G0 hW (cX6_digitAt_met l hJ z σ (v2 + (1 : Int32)) _ hu23) (cwV 1 C0.2.2.2.1 gX7_takePart_X6_digitAt rfl rfl rfl hdvX6_digitAt ⟨Nat.le_of_ble_eq_true rfl, Nat.le_of_ble_eq_true rfl⟩) (cX_X6 rfl) (by decide) rfl rfl rfl hl (Nat.le_of_ble_eq_true rfl) dX7_takePart_60 ⟨Nat.le_refl 0, Nat.le_refl 0⟩) hW (fun H locs hW => ?_)
    obtain ⟨u24, hu24, h⟩ := bd_some h
    refine x_kv (x_runV (As := [.int (10 : Int32), .int u23]) (rest := []) C0 G0 hW (cX7_setPart_met l hJ z σ (10 : Int32) u23 _ hu24) (cwV 2 C0.2.2.2.1 gX7_takePart_X7_setPart rfl rfl rfl hdvX7_setPart ⟨Nat.le_of_ble_eq_true rfl, Nat.le_of_ble_eq_true rfl⟩) (cX_X7 rfl) (by decide) rfl rfl rfl hl (Nat.le_of_ble_eq_true rfl) dX7_takePart_63 ⟨Nat.le_refl 0, Nat.le_refl 0⟩) hW (fun H locs hW => ?_)
    refine lv_goto (tgt := 91) C0.1 C0.2.1 dX7_takePart_66 (by decide) ?_
    exact wX7_takePart_91 C0 G0 hJ z u24 _ h hW (lv_sub hl [] rfl)
  rw [if_neg c22] at h
  by_cases c25 : u21 = (70 : Int32)
  · rw [if_pos c25] at h
    refine lv_lookup (off := 27) (tgt := 32) C0.1 C0.2.1 dX7_takePart_5 (by decide) (by rw [c25] <;> rfl) (by decide) ?_
    refine lv_aload_n C0.1 C0.2.1 dX7_takePart_32 rfl (lv_at hl 0 rfl) ?_
    refine lv_aload_n C0.1 C0.2.1 dX7_takePart_33 rfl (lv_at hl 1 rfl) ?_
    refine lv_iload_n C0.1 C0.2.1 dX7_takePart_34 rfl (lv_at hl 2 rfl) ?_
    refine lv_iconst (v := (1 : Int32)) C0.1 C0.2.1 dX7_takePart_35 (by decide) ?_
    refine lv_iadd C0.1 C0.2.1 dX7_takePart_36 ?_
    obtain ⟨u26, hu26, h⟩ := bd_some h
    refine x_ki (r := u26) (x_runV (As := [.int (v2 + (1 : Int32))]) (rest := [.ref (aD G 3)]) C0 G0 hW (cX6_digitAt_met l hJ z σ (v2 + (1 : Int32)) _ hu26) (cwV 1 C0.2.2.2.1 gX7_takePart_X6_digitAt rfl rfl rfl hdvX6_digitAt ⟨Nat.le_of_ble_eq_true rfl, Nat.le_of_ble_eq_true rfl⟩) (cX_X6 rfl) (by decide) rfl rfl rfl hl (Nat.le_of_ble_eq_true rfl) dX7_takePart_37 ⟨Nat.le_refl 0, Nat.le_refl 0⟩) hW (fun H locs hW => ?_)
    refine lv_aload_n C0.1 C0.2.1 dX7_takePart_40 rfl (lv_at hl 1 rfl) ?_
    refine lv_iload_n C0.1 C0.2.1 dX7_takePart_41 rfl (lv_at hl 2 rfl) ?_
    refine lv_iconst (v := (2 : Int32)) C0.1 C0.2.1 dX7_takePart_42 (by decide) ?_
    refine lv_iadd C0.1 C0.2.1 dX7_takePart_43 ?_
    obtain ⟨u27, hu27, h⟩ := bd_some h
    refine x_ki (r := u27) (x_runV (As := [.int (v2 + (2 : Int32))]) (rest := [.int u26, .ref (aD G 3)]) C0 G0 hW (cX6_digitAt_met l hJ z σ (v2 + (2 : Int32)) _ hu27) (cwV 1 C0.2.2.2.1 gX7_takePart_X6_digitAt rfl rfl rfl hdvX6_digitAt ⟨Nat.le_of_ble_eq_true rfl, Nat.le_of_ble_eq_true rfl⟩) (cX_X6 rfl) (by decide) rfl rfl rfl hl (Nat.le_of_ble_eq_true rfl) dX7_takePart_44 ⟨Nat.le_refl 0, Nat.le_refl 0⟩) hW (fun H locs hW => ?_)
    obtain ⟨u28, hu28, h⟩ := bd_some h
    refine x_kv (x_runV (As := [.int u26, .int u27]) (rest := []) C0 G0 hW (cX7_setPart_met l hJ z σ u26 u27 _ hu28) (cwV 2 C0.2.2.2.1 gX7_takePart_X7_setPart rfl rfl rfl hdvX7_setPart ⟨Nat.le_of_ble_eq_true rfl, Nat.le_of_ble_eq_true rfl⟩) (cX_X7 rfl) (by decide) rfl rfl rfl hl (Nat.le_of_ble_eq_true rfl) dX7_takePart_47 ⟨Nat.le_refl 0, Nat.le_refl 0⟩) hW (fun H locs hW => ?_)
    refine lv_goto (tgt := 91) C0.1 C0.2.1 dX7_takePart_50 (by decide) ?_
    exact wX7_takePart_91 C0 G0 hJ z u28 _ h hW (lv_sub hl [] rfl)
  rw [if_neg c25] at h
  refine lv_lookup (off := 64) (tgt := 69) C0.1 C0.2.1 dX7_takePart_5 (by decide) (by show Op.lookupswitch.offset [(65, 48), (70, 27)] _ _ = _; rw [Op.lookupswitch.offset_cons, if_neg (fun q => i32_ne c22 q.symm), Op.lookupswitch.offset_cons, if_neg (fun q => i32_ne c25 q.symm)]; rfl) (by decide) ?_
  refine lv_aload_n C0.1 C0.2.1 dX7_takePart_69 rfl (lv_at hl 0 rfl) ?_
  refine lv_aload_n C0.1 C0.2.1 dX7_takePart_70 rfl (lv_at hl 1 rfl) ?_
  refine lv_iload_n C0.1 C0.2.1 dX7_takePart_71 rfl (lv_at hl 2 rfl) ?_
  refine lv_iconst (v := (1 : Int32)) C0.1 C0.2.1 dX7_takePart_72 (by decide) ?_
  refine lv_iadd C0.1 C0.2.1 dX7_takePart_73 ?_
  obtain ⟨u29, hu29, h⟩ := bd_some h
  refine x_ki (r := u29) (x_runV (As := [.int (v2 + (1 : Int32))]) (rest := [.ref (aD G 3)]) C0 G0 hW (cX6_digitAt_met l hJ z σ (v2 + (1 : Int32)) _ hu29) (cwV 1 C0.2.2.2.1 gX7_takePart_X6_digitAt rfl rfl rfl hdvX6_digitAt ⟨Nat.le_of_ble_eq_true rfl, Nat.le_of_ble_eq_true rfl⟩) (cX_X6 rfl) (by decide) rfl rfl rfl hl (Nat.le_of_ble_eq_true rfl) dX7_takePart_74 ⟨Nat.le_refl 0, Nat.le_refl 0⟩) hW (fun H locs hW => ?_)
  refine x_putI (v := u29) C0 G0 hJ hW (cX_X7 rfl) (by decide) rfl 6 (by decide) inX7_takePart_X7 lkX7_takePart_19 tyX7 tyX7_ok nmX7 rfl rfl rfl (Nat.le_of_ble_eq_true rfl) (hu_X7_6 rfl) dX7_takePart_77 (fun H locs hW => ?_)
  obtain ⟨s30, es30, h⟩ := lt_some h
  rw [es30] at hW
  refine lv_aload_n C0.1 C0.2.1 dX7_takePart_80 rfl (lv_at hl 0 rfl) ?_
  refine lv_aload_n C0.1 C0.2.1 dX7_takePart_81 rfl (lv_at hl 1 rfl) ?_
  refine lv_iload_n C0.1 C0.2.1 dX7_takePart_82 rfl (lv_at hl 2 rfl) ?_
  refine lv_iconst (v := (2 : Int32)) C0.1 C0.2.1 dX7_takePart_83 (by decide) ?_
  refine lv_iadd C0.1 C0.2.1 dX7_takePart_84 ?_
  obtain ⟨u31, hu31, h⟩ := bd_some h
  refine x_ki (r := u31) (x_runV (As := [.int (v2 + (2 : Int32))]) (rest := [.ref (aD G 3)]) C0 G0 hW (cX6_digitAt_met l hJ z s30 (v2 + (2 : Int32)) _ hu31) (cwV 1 C0.2.2.2.1 gX7_takePart_X6_digitAt rfl rfl rfl hdvX6_digitAt ⟨Nat.le_of_ble_eq_true rfl, Nat.le_of_ble_eq_true rfl⟩) (cX_X6 rfl) (by decide) rfl rfl rfl hl (Nat.le_of_ble_eq_true rfl) dX7_takePart_85 ⟨Nat.le_refl 0, Nat.le_refl 0⟩) hW (fun H locs hW => ?_)
  refine x_putI (v := u31) C0 G0 hJ hW (cX_X7 rfl) (by decide) rfl 7 (by decide) inX7_takePart_X7 lkX7_takePart_43 tyX7 tyX7_ok nmX7 rfl rfl rfl (Nat.le_of_ble_eq_true rfl) (hu_X7_7 rfl) dX7_takePart_88 (fun H locs hW => ?_)
  obtain ⟨s32, es32, h⟩ := lt_some h
  rw [es32] at hW
  exact wX7_takePart_91 C0 G0 hJ z s32 _ h hW (lv_sub hl [] rfl)
theorem cX7_takePart_met (l : Launch) {G : GT} (hJ : gJ 80 G) (z : Nat) (σ : ST) (v2 : Int32) (res : ST) (h : fX7_takePart z σ v2 = some res) : Met l yX7_takePart wsX7_takePart rX7_takePart (XPc cellX 80 G σ [.ref (aD G 3), .ref (aD G 1), .int v2]) (XQv cellX 80 G res) 0 0 (gA 80 G) :=
  x_met (ret := none) (maxL := 3) (by decide) rfl (Nat.le_of_ble_eq_true rfl) (fun p e s m args below meth c H locs ls C0 G0 hW hl => wX7_takePart C0 G0 hJ z σ v2 res h hW hl)
end
/-! X7_take -/
def rX7_take : Room := { frames := 3, cells := 0, slots := 0, locals := 65 }
theorem hdvX7_take : yX7_take.cls = RX7 ∧ yX7_take.cls ≠ "java/lang/invoke/MethodHandle" ∧ yX7_take.cls ≠ "java/lang/invoke/VarHandle" ∧ (parseMethodDescriptor yX7_take.desc).map (fun d => d.parameters.length) = some 1 := by decide +kernel
theorem inX7_take_X7 : ∀ w ∈ u_ws RX7 TX7 9, w ∈ wsX7_take := by decide +kernel
theorem lkX7_take_28 : Cond.fieldLink RX7 28 (TX7 0).1 (TX7 0).2.1 (TX7 0).2.2.1 ∈ wsX7_take := by decide +kernel
theorem lkX7_take_31 : Cond.fieldLink RX7 31 (TX7 1).1 (TX7 1).2.1 (TX7 1).2.2.1 ∈ wsX7_take := by decide +kernel
theorem lkX7_take_34 : Cond.fieldLink RX7 34 (TX7 2).1 (TX7 2).2.1 (TX7 2).2.2.1 ∈ wsX7_take := by decide +kernel
theorem lkX7_take_37 : Cond.fieldLink RX7 37 (TX7 3).1 (TX7 3).2.1 (TX7 3).2.2.1 ∈ wsX7_take := by decide +kernel
theorem lkX7_take_40 : Cond.fieldLink RX7 40 (TX7 4).1 (TX7 4).2.1 (TX7 4).2.2.1 ∈ wsX7_take := by decide +kernel
theorem lkX7_take_15 : Cond.fieldLink RX7 15 (TX7 5).1 (TX7 5).2.1 (TX7 5).2.2.1 ∈ wsX7_take := by decide +kernel
theorem lkX7_take_19 : Cond.fieldLink RX7 19 (TX7 6).1 (TX7 6).2.1 (TX7 6).2.2.1 ∈ wsX7_take := by decide +kernel
theorem lkX7_take_43 : Cond.fieldLink RX7 43 (TX7 7).1 (TX7 7).2.1 (TX7 7).2.2.1 ∈ wsX7_take := by decide +kernel
def fX7_take_119 (z : Nat) (r89 : ST → Int32 → Option ST) (σ : ST) (t0 : Int32) (t1 : Int32) : Option ST := r89 σ (t1 + t0)
def fX7_take_89 (z : Nat) : Nat → ST → Int32 → Option ST
  | 0 => fun _ _ => none
  | n + 1 => fun σ v2 => bd (fX6_size z σ) (fun u37 => (if u37 ≤ v2 then some σ else bd (fX7_takePart z σ v2) (fun u39 => bd (fX6_letterAt z u39 v2) (fun u40 => (if u40 = (65 : Int32) then fX7_take_119 z (fX7_take_89 z n) u39 (2 : Int32) v2 else fX7_take_119 z (fX7_take_89 z n) u39 (3 : Int32) v2)))))
def fX7_take_68 (z : Nat) : Nat → ST → Int32 → Option ST
  | 0 => fun _ _ => none
  | n + 1 => fun σ v2 => (if (11 : Int32) ≤ v2 then fX7_take_89 z z σ (7 : Int32) else bd (fX7_setPart z σ v2 (0 : Int32)) (fun u36 => (fX7_take_68 z n) u36 (v2 + 1)))
def fX7_take (z : Nat) (σ : ST) : Option ST := bd (fX6_digitAt z σ (1 : Int32)) (fun u21 => lt (pI σ 3 0 u21) (fun s22 => bd (fX6_digitAt z s22 (2 : Int32)) (fun u23 => lt (pI s22 3 1 u23) (fun s24 => bd (fX6_digitAt z s24 (3 : Int32)) (fun u25 => lt (pI s24 3 2 u25) (fun s26 => bd (fX6_digitAt z s26 (4 : Int32)) (fun u27 => lt (pI s26 3 3 u27) (fun s28 => bd (fX6_digitAt z s28 (5 : Int32)) (fun u29 => lt (pI s28 3 4 u29) (fun s30 => bd (fX6_digitAt z s30 (6 : Int32)) (fun u31 => lt (pI s30 3 5 u31) (fun s32 => lt (pI s32 3 6 (-9 : Int32)) (fun s33 => lt (pI s33 3 7 (0 : Int32)) (fun s34 => fX7_take_68 z z s34 (0 : Int32)))))))))))))))
section
variable {p : Program} {l : Launch} {e : Env} {s : State} {m : MethodId} {args : Array Value} {below : List Frame} {meth : Method} {c : Code} {G : GT}
set_option maxHeartbeats 4000000 in
set_option maxRecDepth 100000 in
theorem wX7_take_119 (C0 : Cx p s m args meth c cX7_take RX7 3 none wsX7_take) (G0 : Gx G s) (hJ : gJ 80 G) (z : Nat) (r89 : ST → Int32 → Option ST) (σ : ST) (t0 : Int32) (t1 : Int32) (res : ST) (h : fX7_take_119 z r89 σ t0 t1 = some res) (hr89 : ∀ (σ : ST) (v2 : Int32), r89 σ v2 = some res → ∀ (H : Heap) (locs : List Loc) (ls : Array Slot), Wd cellX 80 G s.heap σ H locs → lv_has ls 3 [(0, .ref (aD G 3)), (1, .ref (aD G 1)), (2, .int v2)] → W p l e rX7_take s m args below meth c H locs 0 0 (MQ below (XQv cellX 80 G res) args s 0 0 (gA 80 G)) (F0 m 89 ls [])) {H : Heap} {locs : List Loc} {ls : Array Slot} (hW : Wd cellX 80 G s.heap σ H locs) (hl : lv_has ls 3 [(0, .ref (aD G 3)), (1, .ref (aD G 1))]) : W p l e rX7_take s m args below meth c H locs 0 0 (MQ below (XQv cellX 80 G res) args s 0 0 (gA 80 G)) (F0 m 119 ls [.int t0, .int t1]) := by
  unfold fX7_take_119 at h
  refine lv_iadd C0.1 C0.2.1 dX7_take_119 ?_
  refine lv_istore_n (lv' := [(2, .int (t1 + t0)), (0, .ref (aD G 3)), (1, .ref (aD G 1))]) C0.1 C0.2.1 dX7_take_120 rfl hl (by decide) rfl (fun ls hl => ?_)
  refine lv_goto (tgt := 89) C0.1 C0.2.1 dX7_take_121 (by decide) ?_
  exact hr89 σ (t1 + t0) h _ _ _ hW (lv_sub hl [1, 2, 0] rfl)
set_option maxHeartbeats 4000000 in
set_option maxRecDepth 100000 in
theorem wX7_take_89 (C0 : Cx p s m args meth c cX7_take RX7 3 none wsX7_take) (G0 : Gx G s) (hJ : gJ 80 G) (z : Nat) (n : Nat) (σ : ST) (v2 : Int32) (res : ST) (h : fX7_take_89 z n σ v2 = some res)  {H : Heap} {locs : List Loc} {ls : Array Slot} (hW : Wd cellX 80 G s.heap σ H locs) (hl : lv_has ls 3 [(0, .ref (aD G 3)), (1, .ref (aD G 1)), (2, .int v2)]) : W p l e rX7_take s m args below meth c H locs 0 0 (MQ below (XQv cellX 80 G res) args s 0 0 (gA 80 G)) (F0 m 89 ls []) := by
  induction n generalizing σ v2 H locs ls with
  | zero => cases h
  | succ n ih =>
    have hr89 : ∀ (σ : ST) (v2 : Int32), fX7_take_89 z n σ v2 = some res → ∀ (H : Heap) (locs : List Loc) (ls : Array Slot), Wd cellX 80 G s.heap σ H locs → lv_has ls 3 [(0, .ref (aD G 3)), (1, .ref (aD G 1)), (2, .int v2)] → W p l e rX7_take s m args below meth c H locs 0 0 (MQ below (XQv cellX 80 G res) args s 0 0 (gA 80 G)) (F0 m 89 ls []) := fun σ v2 h H locs ls hW hl => ih σ v2 h hW hl
    clear ih
    unfold fX7_take_89 at h
    refine lv_iload_n C0.1 C0.2.1 dX7_take_89 rfl (lv_at hl 2 rfl) ?_
    refine lv_aload_n C0.1 C0.2.1 dX7_take_90 rfl (lv_at hl 1 rfl) ?_
    obtain ⟨u37, hu37, h⟩ := bd_some h
    refine x_ki (r := u37) (x_runV (As := []) (rest := [.int v2]) C0 G0 hW (cX6_size_met l hJ z σ _ hu37) (cwV 0 C0.2.2.2.1 gX7_take_X6_size rfl rfl rfl hdvX6_size ⟨Nat.le_of_ble_eq_true rfl, Nat.le_of_ble_eq_true rfl⟩) (cX_X6 rfl) (by decide) rfl rfl rfl hl (Nat.le_of_ble_eq_true rfl) dX7_take_91 ⟨Nat.le_refl 0, Nat.le_refl 0⟩) hW (fun H locs hW => ?_)
    refine lv_icmp_ge (tgt := 124) C0.1 C0.2.1 dX7_take_94 (by decide) (fun c38 => ?_) (fun c38 => ?_)
    · rw [if_pos c38] at h
      cases h
      exact x_vret C0 hW dX7_take_124
    · rw [if_neg c38] at h
      refine lv_aload_n C0.1 C0.2.1 dX7_take_97 rfl (lv_at hl 0 rfl) ?_
      refine lv_aload_n C0.1 C0.2.1 dX7_take_98 rfl (lv_at hl 1 rfl) ?_
      refine lv_iload_n C0.1 C0.2.1 dX7_take_99 rfl (lv_at hl 2 rfl) ?_
      obtain ⟨u39, hu39, h⟩ := bd_some h
      refine x_kv (x_runV (As := [.ref (aD G 1), .int v2]) (rest := []) C0 G0 hW (cX7_takePart_met l hJ z σ v2 _ hu39) (cwV 2 C0.2.2.2.1 gX7_take_X7_takePart rfl rfl rfl hdvX7_takePart ⟨Nat.le_of_ble_eq_true rfl, Nat.le_of_ble_eq_true rfl⟩) (cX_X7 rfl) (by decide) rfl rfl rfl hl (Nat.le_of_ble_eq_true rfl) dX7_take_100 ⟨Nat.le_refl 0, Nat.le_refl 0⟩) hW (fun H locs hW => ?_)
      refine lv_iload_n C0.1 C0.2.1 dX7_take_103 rfl (lv_at hl 2 rfl) ?_
      refine lv_aload_n C0.1 C0.2.1 dX7_take_104 rfl (lv_at hl 1 rfl) ?_
      refine lv_iload_n C0.1 C0.2.1 dX7_take_105 rfl (lv_at hl 2 rfl) ?_
      obtain ⟨u40, hu40, h⟩ := bd_some h
      refine x_ki (r := u40) (x_runV (As := [.int v2]) (rest := [.int v2]) C0 G0 hW (cX6_letterAt_met l hJ z u39 v2 _ hu40) (cwV 1 C0.2.2.2.1 gX7_take_X6_letterAt rfl rfl rfl hdvX6_letterAt ⟨Nat.le_of_ble_eq_true rfl, Nat.le_of_ble_eq_true rfl⟩) (cX_X6 rfl) (by decide) rfl rfl rfl hl (Nat.le_of_ble_eq_true rfl) dX7_take_106 ⟨Nat.le_refl 0, Nat.le_refl 0⟩) hW (fun H locs hW => ?_)
      refine lv_bipush (v := (65 : Int32)) C0.1 C0.2.1 dX7_take_109 (by decide) ?_
      refine lv_icmp_ne (tgt := 118) C0.1 C0.2.1 dX7_take_111 (by decide) (fun c41 => ?_) (fun c41 => ?_)
      · rw [if_neg c41] at h
        refine lv_iconst (v := (3 : Int32)) C0.1 C0.2.1 dX7_take_118 (by decide) ?_
        exact wX7_take_119 C0 G0 hJ z (fX7_take_89 z n) u39 (3 : Int32) v2 _ h (by exact hr89) hW (lv_sub hl [0, 1] rfl)
      · rw [if_pos c41] at h
        refine lv_iconst (v := (2 : Int32)) C0.1 C0.2.1 dX7_take_114 (by decide) ?_
        refine lv_goto (tgt := 119) C0.1 C0.2.1 dX7_take_115 (by decide) ?_
        exact wX7_take_119 C0 G0 hJ z (fX7_take_89 z n) u39 (2 : Int32) v2 _ h (by exact hr89) hW (lv_sub hl [0, 1] rfl)
set_option maxHeartbeats 4000000 in
set_option maxRecDepth 100000 in
theorem wX7_take_68 (C0 : Cx p s m args meth c cX7_take RX7 3 none wsX7_take) (G0 : Gx G s) (hJ : gJ 80 G) (z : Nat) (n : Nat) (σ : ST) (v2 : Int32) (res : ST) (h : fX7_take_68 z n σ v2 = some res)  {H : Heap} {locs : List Loc} {ls : Array Slot} (hW : Wd cellX 80 G s.heap σ H locs) (hl : lv_has ls 3 [(0, .ref (aD G 3)), (1, .ref (aD G 1)), (2, .int v2)]) : W p l e rX7_take s m args below meth c H locs 0 0 (MQ below (XQv cellX 80 G res) args s 0 0 (gA 80 G)) (F0 m 68 ls []) := by
  induction n generalizing σ v2 H locs ls with
  | zero => cases h
  | succ n ih =>
    have hr68 : ∀ (σ : ST) (v2 : Int32), fX7_take_68 z n σ v2 = some res → ∀ (H : Heap) (locs : List Loc) (ls : Array Slot), Wd cellX 80 G s.heap σ H locs → lv_has ls 3 [(0, .ref (aD G 3)), (1, .ref (aD G 1)), (2, .int v2)] → W p l e rX7_take s m args below meth c H locs 0 0 (MQ below (XQv cellX 80 G res) args s 0 0 (gA 80 G)) (F0 m 68 ls []) := fun σ v2 h H locs ls hW hl => ih σ v2 h hW hl
    clear ih
    unfold fX7_take_68 at h
    refine lv_iload_n C0.1 C0.2.1 dX7_take_68 rfl (lv_at hl 2 rfl) ?_
    refine lv_bipush (v := (11 : Int32)) C0.1 C0.2.1 dX7_take_69 (by decide) ?_
    refine lv_icmp_ge (tgt := 86) C0.1 C0.2.1 dX7_take_71 (by decide) (fun c35 => ?_) (fun c35 => ?_)
    · rw [if_pos c35] at h
      refine lv_bipush (v := (7 : Int32)) C0.1 C0.2.1 dX7_take_86 (by decide) ?_
      refine lv_istore_n (lv' := [(2, .int (7 : Int32)), (0, .ref (aD G 3)), (1, .ref (aD G 1))]) C0.1 C0.2.1 dX7_take_88 rfl hl (by decide) rfl (fun ls hl => ?_)
      exact wX7_take_89 C0 G0 hJ z z σ (7 : Int32) _ h hW (lv_sub hl [1, 2, 0] rfl)
    · rw [if_neg c35] at h
      refine lv_aload_n C0.1 C0.2.1 dX7_take_74 rfl (lv_at hl 0 rfl) ?_
      refine lv_iload_n C0.1 C0.2.1 dX7_take_75 rfl (lv_at hl 2 rfl) ?_
      refine lv_iconst (v := (0 : Int32)) C0.1 C0.2.1 dX7_take_76 (by decide) ?_
      obtain ⟨u36, hu36, h⟩ := bd_some h
      refine x_kv (x_runV (As := [.int v2, .int (0 : Int32)]) (rest := []) C0 G0 hW (cX7_setPart_met l hJ z σ v2 (0 : Int32) _ hu36) (cwV 2 C0.2.2.2.1 gX7_take_X7_setPart rfl rfl rfl hdvX7_setPart ⟨Nat.le_of_ble_eq_true rfl, Nat.le_of_ble_eq_true rfl⟩) (cX_X7 rfl) (by decide) rfl rfl rfl hl (Nat.le_of_ble_eq_true rfl) dX7_take_77 ⟨Nat.le_refl 0, Nat.le_refl 0⟩) hW (fun H locs hW => ?_)
      refine lv_iinc (v := (v2 + 1)) (lv' := [(2, .int (v2 + 1)), (0, .ref (aD G 3)), (1, .ref (aD G 1))]) C0.1 C0.2.1 dX7_take_80 hl (k := 2) rfl rfl (by decide) rfl (fun ls hl => ?_)
      refine lv_goto (tgt := 68) C0.1 C0.2.1 dX7_take_83 (by decide) ?_
      exact hr68 u36 (v2 + 1) h _ _ _ hW (lv_sub hl [1, 2, 0] rfl)
set_option maxHeartbeats 4000000 in
set_option maxRecDepth 100000 in
theorem wX7_take (C0 : Cx p s m args meth c cX7_take RX7 3 none wsX7_take) (G0 : Gx G s) (hJ : gJ 80 G) (z : Nat) (σ : ST) (res : ST) (h : fX7_take z σ = some res)  {H : Heap} {locs : List Loc} {ls : Array Slot} (hW : Wd cellX 80 G s.heap σ H locs) (hl : lv_has ls 3 [(0, .ref (aD G 3)), (1, .ref (aD G 1))]) : W p l e rX7_take s m args below meth c H locs 0 0 (MQ below (XQv cellX 80 G res) args s 0 0 (gA 80 G)) (F0 m 0 ls []) := by
  unfold fX7_take at h
  refine lv_aload_n C0.1 C0.2.1 dX7_take_0 rfl (lv_at hl 0 rfl) ?_
  refine lv_aload_n C0.1 C0.2.1 dX7_take_1 rfl (lv_at hl 1 rfl) ?_
  refine lv_iconst (v := (1 : Int32)) C0.1 C0.2.1 dX7_take_2 (by decide) ?_
  obtain ⟨u21, hu21, h⟩ := bd_some h
  refine x_ki (r := u21) (x_runV (As := [.int (1 : Int32)]) (rest := [.ref (aD G 3)]) C0 G0 hW (cX6_digitAt_met l hJ z σ (1 : Int32) _ hu21) (cwV 1 C0.2.2.2.1 gX7_take_X6_digitAt rfl rfl rfl hdvX6_digitAt ⟨Nat.le_of_ble_eq_true rfl, Nat.le_of_ble_eq_true rfl⟩) (cX_X6 rfl) (by decide) rfl rfl rfl hl (Nat.le_of_ble_eq_true rfl) dX7_take_3 ⟨Nat.le_refl 0, Nat.le_refl 0⟩) hW (fun H locs hW => ?_)
  refine x_putI (v := u21) C0 G0 hJ hW (cX_X7 rfl) (by decide) rfl 0 (by decide) inX7_take_X7 lkX7_take_28 tyX7 tyX7_ok nmX7 rfl rfl rfl (Nat.le_of_ble_eq_true rfl) (hu_X7_0 rfl) dX7_take_6 (fun H locs hW => ?_)
  obtain ⟨s22, es22, h⟩ := lt_some h
  rw [es22] at hW
  refine lv_aload_n C0.1 C0.2.1 dX7_take_9 rfl (lv_at hl 0 rfl) ?_
  refine lv_aload_n C0.1 C0.2.1 dX7_take_10 rfl (lv_at hl 1 rfl) ?_
  refine lv_iconst (v := (2 : Int32)) C0.1 C0.2.1 dX7_take_11 (by decide) ?_
  obtain ⟨u23, hu23, h⟩ := bd_some h
  refine x_ki (r := u23) (x_runV (As := [.int (2 : Int32)]) (rest := [.ref (aD G 3)]) C0 G0 hW (cX6_digitAt_met l hJ z s22 (2 : Int32) _ hu23) (cwV 1 C0.2.2.2.1 gX7_take_X6_digitAt rfl rfl rfl hdvX6_digitAt ⟨Nat.le_of_ble_eq_true rfl, Nat.le_of_ble_eq_true rfl⟩) (cX_X6 rfl) (by decide) rfl rfl rfl hl (Nat.le_of_ble_eq_true rfl) dX7_take_12 ⟨Nat.le_refl 0, Nat.le_refl 0⟩) hW (fun H locs hW => ?_)
  refine x_putI (v := u23) C0 G0 hJ hW (cX_X7 rfl) (by decide) rfl 1 (by decide) inX7_take_X7 lkX7_take_31 tyX7 tyX7_ok nmX7 rfl rfl rfl (Nat.le_of_ble_eq_true rfl) (hu_X7_1 rfl) dX7_take_15 (fun H locs hW => ?_)
  obtain ⟨s24, es24, h⟩ := lt_some h
  rw [es24] at hW
  refine lv_aload_n C0.1 C0.2.1 dX7_take_18 rfl (lv_at hl 0 rfl) ?_
  refine lv_aload_n C0.1 C0.2.1 dX7_take_19 rfl (lv_at hl 1 rfl) ?_
  refine lv_iconst (v := (3 : Int32)) C0.1 C0.2.1 dX7_take_20 (by decide) ?_
  obtain ⟨u25, hu25, h⟩ := bd_some h
  refine x_ki (r := u25) (x_runV (As := [.int (3 : Int32)]) (rest := [.ref (aD G 3)]) C0 G0 hW (cX6_digitAt_met l hJ z s24 (3 : Int32) _ hu25) (cwV 1 C0.2.2.2.1 gX7_take_X6_digitAt rfl rfl rfl hdvX6_digitAt ⟨Nat.le_of_ble_eq_true rfl, Nat.le_of_ble_eq_true rfl⟩) (cX_X6 rfl) (by decide) rfl rfl rfl hl (Nat.le_of_ble_eq_true rfl) dX7_take_21 ⟨Nat.le_refl 0, Nat.le_refl 0⟩) hW (fun H locs hW => ?_)
  refine x_putI (v := u25) C0 G0 hJ hW (cX_X7 rfl) (by decide) rfl 2 (by decide) inX7_take_X7 lkX7_take_34 tyX7 tyX7_ok nmX7 rfl rfl rfl (Nat.le_of_ble_eq_true rfl) (hu_X7_2 rfl) dX7_take_24 (fun H locs hW => ?_)
  obtain ⟨s26, es26, h⟩ := lt_some h
  rw [es26] at hW
  refine lv_aload_n C0.1 C0.2.1 dX7_take_27 rfl (lv_at hl 0 rfl) ?_
  refine lv_aload_n C0.1 C0.2.1 dX7_take_28 rfl (lv_at hl 1 rfl) ?_
  refine lv_iconst (v := (4 : Int32)) C0.1 C0.2.1 dX7_take_29 (by decide) ?_
  obtain ⟨u27, hu27, h⟩ := bd_some h
  refine x_ki (r := u27) (x_runV (As := [.int (4 : Int32)]) (rest := [.ref (aD G 3)]) C0 G0 hW (cX6_digitAt_met l hJ z s26 (4 : Int32) _ hu27) (cwV 1 C0.2.2.2.1 gX7_take_X6_digitAt rfl rfl rfl hdvX6_digitAt ⟨Nat.le_of_ble_eq_true rfl, Nat.le_of_ble_eq_true rfl⟩) (cX_X6 rfl) (by decide) rfl rfl rfl hl (Nat.le_of_ble_eq_true rfl) dX7_take_30 ⟨Nat.le_refl 0, Nat.le_refl 0⟩) hW (fun H locs hW => ?_)
  refine x_putI (v := u27) C0 G0 hJ hW (cX_X7 rfl) (by decide) rfl 3 (by decide) inX7_take_X7 lkX7_take_37 tyX7 tyX7_ok nmX7 rfl rfl rfl (Nat.le_of_ble_eq_true rfl) (hu_X7_3 rfl) dX7_take_33 (fun H locs hW => ?_)
  obtain ⟨s28, es28, h⟩ := lt_some h
  rw [es28] at hW
  refine lv_aload_n C0.1 C0.2.1 dX7_take_36 rfl (lv_at hl 0 rfl) ?_
  refine lv_aload_n C0.1 C0.2.1 dX7_take_37 rfl (lv_at hl 1 rfl) ?_
  refine lv_iconst (v := (5 : Int32)) C0.1 C0.2.1 dX7_take_38 (by decide) ?_
  obtain ⟨u29, hu29, h⟩ := bd_some h
  refine x_ki (r := u29) (x_runV (As := [.int (5 : Int32)]) (rest := [.ref (aD G 3)]) C0 G0 hW (cX6_digitAt_met l hJ z s28 (5 : Int32) _ hu29) (cwV 1 C0.2.2.2.1 gX7_take_X6_digitAt rfl rfl rfl hdvX6_digitAt ⟨Nat.le_of_ble_eq_true rfl, Nat.le_of_ble_eq_true rfl⟩) (cX_X6 rfl) (by decide) rfl rfl rfl hl (Nat.le_of_ble_eq_true rfl) dX7_take_39 ⟨Nat.le_refl 0, Nat.le_refl 0⟩) hW (fun H locs hW => ?_)
  refine x_putI (v := u29) C0 G0 hJ hW (cX_X7 rfl) (by decide) rfl 4 (by decide) inX7_take_X7 lkX7_take_40 tyX7 tyX7_ok nmX7 rfl rfl rfl (Nat.le_of_ble_eq_true rfl) (hu_X7_4 rfl) dX7_take_42 (fun H locs hW => ?_)
  obtain ⟨s30, es30, h⟩ := lt_some h
  rw [es30] at hW
  refine lv_aload_n C0.1 C0.2.1 dX7_take_45 rfl (lv_at hl 0 rfl) ?_
  refine lv_aload_n C0.1 C0.2.1 dX7_take_46 rfl (lv_at hl 1 rfl) ?_
  refine lv_bipush (v := (6 : Int32)) C0.1 C0.2.1 dX7_take_47 (by decide) ?_
  obtain ⟨u31, hu31, h⟩ := bd_some h
  refine x_ki (r := u31) (x_runV (As := [.int (6 : Int32)]) (rest := [.ref (aD G 3)]) C0 G0 hW (cX6_digitAt_met l hJ z s30 (6 : Int32) _ hu31) (cwV 1 C0.2.2.2.1 gX7_take_X6_digitAt rfl rfl rfl hdvX6_digitAt ⟨Nat.le_of_ble_eq_true rfl, Nat.le_of_ble_eq_true rfl⟩) (cX_X6 rfl) (by decide) rfl rfl rfl hl (Nat.le_of_ble_eq_true rfl) dX7_take_49 ⟨Nat.le_refl 0, Nat.le_refl 0⟩) hW (fun H locs hW => ?_)
  refine x_putI (v := u31) C0 G0 hJ hW (cX_X7 rfl) (by decide) rfl 5 (by decide) inX7_take_X7 lkX7_take_15 tyX7 tyX7_ok nmX7 rfl rfl rfl (Nat.le_of_ble_eq_true rfl) (hu_X7_5 rfl) dX7_take_52 (fun H locs hW => ?_)
  obtain ⟨s32, es32, h⟩ := lt_some h
  rw [es32] at hW
  refine lv_aload_n C0.1 C0.2.1 dX7_take_55 rfl (lv_at hl 0 rfl) ?_
  refine lv_bipush (v := (-9 : Int32)) C0.1 C0.2.1 dX7_take_56 (by decide) ?_
  refine x_putI (v := (-9 : Int32)) C0 G0 hJ hW (cX_X7 rfl) (by decide) rfl 6 (by decide) inX7_take_X7 lkX7_take_19 tyX7 tyX7_ok nmX7 rfl rfl rfl (Nat.le_of_ble_eq_true rfl) (hu_X7_6 rfl) dX7_take_58 (fun H locs hW => ?_)
  obtain ⟨s33, es33, h⟩ := lt_some h
  rw [es33] at hW
  refine lv_aload_n C0.1 C0.2.1 dX7_take_61 rfl (lv_at hl 0 rfl) ?_
  refine lv_iconst (v := (0 : Int32)) C0.1 C0.2.1 dX7_take_62 (by decide) ?_
  refine x_putI (v := (0 : Int32)) C0 G0 hJ hW (cX_X7 rfl) (by decide) rfl 7 (by decide) inX7_take_X7 lkX7_take_43 tyX7 tyX7_ok nmX7 rfl rfl rfl (Nat.le_of_ble_eq_true rfl) (hu_X7_7 rfl) dX7_take_63 (fun H locs hW => ?_)
  obtain ⟨s34, es34, h⟩ := lt_some h
  rw [es34] at hW
  refine lv_iconst (v := (0 : Int32)) C0.1 C0.2.1 dX7_take_66 (by decide) ?_
  refine lv_istore_n (lv' := [(2, .int (0 : Int32)), (0, .ref (aD G 3)), (1, .ref (aD G 1))]) C0.1 C0.2.1 dX7_take_67 rfl hl (by decide) rfl (fun ls hl => ?_)
  exact wX7_take_68 C0 G0 hJ z z s34 (0 : Int32) _ h hW (lv_sub hl [1, 2, 0] rfl)
theorem cX7_take_met (l : Launch) {G : GT} (hJ : gJ 80 G) (z : Nat) (σ : ST)  (res : ST) (h : fX7_take z σ = some res) : Met l yX7_take wsX7_take rX7_take (XPc cellX 80 G σ [.ref (aD G 3), .ref (aD G 1)]) (XQv cellX 80 G res) 0 0 (gA 80 G) :=
  x_met (ret := none) (maxL := 3) (by decide) rfl (Nat.le_of_ble_eq_true rfl) (fun p e s m args below meth c H locs ls C0 G0 hW hl => wX7_take C0 G0 hJ z σ res h hW hl)
end

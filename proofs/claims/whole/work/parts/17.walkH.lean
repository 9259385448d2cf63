/-! X9_lanes -/
def rX9_lanes : Room := { frames := 0, cells := 0, slots := 0, locals := 0 }
theorem hdvX9_lanes : yX9_lanes.cls = RX9 ∧ yX9_lanes.cls ≠ "java/lang/invoke/MethodHandle" ∧ yX9_lanes.cls ≠ "java/lang/invoke/VarHandle" ∧ (parseMethodDescriptor yX9_lanes.desc).map (fun d => d.parameters.length) = some 0 := by decide +kernel
theorem inX9_lanes_X9 : ∀ w ∈ u_ws RX9 TX9 29, w ∈ wsX9_lanes := by decide +kernel
theorem lkX9_lanes_23 : Cond.fieldLink RX9 23 (TX9 15).1 (TX9 15).2.1 (TX9 15).2.2.1 ∈ wsX9_lanes := by decide +kernel
theorem lkX9_lanes_19 : Cond.fieldLink RX9 19 (TX9 14).1 (TX9 14).2.1 (TX9 14).2.2.1 ∈ wsX9_lanes := by decide +kernel
def fX9_lanes_178 (z : Nat) (σ : ST) (t0 : Int32) : Option Int32 := some t0
def fX9_lanes_127 (z : Nat) (σ : ST) (v1 : Int32) (v2 : Int32) (v3 : Int32) (v4 : Int32) (t0 : Int32) : Option Int32 := gd (inb (0 : Int32) 9) ( (if v1 ≤ (σ.1 5 ((0 : Int32)).toNatClampNeg) then gd (inb (0 : Int32) 9) ( (if (σ.1 5 ((0 : Int32)).toNatClampNeg) ≤ v2 then fX9_lanes_178 z σ ((v3 + v4) + t0) else gd (inb (0 : Int32) 9) ( fX9_lanes_178 z σ ((σ.1 5 ((0 : Int32)).toNatClampNeg) - v1)))) else gd (inb (0 : Int32) 9) ( fX9_lanes_178 z σ (v2 - (σ.1 5 ((0 : Int32)).toNatClampNeg)))))
def fX9_lanes_113 (z : Nat) (σ : ST) (v1 : Int32) (v2 : Int32) (v3 : Int32) (t0 : Int32) : Option Int32 := (if t0 ≤ v3 then fX9_lanes_127 z σ v1 v2 v3 t0 t0 else fX9_lanes_127 z σ v1 v2 v3 t0 v3)
def fX9_lanes_90 (z : Nat) (σ : ST) (v1 : Int32) (v2 : Int32) (t0 : Int32) : Option Int32 := gd (inb (0 : Int32) 9) ( (if v2 ≤ (σ.1 5 ((0 : Int32)).toNatClampNeg) then fX9_lanes_113 z σ v1 v2 t0 (0 : Int32) else gd (inb (0 : Int32) 9) ( fX9_lanes_113 z σ v1 v2 t0 (v2 - (σ.1 5 ((0 : Int32)).toNatClampNeg)))))
def fX9_lanes_53 (z : Nat) (r8 : Int32 → Int32 → Int32 → Option Int32) (σ : ST) (v1 : Int32) (v3 : Int32) (t0 : Int32) : Option Int32 := r8 v1 t0 (v3 + 1)
def fX9_lanes_36 (z : Nat) (r8 : Int32 → Int32 → Int32 → Option Int32) (σ : ST) (v2 : Int32) (v3 : Int32) (t0 : Int32) : Option Int32 := gd (inb v3 33) ( (if (σ.2 4 (v3).toNatClampNeg) ≤ (0 : Int64) then fX9_lanes_53 z r8 σ t0 v3 v2 else fX9_lanes_53 z r8 σ t0 v3 v3))
def fX9_lanes_35 (z : Nat) (r8 : Int32 → Int32 → Int32 → Option Int32) (σ : ST) (v1 : Int32) (v2 : Int32) (v3 : Int32) : Option Int32 := fX9_lanes_36 z r8 σ v2 v3 v1
def fX9_lanes_8 (z : Nat) (σ : ST) : Nat → Int32 → Int32 → Int32 → Option Int32
  | 0 => fun _ _ _ => none
  | n + 1 => fun v1 v2 v3 => (if (10 : Int32) ≤ v3 then (if v1 = (-9 : Int32) then some (0 : Int32) else gd (inb (0 : Int32) 9) ( (if (σ.1 5 ((0 : Int32)).toNatClampNeg) ≤ v1 then fX9_lanes_90 z σ v1 v2 (0 : Int32) else gd (inb (0 : Int32) 9) ( fX9_lanes_90 z σ v1 v2 ((σ.1 5 ((0 : Int32)).toNatClampNeg) - v1))))) else gd (inb v3 33) ( (if (σ.2 4 (v3).toNatClampNeg) ≤ (0 : Int64) then fX9_lanes_35 z (fX9_lanes_8 z σ n) σ v1 v2 v3 else (if v1 = (-9 : Int32) then fX9_lanes_36 z (fX9_lanes_8 z σ n) σ v2 v3 v3 else fX9_lanes_35 z (fX9_lanes_8 z σ n) σ v1 v2 v3))))
def fX9_lanes (z : Nat) (σ : ST) : Option Int32 := fX9_lanes_8 z σ z (-9 : Int32) (-9 : Int32) (0 : Int32)
section
variable {p : Program} {l : Launch} {e : Env} {s : State} {m : MethodId} {args : Array Value} {below : List Frame} {meth : Method} {c : Code} {G : GT}
set_option maxHeartbeats 4000000 in
set_option maxRecDepth 100000 in
theorem wX9_lanes_178 (C0 : Cx p s m args meth c cX9_lanes RX9 6 (some .int) wsX9_lanes) (G0 : Gx G s) (hJ : gJ 13 G) (z : Nat) (σ : ST) (t0 : Int32) (res : Int32) (h : fX9_lanes_178 z σ t0 = some res)  {H : Heap} {locs : List Loc} {ls : Array Slot} (hW : Wd cellM 13 G s.heap σ H locs) (hl : lv_has ls 6 []) : W p l e rX9_lanes s m args below meth c H locs 0 0 (MQ below (XQi cellM 13 G res σ) args s 0 0 (gA 13 G)) (F0 m 178 ls [.int t0]) := by
  unfold fX9_lanes_178 at h
  cases h
  exact x_iret C0 hW dX9_lanes_178
set_option maxHeartbeats 4000000 in
set_option maxRecDepth 100000 in
theorem wX9_lanes_127 (C0 : Cx p s m args meth c cX9_lanes RX9 6 (some .int) wsX9_lanes) (G0 : Gx G s) (hJ : gJ 13 G) (z : Nat) (σ : ST) (v1 : Int32) (v2 : Int32) (v3 : Int32) (v4 : Int32) (t0 : Int32) (res : Int32) (h : fX9_lanes_127 z σ v1 v2 v3 v4 t0 = some res)  {H : Heap} {locs : List Loc} {ls : Array Slot} (hW : Wd cellM 13 G s.heap σ H locs) (hl : lv_has ls 6 [(0, .ref (aD G 0)), (1, .int v1), (2, .int v2), (3, .int v3), (4, .int v4)]) : W p l e rX9_lanes s m args below meth c H locs 0 0 (MQ below (XQi cellM 13 G res σ) args s 0 0 (gA 13 G)) (F0 m 127 ls [.int t0]) := by
  unfold fX9_lanes_127 at h
  refine lv_istore (lv' := [(5, .int t0), (0, .ref (aD G 0)), (1, .int v1), (2, .int v2), (3, .int v3), (4, .int v4)]) C0.1 C0.2.1 dX9_lanes_127 hl (by decide) rfl (fun ls hl => ?_)
  refine lv_aload_n C0.1 C0.2.1 dX9_lanes_129 rfl (lv_at hl 1 rfl) ?_
  refine x_get (v := .ref (aD G 5)) C0 G0 hW cM_0 (by decide) rfl 15 (by decide) inX9_lanes_X9 lkX9_lanes_23 rfl dX9_lanes_130 ?_
  refine lv_iconst (v := (0 : Int32)) C0.1 C0.2.1 dX9_lanes_133 (by decide) ?_
  obtain ⟨g35, h⟩ := gd_some h
  refine x_iald C0 G0 hW cM_5 (by decide) g35 dX9_lanes_134 ?_
  refine lv_iload_n C0.1 C0.2.1 dX9_lanes_135 rfl (lv_at hl 2 rfl) ?_
  refine lv_icmp_ge (tgt := 150) C0.1 C0.2.1 dX9_lanes_136 (by decide) (fun c36 => ?_) (fun c36 => ?_)
  · rw [if_pos c36] at h
    refine lv_aload_n C0.1 C0.2.1 dX9_lanes_150 rfl (lv_at hl 1 rfl) ?_
    refine x_get (v := .ref (aD G 5)) C0 G0 hW cM_0 (by decide) rfl 15 (by decide) inX9_lanes_X9 lkX9_lanes_23 rfl dX9_lanes_151 ?_
    refine lv_iconst (v := (0 : Int32)) C0.1 C0.2.1 dX9_lanes_154 (by decide) ?_
    obtain ⟨g37, h⟩ := gd_some h
    refine x_iald C0 G0 hW cM_5 (by decide) g37 dX9_lanes_155 ?_
    refine lv_iload_n C0.1 C0.2.1 dX9_lanes_156 rfl (lv_at hl 3 rfl) ?_
    refine lv_icmp_le (tgt := 171) C0.1 C0.2.1 dX9_lanes_157 (by decide) (fun c38 => ?_) (fun c38 => ?_)
    · rw [if_pos c38] at h
      refine lv_iload_n C0.1 C0.2.1 dX9_lanes_171 rfl (lv_at hl 4 rfl) ?_
      refine lv_iload C0.1 C0.2.1 dX9_lanes_172 (lv_at hl 5 rfl) ?_
      refine lv_iadd C0.1 C0.2.1 dX9_lanes_174 ?_
      refine lv_iload C0.1 C0.2.1 dX9_lanes_175 (lv_at hl 0 rfl) ?_
      refine lv_iadd C0.1 C0.2.1 dX9_lanes_177 ?_
      exact wX9_lanes_178 C0 G0 hJ z σ ((v3 + v4) + t0) _ h hW (lv_sub hl [] rfl)
    · rw [if_neg c38] at h
      refine lv_aload_n C0.1 C0.2.1 dX9_lanes_160 rfl (lv_at hl 1 rfl) ?_
      refine x_get (v := .ref (aD G 5)) C0 G0 hW cM_0 (by decide) rfl 15 (by decide) inX9_lanes_X9 lkX9_lanes_23 rfl dX9_lanes_161 ?_
      refine lv_iconst (v := (0 : Int32)) C0.1 C0.2.1 dX9_lanes_164 (by decide) ?_
      obtain ⟨g39, h⟩ := gd_some h
      refine x_iald C0 G0 hW cM_5 (by decide) g39 dX9_lanes_165 ?_
      refine lv_iload_n C0.1 C0.2.1 dX9_lanes_166 rfl (lv_at hl 2 rfl) ?_
      refine lv_isub C0.1 C0.2.1 dX9_lanes_167 ?_
      refine lv_goto (tgt := 178) C0.1 C0.2.1 dX9_lanes_168 (by decide) ?_
      exact wX9_lanes_178 C0 G0 hJ z σ ((σ.1 5 ((0 : Int32)).toNatClampNeg) - v1) _ h hW (lv_sub hl [] rfl)
  · rw [if_neg c36] at h
    refine lv_iload_n C0.1 C0.2.1 dX9_lanes_139 rfl (lv_at hl 3 rfl) ?_
    refine lv_aload_n C0.1 C0.2.1 dX9_lanes_140 rfl (lv_at hl 1 rfl) ?_
    refine x_get (v := .ref (aD G 5)) C0 G0 hW cM_0 (by decide) rfl 15 (by decide) inX9_lanes_X9 lkX9_lanes_23 rfl dX9_lanes_141 ?_
    refine lv_iconst (v := (0 : Int32)) C0.1 C0.2.1 dX9_lanes_144 (by decide) ?_
    obtain ⟨g40, h⟩ := gd_some h
    refine x_iald C0 G0 hW cM_5 (by decide) g40 dX9_lanes_145 ?_
    refine lv_isub C0.1 C0.2.1 dX9_lanes_146 ?_
    refine lv_goto (tgt := 178) C0.1 C0.2.1 dX9_lanes_147 (by decide) ?_
    exact wX9_lanes_178 C0 G0 hJ z σ (v2 - (σ.1 5 ((0 : Int32)).toNatClampNeg)) _ h hW (lv_sub hl [] rfl)
set_option maxHeartbeats 4000000 in
set_option maxRecDepth 100000 in
theorem wX9_lanes_113 (C0 : Cx p s m args meth c cX9_lanes RX9 6 (some .int) wsX9_lanes) (G0 : Gx G s) (hJ : gJ 13 G) (z : Nat) (σ : ST) (v1 : Int32) (v2 : Int32) (v3 : Int32) (t0 : Int32) (res : Int32) (h : fX9_lanes_113 z σ v1 v2 v3 t0 = some res)  {H : Heap} {locs : List Loc} {ls : Array Slot} (hW : Wd cellM 13 G s.heap σ H locs) (hl : lv_has ls 6 [(0, .ref (aD G 0)), (1, .int v1), (2, .int v2), (3, .int v3)]) : W p l e rX9_lanes s m args below meth c H locs 0 0 (MQ below (XQi cellM 13 G res σ) args s 0 0 (gA 13 G)) (F0 m 113 ls [.int t0]) := by
  unfold fX9_lanes_113 at h
  refine lv_istore (lv' := [(4, .int t0), (0, .ref (aD G 0)), (1, .int v1), (2, .int v2), (3, .int v3)]) C0.1 C0.2.1 dX9_lanes_113 hl (by decide) rfl (fun ls hl => ?_)
  refine lv_iload_n C0.1 C0.2.1 dX9_lanes_115 rfl (lv_at hl 4 rfl) ?_
  refine lv_iload C0.1 C0.2.1 dX9_lanes_116 (lv_at hl 0 rfl) ?_
  refine lv_icmp_ge (tgt := 125) C0.1 C0.2.1 dX9_lanes_118 (by decide) (fun c34 => ?_) (fun c34 => ?_)
  · rw [if_pos c34] at h
    refine lv_iload C0.1 C0.2.1 dX9_lanes_125 (lv_at hl 0 rfl) ?_
    exact wX9_lanes_127 C0 G0 hJ z σ v1 v2 v3 t0 t0 _ h hW (lv_sub hl [1, 2, 3, 4, 0] rfl)
  · rw [if_neg c34] at h
    refine lv_iload_n C0.1 C0.2.1 dX9_lanes_121 rfl (lv_at hl 4 rfl) ?_
    refine lv_goto (tgt := 127) C0.1 C0.2.1 dX9_lanes_122 (by decide) ?_
    exact wX9_lanes_127 C0 G0 hJ z σ v1 v2 v3 t0 v3 _ h hW (lv_sub hl [1, 2, 3, 4, 0] rfl)
set_option maxHeartbeats 4000000 in
set_option maxRecDepth 100000 in
theorem wX9_lanes_90 (C0 : Cx p s m args meth c cX9_lanes RX9 6 (some .int) wsX9_lanes) (G0 : Gx G s) (hJ : gJ 13 G) (z : Nat) (σ : ST) (v1 : Int32) (v2 : Int32) (t0 : Int32) (res : Int32) (h : fX9_lanes_90 z σ v1 v2 t0 = some res)  {H : Heap} {locs : List Loc} {ls : Array Slot} (hW : Wd cellM 13 G s.heap σ H locs) (hl : lv_has ls 6 [(0, .ref (aD G 0)), (1, .int v1), (2, .int v2)]) : W p l e rX9_lanes s m args below meth c H locs 0 0 (MQ below (XQi cellM 13 G res σ) args s 0 0 (gA 13 G)) (F0 m 90 ls [.int t0]) := by
  unfold fX9_lanes_90 at h
  refine lv_istore_n (lv' := [(3, .int t0), (0, .ref (aD G 0)), (1, .int v1), (2, .int v2)]) C0.1 C0.2.1 dX9_lanes_90 rfl hl (by decide) rfl (fun ls hl => ?_)
  refine lv_aload_n C0.1 C0.2.1 dX9_lanes_91 rfl (lv_at hl 1 rfl) ?_
  refine x_get (v := .ref (aD G 5)) C0 G0 hW cM_0 (by decide) rfl 15 (by decide) inX9_lanes_X9 lkX9_lanes_23 rfl dX9_lanes_92 ?_
  refine lv_iconst (v := (0 : Int32)) C0.1 C0.2.1 dX9_lanes_95 (by decide) ?_
  obtain ⟨g29, h⟩ := gd_some h
  refine x_iald C0 G0 hW cM_5 (by decide) g29 dX9_lanes_96 ?_
  refine lv_iload_n C0.1 C0.2.1 dX9_lanes_97 rfl (lv_at hl 3 rfl) ?_
  refine lv_icmp_ge (tgt := 112) C0.1 C0.2.1 dX9_lanes_98 (by decide) (fun c30 => ?_) (fun c30 => ?_)
  · rw [if_pos c30] at h
    refine lv_iconst (v := (0 : Int32)) C0.1 C0.2.1 dX9_lanes_112 (by decide) ?_
    exact wX9_lanes_113 C0 G0 hJ z σ v1 v2 t0 (0 : Int32) _ h hW (lv_sub hl [1, 2, 3, 0] rfl)
  · rw [if_neg c30] at h
    refine lv_iload_n C0.1 C0.2.1 dX9_lanes_101 rfl (lv_at hl 3 rfl) ?_
    refine lv_aload_n C0.1 C0.2.1 dX9_lanes_102 rfl (lv_at hl 1 rfl) ?_
    refine x_get (v := .ref (aD G 5)) C0 G0 hW cM_0 (by decide) rfl 15 (by decide) inX9_lanes_X9 lkX9_lanes_23 rfl dX9_lanes_103 ?_
    refine lv_iconst (v := (0 : Int32)) C0.1 C0.2.1 dX9_lanes_106 (by decide) ?_
    obtain ⟨g31, h⟩ := gd_some h
    refine x_iald C0 G0 hW cM_5 (by decide) g31 dX9_lanes_107 ?_
    refine lv_isub C0.1 C0.2.1 dX9_lanes_108 ?_
    refine lv_goto (tgt := 113) C0.1 C0.2.1 dX9_lanes_109 (by decide) ?_
    exact wX9_lanes_113 C0 G0 hJ z σ v1 v2 t0 (v2 - (σ.1 5 ((0 : Int32)).toNatClampNeg)) _ h hW (lv_sub hl [1, 2, 3, 0] rfl)
set_option maxHeartbeats 4000000 in
set_option maxRecDepth 100000 in
theorem wX9_lanes_53 (C0 : Cx p s m args meth c cX9_lanes RX9 6 (some .int) wsX9_lanes) (G0 : Gx G s) (hJ : gJ 13 G) (z : Nat) (r8 : Int32 → Int32 → Int32 → Option Int32) (σ : ST) (v1 : Int32) (v3 : Int32) (t0 : Int32) (res : Int32) (h : fX9_lanes_53 z r8 σ v1 v3 t0 = some res) (hr8 : ∀ (v1 : Int32) (v2 : Int32) (v3 : Int32), r8 v1 v2 v3 = some res → ∀ (H : Heap) (locs : List Loc) (ls : Array Slot), Wd cellM 13 G s.heap σ H locs → lv_has ls 6 [(0, .ref (aD G 0)), (1, .int v1), (2, .int v2), (3, .int v3)] → W p l e rX9_lanes s m args below meth c H locs 0 0 (MQ below (XQi cellM 13 G res σ) args s 0 0 (gA 13 G)) (F0 m 8 ls [])) {H : Heap} {locs : List Loc} {ls : Array Slot} (hW : Wd cellM 13 G s.heap σ H locs) (hl : lv_has ls 6 [(0, .ref (aD G 0)), (1, .int v1), (3, .int v3)]) : W p l e rX9_lanes s m args below meth c H locs 0 0 (MQ below (XQi cellM 13 G res σ) args s 0 0 (gA 13 G)) (F0 m 53 ls [.int t0]) := by
  unfold fX9_lanes_53 at h
  refine lv_istore_n (lv' := [(2, .int t0), (0, .ref (aD G 0)), (1, .int v1), (3, .int v3)]) C0.1 C0.2.1 dX9_lanes_53 rfl hl (by decide) rfl (fun ls hl => ?_)
  refine lv_iinc (v := (v3 + 1)) (lv' := [(3, .int (v3 + 1)), (2, .int t0), (0, .ref (aD G 0)), (1, .int v1)]) C0.1 C0.2.1 dX9_lanes_54 hl (k := 3) rfl rfl (by decide) rfl (fun ls hl => ?_)
  refine lv_goto (tgt := 8) C0.1 C0.2.1 dX9_lanes_57 (by decide) ?_
  exact hr8 v1 t0 (v3 + 1) h _ _ _ hW (lv_sub hl [2, 3, 1, 0] rfl)
set_option maxHeartbeats 4000000 in
set_option maxRecDepth 100000 in
theorem wX9_lanes_36 (C0 : Cx p s m args meth c cX9_lanes RX9 6 (some .int) wsX9_lanes) (G0 : Gx G s) (hJ : gJ 13 G) (z : Nat) (r8 : Int32 → Int32 → Int32 → Option Int32) (σ : ST) (v2 : Int32) (v3 : Int32) (t0 : Int32) (res : Int32) (h : fX9_lanes_36 z r8 σ v2 v3 t0 = some res) (hr8 : ∀ (v1 : Int32) (v2 : Int32) (v3 : Int32), r8 v1 v2 v3 = some res → ∀ (H : Heap) (locs : List Loc) (ls : Array Slot), Wd cellM 13 G s.heap σ H locs → lv_has ls 6 [(0, .ref (aD G 0)), (1, .int v1), (2, .int v2), (3, .int v3)] → W p l e rX9_lanes s m args below meth c H locs 0 0 (MQ below (XQi cellM 13 G res σ) args s 0 0 (gA 13 G)) (F0 m 8 ls [])) {H : Heap} {locs : List Loc} {ls : Array Slot} (hW : Wd cellM 13 G s.heap σ H locs) (hl : lv_has ls 6 [(0, .ref (aD G 0)), (2, .int v2), (3, .int v3)]) : W p l e rX9_lanes s m args below meth c H locs 0 0 (MQ below (XQi cellM 13 G res σ) args s 0 0 (gA 13 G)) (F0 m 36 ls [.int t0]) := by
  unfold fX9_lanes_36 at h
  refine lv_istore_n (lv' := [(1, .int t0), (0, .ref (aD G 0)), (2, .int v2), (3, .int v3)]) C0.1 C0.2.1 dX9_lanes_36 rfl hl (by decide) rfl (fun ls hl => ?_)
  refine lv_aload_n C0.1 C0.2.1 dX9_lanes_37 rfl (lv_at hl 1 rfl) ?_
  refine x_get (v := .ref (aD G 4)) C0 G0 hW cM_0 (by decide) rfl 14 (by decide) inX9_lanes_X9 lkX9_lanes_19 rfl dX9_lanes_38 ?_
  refine lv_iload_n C0.1 C0.2.1 dX9_lanes_41 rfl (lv_at hl 3 rfl) ?_
  obtain ⟨g32, h⟩ := gd_some h
  refine x_lald C0 G0 hW cM_4 (by decide) g32 dX9_lanes_42 ?_
  refine lv_lconst (v := (0 : Int64)) C0.1 C0.2.1 dX9_lanes_43 (by decide) ?_
  refine x_lc_le (tgt := 52) C0 dX9_lanes_44 dX9_lanes_45 (by decide) (fun c33 => ?_) (fun c33 => ?_)
  · rw [if_pos c33] at h
    refine lv_iload_n C0.1 C0.2.1 dX9_lanes_52 rfl (lv_at hl 2 rfl) ?_
    exact wX9_lanes_53 C0 G0 hJ z r8 σ t0 v3 v2 _ h (by exact hr8) hW (lv_sub hl [1, 0, 3] rfl)
  · rw [if_neg c33] at h
    refine lv_iload_n C0.1 C0.2.1 dX9_lanes_48 rfl (lv_at hl 3 rfl) ?_
    refine lv_goto (tgt := 53) C0.1 C0.2.1 dX9_lanes_49 (by decide) ?_
    exact wX9_lanes_53 C0 G0 hJ z r8 σ t0 v3 v3 _ h (by exact hr8) hW (lv_sub hl [1, 0, 3] rfl)
set_option maxHeartbeats 4000000 in
set_option maxRecDepth 100000 in
theorem wX9_lanes_35 (C0 : Cx p s m args meth c cX9_lanes RX9 6 (some .int) wsX9_lanes) (G0 : Gx G s) (hJ : gJ 13 G) (z : Nat) (r8 : Int32 → Int32 → Int32 → Option Int32) (σ : ST) (v1 : Int32) (v2 : Int32) (v3 : Int32) (res : Int32) (h : fX9_lanes_35 z r8 σ v1 v2 v3 = some res) (hr8 : ∀ (v1 : Int32) (v2 : Int32) (v3 : Int32), r8 v1 v2 v3 = some res → ∀ (H : Heap) (locs : List Loc) (ls : Array Slot), Wd cellM 13 G s.heap σ H locs → lv_has ls 6 [(0, .ref (aD G 0)), (1, .int v1), (2, .int v2), (3, .int v3)] → W p l e rX9_lanes s m args below meth c H locs 0 0 (MQ below (XQi cellM 13 G res σ) args s 0 0 (gA 13 G)) (F0 m 8 ls [])) {H : Heap} {locs : List Loc} {ls : Array Slot} (hW : Wd cellM 13 G s.heap σ H locs) (hl : lv_has ls 6 [(0, .ref (aD G 0)), (1, .int v1), (2, .int v2), (3, .int v3)]) : W p l e rX9_lanes s m args below meth c H locs 0 0 (MQ below (XQi cellM 13 G res σ) args s 0 0 (gA 13 G)) (F0 m 35 ls []) := by
  unfold fX9_lanes_35 at h
  refine lv_iload_n C0.1 C0.2.1 dX9_lanes_35 rfl (lv_at hl 1 rfl) ?_
  exact wX9_lanes_36 C0 G0 hJ z r8 σ v2 v3 v1 _ h (by exact hr8) hW (lv_sub hl [0, 2, 3] rfl)
set_option maxHeartbeats 4000000 in
set_option maxRecDepth 100000 in
theorem wX9_lanes_8 (C0 : Cx p s m args meth c cX9_lanes RX9 6 (some .int) wsX9_lanes) (G0 : Gx G s) (hJ : gJ 13 G) (z : Nat) (σ : ST) (n : Nat) (v1 : Int32) (v2 : Int32) (v3 : Int32) (res : Int32) (h : fX9_lanes_8 z σ n v1 v2 v3 = some res)  {H : Heap} {locs : List Loc} {ls : Array Slot} (hW : Wd cellM 13 G s.heap σ H locs) (hl : lv_has ls 6 [(0, .ref (aD G 0)), (1, .int v1), (2, .int v2), (3, .int v3)]) : W p l e rX9_lanes s m args below meth c H locs 0 0 (MQ below (XQi cellM 13 G res σ) args s 0 0 (gA 13 G)) (F0 m 8 ls []) := by
  induction n generalizing v1 v2 v3 H locs ls with
  | zero => cases h
  | succ n ih =>
    have hr8 : ∀ (v1 : Int32) (v2 : Int32) (v3 : Int32), fX9_lanes_8 z σ n v1 v2 v3 = some res → ∀ (H : Heap) (locs : List Loc) (ls : Array Slot), Wd cellM 13 G s.heap σ H locs → lv_has ls 6 [(0, .ref (aD G 0)), (1, .int v1), (2, .int v2), (3, .int v3)] → W p l e rX9_lanes s m args below meth c H locs 0 0 (MQ below (XQi cellM 13 G res σ) args s 0 0 (gA 13 G)) (F0 m 8 ls []) := fun v1 v2 v3 h H locs ls hW hl => ih v1 v2 v3 h hW hl
    clear ih
    unfold fX9_lanes_8 at h
    refine lv_iload_n C0.1 C0.2.1 dX9_lanes_8 rfl (lv_at hl 3 rfl) ?_
    refine lv_bipush (v := (10 : Int32)) C0.1 C0.2.1 dX9_lanes_9 (by decide) ?_
    refine lv_icmp_ge (tgt := 60) C0.1 C0.2.1 dX9_lanes_11 (by decide) (fun c21 => ?_) (fun c21 => ?_)
    · rw [if_pos c21] at h
      refine lv_iload_n C0.1 C0.2.1 dX9_lanes_60 rfl (lv_at hl 1 rfl) ?_
      refine lv_bipush (v := (-9 : Int32)) C0.1 C0.2.1 dX9_lanes_61 (by decide) ?_
      refine lv_icmp_ne (tgt := 68) C0.1 C0.2.1 dX9_lanes_63 (by decide) (fun c22 => ?_) (fun c22 => ?_)
      · rw [if_neg c22] at h
        refine lv_aload_n C0.1 C0.2.1 dX9_lanes_68 rfl (lv_at hl 0 rfl) ?_
        refine x_get (v := .ref (aD G 5)) C0 G0 hW cM_0 (by decide) rfl 15 (by decide) inX9_lanes_X9 lkX9_lanes_23 rfl dX9_lanes_69 ?_
        refine lv_iconst (v := (0 : Int32)) C0.1 C0.2.1 dX9_lanes_72 (by decide) ?_
        obtain ⟨g23, h⟩ := gd_some h
        refine x_iald C0 G0 hW cM_5 (by decide) g23 dX9_lanes_73 ?_
        refine lv_iload_n C0.1 C0.2.1 dX9_lanes_74 rfl (lv_at hl 1 rfl) ?_
        refine lv_icmp_le (tgt := 89) C0.1 C0.2.1 dX9_lanes_75 (by decide) (fun c24 => ?_) (fun c24 => ?_)
        · rw [if_pos c24] at h
          refine lv_iconst (v := (0 : Int32)) C0.1 C0.2.1 dX9_lanes_89 (by decide) ?_
          exact wX9_lanes_90 C0 G0 hJ z σ v1 v2 (0 : Int32) _ h hW (lv_sub hl [0, 1, 2] rfl)
        · rw [if_neg c24] at h
          refine lv_aload_n C0.1 C0.2.1 dX9_lanes_78 rfl (lv_at hl 0 rfl) ?_
          refine x_get (v := .ref (aD G 5)) C0 G0 hW cM_0 (by decide) rfl 15 (by decide) inX9_lanes_X9 lkX9_lanes_23 rfl dX9_lanes_79 ?_
          refine lv_iconst (v := (0 : Int32)) C0.1 C0.2.1 dX9_lanes_82 (by decide) ?_
          obtain ⟨g25, h⟩ := gd_some h
          refine x_iald C0 G0 hW cM_5 (by decide) g25 dX9_lanes_83 ?_
          refine lv_iload_n C0.1 C0.2.1 dX9_lanes_84 rfl (lv_at hl 1 rfl) ?_
          refine lv_isub C0.1 C0.2.1 dX9_lanes_85 ?_
          refine lv_goto (tgt := 90) C0.1 C0.2.1 dX9_lanes_86 (by decide) ?_
          exact wX9_lanes_90 C0 G0 hJ z σ v1 v2 ((σ.1 5 ((0 : Int32)).toNatClampNeg) - v1) _ h hW (lv_sub hl [0, 1, 2] rfl)
      · rw [if_pos c22] at h
        refine lv_iconst (v := (0 : Int32)) C0.1 C0.2.1 dX9_lanes_66 (by decide) ?_
        cases h
        exact x_iret C0 hW dX9_lanes_67
    · rw [if_neg c21] at h
      refine lv_aload_n C0.1 C0.2.1 dX9_lanes_14 rfl (lv_at hl 0 rfl) ?_
      refine x_get (v := .ref (aD G 4)) C0 G0 hW cM_0 (by decide) rfl 14 (by decide) inX9_lanes_X9 lkX9_lanes_19 rfl dX9_lanes_15 ?_
      refine lv_iload_n C0.1 C0.2.1 dX9_lanes_18 rfl (lv_at hl 3 rfl) ?_
      obtain ⟨g26, h⟩ := gd_some h
      refine x_lald C0 G0 hW cM_4 (by decide) g26 dX9_lanes_19 ?_
      refine lv_lconst (v := (0 : Int64)) C0.1 C0.2.1 dX9_lanes_20 (by decide) ?_
      refine x_lc_le (tgt := 35) C0 dX9_lanes_21 dX9_lanes_22 (by decide) (fun c27 => ?_) (fun c27 => ?_)
      · rw [if_pos c27] at h
        exact wX9_lanes_35 C0 G0 hJ z (fX9_lanes_8 z σ n) σ v1 v2 v3 _ h (by exact hr8) hW (lv_sub hl [0, 1, 2, 3] rfl)
      · rw [if_neg c27] at h
        refine lv_iload_n C0.1 C0.2.1 dX9_lanes_25 rfl (lv_at hl 1 rfl) ?_
        refine lv_bipush (v := (-9 : Int32)) C0.1 C0.2.1 dX9_lanes_26 (by decide) ?_
        refine lv_icmp_ne (tgt := 35) C0.1 C0.2.1 dX9_lanes_28 (by decide) (fun c28 => ?_) (fun c28 => ?_)
        · rw [if_neg c28] at h
          exact wX9_lanes_35 C0 G0 hJ z (fX9_lanes_8 z σ n) σ v1 v2 v3 _ h (by exact hr8) hW (lv_sub hl [0, 1, 2, 3] rfl)
        · rw [if_pos c28] at h
          refine lv_iload_n C0.1 C0.2.1 dX9_lanes_31 rfl (lv_at hl 3 rfl) ?_
          refine lv_goto (tgt := 36) C0.1 C0.2.1 dX9_lanes_32 (by decide) ?_
          exact wX9_lanes_36 C0 G0 hJ z (fX9_lanes_8 z σ n) σ v2 v3 v3 _ h (by exact hr8) hW (lv_sub hl [0, 2, 3] rfl)
set_option maxHeartbeats 4000000 in
set_option maxRecDepth 100000 in
theorem wX9_lanes (C0 : Cx p s m args meth c cX9_lanes RX9 6 (some .int) wsX9_lanes) (G0 : Gx G s) (hJ : gJ 13 G) (z : Nat) (σ : ST) (res : Int32) (h : fX9_lanes z σ = some res)  {H : Heap} {locs : List Loc} {ls : Array Slot} (hW : Wd cellM 13 G s.heap σ H locs) (hl : lv_has ls 6 [(0, .ref (aD G 0))]) : W p l e rX9_lanes s m args below meth c H locs 0 0 (MQ below (XQi cellM 13 G res σ) args s 0 0 (gA 13 G)) (F0 m 0 ls []) := by
  unfold fX9_lanes at h
  refine lv_bipush (v := (-9 : Int32)) C0.1 C0.2.1 dX9_lanes_0 (by decide) ?_
  refine lv_istore_n (lv' := [(1, .int (-9 : Int32)), (0, .ref (aD G 0))]) C0.1 C0.2.1 dX9_lanes_2 rfl hl (by decide) rfl (fun ls hl => ?_)
  refine lv_bipush (v := (-9 : Int32)) C0.1 C0.2.1 dX9_lanes_3 (by decide) ?_
  refine lv_istore_n (lv' := [(2, .int (-9 : Int32)), (1, .int (-9 : Int32)), (0, .ref (aD G 0))]) C0.1 C0.2.1 dX9_lanes_5 rfl hl (by decide) rfl (fun ls hl => ?_)
  refine lv_iconst (v := (0 : Int32)) C0.1 C0.2.1 dX9_lanes_6 (by decide) ?_
  refine lv_istore_n (lv' := [(3, .int (0 : Int32)), (2, .int (-9 : Int32)), (1, .int (-9 : Int32)), (0, .ref (aD G 0))]) C0.1 C0.2.1 dX9_lanes_7 rfl hl (by decide) rfl (fun ls hl => ?_)
  exact wX9_lanes_8 C0 G0 hJ z σ z (-9 : Int32) (-9 : Int32) (0 : Int32) _ h hW (lv_sub hl [3, 2, 1, 0] rfl)
theorem cX9_lanes_met (l : Launch) {G : GT} (hJ : gJ 13 G) (z : Nat) (σ : ST)  (res : Int32) (h : fX9_lanes z σ = some res) : Met l yX9_lanes wsX9_lanes rX9_lanes (XPc cellM 13 G σ [.ref (aD G 0)]) (XQi cellM 13 G res σ) 0 0 (gA 13 G) :=
  x_met (ret := (some .int)) (maxL := 6) (by decide) rfl (Nat.le_of_ble_eq_true rfl) (fun p e s m args below meth c H locs ls C0 G0 hW hl => wX9_lanes C0 G0 hJ z σ res h hW hl)
end
/-! X9_likeliest -/
def rX9_likeliest : Room := { frames := 0, cells := 0, slots := 0, locals := 0 }
theorem hdvX9_likeliest : yX9_likeliest.cls = RX9 ∧ yX9_likeliest.cls ≠ "java/lang/invoke/MethodHandle" ∧ yX9_likeliest.cls ≠ "java/lang/invoke/VarHandle" ∧ (parseMethodDescriptor yX9_likeliest.desc).map (fun d => d.parameters.length) = some 0 := by decide +kernel
theorem inX9_likeliest_X9 : ∀ w ∈ u_ws RX9 TX9 29, w ∈ wsX9_likeliest := by decide +kernel
theorem lkX9_likeliest_19 : Cond.fieldLink RX9 19 (TX9 14).1 (TX9 14).2.1 (TX9 14).2.2.1 ∈ wsX9_likeliest := by decide +kernel
def fX9_likeliest_55 (z : Nat) (σ : ST) (t0 : Int32) : Option Int32 := some t0
def fX9_likeliest_31 (z : Nat) (r4 : Int32 → Int32 → Option Int32) (σ : ST) (v2 : Int32) (t0 : Int32) : Option Int32 := r4 t0 (v2 + 1)
def fX9_likeliest_4 (z : Nat) (σ : ST) : Nat → Int32 → Int32 → Option Int32
  | 0 => fun _ _ => none
  | n + 1 => fun v1 v2 => (if (11 : Int32) ≤ v2 then gd (inb v1 33) ( (if (σ.2 4 (v1).toNatClampNeg) = (0 : Int64) then fX9_likeliest_55 z σ (-9 : Int32) else fX9_likeliest_55 z σ v1)) else gd (inb v2 33) ( gd (inb v1 33) ( (if (σ.2 4 (v2).toNatClampNeg) ≤ (σ.2 4 (v1).toNatClampNeg) then fX9_likeliest_31 z (fX9_likeliest_4 z σ n) σ v2 v1 else fX9_likeliest_31 z (fX9_likeliest_4 z σ n) σ v2 v2))))
def fX9_likeliest (z : Nat) (σ : ST) : Option Int32 := fX9_likeliest_4 z σ z (0 : Int32) (1 : Int32)
section
variable {p : Program} {l : Launch} {e : Env} {s : State} {m : MethodId} {args : Array Value} {below : List Frame} {meth : Method} {c : Code} {G : GT}
set_option maxHeartbeats 4000000 in
set_option maxRecDepth 100000 in
theorem wX9_likeliest_55 (C0 : Cx p s m args meth c cX9_likeliest RX9 3 (some .int) wsX9_likeliest) (G0 : Gx G s) (hJ : gJ 13 G) (z : Nat) (σ : ST) (t0 : Int32) (res : Int32) (h : fX9_likeliest_55 z σ t0 = some res)  {H : Heap} {locs : List Loc} {ls : Array Slot} (hW : Wd cellM 13 G s.heap σ H locs) (hl : lv_has ls 3 []) : W p l e rX9_likeliest s m args below meth c H locs 0 0 (MQ below (XQi cellM 13 G res σ) args s 0 0 (gA 13 G)) (F0 m 55 ls [.int t0]) := by
  unfold fX9_likeliest_55 at h
  cases h
  exact x_iret C0 hW dX9_likeliest_55
set_option maxHeartbeats 4000000 in
set_option maxRecDepth 100000 in
theorem wX9_likeliest_31 (C0 : Cx p s m args meth c cX9_likeliest RX9 3 (some .int) wsX9_likeliest) (G0 : Gx G s) (hJ : gJ 13 G) (z : Nat) (r4 : Int32 → Int32 → Option Int32) (σ : ST) (v2 : Int32) (t0 : Int32) (res : Int32) (h : fX9_likeliest_31 z r4 σ v2 t0 = some res) (hr4 : ∀ (v1 : Int32) (v2 : Int32), r4 v1 v2 = some res → ∀ (H : Heap) (locs : List Loc) (ls : Array Slot), Wd cellM 13 G s.heap σ H locs → lv_has ls 3 [(0, .ref (aD G 0)), (1, .int v1), (2, .int v2)] → W p l e rX9_likeliest s m args below meth c H locs 0 0 (MQ below (XQi cellM 13 G res σ) args s 0 0 (gA 13 G)) (F0 m 4 ls [])) {H : Heap} {locs : List Loc} {ls : Array Slot} (hW : Wd cellM 13 G s.heap σ H locs) (hl : lv_has ls 3 [(0, .ref (aD G 0)), (2, .int v2)]) : W p l e rX9_likeliest s m args below meth c H locs 0 0 (MQ below (XQi cellM 13 G res σ) args s 0 0 (gA 13 G)) (F0 m 31 ls [.int t0]) := by
  unfold fX9_likeliest_31 at h
  refine lv_istore_n (lv' := [(1, .int t0), (0, .ref (aD G 0)), (2, .int v2)]) C0.1 C0.2.1 dX9_likeliest_31 rfl hl (by decide) rfl (fun ls hl => ?_)
  refine lv_iinc (v := (v2 + 1)) (lv' := [(2, .int (v2 + 1)), (1, .int t0), (0, .ref (aD G 0))]) C0.1 C0.2.1 dX9_likeliest_32 hl (k := 2) rfl rfl (by decide) rfl (fun ls hl => ?_)
  refine lv_goto (tgt := 4) C0.1 C0.2.1 dX9_likeliest_35 (by decide) ?_
  exact hr4 t0 (v2 + 1) h _ _ _ hW (lv_sub hl [2, 1, 0] rfl)
set_option maxHeartbeats 4000000 in
set_option maxRecDepth 100000 in
theorem wX9_likeliest_4 (C0 : Cx p s m args meth c cX9_likeliest RX9 3 (some .int) wsX9_likeliest) (G0 : Gx G s) (hJ : gJ 13 G) (z : Nat) (σ : ST) (n : Nat) (v1 : Int32) (v2 : Int32) (res : Int32) (h : fX9_likeliest_4 z σ n v1 v2 = some res)  {H : Heap} {locs : List Loc} {ls : Array Slot} (hW : Wd cellM 13 G s.heap σ H locs) (hl : lv_has ls 3 [(0, .ref (aD G 0)), (1, .int v1), (2, .int v2)]) : W p l e rX9_likeliest s m args below meth c H locs 0 0 (MQ below (XQi cellM 13 G res σ) args s 0 0 (gA 13 G)) (F0 m 4 ls []) := by
  induction n generalizing v1 v2 H locs ls with
  | zero => cases h
  | succ n ih =>
    have hr4 : ∀ (v1 : Int32) (v2 : Int32), fX9_likeliest_4 z σ n v1 v2 = some res → ∀ (H : Heap) (locs : List Loc) (ls : Array Slot), Wd cellM 13 G s.heap σ H locs → lv_has ls 3 [(0, .ref (aD G 0)), (1, .int v1), (2, .int v2)] → W p l e rX9_likeliest s m args below meth c H locs 0 0 (MQ below (XQi cellM 13 G res σ) args s 0 0 (gA 13 G)) (F0 m 4 ls []) := fun v1 v2 h H locs ls hW hl => ih v1 v2 h hW hl
    clear ih
    unfold fX9_likeliest_4 at h
    refine lv_iload_n C0.1 C0.2.1 dX9_likeliest_4 rfl (lv_at hl 2 rfl) ?_
    refine lv_bipush (v := (11 : Int32)) C0.1 C0.2.1 dX9_likeliest_5 (by decide) ?_
    refine lv_icmp_ge (tgt := 38) C0.1 C0.2.1 dX9_likeliest_7 (by decide) (fun c21 => ?_) (fun c21 => ?_)
    · rw [if_pos c21] at h
      refine lv_aload_n C0.1 C0.2.1 dX9_likeliest_38 rfl (lv_at hl 0 rfl) ?_
      refine x_get (v := .ref (aD G 4)) C0 G0 hW cM_0 (by decide) rfl 14 (by decide) inX9_likeliest_X9 lkX9_likeliest_19 rfl dX9_likeliest_39 ?_
      refine lv_iload_n C0.1 C0.2.1 dX9_likeliest_42 rfl (lv_at hl 1 rfl) ?_
      obtain ⟨g22, h⟩ := gd_some h
      refine x_lald C0 G0 hW cM_4 (by decide) g22 dX9_likeliest_43 ?_
      refine lv_lconst (v := (0 : Int64)) C0.1 C0.2.1 dX9_likeliest_44 (by decide) ?_
      refine x_lc_ne (tgt := 54) C0 dX9_likeliest_45 dX9_likeliest_46 (by decide) (fun c23 => ?_) (fun c23 => ?_)
      · rw [if_neg c23] at h
        refine lv_iload_n C0.1 C0.2.1 dX9_likeliest_54 rfl (lv_at hl 1 rfl) ?_
        exact wX9_likeliest_55 C0 G0 hJ z σ v1 _ h hW (lv_sub hl [] rfl)
      · rw [if_pos c23] at h
        refine lv_bipush (v := (-9 : Int32)) C0.1 C0.2.1 dX9_likeliest_49 (by decide) ?_
        refine lv_goto (tgt := 55) C0.1 C0.2.1 dX9_likeliest_51 (by decide) ?_
        exact wX9_likeliest_55 C0 G0 hJ z σ (-9 : Int32) _ h hW (lv_sub hl [] rfl)
    · rw [if_neg c21] at h
      refine lv_aload_n C0.1 C0.2.1 dX9_likeliest_10 rfl (lv_at hl 0 rfl) ?_
      refine x_get (v := .ref (aD G 4)) C0 G0 hW cM_0 (by decide) rfl 14 (by decide) inX9_likeliest_X9 lkX9_likeliest_19 rfl dX9_likeliest_11 ?_
      refine lv_iload_n C0.1 C0.2.1 dX9_likeliest_14 rfl (lv_at hl 2 rfl) ?_
      obtain ⟨g24, h⟩ := gd_some h
      refine x_lald C0 G0 hW cM_4 (by decide) g24 dX9_likeliest_15 ?_
      refine lv_aload_n C0.1 C0.2.1 dX9_likeliest_16 rfl (lv_at hl 0 rfl) ?_
      refine x_get (v := .ref (aD G 4)) C0 G0 hW cM_0 (by decide) rfl 14 (by decide) inX9_likeliest_X9 lkX9_likeliest_19 rfl dX9_likeliest_17 ?_
      refine lv_iload_n C0.1 C0.2.1 dX9_likeliest_20 rfl (lv_at hl 1 rfl) ?_
      obtain ⟨g25, h⟩ := gd_some h
      refine x_lald C0 G0 hW cM_4 (by decide) g25 dX9_likeliest_21 ?_
      refine x_lc_le (tgt := 30) C0 dX9_likeliest_22 dX9_likeliest_23 (by decide) (fun c26 => ?_) (fun c26 => ?_)
      · rw [if_pos c26] at h
        refine lv_iload_n C0.1 C0.2.1 dX9_likeliest_30 rfl (lv_at hl 1 rfl) ?_
        exact wX9_likeliest_31 C0 G0 hJ z (fX9_likeliest_4 z σ n) σ v2 v1 _ h (by exact hr4) hW (lv_sub hl [0, 2] rfl)
      · rw [if_neg c26] at h
        refine lv_iload_n C0.1 C0.2.1 dX9_likeliest_26 rfl (lv_at hl 2 rfl) ?_
        refine lv_goto (tgt := 31) C0.1 C0.2.1 dX9_likeliest_27 (by decide) ?_
        exact wX9_likeliest_31 C0 G0 hJ z (fX9_likeliest_4 z σ n) σ v2 v2 _ h (by exact hr4) hW (lv_sub hl [0, 2] rfl)
set_option maxHeartbeats 4000000 in
set_option maxRecDepth 100000 in
theorem wX9_likeliest (C0 : Cx p s m args meth c cX9_likeliest RX9 3 (some .int) wsX9_likeliest) (G0 : Gx G s) (hJ : gJ 13 G) (z : Nat) (σ : ST) (res : Int32) (h : fX9_likeliest z σ = some res)  {H : Heap} {locs : List Loc} {ls : Array Slot} (hW : Wd cellM 13 G s.heap σ H locs) (hl : lv_has ls 3 [(0, .ref (aD G 0))]) : W p l e rX9_likeliest s m args below meth c H locs 0 0 (MQ below (XQi cellM 13 G res σ) args s 0 0 (gA 13 G)) (F0 m 0 ls []) := by
  unfold fX9_likeliest at h
  refine lv_iconst (v := (0 : Int32)) C0.1 C0.2.1 dX9_likeliest_0 (by decide) ?_
  refine lv_istore_n (lv' := [(1, .int (0 : Int32)), (0, .ref (aD G 0))]) C0.1 C0.2.1 dX9_likeliest_1 rfl hl (by decide) rfl (fun ls hl => ?_)
  refine lv_iconst (v := (1 : Int32)) C0.1 C0.2.1 dX9_likeliest_2 (by decide) ?_
  refine lv_istore_n (lv' := [(2, .int (1 : Int32)), (1, .int (0 : Int32)), (0, .ref (aD G 0))]) C0.1 C0.2.1 dX9_likeliest_3 rfl hl (by decide) rfl (fun ls hl => ?_)
  exact wX9_likeliest_4 C0 G0 hJ z σ z (0 : Int32) (1 : Int32) _ h hW (lv_sub hl [2, 1, 0] rfl)
theorem cX9_likeliest_met (l : Launch) {G : GT} (hJ : gJ 13 G) (z : Nat) (σ : ST)  (res : Int32) (h : fX9_likeliest z σ = some res) : Met l yX9_likeliest wsX9_likeliest rX9_likeliest (XPc cellM 13 G σ [.ref (aD G 0)]) (XQi cellM 13 G res σ) 0 0 (gA 13 G) :=
  x_met (ret := (some .int)) (maxL := 3) (by decide) rfl (Nat.le_of_ble_eq_true rfl) (fun p e s m args below meth c H locs ls C0 G0 hW hl => wX9_likeliest C0 G0 hJ z σ res h hW hl)
end
/-! X9_likely -/
def rX9_likely : Room := { frames := 1, cells := 0, slots := 0, locals := 29 }
theorem hdvX9_likely : yX9_likely.cls = RX9 ∧ yX9_likely.cls ≠ "java/lang/invoke/MethodHandle" ∧ yX9_likely.cls ≠ "java/lang/invoke/VarHandle" ∧ (parseMethodDescriptor yX9_likely.desc).map (fun d => d.parameters.length) = some 2 := by decide +kernel
theorem kcX9_likely_128 : Cond.constantLong RX9 128 (10 : Int64) ∈ wsX9_likely := by decide +kernel
theorem inX9_likely_X9 : ∀ w ∈ u_ws RX9 TX9 29, w ∈ wsX9_likely := by decide +kernel
theorem lkX9_likely_19 : Cond.fieldLink RX9 19 (TX9 14).1 (TX9 14).2.1 (TX9 14).2.2.1 ∈ wsX9_likely := by decide +kernel
theorem kcX9_likely_155 : Cond.constantLong RX9 155 (-3 : Int64) ∈ wsX9_likely := by decide +kernel
theorem kcX9_likely_149 : Cond.constantLong RX9 149 (-2 : Int64) ∈ wsX9_likely := by decide +kernel
def fX9_likely_64 (z : Nat) (σ : ST) (t0 : Int64) : Option Int64 := some t0
def fX9_likely (z : Nat) (σ : ST) (v1 : Int32) (v2 : Int32) : Option Int64 := bd (fX9_in z ((v1).toInt64) (0 : Int64) (10 : Int64)) (fun u21 => (if u21 = 0 then some (-2 : Int64) else bd (fX9_sumOf z σ (0 : Int32)) (fun u23 => (if u23 = (0 : Int64) then some (-3 : Int64) else gd (inb v1 33) ( bd (fX9_common z (σ.2 4 (v1).toNatClampNeg) u23) (fun u26 => (if v2 = 0 then gd (nzL u26) ( fX9_likely_64 z σ (u23 / u26)) else gd (inb v1 33) ( gd (nzL u26) ( fX9_likely_64 z σ ((σ.2 4 (v1).toNatClampNeg) / u26))))))))))
section
variable {p : Program} {l : Launch} {e : Env} {s : State} {m : MethodId} {args : Array Value} {below : List Frame} {meth : Method} {c : Code} {G : GT}
set_option maxHeartbeats 4000000 in
set_option maxRecDepth 100000 in
theorem wX9_likely_64 (C0 : Cx p s m args meth c cX9_likely RX9 7 (some .long) wsX9_likely) (G0 : Gx G s) (hJ : gJ 13 G) (z : Nat) (σ : ST) (t0 : Int64) (res : Int64) (h : fX9_likely_64 z σ t0 = some res)  {H : Heap} {locs : List Loc} {ls : Array Slot} (hW : Wd cellM 13 G s.heap σ H locs) (hl : lv_has ls 7 []) : W p l e rX9_likely s m args below meth c H locs 0 0 (MQ below (XQl cellM 13 G res σ) args s 0 0 (gA 13 G)) (F0 m 64 ls [.long t0]) := by
  unfold fX9_likely_64 at h
  cases h
  exact x_lret C0 hW dX9_likely_64
set_option maxHeartbeats 4000000 in
set_option maxRecDepth 100000 in
theorem wX9_likely (C0 : Cx p s m args meth c cX9_likely RX9 7 (some .long) wsX9_likely) (G0 : Gx G s) (hJ : gJ 13 G) (z : Nat) (σ : ST) (v1 : Int32) (v2 : Int32) (res : Int64) (h : fX9_likely z σ v1 v2 = some res)  {H : Heap} {locs : List Loc} {ls : Array Slot} (hW : Wd cellM 13 G s.heap σ H locs) (hl : lv_has ls 7 [(0, .ref (aD G 0)), (1, .int v1), (2, .int v2)]) : W p l e rX9_likely s m args below meth c H locs 0 0 (MQ below (XQl cellM 13 G res σ) args s 0 0 (gA 13 G)) (F0 m 0 ls []) := by
  unfold fX9_likely at h
  refine lv_iload_n C0.1 C0.2.1 dX9_likely_0 rfl (lv_at hl 1 rfl) ?_
  refine lv_i2l (v := ((v1).toInt64)) C0.1 C0.2.1 dX9_likely_1 rfl ?_
  refine lv_lconst (v := (0 : Int64)) C0.1 C0.2.1 dX9_likely_2 (by decide) ?_
  refine lv_ldc2 (v := (10 : Int64)) C0.1 C0.2.1 C0.2.2.2.2.1 (C0.2.2.2.1 _ kcX9_likely_128) dX9_likely_3 ?_
  obtain ⟨u21, hu21, h⟩ := bd_some h
  refine x_ki (r := u21) (x_runS (As := [.long ((v1).toInt64), .long (0 : Int64), .long (10 : Int64)]) (rest := []) C0 G0 hW (cX9_in_met l hJ z σ ((v1).toInt64) (0 : Int64) (10 : Int64) _ hu21) (va_cwS 3 C0.2.2.2.1 gX9_likely_X9_in rfl rfl rfl hdsX9_in ⟨Nat.le_of_ble_eq_true rfl, Nat.le_of_ble_eq_true rfl⟩) rfl rfl hl (Nat.le_of_ble_eq_true rfl) dX9_likely_6 ⟨Nat.le_refl 0, Nat.le_refl 0⟩) hW (fun H locs hW => ?_)
  refine lv_if_ne (tgt := 16) C0.1 C0.2.1 dX9_likely_9 (by decide) (fun c22 => ?_) (fun c22 => ?_)
  · rw [if_neg c22] at h
    refine lv_aload_n C0.1 C0.2.1 dX9_likely_16 rfl (lv_at hl 0 rfl) ?_
    refine lv_iconst (v := (0 : Int32)) C0.1 C0.2.1 dX9_likely_17 (by decide) ?_
    obtain ⟨u23, hu23, h⟩ := bd_some h
    refine x_kl (r := u23) (x_runV (As := [.int (0 : Int32)]) (rest := []) C0 G0 hW (cX9_sumOf_met l hJ z σ (0 : Int32) _ hu23) (cwV 1 C0.2.2.2.1 gX9_likely_X9_sumOf rfl rfl rfl hdvX9_sumOf ⟨Nat.le_of_ble_eq_true rfl, Nat.le_of_ble_eq_true rfl⟩) cM_0 (by decide) rfl rfl rfl hl (Nat.le_of_ble_eq_true rfl) dX9_likely_18 ⟨Nat.le_refl 0, Nat.le_refl 0⟩) hW (fun H locs hW => ?_)
    refine lv_lstore_n (lv' := [(3, .long u23), (0, .ref (aD G 0)), (1, .int v1), (2, .int v2)]) C0.1 C0.2.1 dX9_likely_21 rfl hl (by decide) rfl (fun ls hl => ?_)
    refine lv_lload_n C0.1 C0.2.1 dX9_likely_22 rfl (lv_at hl 0 rfl) ?_
    refine lv_lconst (v := (0 : Int64)) C0.1 C0.2.1 dX9_likely_23 (by decide) ?_
    refine x_lc_ne (tgt := 32) C0 dX9_likely_24 dX9_likely_25 (by decide) (fun c24 => ?_) (fun c24 => ?_)
    · rw [if_neg c24] at h
      refine lv_aload_n C0.1 C0.2.1 dX9_likely_32 rfl (lv_at hl 1 rfl) ?_
      refine x_get (v := .ref (aD G 4)) C0 G0 hW cM_0 (by decide) rfl 14 (by decide) inX9_likely_X9 lkX9_likely_19 rfl dX9_likely_33 ?_
      refine lv_iload_n C0.1 C0.2.1 dX9_likely_36 rfl (lv_at hl 2 rfl) ?_
      obtain ⟨g25, h⟩ := gd_some h
      refine x_lald C0 G0 hW cM_4 (by decide) g25 dX9_likely_37 ?_
      refine lv_lload_n C0.1 C0.2.1 dX9_likely_38 rfl (lv_at hl 0 rfl) ?_
      obtain ⟨u26, hu26, h⟩ := bd_some h
      refine x_kl (r := u26) (x_runS (As := [.long (σ.2 4 (v1).toNatClampNeg), .long u23]) (rest := []) C0 G0 hW (cX9_common_met l hJ z σ (σ.2 4 (v1).toNatClampNeg) u23 _ hu26) (va_cwS 2 C0.2.2.2.1 gX9_likely_X9_common rfl rfl rfl hdsX9_common ⟨Nat.le_of_ble_eq_true rfl, Nat.le_of_ble_eq_true rfl⟩) rfl rfl hl (Nat.le_of_ble_eq_true rfl) dX9_likely_39 ⟨Nat.le_refl 0, Nat.le_refl 0⟩) hW (fun H locs hW => ?_)
      refine lv_lstore (lv' := [(5, .long u26), (3, .long u23), (0, .ref (aD G 0)), (1, .int v1), (2, .int v2)]) C0.1 C0.2.1 dX9_likely_42 hl (by decide) rfl (fun ls hl => ?_)
      refine lv_iload_n C0.1 C0.2.1 dX9_likely_44 rfl (lv_at hl 4 rfl) ?_
      refine lv_if_eq (tgt := 60) C0.1 C0.2.1 dX9_likely_45 (by decide) (fun c27 => ?_) (fun c27 => ?_)
      · rw [if_pos c27] at h
        refine lv_lload_n C0.1 C0.2.1 dX9_likely_60 rfl (lv_at hl 1 rfl) ?_
        refine lv_lload C0.1 C0.2.1 dX9_likely_61 (lv_at hl 0 rfl) ?_
        obtain ⟨g28, h⟩ := gd_some h
        refine lv_ldiv C0.1 C0.2.1 dX9_likely_63 (nzL_of g28) ?_
        exact wX9_likely_64 C0 G0 hJ z σ (u23 / u26) _ h hW (lv_sub hl [] rfl)
      · rw [if_neg c27] at h
        refine lv_aload_n C0.1 C0.2.1 dX9_likely_48 rfl (lv_at hl 2 rfl) ?_
        refine x_get (v := .ref (aD G 4)) C0 G0 hW cM_0 (by decide) rfl 14 (by decide) inX9_likely_X9 lkX9_likely_19 rfl dX9_likely_49 ?_
        refine lv_iload_n C0.1 C0.2.1 dX9_likely_52 rfl (lv_at hl 3 rfl) ?_
        obtain ⟨g29, h⟩ := gd_some h
        refine x_lald C0 G0 hW cM_4 (by decide) g29 dX9_likely_53 ?_
        refine lv_lload C0.1 C0.2.1 dX9_likely_54 (lv_at hl 0 rfl) ?_
        obtain ⟨g30, h⟩ := gd_some h
        refine lv_ldiv C0.1 C0.2.1 dX9_likely_56 (nzL_of g30) ?_
        refine lv_goto (tgt := 64) C0.1 C0.2.1 dX9_likely_57 (by decide) ?_
        exact wX9_likely_64 C0 G0 hJ z σ ((σ.2 4 (v1).toNatClampNeg) / u26) _ h hW (lv_sub hl [] rfl)
    · rw [if_pos c24] at h
      refine lv_ldc2 (v := (-3 : Int64)) C0.1 C0.2.1 C0.2.2.2.2.1 (C0.2.2.2.1 _ kcX9_likely_155) dX9_likely_28 ?_
      cases h
      exact x_lret C0 hW dX9_likely_31
  · rw [if_pos c22] at h
    refine lv_ldc2 (v := (-2 : Int64)) C0.1 C0.2.1 C0.2.2.2.2.1 (C0.2.2.2.1 _ kcX9_likely_149) dX9_likely_12 ?_
    cases h
    exact x_lret C0 hW dX9_likely_15
theorem cX9_likely_met (l : Launch) {G : GT} (hJ : gJ 13 G) (z : Nat) (σ : ST) (v1 : Int32) (v2 : Int32) (res : Int64) (h : fX9_likely z σ v1 v2 = some res) : Met l yX9_likely wsX9_likely rX9_likely (XPc cellM 13 G σ [.ref (aD G 0), .int v1, .int v2]) (XQl cellM 13 G res σ) 0 0 (gA 13 G) :=
  x_met (ret := (some .long)) (maxL := 7) (by decide) rfl (Nat.le_of_ble_eq_true rfl) (fun p e s m args below meth c H locs ls C0 G0 hW hl => wX9_likely C0 G0 hJ z σ v1 v2 res h hW hl)
end
/-! X9_look -/
def rX9_look : Room := { frames := 2, cells := 0, slots := 0, locals := 46 }
theorem hdvX9_look : yX9_look.cls = RX9 ∧ yX9_look.cls ≠ "java/lang/invoke/MethodHandle" ∧ yX9_look.cls ≠ "java/lang/invoke/VarHandle" ∧ (parseMethodDescriptor yX9_look.desc).map (fun d => d.parameters.length) = some 1 := by decide +kernel
theorem kcX9_look_130 : Cond.constantLong RX9 130 (2 : Int64) ∈ wsX9_look := by decide +kernel
theorem inX9_look_X9 : ∀ w ∈ u_ws RX9 TX9 29, w ∈ wsX9_look := by decide +kernel
theorem lkX9_look_23 : Cond.fieldLink RX9 23 (TX9 15).1 (TX9 15).2.1 (TX9 15).2.2.1 ∈ wsX9_look := by decide +kernel
theorem lkX9_look_48 : Cond.fieldLink RX9 48 (TX9 5).1 (TX9 5).2.1 (TX9 5).2.2.1 ∈ wsX9_look := by decide +kernel
def fX9_look (z : Nat) (σ : ST) (v1 : Int32) : Option (Int32 × ST) := bd (fX9_in z ((v1).toInt64) (0 : Int64) (2 : Int64)) (fun u21 => (if u21 = 0 then some ((-2 : Int32), σ) else gd (inb (1 : Int32) 9) ( (if (σ.1 5 ((1 : Int32)).toNatClampNeg) = (σ.1 0 5) then some ((-3 : Int32), σ) else bd (fX9_keepAct z σ) (fun u25 => gd (inb (0 : Int32) 9) ( bd (fX9_to z (u25.1 5 ((0 : Int32)).toNatClampNeg) v1) (fun u27 => gd (inb (0 : Int32) 9) ( lt (pI u25 5 ((0 : Int32)).toNatClampNeg u27) (fun s29 => gd (inb (0 : Int32) 9) ( bd (fX9_lookAt z s29 (0 : Int32) (s29.1 5 ((0 : Int32)).toNatClampNeg)) (fun u31 => gd (inb (1 : Int32) 9) ( bd (fX9_drift z u31.2 (0 : Int32) (u31.2.1 5 ((1 : Int32)).toNatClampNeg)) (fun u33 => gd (inb (1 : Int32) 9) ( gd (inb (1 : Int32) 9) ( lt (pI u33 5 ((1 : Int32)).toNatClampNeg ((u33.1 5 ((1 : Int32)).toNatClampNeg) + (1 : Int32))) (fun s36 => gd (inb (0 : Int32) 9) ( some ((s36.1 5 ((0 : Int32)).toNatClampNeg), s36))))))))))))))))))
section
variable {p : Program} {l : Launch} {e : Env} {s : State} {m : MethodId} {args : Array Value} {below : List Frame} {meth : Method} {c : Code} {G : GT}
set_option maxHeartbeats 4000000 in
set_option maxRecDepth 100000 in
theorem wX9_look (C0 : Cx p s m args meth c cX9_look RX9 2 (some .int) wsX9_look) (G0 : Gx G s) (hJ : gJ 13 G) (z : Nat) (σ : ST) (v1 : Int32) (res : (Int32 × ST)) (h : fX9_look z σ v1 = some res)  {H : Heap} {locs : List Loc} {ls : Array Slot} (hW : Wd cellM 13 G s.heap σ H locs) (hl : lv_has ls 2 [(0, .ref (aD G 0)), (1, .int v1)]) : W p l e rX9_look s m args below meth c H locs 0 0 (MQ below (XQi cellM 13 G res.1 res.2) args s 0 0 (gA 13 G)) (F0 m 0 ls []) := by
  unfold fX9_look at h
  refine lv_iload_n C0.1 C0.2.1 dX9_look_0 rfl (lv_at hl 1 rfl) ?_
  refine lv_i2l (v := ((v1).toInt64)) C0.1 C0.2.1 dX9_look_1 rfl ?_
  refine lv_lconst (v := (0 : Int64)) C0.1 C0.2.1 dX9_look_2 (by decide) ?_
  refine lv_ldc2 (v := (2 : Int64)) C0.1 C0.2.1 C0.2.2.2.2.1 (C0.2.2.2.1 _ kcX9_look_130) dX9_look_3 ?_
  obtain ⟨u21, hu21, h⟩ := bd_some h
  refine x_ki (r := u21) (x_runS (As := [.long ((v1).toInt64), .long (0 : Int64), .long (2 : Int64)]) (rest := []) C0 G0 hW (cX9_in_met l hJ z σ ((v1).toInt64) (0 : Int64) (2 : Int64) _ hu21) (va_cwS 3 C0.2.2.2.1 gX9_look_X9_in rfl rfl rfl hdsX9_in ⟨Nat.le_of_ble_eq_true rfl, Nat.le_of_ble_eq_true rfl⟩) rfl rfl hl (Nat.le_of_ble_eq_true rfl) dX9_look_6 ⟨Nat.le_refl 0, Nat.le_refl 0⟩) hW (fun H locs hW => ?_)
  refine lv_if_ne (tgt := 15) C0.1 C0.2.1 dX9_look_9 (by decide) (fun c22 => ?_) (fun c22 => ?_)
  · rw [if_neg c22] at h
    refine lv_aload_n C0.1 C0.2.1 dX9_look_15 rfl (lv_at hl 0 rfl) ?_
    refine x_get (v := .ref (aD G 5)) C0 G0 hW cM_0 (by decide) rfl 15 (by decide) inX9_look_X9 lkX9_look_23 rfl dX9_look_16 ?_
    refine lv_iconst (v := (1 : Int32)) C0.1 C0.2.1 dX9_look_19 (by decide) ?_
    obtain ⟨g23, h⟩ := gd_some h
    refine x_iald C0 G0 hW cM_5 (by decide) g23 dX9_look_20 ?_
    refine lv_aload_n C0.1 C0.2.1 dX9_look_21 rfl (lv_at hl 0 rfl) ?_
    refine x_get (v := .int (σ.1 0 5)) C0 G0 hW cM_0 (by decide) rfl 5 (by decide) inX9_look_X9 lkX9_look_48 rfl dX9_look_22 ?_
    refine lv_icmp_ne (tgt := 31) C0.1 C0.2.1 dX9_look_25 (by decide) (fun c24 => ?_) (fun c24 => ?_)
    · rw [if_neg c24] at h
      refine lv_aload_n C0.1 C0.2.1 dX9_look_31 rfl (lv_at hl 0 rfl) ?_
      obtain ⟨u25, hu25, h⟩ := bd_some h
      refine x_kv (x_runV (As := []) (rest := []) C0 G0 hW (cX9_keepAct_met l hJ z σ _ hu25) (cwV 0 C0.2.2.2.1 gX9_look_X9_keepAct rfl rfl rfl hdvX9_keepAct ⟨Nat.le_of_ble_eq_true rfl, Nat.le_of_ble_eq_true rfl⟩) cM_0 (by decide) rfl rfl rfl hl (Nat.le_of_ble_eq_true rfl) dX9_look_32 ⟨Nat.le_refl 0, Nat.le_refl 0⟩) hW (fun H locs hW => ?_)
      refine lv_aload_n C0.1 C0.2.1 dX9_look_35 rfl (lv_at hl 0 rfl) ?_
      refine x_get (v := .ref (aD G 5)) C0 G0 hW cM_0 (by decide) rfl 15 (by decide) inX9_look_X9 lkX9_look_23 rfl dX9_look_36 ?_
      refine lv_iconst (v := (0 : Int32)) C0.1 C0.2.1 dX9_look_39 (by decide) ?_
      refine lv_aload_n C0.1 C0.2.1 dX9_look_40 rfl (lv_at hl 0 rfl) ?_
      refine x_get (v := .ref (aD G 5)) C0 G0 hW cM_0 (by decide) rfl 15 (by decide) inX9_look_X9 lkX9_look_23 rfl dX9_look_41 ?_
      refine lv_iconst (v := (0 : Int32)) C0.1 C0.2.1 dX9_look_44 (by decide) ?_
      obtain ⟨g26, h⟩ := gd_some h
      refine x_iald C0 G0 hW cM_5 (by decide) g26 dX9_look_45 ?_
      refine lv_iload_n C0.1 C0.2.1 dX9_look_46 rfl (lv_at hl 1 rfl) ?_
      obtain ⟨u27, hu27, h⟩ := bd_some h
      refine x_ki (r := u27) (x_runS (As := [.int (u25.1 5 ((0 : Int32)).toNatClampNeg), .int v1]) (rest := [.int (0 : Int32), .ref (aD G 5)]) C0 G0 hW (cX9_to_met l hJ z u25 (u25.1 5 ((0 : Int32)).toNatClampNeg) v1 _ hu27) (va_cwS 2 C0.2.2.2.1 gX9_look_X9_to rfl rfl rfl hdsX9_to ⟨Nat.le_of_ble_eq_true rfl, Nat.le_of_ble_eq_true rfl⟩) rfl rfl hl (Nat.le_of_ble_eq_true rfl) dX9_look_47 ⟨Nat.le_refl 0, Nat.le_refl 0⟩) hW (fun H locs hW => ?_)
      obtain ⟨g28, h⟩ := gd_some h
      refine x_iast C0 G0 hJ hW (fun f g => cM_5) (by decide) g28 dX9_look_50 (fun H locs hW => ?_)
      obtain ⟨s29, es29, h⟩ := lt_some h
      rw [es29] at hW
      refine lv_aload_n C0.1 C0.2.1 dX9_look_51 rfl (lv_at hl 0 rfl) ?_
      refine lv_iconst (v := (0 : Int32)) C0.1 C0.2.1 dX9_look_52 (by decide) ?_
      refine lv_aload_n C0.1 C0.2.1 dX9_look_53 rfl (lv_at hl 0 rfl) ?_
      refine x_get (v := .ref (aD G 5)) C0 G0 hW cM_0 (by decide) rfl 15 (by decide) inX9_look_X9 lkX9_look_23 rfl dX9_look_54 ?_
      refine lv_iconst (v := (0 : Int32)) C0.1 C0.2.1 dX9_look_57 (by decide) ?_
      obtain ⟨g30, h⟩ := gd_some h
      refine x_iald C0 G0 hW cM_5 (by decide) g30 dX9_look_58 ?_
      obtain ⟨u31, hu31, h⟩ := bd_some h
      refine x_kl (r := u31.1) (x_runV (As := [.int (0 : Int32), .int (s29.1 5 ((0 : Int32)).toNatClampNeg)]) (rest := []) C0 G0 hW (cX9_lookAt_met l hJ z s29 (0 : Int32) (s29.1 5 ((0 : Int32)).toNatClampNeg) _ hu31) (cwV 2 C0.2.2.2.1 gX9_look_X9_lookAt rfl rfl rfl hdvX9_lookAt ⟨Nat.le_of_ble_eq_true rfl, Nat.le_of_ble_eq_true rfl⟩) cM_0 (by decide) rfl rfl rfl hl (Nat.le_of_ble_eq_true rfl) dX9_look_59 ⟨Nat.le_refl 0, Nat.le_refl 0⟩) hW (fun H locs hW => ?_)
      refine lv_pop2_2 C0.1 C0.2.1 dX9_look_62 rfl ?_
      refine lv_aload_n C0.1 C0.2.1 dX9_look_63 rfl (lv_at hl 0 rfl) ?_
      refine lv_iconst (v := (0 : Int32)) C0.1 C0.2.1 dX9_look_64 (by decide) ?_
      refine lv_aload_n C0.1 C0.2.1 dX9_look_65 rfl (lv_at hl 0 rfl) ?_
      refine x_get (v := .ref (aD G 5)) C0 G0 hW cM_0 (by decide) rfl 15 (by decide) inX9_look_X9 lkX9_look_23 rfl dX9_look_66 ?_
      refine lv_iconst (v := (1 : Int32)) C0.1 C0.2.1 dX9_look_69 (by decide) ?_
      obtain ⟨g32, h⟩ := gd_some h
      refine x_iald C0 G0 hW cM_5 (by decide) g32 dX9_look_70 ?_
      obtain ⟨u33, hu33, h⟩ := bd_some h
      refine x_kv (x_runV (As := [.int (0 : Int32), .int (u31.2.1 5 ((1 : Int32)).toNatClampNeg)]) (rest := []) C0 G0 hW (cX9_drift_met l hJ z u31.2 (0 : Int32) (u31.2.1 5 ((1 : Int32)).toNatClampNeg) _ hu33) (cwV 2 C0.2.2.2.1 gX9_look_X9_drift rfl rfl rfl hdvX9_drift ⟨Nat.le_of_ble_eq_true rfl, Nat.le_of_ble_eq_true rfl⟩) cM_0 (by decide) rfl rfl rfl hl (Nat.le_of_ble_eq_true rfl) dX9_look_71 ⟨Nat.le_refl 0, Nat.le_refl 0⟩) hW (fun H locs hW => ?_)
      refine lv_aload_n C0.1 C0.2.1 dX9_look_74 rfl (lv_at hl 0 rfl) ?_
      refine x_get (v := .ref (aD G 5)) C0 G0 hW cM_0 (by decide) rfl 15 (by decide) inX9_look_X9 lkX9_look_23 rfl dX9_look_75 ?_
      refine lv_iconst (v := (1 : Int32)) C0.1 C0.2.1 dX9_look_78 (by decide) ?_
      refine lv_dup2_11 C0.1 C0.2.1 dX9_look_79 rfl rfl ?_
      obtain ⟨g34, h⟩ := gd_some h
      refine x_iald C0 G0 hW cM_5 (by decide) g34 dX9_look_80 ?_
      refine lv_iconst (v := (1 : Int32)) C0.1 C0.2.1 dX9_look_81 (by decide) ?_
      refine lv_iadd C0.1 C0.2.1 dX9_look_82 ?_
      obtain ⟨g35, h⟩ := gd_some h
      refine x_iast C0 G0 hJ hW (fun f g => cM_5) (by decide) g35 dX9_look_83 (fun H locs hW => ?_)
      obtain ⟨s36, es36, h⟩ := lt_some h
      rw [es36] at hW
      refine lv_aload_n C0.1 C0.2.1 dX9_look_84 rfl (lv_at hl 0 rfl) ?_
      refine x_get (v := .ref (aD G 5)) C0 G0 hW cM_0 (by decide) rfl 15 (by decide) inX9_look_X9 lkX9_look_23 rfl dX9_look_85 ?_
      refine lv_iconst (v := (0 : Int32)) C0.1 C0.2.1 dX9_look_88 (by decide) ?_
      obtain ⟨g37, h⟩ := gd_some h
      refine x_iald C0 G0 hW cM_5 (by decide) g37 dX9_look_89 ?_
      cases h
      exact x_iret C0 hW dX9_look_90
    · rw [if_pos c24] at h
      refine lv_bipush (v := (-3 : Int32)) C0.1 C0.2.1 dX9_look_28 (by decide) ?_
      cases h
      exact x_iret C0 hW dX9_look_30
  · rw [if_pos c22] at h
    refine lv_bipush (v := (-2 : Int32)) C0.1 C0.2.1 dX9_look_12 (by decide) ?_
    cases h
    exact x_iret C0 hW dX9_look_14
theorem cX9_look_met (l : Launch) {G : GT} (hJ : gJ 13 G) (z : Nat) (σ : ST) (v1 : Int32) (res : (Int32 × ST)) (h : fX9_look z σ v1 = some res) : Met l yX9_look wsX9_look rX9_look (XPc cellM 13 G σ [.ref (aD G 0), .int v1]) (XQi cellM 13 G res.1 res.2) 0 0 (gA 13 G) :=
  x_met (ret := (some .int)) (maxL := 2) (by decide) rfl (Nat.le_of_ble_eq_true rfl) (fun p e s m args below meth c H locs ls C0 G0 hW hl => wX9_look C0 G0 hJ z σ v1 res h hW hl)
end
/-! X9_lookAboard -/
def rX9_lookAboard : Room := { frames := 2, cells := 0, slots := 0, locals := 46 }
theorem hdvX9_lookAboard : yX9_lookAboard.cls = RX9 ∧ yX9_lookAboard.cls ≠ "java/lang/invoke/MethodHandle" ∧ yX9_lookAboard.cls ≠ "java/lang/invoke/VarHandle" ∧ (parseMethodDescriptor yX9_lookAboard.desc).map (fun d => d.parameters.length) = some 0 := by decide +kernel
theorem inX9_lookAboard_X9 : ∀ w ∈ u_ws RX9 TX9 29, w ∈ wsX9_lookAboard := by decide +kernel
theorem lkX9_lookAboard_23 : Cond.fieldLink RX9 23 (TX9 15).1 (TX9 15).2.1 (TX9 15).2.2.1 ∈ wsX9_lookAboard := by decide +kernel
theorem lkX9_lookAboard_48 : Cond.fieldLink RX9 48 (TX9 5).1 (TX9 5).2.1 (TX9 5).2.2.1 ∈ wsX9_lookAboard := by decide +kernel
def fX9_lookAboard (z : Nat) (σ : ST) : Option (Int32 × ST) := gd (inb (1 : Int32) 9) ( (if (σ.1 5 ((1 : Int32)).toNatClampNeg) = (σ.1 0 5) then some ((-3 : Int32), σ) else bd (fX9_keepAct z σ) (fun u23 => bd (fX9_lookAt z u23 (0 : Int32) (10 : Int32)) (fun u24 => gd (inb (1 : Int32) 9) ( bd (fX9_drift z u24.2 (0 : Int32) (u24.2.1 5 ((1 : Int32)).toNatClampNeg)) (fun u26 => gd (inb (1 : Int32) 9) ( gd (inb (1 : Int32) 9) ( lt (pI u26 5 ((1 : Int32)).toNatClampNeg ((u26.1 5 ((1 : Int32)).toNatClampNeg) + (1 : Int32))) (fun s29 => gd (inb (1 : Int32) 9) ( some ((s29.1 5 ((1 : Int32)).toNatClampNeg), s29)))))))))))
section
variable {p : Program} {l : Launch} {e : Env} {s : State} {m : MethodId} {args : Array Value} {below : List Frame} {meth : Method} {c : Code} {G : GT}
set_option maxHeartbeats 4000000 in
set_option maxRecDepth 100000 in
theorem wX9_lookAboard (C0 : Cx p s m args meth c cX9_lookAboard RX9 1 (some .int) wsX9_lookAboard) (G0 : Gx G s) (hJ : gJ 13 G) (z : Nat) (σ : ST) (res : (Int32 × ST)) (h : fX9_lookAboard z σ = some res)  {H : Heap} {locs : List Loc} {ls : Array Slot} (hW : Wd cellM 13 G s.heap σ H locs) (hl : lv_has ls 1 [(0, .ref (aD G 0))]) : W p l e rX9_lookAboard s m args below meth c H locs 0 0 (MQ below (XQi cellM 13 G res.1 res.2) args s 0 0 (gA 13 G)) (F0 m 0 ls []) := by
  unfold fX9_lookAboard at h
  refine lv_aload_n C0.1 C0.2.1 dX9_lookAboard_0 rfl (lv_at hl 0 rfl) ?_
  refine x_get (v := .ref (aD G 5)) C0 G0 hW cM_0 (by decide) rfl 15 (by decide) inX9_lookAboard_X9 lkX9_lookAboard_23 rfl dX9_lookAboard_1 ?_
  refine lv_iconst (v := (1 : Int32)) C0.1 C0.2.1 dX9_lookAboard_4 (by decide) ?_
  obtain ⟨g21, h⟩ := gd_some h
  refine x_iald C0 G0 hW cM_5 (by decide) g21 dX9_lookAboard_5 ?_
  refine lv_aload_n C0.1 C0.2.1 dX9_lookAboard_6 rfl (lv_at hl 0 rfl) ?_
  refine x_get (v := .int (σ.1 0 5)) C0 G0 hW cM_0 (by decide) rfl 5 (by decide) inX9_lookAboard_X9 lkX9_lookAboard_48 rfl dX9_lookAboard_7 ?_
  refine lv_icmp_ne (tgt := 16) C0.1 C0.2.1 dX9_lookAboard_10 (by decide) (fun c22 => ?_) (fun c22 => ?_)
  · rw [if_neg c22] at h
    refine lv_aload_n C0.1 C0.2.1 dX9_lookAboard_16 rfl (lv_at hl 0 rfl) ?_
    obtain ⟨u23, hu23, h⟩ := bd_some h
    refine x_kv (x_runV (As := []) (rest := []) C0 G0 hW (cX9_keepAct_met l hJ z σ _ hu23) (cwV 0 C0.2.2.2.1 gX9_lookAboard_X9_keepAct rfl rfl rfl hdvX9_keepAct ⟨Nat.le_of_ble_eq_true rfl, Nat.le_of_ble_eq_true rfl⟩) cM_0 (by decide) rfl rfl rfl hl (Nat.le_of_ble_eq_true rfl) dX9_lookAboard_17 ⟨Nat.le_refl 0, Nat.le_refl 0⟩) hW (fun H locs hW => ?_)
    refine lv_aload_n C0.1 C0.2.1 dX9_lookAboard_20 rfl (lv_at hl 0 rfl) ?_
    refine lv_iconst (v := (0 : Int32)) C0.1 C0.2.1 dX9_lookAboard_21 (by decide) ?_
    refine lv_bipush (v := (10 : Int32)) C0.1 C0.2.1 dX9_lookAboard_22 (by decide) ?_
    obtain ⟨u24, hu24, h⟩ := bd_some h
    refine x_kl (r := u24.1) (x_runV (As := [.int (0 : Int32), .int (10 : Int32)]) (rest := []) C0 G0 hW (cX9_lookAt_met l hJ z u23 (0 : Int32) (10 : Int32) _ hu24) (cwV 2 C0.2.2.2.1 gX9_lookAboard_X9_lookAt rfl rfl rfl hdvX9_lookAt ⟨Nat.le_of_ble_eq_true rfl, Nat.le_of_ble_eq_true rfl⟩) cM_0 (by decide) rfl rfl rfl hl (Nat.le_of_ble_eq_true rfl) dX9_lookAboard_24 ⟨Nat.le_refl 0, Nat.le_refl 0⟩) hW (fun H locs hW => ?_)
    refine lv_pop2_2 C0.1 C0.2.1 dX9_lookAboard_27 rfl ?_
    refine lv_aload_n C0.1 C0.2.1 dX9_lookAboard_28 rfl (lv_at hl 0 rfl) ?_
    refine lv_iconst (v := (0 : Int32)) C0.1 C0.2.1 dX9_lookAboard_29 (by decide) ?_
    refine lv_aload_n C0.1 C0.2.1 dX9_lookAboard_30 rfl (lv_at hl 0 rfl) ?_
    refine x_get (v := .ref (aD G 5)) C0 G0 hW cM_0 (by decide) rfl 15 (by decide) inX9_lookAboard_X9 lkX9_lookAboard_23 rfl dX9_lookAboard_31 ?_
    refine lv_iconst (v := (1 : Int32)) C0.1 C0.2.1 dX9_lookAboard_34 (by decide) ?_
    obtain ⟨g25, h⟩ := gd_some h
    refine x_iald C0 G0 hW cM_5 (by decide) g25 dX9_lookAboard_35 ?_
    obtain ⟨u26, hu26, h⟩ := bd_some h
    refine x_kv (x_runV (As := [.int (0 : Int32), .int (u24.2.1 5 ((1 : Int32)).toNatClampNeg)]) (rest := []) C0 G0 hW (cX9_drift_met l hJ z u24.2 (0 : Int32) (u24.2.1 5 ((1 : Int32)).toNatClampNeg) _ hu26) (cwV 2 C0.2.2.2.1 gX9_lookAboard_X9_drift rfl rfl rfl hdvX9_drift ⟨Nat.le_of_ble_eq_true rfl, Nat.le_of_ble_eq_true rfl⟩) cM_0 (by decide) rfl rfl rfl hl (Nat.le_of_ble_eq_true rfl) dX9_lookAboard_36 ⟨Nat.le_refl 0, Nat.le_refl 0⟩) hW (fun H locs hW => ?_)
    refine lv_aload_n C0.1 C0.2.1 dX9_lookAboard_39 rfl (lv_at hl 0 rfl) ?_
    refine x_get (v := .ref (aD G 5)) C0 G0 hW cM_0 (by decide) rfl 15 (by decide) inX9_lookAboard_X9 lkX9_lookAboard_23 rfl dX9_lookAboard_40 ?_
    refine lv_iconst (v := (1 : Int32)) C0.1 C0.2.1 dX9_lookAboard_43 (by decide) ?_
    refine lv_dup2_11 C0.1 C0.2.1 dX9_lookAboard_44 rfl rfl ?_
    obtain ⟨g27, h⟩ := gd_some h
    refine x_iald C0 G0 hW cM_5 (by decide) g27 dX9_lookAboard_45 ?_
    refine lv_iconst (v := (1 : Int32)) C0.1 C0.2.1 dX9_lookAboard_46 (by decide) ?_
    refine lv_iadd C0.1 C0.2.1 dX9_lookAboard_47 ?_
    obtain ⟨g28, h⟩ := gd_some h
    refine x_iast C0 G0 hJ hW (fun f g => cM_5) (by decide) g28 dX9_lookAboard_48 (fun H locs hW => ?_)
    obtain ⟨s29, es29, h⟩ := lt_some h
    rw [es29] at hW
    refine lv_aload_n C0.1 C0.2.1 dX9_lookAboard_49 rfl (lv_at hl 0 rfl) ?_
    refine x_get (v := .ref (aD G 5)) C0 G0 hW cM_0 (by decide) rfl 15 (by decide) inX9_lookAboard_X9 lkX9_lookAboard_23 rfl dX9_lookAboard_50 ?_
    refine lv_iconst (v := (1 : Int32)) C0.1 C0.2.1 dX9_lookAboard_53 (by decide) ?_
    obtain ⟨g30, h⟩ := gd_some h
    refine x_iald C0 G0 hW cM_5 (by decide) g30 dX9_lookAboard_54 ?_
    cases h
    exact x_iret C0 hW dX9_lookAboard_55
  · rw [if_pos c22] at h
    refine lv_bipush (v := (-3 : Int32)) C0.1 C0.2.1 dX9_lookAboard_13 (by decide) ?_
    cases h
    exact x_iret C0 hW dX9_lookAboard_15
theorem cX9_lookAboard_met (l : Launch) {G : GT} (hJ : gJ 13 G) (z : Nat) (σ : ST)  (res : (Int32 × ST)) (h : fX9_lookAboard z σ = some res) : Met l yX9_lookAboard wsX9_lookAboard rX9_lookAboard (XPc cellM 13 G σ [.ref (aD G 0)]) (XQi cellM 13 G res.1 res.2) 0 0 (gA 13 G) :=
  x_met (ret := (some .int)) (maxL := 1) (by decide) rfl (Nat.le_of_ble_eq_true rfl) (fun p e s m args below meth c H locs ls C0 G0 hW hl => wX9_lookAboard C0 G0 hJ z σ res h hW hl)
end
/-! X9_partsIn -/
def rX9_partsIn : Room := { frames := 0, cells := 0, slots := 0, locals := 0 }
theorem hdvX9_partsIn : yX9_partsIn.cls = RX9 ∧ yX9_partsIn.cls ≠ "java/lang/invoke/MethodHandle" ∧ yX9_partsIn.cls ≠ "java/lang/invoke/VarHandle" ∧ (parseMethodDescriptor yX9_partsIn.desc).map (fun d => d.parameters.length) = some 2 := by decide +kernel
theorem inX9_partsIn_X9 : ∀ w ∈ u_ws RX9 TX9 29, w ∈ wsX9_partsIn := by decide +kernel
theorem lkX9_partsIn_7 : Cond.fieldLink RX9 7 (TX9 9).1 (TX9 9).2.1 (TX9 9).2.2.1 ∈ wsX9_partsIn := by decide +kernel
def fX9_partsIn_5 (z : Nat) (σ : ST) (v2 : Int32) : Nat → Int32 → Int32 → Option Int32
  | 0 => fun _ _ => none
  | n + 1 => fun v3 v4 => (if v2 < v4 then some v3 else gd (inb v4 11) ( (fX9_partsIn_5 z σ v2 n) (v3 + (σ.1 1 (v4).toNatClampNeg)) (v4 + 1)))
def fX9_partsIn (z : Nat) (σ : ST) (v1 : Int32) (v2 : Int32) : Option Int32 := fX9_partsIn_5 z σ v2 z (0 : Int32) v1
section
variable {p : Program} {l : Launch} {e : Env} {s : State} {m : MethodId} {args : Array Value} {below : List Frame} {meth : Method} {c : Code} {G : GT}
set_option maxHeartbeats 4000000 in
set_option maxRecDepth 100000 in
theorem wX9_partsIn_5 (C0 : Cx p s m args meth c cX9_partsIn RX9 5 (some .int) wsX9_partsIn) (G0 : Gx G s) (hJ : gJ 13 G) (z : Nat) (σ : ST) (v2 : Int32) (n : Nat) (v3 : Int32) (v4 : Int32) (res : Int32) (h : fX9_partsIn_5 z σ v2 n v3 v4 = some res)  {H : Heap} {locs : List Loc} {ls : Array Slot} (hW : Wd cellM 13 G s.heap σ H locs) (hl : lv_has ls 5 [(0, .ref (aD G 0)), (2, .int v2), (3, .int v3), (4, .int v4)]) : W p l e rX9_partsIn s m args below meth c H locs 0 0 (MQ below (XQi cellM 13 G res σ) args s 0 0 (gA 13 G)) (F0 m 5 ls []) := by
  induction n generalizing v3 v4 H locs ls with
  | zero => cases h
  | succ n ih =>
    have hr5 : ∀ (v3 : Int32) (v4 : Int32), fX9_partsIn_5 z σ v2 n v3 v4 = some res → ∀ (H : Heap) (locs : List Loc) (ls : Array Slot), Wd cellM 13 G s.heap σ H locs → lv_has ls 5 [(0, .ref (aD G 0)), (2, .int v2), (3, .int v3), (4, .int v4)] → W p l e rX9_partsIn s m args below meth c H locs 0 0 (MQ below (XQi cellM 13 G res σ) args s 0 0 (gA 13 G)) (F0 m 5 ls []) := fun v3 v4 h H locs ls hW hl => ih v3 v4 h hW hl
    clear ih
    unfold fX9_partsIn_5 at h
    refine lv_iload C0.1 C0.2.1 dX9_partsIn_5 (lv_at hl 3 rfl) ?_
    refine lv_iload_n C0.1 C0.2.1 dX9_partsIn_7 rfl (lv_at hl 1 rfl) ?_
    refine lv_icmp_gt (tgt := 27) C0.1 C0.2.1 dX9_partsIn_8 (by decide) (fun c21 => ?_) (fun c21 => ?_)
    · rw [if_pos c21] at h
      refine lv_iload_n C0.1 C0.2.1 dX9_partsIn_27 rfl (lv_at hl 2 rfl) ?_
      cases h
      exact x_iret C0 hW dX9_partsIn_28
    · rw [if_neg c21] at h
      refine lv_iload_n C0.1 C0.2.1 dX9_partsIn_11 rfl (lv_at hl 2 rfl) ?_
      refine lv_aload_n C0.1 C0.2.1 dX9_partsIn_12 rfl (lv_at hl 0 rfl) ?_
      refine x_get (v := .ref (aD G 1)) C0 G0 hW cM_0 (by decide) rfl 9 (by decide) inX9_partsIn_X9 lkX9_partsIn_7 rfl dX9_partsIn_13 ?_
      refine lv_iload C0.1 C0.2.1 dX9_partsIn_16 (lv_at hl 3 rfl) ?_
      obtain ⟨g22, h⟩ := gd_some h
      refine x_iald C0 G0 hW cM_1 (by decide) g22 dX9_partsIn_18 ?_
      refine lv_iadd C0.1 C0.2.1 dX9_partsIn_19 ?_
      refine lv_istore_n (lv' := [(3, .int (v3 + (σ.1 1 (v4).toNatClampNeg))), (0, .ref (aD G 0)), (2, .int v2), (4, .int v4)]) C0.1 C0.2.1 dX9_partsIn_20 rfl hl (by decide) rfl (fun ls hl => ?_)
      refine lv_iinc (v := (v4 + 1)) (lv' := [(4, .int (v4 + 1)), (3, .int (v3 + (σ.1 1 (v4).toNatClampNeg))), (0, .ref (aD G 0)), (2, .int v2)]) C0.1 C0.2.1 dX9_partsIn_21 hl (k := 3) rfl rfl (by decide) rfl (fun ls hl => ?_)
      refine lv_goto (tgt := 5) C0.1 C0.2.1 dX9_partsIn_24 (by decide) ?_
      exact hr5 (v3 + (σ.1 1 (v4).toNatClampNeg)) (v4 + 1) h _ _ _ hW (lv_sub hl [2, 3, 1, 0] rfl)
set_option maxHeartbeats 4000000 in
set_option maxRecDepth 100000 in
theorem wX9_partsIn (C0 : Cx p s m args meth c cX9_partsIn RX9 5 (some .int) wsX9_partsIn) (G0 : Gx G s) (hJ : gJ 13 G) (z : Nat) (σ : ST) (v1 : Int32) (v2 : Int32) (res : Int32) (h : fX9_partsIn z σ v1 v2 = some res)  {H : Heap} {locs : List Loc} {ls : Array Slot} (hW : Wd cellM 13 G s.heap σ H locs) (hl : lv_has ls 5 [(0, .ref (aD G 0)), (1, .int v1), (2, .int v2)]) : W p l e rX9_partsIn s m args below meth c H locs 0 0 (MQ below (XQi cellM 13 G res σ) args s 0 0 (gA 13 G)) (F0 m 0 ls []) := by
  unfold fX9_partsIn at h
  refine lv_iconst (v := (0 : Int32)) C0.1 C0.2.1 dX9_partsIn_0 (by decide) ?_
  refine lv_istore_n (lv' := [(3, .int (0 : Int32)), (0, .ref (aD G 0)), (1, .int v1), (2, .int v2)]) C0.1 C0.2.1 dX9_partsIn_1 rfl hl (by decide) rfl (fun ls hl => ?_)
  refine lv_iload_n C0.1 C0.2.1 dX9_partsIn_2 rfl (lv_at hl 2 rfl) ?_
  refine lv_istore (lv' := [(4, .int v1), (3, .int (0 : Int32)), (0, .ref (aD G 0)), (1, .int v1), (2, .int v2)]) C0.1 C0.2.1 dX9_partsIn_3 hl (by decide) rfl (fun ls hl => ?_)
  exact wX9_partsIn_5 C0 G0 hJ z σ v2 z (0 : Int32) v1 _ h hW (lv_sub hl [2, 4, 1, 0] rfl)
theorem cX9_partsIn_met (l : Launch) {G : GT} (hJ : gJ 13 G) (z : Nat) (σ : ST) (v1 : Int32) (v2 : Int32) (res : Int32) (h : fX9_partsIn z σ v1 v2 = some res) : Met l yX9_partsIn wsX9_partsIn rX9_partsIn (XPc cellM 13 G σ [.ref (aD G 0), .int v1, .int v2]) (XQi cellM 13 G res σ) 0 0 (gA 13 G) :=
  x_met (ret := (some .int)) (maxL := 5) (by decide) rfl (Nat.le_of_ble_eq_true rfl) (fun p e s m args below meth c H locs ls C0 G0 hW hl => wX9_partsIn C0 G0 hJ z σ v1 v2 res h hW hl)
end
/-! X9_said -/
def rX9_said : Room := { frames := 1, cells := 0, slots := 0, locals := 25 }
theorem hdvX9_said : yX9_said.cls = RX9 ∧ yX9_said.cls ≠ "java/lang/invoke/MethodHandle" ∧ yX9_said.cls ≠ "java/lang/invoke/VarHandle" ∧ (parseMethodDescriptor yX9_said.desc).map (fun d => d.parameters.length) = some 1 := by decide +kernel
theorem inX9_said_X9 : ∀ w ∈ u_ws RX9 TX9 29, w ∈ wsX9_said := by decide +kernel
theorem lkX9_said_23 : Cond.fieldLink RX9 23 (TX9 15).1 (TX9 15).2.1 (TX9 15).2.2.1 ∈ wsX9_said := by decide +kernel
def fX9_said (z : Nat) (σ : ST) (v1 : Int32) : Option Int32 := bd (fX9_in z ((v1).toInt64) (0 : Int64) (1 : Int64)) (fun u21 => (if u21 = 0 then some (-2 : Int32) else gd (inb (2 : Int32) 9) ( (if v1 < (σ.1 5 ((2 : Int32)).toNatClampNeg) then gd (inb ((3 : Int32) + ((3 : Int32) * v1)) 9) ( gd (inb (((3 : Int32) + ((3 : Int32) * v1)) + (1 : Int32)) 9) ( bd (fX9_partsIn z σ (σ.1 5 (((3 : Int32) + ((3 : Int32) * v1))).toNatClampNeg) (σ.1 5 ((((3 : Int32) + ((3 : Int32) * v1)) + (1 : Int32))).toNatClampNeg)) (fun u27 => bd (fX9_partsIn z σ (0 : Int32) (9 : Int32)) (fun u28 => some (((2 : Int32) * u27) - u28))))) else some (0 : Int32)))))
section
variable {p : Program} {l : Launch} {e : Env} {s : State} {m : MethodId} {args : Array Value} {below : List Frame} {meth : Method} {c : Code} {G : GT}
set_option maxHeartbeats 4000000 in
set_option maxRecDepth 100000 in
theorem wX9_said (C0 : Cx p s m args meth c cX9_said RX9 3 (some .int) wsX9_said) (G0 : Gx G s) (hJ : gJ 13 G) (z : Nat) (σ : ST) (v1 : Int32) (res : Int32) (h : fX9_said z σ v1 = some res)  {H : Heap} {locs : List Loc} {ls : Array Slot} (hW : Wd cellM 13 G s.heap σ H locs) (hl : lv_has ls 3 [(0, .ref (aD G 0)), (1, .int v1)]) : W p l e rX9_said s m args below meth c H locs 0 0 (MQ below (XQi cellM 13 G res σ) args s 0 0 (gA 13 G)) (F0 m 0 ls []) := by
  unfold fX9_said at h
  refine lv_iload_n C0.1 C0.2.1 dX9_said_0 rfl (lv_at hl 1 rfl) ?_
  refine lv_i2l (v := ((v1).toInt64)) C0.1 C0.2.1 dX9_said_1 rfl ?_
  refine lv_lconst (v := (0 : Int64)) C0.1 C0.2.1 dX9_said_2 (by decide) ?_
  refine lv_lconst (v := (1 : Int64)) C0.1 C0.2.1 dX9_said_3 (by decide) ?_
  obtain ⟨u21, hu21, h⟩ := bd_some h
  refine x_ki (r := u21) (x_runS (As := [.long ((v1).toInt64), .long (0 : Int64), .long (1 : Int64)]) (rest := []) C0 G0 hW (cX9_in_met l hJ z σ ((v1).toInt64) (0 : Int64) (1 : Int64) _ hu21) (va_cwS 3 C0.2.2.2.1 gX9_said_X9_in rfl rfl rfl hdsX9_in ⟨Nat.le_of_ble_eq_true rfl, Nat.le_of_ble_eq_true rfl⟩) rfl rfl hl (Nat.le_of_ble_eq_true rfl) dX9_said_4 ⟨Nat.le_refl 0, Nat.le_refl 0⟩) hW (fun H locs hW => ?_)
  refine lv_if_ne (tgt := 13) C0.1 C0.2.1 dX9_said_7 (by decide) (fun c22 => ?_) (fun c22 => ?_)
  · rw [if_neg c22] at h
    refine lv_iload_n C0.1 C0.2.1 dX9_said_13 rfl (lv_at hl 1 rfl) ?_
    refine lv_aload_n C0.1 C0.2.1 dX9_said_14 rfl (lv_at hl 0 rfl) ?_
    refine x_get (v := .ref (aD G 5)) C0 G0 hW cM_0 (by decide) rfl 15 (by decide) inX9_said_X9 lkX9_said_23 rfl dX9_said_15 ?_
    refine lv_iconst (v := (2 : Int32)) C0.1 C0.2.1 dX9_said_18 (by decide) ?_
    obtain ⟨g23, h⟩ := gd_some h
    refine x_iald C0 G0 hW cM_5 (by decide) g23 dX9_said_19 ?_
    refine lv_icmp_lt (tgt := 25) C0.1 C0.2.1 dX9_said_20 (by decide) (fun c24 => ?_) (fun c24 => ?_)
    · rw [if_pos c24] at h
      refine lv_aload_n C0.1 C0.2.1 dX9_said_25 rfl (lv_at hl 0 rfl) ?_
      refine lv_aload_n C0.1 C0.2.1 dX9_said_26 rfl (lv_at hl 0 rfl) ?_
      refine x_get (v := .ref (aD G 5)) C0 G0 hW cM_0 (by decide) rfl 15 (by decide) inX9_said_X9 lkX9_said_23 rfl dX9_said_27 ?_
      refine lv_iconst (v := (3 : Int32)) C0.1 C0.2.1 dX9_said_30 (by decide) ?_
      refine lv_iconst (v := (3 : Int32)) C0.1 C0.2.1 dX9_said_31 (by decide) ?_
      refine lv_iload_n C0.1 C0.2.1 dX9_said_32 rfl (lv_at hl 1 rfl) ?_
      refine lv_imul C0.1 C0.2.1 dX9_said_33 ?_
      refine lv_iadd C0.1 C0.2.1 dX9_said_34 ?_
      obtain ⟨g25, h⟩ := gd_some h
      refine x_iald C0 G0 hW cM_5 (by decide) g25 dX9_said_35 ?_
      refine lv_aload_n C0.1 C0.2.1 dX9_said_36 rfl (lv_at hl 0 rfl) ?_
      refine x_get (v := .ref (aD G 5)) C0 G0 hW cM_0 (by decide) rfl 15 (by decide) inX9_said_X9 lkX9_said_23 rfl dX9_said_37 ?_
      refine lv_iconst (v := (3 : Int32)) C0.1 C0.2.1 dX9_said_40 (by decide) ?_
      refine lv_iconst (v := (3 : Int32)) C0.1 C0.2.1 dX9_said_41 (by decide) ?_
      refine lv_iload_n C0.1 C0.2.1 dX9_said_42 rfl (lv_at hl 1 rfl) ?_
      refine lv_imul C0.1 C0.2.1 dX9_said_43 ?_
      refine lv_iadd C0.1 C0.2.1 dX9_said_44 ?_
      refine lv_iconst (v := (1 : Int32)) C0.1 C0.2.1 dX9_said_45 (by decide) ?_
      refine lv_iadd C0.1 C0.2.1 dX9_said_46 ?_
      obtain ⟨g26, h⟩ := gd_some h
      refine x_iald C0 G0 hW cM_5 (by decide) g26 dX9_said_47 ?_
      obtain ⟨u27, hu27, h⟩ := bd_some h
      refine x_ki (r := u27) (x_runV (As := [.int (σ.1 5 (((3 : Int32) + ((3 : Int32) * v1))).toNatClampNeg), .int (σ.1 5 ((((3 : Int32) + ((3 : Int32) * v1)) + (1 : Int32))).toNatClampNeg)]) (rest := []) C0 G0 hW (cX9_partsIn_met l hJ z σ (σ.1 5 (((3 : Int32) + ((3 : Int32) * v1))).toNatClampNeg) (σ.1 5 ((((3 : Int32) + ((3 : Int32) * v1)) + (1 : Int32))).toNatClampNeg) _ hu27) (cwV 2 C0.2.2.2.1 gX9_said_X9_partsIn rfl rfl rfl hdvX9_partsIn ⟨Nat.le_of_ble_eq_true rfl, Nat.le_of_ble_eq_true rfl⟩) cM_0 (by decide) rfl rfl rfl hl (Nat.le_of_ble_eq_true rfl) dX9_said_48 ⟨Nat.le_refl 0, Nat.le_refl 0⟩) hW (fun H locs hW => ?_)
      refine lv_istore_n (lv' := [(2, .int u27), (0, .ref (aD G 0)), (1, .int v1)]) C0.1 C0.2.1 dX9_said_51 rfl hl (by decide) rfl (fun ls hl => ?_)
      refine lv_iconst (v := (2 : Int32)) C0.1 C0.2.1 dX9_said_52 (by decide) ?_
      refine lv_iload_n C0.1 C0.2.1 dX9_said_53 rfl (lv_at hl 0 rfl) ?_
      refine lv_imul C0.1 C0.2.1 dX9_said_54 ?_
      refine lv_aload_n C0.1 C0.2.1 dX9_said_55 rfl (lv_at hl 1 rfl) ?_
      refine lv_iconst (v := (0 : Int32)) C0.1 C0.2.1 dX9_said_56 (by decide) ?_
      refine lv_bipush (v := (9 : Int32)) C0.1 C0.2.1 dX9_said_57 (by decide) ?_
      obtain ⟨u28, hu28, h⟩ := bd_some h
      refine x_ki (r := u28) (x_runV (As := [.int (0 : Int32), .int (9 : Int32)]) (rest := [.int ((2 : Int32) * u27)]) C0 G0 hW (cX9_partsIn_met l hJ z σ (0 : Int32) (9 : Int32) _ hu28) (cwV 2 C0.2.2.2.1 gX9_said_X9_partsIn rfl rfl rfl hdvX9_partsIn ⟨Nat.le_of_ble_eq_true rfl, Nat.le_of_ble_eq_true rfl⟩) cM_0 (by decide) rfl rfl rfl hl (Nat.le_of_ble_eq_true rfl) dX9_said_59 ⟨Nat.le_refl 0, Nat.le_refl 0⟩) hW (fun H locs hW => ?_)
      refine lv_isub C0.1 C0.2.1 dX9_said_62 ?_
      cases h
      exact x_iret C0 hW dX9_said_63
    · rw [if_neg c24] at h
      refine lv_iconst (v := (0 : Int32)) C0.1 C0.2.1 dX9_said_23 (by decide) ?_
      cases h
      exact x_iret C0 hW dX9_said_24
  · rw [if_pos c22] at h
    refine lv_bipush (v := (-2 : Int32)) C0.1 C0.2.1 dX9_said_10 (by decide) ?_
    cases h
    exact x_iret C0 hW dX9_said_12
theorem cX9_said_met (l : Launch) {G : GT} (hJ : gJ 13 G) (z : Nat) (σ : ST) (v1 : Int32) (res : Int32) (h : fX9_said z σ v1 = some res) : Met l yX9_said wsX9_said rX9_said (XPc cellM 13 G σ [.ref (aD G 0), .int v1]) (XQi cellM 13 G res σ) 0 0 (gA 13 G) :=
  x_met (ret := (some .int)) (maxL := 3) (by decide) rfl (Nat.le_of_ble_eq_true rfl) (fun p e s m args below meth c H locs ls C0 G0 hW hl => wX9_said C0 G0 hJ z σ v1 res h hW hl)
end
/-! X9_search -/
def rX9_search : Room := { frames := 4, cells := 0, slots := 0, locals := 92 }
theorem hdvX9_search : yX9_search.cls = RX9 ∧ yX9_search.cls ≠ "java/lang/invoke/MethodHandle" ∧ yX9_search.cls ≠ "java/lang/invoke/VarHandle" ∧ (parseMethodDescriptor yX9_search.desc).map (fun d => d.parameters.length) = some 0 := by decide +kernel
theorem inX9_search_X9 : ∀ w ∈ u_ws RX9 TX9 29, w ∈ wsX9_search := by decide +kernel
theorem lkX9_search_13 : Cond.fieldLink RX9 13 (TX9 10).1 (TX9 10).2.1 (TX9 10).2.2.1 ∈ wsX9_search := by decide +kernel
theorem lkX9_search_94 : Cond.fieldLink RX9 94 (TX9 0).1 (TX9 0).2.1 (TX9 0).2.2.1 ∈ wsX9_search := by decide +kernel
theorem lkX9_search_97 : Cond.fieldLink RX9 97 (TX9 1).1 (TX9 1).2.1 (TX9 1).2.2.1 ∈ wsX9_search := by decide +kernel
theorem lkX9_search_100 : Cond.fieldLink RX9 100 (TX9 2).1 (TX9 2).2.1 (TX9 2).2.2.1 ∈ wsX9_search := by decide +kernel
theorem lkX9_search_103 : Cond.fieldLink RX9 103 (TX9 3).1 (TX9 3).2.1 (TX9 3).2.2.1 ∈ wsX9_search := by decide +kernel
theorem lkX9_search_106 : Cond.fieldLink RX9 106 (TX9 4).1 (TX9 4).2.1 (TX9 4).2.2.1 ∈ wsX9_search := by decide +kernel
theorem lkX9_search_48 : Cond.fieldLink RX9 48 (TX9 5).1 (TX9 5).2.1 (TX9 5).2.2.1 ∈ wsX9_search := by decide +kernel
theorem lkX9_search_69 : Cond.fieldLink RX9 69 (TX9 12).1 (TX9 12).2.1 (TX9 12).2.2.1 ∈ wsX9_search := by decide +kernel
theorem lkX9_search_109 : Cond.fieldLink RX9 109 (TX9 6).1 (TX9 6).2.1 (TX9 6).2.2.1 ∈ wsX9_search := by decide +kernel
theorem lkX9_search_112 : Cond.fieldLink RX9 112 (TX9 8).1 (TX9 8).2.1 (TX9 8).2.2.1 ∈ wsX9_search := by decide +kernel
theorem lkX9_search_88 : Cond.fieldLink RX9 88 (TX9 13).1 (TX9 13).2.1 (TX9 13).2.2.1 ∈ wsX9_search := by decide +kernel
theorem lkX9_search_116 : Cond.fieldLink RX9 116 (TX9 7).1 (TX9 7).2.1 (TX9 7).2.2.1 ∈ wsX9_search := by decide +kernel
theorem lkX9_search_7 : Cond.fieldLink RX9 7 (TX9 9).1 (TX9 9).2.1 (TX9 9).2.2.1 ∈ wsX9_search := by decide +kernel
theorem lkX9_search_16 : Cond.fieldLink RX9 16 (TX9 11).1 (TX9 11).2.1 (TX9 11).2.2.1 ∈ wsX9_search := by decide +kernel
theorem lkX9_search_19 : Cond.fieldLink RX9 19 (TX9 14).1 (TX9 14).2.1 (TX9 14).2.2.1 ∈ wsX9_search := by decide +kernel
theorem lkX9_search_23 : Cond.fieldLink RX9 23 (TX9 15).1 (TX9 15).2.1 (TX9 15).2.2.1 ∈ wsX9_search := by decide +kernel
theorem lkX9_search_119 : Cond.fieldLink RX9 119 (TX9 21).1 (TX9 21).2.1 (TX9 21).2.2.1 ∈ wsX9_search := by decide +kernel
theorem lkX9_search_38 : Cond.fieldLink RX9 38 (TX9 26).1 (TX9 26).2.1 (TX9 26).2.2.1 ∈ wsX9_search := by decide +kernel
def fX9_search_148 (z : Nat) : Nat → ST → Int32 → Option (Int32 × ST)
  | 0 => fun _ _ => none
  | n + 1 => fun σ v1 => (if (9 : Int32) ≤ v1 then gd (inb (0 : Int32) 9) ( lt (pI σ 5 ((0 : Int32)).toNatClampNeg (σ.1 0 4)) (fun s49 => lt (pI s49 0 21 (0 : Int32)) (fun s50 => gd (inb (0 : Int32) 2) ( gd (zok (0 : Int32)) ( lt (pI s50 10 ((0 : Int32)).toNatClampNeg (0 : Int32)) (fun s53 => gd (inb (1 : Int32) 2) ( gd (zok (0 : Int32)) ( lt (pI s53 10 ((1 : Int32)).toNatClampNeg (0 : Int32)) (fun s56 => bd (fX9_allParts z s56) (fun u57 => some (u57, s56))))))))))) else gd (inb v1 9) ( lt (pI σ 5 (v1).toNatClampNeg (0 : Int32)) (fun s59 => (fX9_search_148 z n) s59 (v1 + 1))))
def fX9_search_109 (z : Nat) : Nat → ST → Int32 → Option (Int32 × ST)
  | 0 => fun _ _ => none
  | n + 1 => fun σ v1 => (if (11 : Int32) ≤ v1 then fX9_search_148 z z σ (0 : Int32) else gd (inb v1 11) ( gd (inb v1 11) ( lt (pI σ 1 (v1).toNatClampNeg (σ.1 3 (v1).toNatClampNeg)) (fun s43 => gd (inb v1 11) ( gd (inb v1 33) ( lt (pL s43 4 (v1).toNatClampNeg (((s43.1 1 (v1).toNatClampNeg)).toInt64)) (fun s46 => (fX9_search_109 z n) s46 (v1 + 1))))))))
def fX9_search_96 (z : Nat) (σ : ST) (t0 : Int32) : Option (Int32 × ST) := gd (zok t0) ( lt (pI σ 0 8 t0) (fun s38 => lt (pI s38 0 7 (s38.1 0 13)) (fun s39 => fX9_search_109 z z s39 (0 : Int32))))
def fX9_search (z : Nat) (σ : ST) : Option (Int32 × ST) := bd (fX9_readText z σ) (fun u21 => (if u21.1 = (-9 : Int32) then gd (inb (1 : Int32) 7) ( lt (pI u21.2 0 0 (u21.2.1 2 ((1 : Int32)).toNatClampNeg)) (fun s24 => gd (inb (2 : Int32) 7) ( lt (pI s24 0 1 (s24.1 2 ((2 : Int32)).toNatClampNeg)) (fun s26 => gd (inb (3 : Int32) 7) ( lt (pI s26 0 2 (s26.1 2 ((3 : Int32)).toNatClampNeg)) (fun s28 => gd (inb (4 : Int32) 7) ( lt (pI s28 0 3 (s28.1 2 ((4 : Int32)).toNatClampNeg)) (fun s30 => gd (inb (5 : Int32) 7) ( lt (pI s30 0 4 (s30.1 2 ((5 : Int32)).toNatClampNeg)) (fun s32 => gd (inb (6 : Int32) 7) ( lt (pI s32 0 5 (s32.1 2 ((6 : Int32)).toNatClampNeg)) (fun s34 => lt (pI s34 0 6 (s34.1 0 12)) (fun s35 => (if (s35.1 0 12) = (-9 : Int32) then fX9_search_96 z s35 (0 : Int32) else fX9_search_96 z s35 (1 : Int32))))))))))))))) else some ((-3 : Int32), u21.2)))
section
variable {p : Program} {l : Launch} {e : Env} {s : State} {m : MethodId} {args : Array Value} {below : List Frame} {meth : Method} {c : Code} {G : GT}
set_option maxHeartbeats 4000000 in
set_option maxRecDepth 100000 in
theorem wX9_search_148 (C0 : Cx p s m args meth c cX9_search RX9 2 (some .int) wsX9_search) (G0 : Gx G s) (hJ : gJ 13 G) (z : Nat) (n : Nat) (σ : ST) (v1 : Int32) (res : (Int32 × ST)) (h : fX9_search_148 z n σ v1 = some res)  {H : Heap} {locs : List Loc} {ls : Array Slot} (hW : Wd cellM 13 G s.heap σ H locs) (hl : lv_has ls 2 [(0, .ref (aD G 0)), (1, .int v1)]) : W p l e rX9_search s m args below meth c H locs 0 0 (MQ below (XQi cellM 13 G res.1 res.2) args s 0 0 (gA 13 G)) (F0 m 148 ls []) := by
  induction n generalizing σ v1 H locs ls with
  | zero => cases h
  | succ n ih =>
    have hr148 : ∀ (σ : ST) (v1 : Int32), fX9_search_148 z n σ v1 = some res → ∀ (H : Heap) (locs : List Loc) (ls : Array Slot), Wd cellM 13 G s.heap σ H locs → lv_has ls 2 [(0, .ref (aD G 0)), (1, .int v1)] → W p l e rX9_search s m args below meth c H locs 0 0 (MQ below (XQi cellM 13 G res.1 res.2) args s 0 0 (gA 13 G)) (F0 m 148 ls []) := fun σ v1 h H locs ls hW hl => ih σ v1 h hW hl
    clear ih
    unfold fX9_search_148 at h
    refine lv_iload_n C0.1 C0.2.1 dX9_search_148 rfl (lv_at hl 1 rfl) ?_
    refine lv_bipush (v := (9 : Int32)) C0.1 C0.2.1 dX9_search_149 (by decide) ?_
    refine lv_icmp_ge (tgt := 167) C0.1 C0.2.1 dX9_search_151 (by decide) (fun c47 => ?_) (fun c47 => ?_)
    · rw [if_pos c47] at h
      refine lv_aload_n C0.1 C0.2.1 dX9_search_167 rfl (lv_at hl 0 rfl) ?_
      refine x_get (v := .ref (aD G 5)) C0 G0 hW cM_0 (by decide) rfl 15 (by decide) inX9_search_X9 lkX9_search_23 rfl dX9_search_168 ?_
      refine lv_iconst (v := (0 : Int32)) C0.1 C0.2.1 dX9_search_171 (by decide) ?_
      refine lv_aload_n C0.1 C0.2.1 dX9_search_172 rfl (lv_at hl 0 rfl) ?_
      refine x_get (v := .int (σ.1 0 4)) C0 G0 hW cM_0 (by decide) rfl 4 (by decide) inX9_search_X9 lkX9_search_106 rfl dX9_search_173 ?_
      obtain ⟨g48, h⟩ := gd_some h
      refine x_iast C0 G0 hJ hW (fun f g => cM_5) (by decide) g48 dX9_search_176 (fun H locs hW => ?_)
      obtain ⟨s49, es49, h⟩ := lt_some h
      rw [es49] at hW
      refine lv_aload_n C0.1 C0.2.1 dX9_search_177 rfl (lv_at hl 0 rfl) ?_
      refine lv_iconst (v := (0 : Int32)) C0.1 C0.2.1 dX9_search_178 (by decide) ?_
      refine x_putI (v := (0 : Int32)) C0 G0 hJ hW cM_0 (by decide) rfl 21 (by decide) inX9_search_X9 lkX9_search_119 tyX9 tyX9_ok nmX9 rfl rfl rfl (Nat.le_of_ble_eq_true rfl) hu_X9_21 dX9_search_179 (fun H locs hW => ?_)
      obtain ⟨s50, es50, h⟩ := lt_some h
      rw [es50] at hW
      refine lv_aload_n C0.1 C0.2.1 dX9_search_182 rfl (lv_at hl 0 rfl) ?_
      refine x_get (v := .ref (aD G 10)) C0 G0 hW cM_0 (by decide) rfl 26 (by decide) inX9_search_X9 lkX9_search_38 rfl dX9_search_183 ?_
      refine lv_iconst (v := (0 : Int32)) C0.1 C0.2.1 dX9_search_186 (by decide) ?_
      refine lv_iconst (v := (0 : Int32)) C0.1 C0.2.1 dX9_search_187 (by decide) ?_
      obtain ⟨g51, h⟩ := gd_some h
      obtain ⟨g52, h⟩ := gd_some h
      refine x_zast C0 G0 hJ hW (fun f g => cM_10) (by decide) g51 g52 dX9_search_188 (fun H locs hW => ?_)
      obtain ⟨s53, es53, h⟩ := lt_some h
      rw [es53] at hW
      refine lv_aload_n C0.1 C0.2.1 dX9_search_189 rfl (lv_at hl 0 rfl) ?_
      refine x_get (v := .ref (aD G 10)) C0 G0 hW cM_0 (by decide) rfl 26 (by decide) inX9_search_X9 lkX9_search_38 rfl dX9_search_190 ?_
      refine lv_iconst (v := (1 : Int32)) C0.1 C0.2.1 dX9_search_193 (by decide) ?_
      refine lv_iconst (v := (0 : Int32)) C0.1 C0.2.1 dX9_search_194 (by decide) ?_
      obtain ⟨g54, h⟩ := gd_some h
      obtain ⟨g55, h⟩ := gd_some h
      refine x_zast C0 G0 hJ hW (fun f g => cM_10) (by decide) g54 g55 dX9_search_195 (fun H locs hW => ?_)
      obtain ⟨s56, es56, h⟩ := lt_some h
      rw [es56] at hW
      refine lv_aload_n C0.1 C0.2.1 dX9_search_196 rfl (lv_at hl 0 rfl) ?_
      obtain ⟨u57, hu57, h⟩ := bd_some h
      refine x_ki (r := u57) (x_runV (As := []) (rest := []) C0 G0 hW (cX9_allParts_met l hJ z s56 _ hu57) (cwV 0 C0.2.2.2.1 gX9_search_X9_allParts rfl rfl rfl hdvX9_allParts ⟨Nat.le_of_ble_eq_true rfl, Nat.le_of_ble_eq_true rfl⟩) cM_0 (by decide) rfl rfl rfl hl (Nat.le_of_ble_eq_true rfl) dX9_search_197 ⟨Nat.le_refl 0, Nat.le_refl 0⟩) hW (fun H locs hW => ?_)
      cases h
      exact x_iret C0 hW dX9_search_200
    · rw [if_neg c47] at h
      refine lv_aload_n C0.1 C0.2.1 dX9_search_154 rfl (lv_at hl 0 rfl) ?_
      refine x_get (v := .ref (aD G 5)) C0 G0 hW cM_0 (by decide) rfl 15 (by decide) inX9_search_X9 lkX9_search_23 rfl dX9_search_155 ?_
      refine lv_iload_n C0.1 C0.2.1 dX9_search_158 rfl (lv_at hl 1 rfl) ?_
      refine lv_iconst (v := (0 : Int32)) C0.1 C0.2.1 dX9_search_159 (by decide) ?_
      obtain ⟨g58, h⟩ := gd_some h
      refine x_iast C0 G0 hJ hW (fun f g => cM_5) (by decide) g58 dX9_search_160 (fun H locs hW => ?_)
      obtain ⟨s59, es59, h⟩ := lt_some h
      rw [es59] at hW
      refine lv_iinc (v := (v1 + 1)) (lv' := [(1, .int (v1 + 1)), (0, .ref (aD G 0))]) C0.1 C0.2.1 dX9_search_161 hl (k := 1) rfl rfl (by decide) rfl (fun ls hl => ?_)
      refine lv_goto (tgt := 148) C0.1 C0.2.1 dX9_search_164 (by decide) ?_
      exact hr148 s59 (v1 + 1) h _ _ _ hW (lv_sub hl [1, 0] rfl)
set_option maxHeartbeats 4000000 in
set_option maxRecDepth 100000 in
theorem wX9_search_109 (C0 : Cx p s m args meth c cX9_search RX9 2 (some .int) wsX9_search) (G0 : Gx G s) (hJ : gJ 13 G) (z : Nat) (n : Nat) (σ : ST) (v1 : Int32) (res : (Int32 × ST)) (h : fX9_search_109 z n σ v1 = some res)  {H : Heap} {locs : List Loc} {ls : Array Slot} (hW : Wd cellM 13 G s.heap σ H locs) (hl : lv_has ls 2 [(0, .ref (aD G 0)), (1, .int v1)]) : W p l e rX9_search s m args below meth c H locs 0 0 (MQ below (XQi cellM 13 G res.1 res.2) args s 0 0 (gA 13 G)) (F0 m 109 ls []) := by
  induction n generalizing σ v1 H locs ls with
  | zero => cases h
  | succ n ih =>
    have hr109 : ∀ (σ : ST) (v1 : Int32), fX9_search_109 z n σ v1 = some res → ∀ (H : Heap) (locs : List Loc) (ls : Array Slot), Wd cellM 13 G s.heap σ H locs → lv_has ls 2 [(0, .ref (aD G 0)), (1, .int v1)] → W p l e rX9_search s m args below meth c H locs 0 0 (MQ below (XQi cellM 13 G res.1 res.2) args s 0 0 (gA 13 G)) (F0 m 109 ls []) := fun σ v1 h H locs ls hW hl => ih σ v1 h hW hl
    clear ih
    unfold fX9_search_109 at h
    refine lv_iload_n C0.1 C0.2.1 dX9_search_109 rfl (lv_at hl 1 rfl) ?_
    refine lv_bipush (v := (11 : Int32)) C0.1 C0.2.1 dX9_search_110 (by decide) ?_
    refine lv_icmp_ge (tgt := 146) C0.1 C0.2.1 dX9_search_112 (by decide) (fun c40 => ?_) (fun c40 => ?_)
    · rw [if_pos c40] at h
      refine lv_iconst (v := (0 : Int32)) C0.1 C0.2.1 dX9_search_146 (by decide) ?_
      refine lv_istore_n (lv' := [(1, .int (0 : Int32)), (0, .ref (aD G 0))]) C0.1 C0.2.1 dX9_search_147 rfl hl (by decide) rfl (fun ls hl => ?_)
      exact wX9_search_148 C0 G0 hJ z z σ (0 : Int32) _ h hW (lv_sub hl [1, 0] rfl)
    · rw [if_neg c40] at h
      refine lv_aload_n C0.1 C0.2.1 dX9_search_115 rfl (lv_at hl 0 rfl) ?_
      refine x_get (v := .ref (aD G 1)) C0 G0 hW cM_0 (by decide) rfl 9 (by decide) inX9_search_X9 lkX9_search_7 rfl dX9_search_116 ?_
      refine lv_iload_n C0.1 C0.2.1 dX9_search_119 rfl (lv_at hl 1 rfl) ?_
      refine lv_aload_n C0.1 C0.2.1 dX9_search_120 rfl (lv_at hl 0 rfl) ?_
      refine x_get (v := .ref (aD G 3)) C0 G0 hW cM_0 (by decide) rfl 11 (by decide) inX9_search_X9 lkX9_search_16 rfl dX9_search_121 ?_
      refine lv_iload_n C0.1 C0.2.1 dX9_search_124 rfl (lv_at hl 1 rfl) ?_
      obtain ⟨g41, h⟩ := gd_some h
      refine x_iald C0 G0 hW cM_3 (by decide) g41 dX9_search_125 ?_
      obtain ⟨g42, h⟩ := gd_some h
      refine x_iast C0 G0 hJ hW (fun f g => cM_1) (by decide) g42 dX9_search_126 (fun H locs hW => ?_)
      obtain ⟨s43, es43, h⟩ := lt_some h
      rw [es43] at hW
      refine lv_aload_n C0.1 C0.2.1 dX9_search_127 rfl (lv_at hl 0 rfl) ?_
      refine x_get (v := .ref (aD G 4)) C0 G0 hW cM_0 (by decide) rfl 14 (by decide) inX9_search_X9 lkX9_search_19 rfl dX9_search_128 ?_
      refine lv_iload_n C0.1 C0.2.1 dX9_search_131 rfl (lv_at hl 1 rfl) ?_
      refine lv_aload_n C0.1 C0.2.1 dX9_search_132 rfl (lv_at hl 0 rfl) ?_
      refine x_get (v := .ref (aD G 1)) C0 G0 hW cM_0 (by decide) rfl 9 (by decide) inX9_search_X9 lkX9_search_7 rfl dX9_search_133 ?_
      refine lv_iload_n C0.1 C0.2.1 dX9_search_136 rfl (lv_at hl 1 rfl) ?_
      obtain ⟨g44, h⟩ := gd_some h
      refine x_iald C0 G0 hW cM_1 (by decide) g44 dX9_search_137 ?_
      refine lv_i2l (v := (((s43.1 1 (v1).toNatClampNeg)).toInt64)) C0.1 C0.2.1 dX9_search_138 rfl ?_
      obtain ⟨g45, h⟩ := gd_some h
      refine x_last C0 G0 hJ hW (fun f g => cM_4) (by decide) g45 dX9_search_139 (fun H locs hW => ?_)
      obtain ⟨s46, es46, h⟩ := lt_some h
      rw [es46] at hW
      refine lv_iinc (v := (v1 + 1)) (lv' := [(1, .int (v1 + 1)), (0, .ref (aD G 0))]) C0.1 C0.2.1 dX9_search_140 hl (k := 1) rfl rfl (by decide) rfl (fun ls hl => ?_)
      refine lv_goto (tgt := 109) C0.1 C0.2.1 dX9_search_143 (by decide) ?_
      exact hr109 s46 (v1 + 1) h _ _ _ hW (lv_sub hl [1, 0] rfl)
set_option maxHeartbeats 4000000 in
set_option maxRecDepth 100000 in
theorem wX9_search_96 (C0 : Cx p s m args meth c cX9_search RX9 2 (some .int) wsX9_search) (G0 : Gx G s) (hJ : gJ 13 G) (z : Nat) (σ : ST) (t0 : Int32) (res : (Int32 × ST)) (h : fX9_search_96 z σ t0 = some res)  {H : Heap} {locs : List Loc} {ls : Array Slot} (hW : Wd cellM 13 G s.heap σ H locs) (hl : lv_has ls 2 [(0, .ref (aD G 0))]) : W p l e rX9_search s m args below meth c H locs 0 0 (MQ below (XQi cellM 13 G res.1 res.2) args s 0 0 (gA 13 G)) (F0 m 96 ls [.int t0, .ref (aD G 0)]) := by
  unfold fX9_search_96 at h
  obtain ⟨g37, h⟩ := gd_some h
  refine x_putI (v := t0) C0 G0 hJ hW cM_0 (by decide) rfl 8 (by decide) inX9_search_X9 lkX9_search_112 tyX9 tyX9_ok nmX9 rfl (zok_n g37) (zok_f g37) (Nat.le_of_ble_eq_true rfl) hu_X9_8 dX9_search_96 (fun H locs hW => ?_)
  obtain ⟨s38, es38, h⟩ := lt_some h
  rw [es38] at hW
  refine lv_aload_n C0.1 C0.2.1 dX9_search_99 rfl (lv_at hl 0 rfl) ?_
  refine lv_aload_n C0.1 C0.2.1 dX9_search_100 rfl (lv_at hl 0 rfl) ?_
  refine x_get (v := .int (s38.1 0 13)) C0 G0 hW cM_0 (by decide) rfl 13 (by decide) inX9_search_X9 lkX9_search_88 rfl dX9_search_101 ?_
  refine x_putI (v := (s38.1 0 13)) C0 G0 hJ hW cM_0 (by decide) rfl 7 (by decide) inX9_search_X9 lkX9_search_116 tyX9 tyX9_ok nmX9 rfl rfl rfl (Nat.le_of_ble_eq_true rfl) hu_X9_7 dX9_search_104 (fun H locs hW => ?_)
  obtain ⟨s39, es39, h⟩ := lt_some h
  rw [es39] at hW
  refine lv_iconst (v := (0 : Int32)) C0.1 C0.2.1 dX9_search_107 (by decide) ?_
  refine lv_istore_n (lv' := [(1, .int (0 : Int32)), (0, .ref (aD G 0))]) C0.1 C0.2.1 dX9_search_108 rfl hl (by decide) rfl (fun ls hl => ?_)
  exact wX9_search_109 C0 G0 hJ z z s39 (0 : Int32) _ h hW (lv_sub hl [1, 0] rfl)
set_option maxHeartbeats 4000000 in
set_option maxRecDepth 100000 in
theorem wX9_search (C0 : Cx p s m args meth c cX9_search RX9 2 (some .int) wsX9_search) (G0 : Gx G s) (hJ : gJ 13 G) (z : Nat) (σ : ST) (res : (Int32 × ST)) (h : fX9_search z σ = some res)  {H : Heap} {locs : List Loc} {ls : Array Slot} (hW : Wd cellM 13 G s.heap σ H locs) (hl : lv_has ls 2 [(0, .ref (aD G 0))]) : W p l e rX9_search s m args below meth c H locs 0 0 (MQ below (XQi cellM 13 G res.1 res.2) args s 0 0 (gA 13 G)) (F0 m 0 ls []) := by
  unfold fX9_search at h
  refine lv_aload_n C0.1 C0.2.1 dX9_search_0 rfl (lv_at hl 0 rfl) ?_
  obtain ⟨u21, hu21, h⟩ := bd_some h
  refine x_ki (r := u21.1) (x_runV (As := []) (rest := []) C0 G0 hW (cX9_readText_met l hJ z σ _ hu21) (cwV 0 C0.2.2.2.1 gX9_search_X9_readText rfl rfl rfl hdvX9_readText ⟨Nat.le_of_ble_eq_true rfl, Nat.le_of_ble_eq_true rfl⟩) cM_0 (by decide) rfl rfl rfl hl (Nat.le_of_ble_eq_true rfl) dX9_search_1 ⟨Nat.le_refl 0, Nat.le_refl 0⟩) hW (fun H locs hW => ?_)
  refine lv_bipush (v := (-9 : Int32)) C0.1 C0.2.1 dX9_search_4 (by decide) ?_
  refine lv_icmp_eq (tgt := 12) C0.1 C0.2.1 dX9_search_6 (by decide) (fun c22 => ?_) (fun c22 => ?_)
  · rw [if_pos c22] at h
    refine lv_aload_n C0.1 C0.2.1 dX9_search_12 rfl (lv_at hl 0 rfl) ?_
    refine lv_aload_n C0.1 C0.2.1 dX9_search_13 rfl (lv_at hl 0 rfl) ?_
    refine x_get (v := .ref (aD G 2)) C0 G0 hW cM_0 (by decide) rfl 10 (by decide) inX9_search_X9 lkX9_search_13 rfl dX9_search_14 ?_
    refine lv_iconst (v := (1 : Int32)) C0.1 C0.2.1 dX9_search_17 (by decide) ?_
    obtain ⟨g23, h⟩ := gd_some h
    refine x_iald C0 G0 hW cM_2 (by decide) g23 dX9_search_18 ?_
    refine x_putI (v := (u21.2.1 2 ((1 : Int32)).toNatClampNeg)) C0 G0 hJ hW cM_0 (by decide) rfl 0 (by decide) inX9_search_X9 lkX9_search_94 tyX9 tyX9_ok nmX9 rfl rfl rfl (Nat.le_of_ble_eq_true rfl) hu_X9_0 dX9_search_19 (fun H locs hW => ?_)
    obtain ⟨s24, es24, h⟩ := lt_some h
    rw [es24] at hW
    refine lv_aload_n C0.1 C0.2.1 dX9_search_22 rfl (lv_at hl 0 rfl) ?_
    refine lv_aload_n C0.1 C0.2.1 dX9_search_23 rfl (lv_at hl 0 rfl) ?_
    refine x_get (v := .ref (aD G 2)) C0 G0 hW cM_0 (by decide) rfl 10 (by decide) inX9_search_X9 lkX9_search_13 rfl dX9_search_24 ?_
    refine lv_iconst (v := (2 : Int32)) C0.1 C0.2.1 dX9_search_27 (by decide) ?_
    obtain ⟨g25, h⟩ := gd_some h
    refine x_iald C0 G0 hW cM_2 (by decide) g25 dX9_search_28 ?_
    refine x_putI (v := (s24.1 2 ((2 : Int32)).toNatClampNeg)) C0 G0 hJ hW cM_0 (by decide) rfl 1 (by decide) inX9_search_X9 lkX9_search_97 tyX9 tyX9_ok nmX9 rfl rfl rfl (Nat.le_of_ble_eq_true rfl) hu_X9_1 dX9_search_29 (fun H locs hW => ?_)
    obtain ⟨s26, es26, h⟩ := lt_some h
    rw [es26] at hW
    refine lv_aload_n C0.1 C0.2.1 dX9_search_32 rfl (lv_at hl 0 rfl) ?_
    refine lv_aload_n C0.1 C0.2.1 dX9_search_33 rfl (lv_at hl 0 rfl) ?_
    refine x_get (v := .ref (aD G 2)) C0 G0 hW cM_0 (by decide) rfl 10 (by decide) inX9_search_X9 lkX9_search_13 rfl dX9_search_34 ?_
    refine lv_iconst (v := (3 : Int32)) C0.1 C0.2.1 dX9_search_37 (by decide) ?_
    obtain ⟨g27, h⟩ := gd_some h
    refine x_iald C0 G0 hW cM_2 (by decide) g27 dX9_search_38 ?_
    refine x_putI (v := (s26.1 2 ((3 : Int32)).toNatClampNeg)) C0 G0 hJ hW cM_0 (by decide) rfl 2 (by decide) inX9_search_X9 lkX9_search_100 tyX9 tyX9_ok nmX9 rfl rfl rfl (Nat.le_of_ble_eq_true rfl) hu_X9_2 dX9_search_39 (fun H locs hW => ?_)
    obtain ⟨s28, es28, h⟩ := lt_some h
    rw [es28] at hW
    refine lv_aload_n C0.1 C0.2.1 dX9_search_42 rfl (lv_at hl 0 rfl) ?_
    refine lv_aload_n C0.1 C0.2.1 dX9_search_43 rfl (lv_at hl 0 rfl) ?_
    refine x_get (v := .ref (aD G 2)) C0 G0 hW cM_0 (by decide) rfl 10 (by decide) inX9_search_X9 lkX9_search_13 rfl dX9_search_44 ?_
    refine lv_iconst (v := (4 : Int32)) C0.1 C0.2.1 dX9_search_47 (by decide) ?_
    obtain ⟨g29, h⟩ := gd_some h
    refine x_iald C0 G0 hW cM_2 (by decide) g29 dX9_search_48 ?_
    refine x_putI (v := (s28.1 2 ((4 : Int32)).toNatClampNeg)) C0 G0 hJ hW cM_0 (by decide) rfl 3 (by decide) inX9_search_X9 lkX9_search_103 tyX9 tyX9_ok nmX9 rfl rfl rfl (Nat.le_of_ble_eq_true rfl) hu_X9_3 dX9_search_49 (fun H locs hW => ?_)
    obtain ⟨s30, es30, h⟩ := lt_some h
    rw [es30] at hW
    refine lv_aload_n C0.1 C0.2.1 dX9_search_52 rfl (lv_at hl 0 rfl) ?_
    refine lv_aload_n C0.1 C0.2.1 dX9_search_53 rfl (lv_at hl 0 rfl) ?_
    refine x_get (v := .ref (aD G 2)) C0 G0 hW cM_0 (by decide) rfl 10 (by decide) inX9_search_X9 lkX9_search_13 rfl dX9_search_54 ?_
    refine lv_iconst (v := (5 : Int32)) C0.1 C0.2.1 dX9_search_57 (by decide) ?_
    obtain ⟨g31, h⟩ := gd_some h
    refine x_iald C0 G0 hW cM_2 (by decide) g31 dX9_search_58 ?_
    refine x_putI (v := (s30.1 2 ((5 : Int32)).toNatClampNeg)) C0 G0 hJ hW cM_0 (by decide) rfl 4 (by decide) inX9_search_X9 lkX9_search_106 tyX9 tyX9_ok nmX9 rfl rfl rfl (Nat.le_of_ble_eq_true rfl) hu_X9_4 dX9_search_59 (fun H locs hW => ?_)
    obtain ⟨s32, es32, h⟩ := lt_some h
    rw [es32] at hW
    refine lv_aload_n C0.1 C0.2.1 dX9_search_62 rfl (lv_at hl 0 rfl) ?_
    refine lv_aload_n C0.1 C0.2.1 dX9_search_63 rfl (lv_at hl 0 rfl) ?_
    refine x_get (v := .ref (aD G 2)) C0 G0 hW cM_0 (by decide) rfl 10 (by decide) inX9_search_X9 lkX9_search_13 rfl dX9_search_64 ?_
    refine lv_bipush (v := (6 : Int32)) C0.1 C0.2.1 dX9_search_67 (by decide) ?_
    obtain ⟨g33, h⟩ := gd_some h
    refine x_iald C0 G0 hW cM_2 (by decide) g33 dX9_search_69 ?_
    refine x_putI (v := (s32.1 2 ((6 : Int32)).toNatClampNeg)) C0 G0 hJ hW cM_0 (by decide) rfl 5 (by decide) inX9_search_X9 lkX9_search_48 tyX9 tyX9_ok nmX9 rfl rfl rfl (Nat.le_of_ble_eq_true rfl) hu_X9_5 dX9_search_70 (fun H locs hW => ?_)
    obtain ⟨s34, es34, h⟩ := lt_some h
    rw [es34] at hW
    refine lv_aload_n C0.1 C0.2.1 dX9_search_73 rfl (lv_at hl 0 rfl) ?_
    refine lv_aload_n C0.1 C0.2.1 dX9_search_74 rfl (lv_at hl 0 rfl) ?_
    refine x_get (v := .int (s34.1 0 12)) C0 G0 hW cM_0 (by decide) rfl 12 (by decide) inX9_search_X9 lkX9_search_69 rfl dX9_search_75 ?_
    refine x_putI (v := (s34.1 0 12)) C0 G0 hJ hW cM_0 (by decide) rfl 6 (by decide) inX9_search_X9 lkX9_search_109 tyX9 tyX9_ok nmX9 rfl rfl rfl (Nat.le_of_ble_eq_true rfl) hu_X9_6 dX9_search_78 (fun H locs hW => ?_)
    obtain ⟨s35, es35, h⟩ := lt_some h
    rw [es35] at hW
    refine lv_aload_n C0.1 C0.2.1 dX9_search_81 rfl (lv_at hl 0 rfl) ?_
    refine lv_aload_n C0.1 C0.2.1 dX9_search_82 rfl (lv_at hl 0 rfl) ?_
    refine x_get (v := .int (s35.1 0 12)) C0 G0 hW cM_0 (by decide) rfl 12 (by decide) inX9_search_X9 lkX9_search_69 rfl dX9_search_83 ?_
    refine lv_bipush (v := (-9 : Int32)) C0.1 C0.2.1 dX9_search_86 (by decide) ?_
    refine lv_icmp_eq (tgt := 95) C0.1 C0.2.1 dX9_search_88 (by decide) (fun c36 => ?_) (fun c36 => ?_)
    · rw [if_pos c36] at h
      refine lv_iconst (v := (0 : Int32)) C0.1 C0.2.1 dX9_search_95 (by decide) ?_
      exact wX9_search_96 C0 G0 hJ z s35 (0 : Int32) _ h hW (lv_sub hl [0] rfl)
    · rw [if_neg c36] at h
      refine lv_iconst (v := (1 : Int32)) C0.1 C0.2.1 dX9_search_91 (by decide) ?_
      refine lv_goto (tgt := 96) C0.1 C0.2.1 dX9_search_92 (by decide) ?_
      exact wX9_search_96 C0 G0 hJ z s35 (1 : Int32) _ h hW (lv_sub hl [0] rfl)
  · rw [if_neg c22] at h
    refine lv_bipush (v := (-3 : Int32)) C0.1 C0.2.1 dX9_search_9 (by decide) ?_
    cases h
    exact x_iret C0 hW dX9_search_11
theorem cX9_search_met (l : Launch) {G : GT} (hJ : gJ 13 G) (z : Nat) (σ : ST)  (res : (Int32 × ST)) (h : fX9_search z σ = some res) : Met l yX9_search wsX9_search rX9_search (XPc cellM 13 G σ [.ref (aD G 0)]) (XQi cellM 13 G res.1 res.2) 0 0 (gA 13 G) :=
  x_met (ret := (some .int)) (maxL := 2) (by decide) rfl (Nat.le_of_ble_eq_true rfl) (fun p e s m args below meth c H locs ls C0 G0 hW hl => wX9_search C0 G0 hJ z σ res h hW hl)
end
/-! X9_seed -/
def rX9_seed : Room := { frames := 0, cells := 0, slots := 0, locals := 0 }
theorem hdvX9_seed : yX9_seed.cls = RX9 ∧ yX9_seed.cls ≠ "java/lang/invoke/MethodHandle" ∧ yX9_seed.cls ≠ "java/lang/invoke/VarHandle" ∧ (parseMethodDescriptor yX9_seed.desc).map (fun d => d.parameters.length) = some 1 := by decide +kernel
theorem inX9_seed_X9 : ∀ w ∈ u_ws RX9 TX9 29, w ∈ wsX9_seed := by decide +kernel
theorem lkX9_seed_212 : Cond.fieldLink RX9 212 (TX9 25).1 (TX9 25).2.1 (TX9 25).2.2.1 ∈ wsX9_seed := by decide +kernel
def fX9_seed (z : Nat) (σ : ST) (v1 : Int64) : Option (Int64 × ST) := lt (pL σ 0 25 v1) (fun s21 => some ((σ.2 0 25), s21))
section
variable {p : Program} {l : Launch} {e : Env} {s : State} {m : MethodId} {args : Array Value} {below : List Frame} {meth : Method} {c : Code} {G : GT}
set_option maxHeartbeats 4000000 in
set_option maxRecDepth 100000 in
theorem wX9_seed (C0 : Cx p s m args meth c cX9_seed RX9 5 (some .long) wsX9_seed) (G0 : Gx G s) (hJ : gJ 13 G) (z : Nat) (σ : ST) (v1 : Int64) (res : (Int64 × ST)) (h : fX9_seed z σ v1 = some res)  {H : Heap} {locs : List Loc} {ls : Array Slot} (hW : Wd cellM 13 G s.heap σ H locs) (hl : lv_has ls 5 [(0, .ref (aD G 0)), (1, .long v1)]) : W p l e rX9_seed s m args below meth c H locs 0 0 (MQ below (XQl cellM 13 G res.1 res.2) args s 0 0 (gA 13 G)) (F0 m 0 ls []) := by
  unfold fX9_seed at h
  refine lv_aload_n C0.1 C0.2.1 dX9_seed_0 rfl (lv_at hl 0 rfl) ?_
  refine x_get (v := .long (σ.2 0 25)) C0 G0 hW cM_0 (by decide) rfl 25 (by decide) inX9_seed_X9 lkX9_seed_212 rfl dX9_seed_1 ?_
  refine lv_lstore_n (lv' := [(3, .long (σ.2 0 25)), (0, .ref (aD G 0)), (1, .long v1)]) C0.1 C0.2.1 dX9_seed_4 rfl hl (by decide) rfl (fun ls hl => ?_)
  refine lv_aload_n C0.1 C0.2.1 dX9_seed_5 rfl (lv_at hl 1 rfl) ?_
  refine lv_lload_n C0.1 C0.2.1 dX9_seed_6 rfl (lv_at hl 2 rfl) ?_
  refine x_putL (v := v1) C0 G0 hJ hW cM_0 (by decide) rfl 25 (by decide) inX9_seed_X9 lkX9_seed_212 tyX9 tyX9_ok nmX9 rfl rfl rfl (Nat.le_of_ble_eq_true rfl) hu_X9_25 dX9_seed_7 (fun H locs hW => ?_)
  obtain ⟨s21, es21, h⟩ := lt_some h
  rw [es21] at hW
  refine lv_lload_n C0.1 C0.2.1 dX9_seed_10 rfl (lv_at hl 0 rfl) ?_
  cases h
  exact x_lret C0 hW dX9_seed_11
theorem cX9_seed_met (l : Launch) {G : GT} (hJ : gJ 13 G) (z : Nat) (σ : ST) (v1 : Int64) (res : (Int64 × ST)) (h : fX9_seed z σ v1 = some res) : Met l yX9_seed wsX9_seed rX9_seed (XPc cellM 13 G σ [.ref (aD G 0), .long v1]) (XQl cellM 13 G res.1 res.2) 0 0 (gA 13 G) :=
  x_met (ret := (some .long)) (maxL := 5) (by decide) rfl (Nat.le_of_ble_eq_true rfl) (fun p e s m args below meth c H locs ls C0 G0 hW hl => wX9_seed C0 G0 hJ z σ v1 res h hW hl)
end
/-! X9_soon -/
def rX9_soon : Room := { frames := 4, cells := 0, slots := 0, locals := 102 }
theorem hdvX9_soon : yX9_soon.cls = RX9 ∧ yX9_soon.cls ≠ "java/lang/invoke/MethodHandle" ∧ yX9_soon.cls ≠ "java/lang/invoke/VarHandle" ∧ (parseMethodDescriptor yX9_soon.desc).map (fun d => d.parameters.length) = some 1 := by decide +kernel
theorem kcX9_soon_128 : Cond.constantLong RX9 128 (10 : Int64) ∈ wsX9_soon := by decide +kernel
def fX9_soon_75 (z : Nat) (σ : ST) : Option (Int32 × ST) := some ((-9 : Int32), σ)
def fX9_soon_30 (z : Nat) (v1 : Int32) : Nat → ST → Int32 → Option (Int32 × ST)
  | 0 => fun _ _ => none
  | n + 1 => fun σ v2 => (if (5 : Int32) ≤ v2 then fX9_soon_75 z σ else bd (fX9_canLook z σ v2) (fun u26 => (if u26 = 0 then fX9_soon_75 z σ else bd (fX9_bestBy z σ v2 (0 : Int32)) (fun u28 => bd (fX9_allTimes z u28.2 v2 (100 : Int32)) (fun u29 => gd (nzL (10 : Int64)) ( (if u28.1 < ((u29 / (10 : Int64)) * ((v1).toInt64)) then (fX9_soon_30 z v1 n) u28.2 (v2 + 1) else some (v2, u28.2))))))))
def fX9_soon (z : Nat) (σ : ST) (v1 : Int32) : Option (Int32 × ST) := bd (fX9_in z ((v1).toInt64) (1 : Int64) (10 : Int64)) (fun u21 => (if u21 = 0 then some ((-2 : Int32), σ) else bd (fX9_sumOf z σ (0 : Int32)) (fun u23 => (if u23 = (0 : Int64) then some ((-3 : Int32), σ) else fX9_soon_30 z v1 z σ (1 : Int32)))))
section
variable {p : Program} {l : Launch} {e : Env} {s : State} {m : MethodId} {args : Array Value} {below : List Frame} {meth : Method} {c : Code} {G : GT}
set_option maxHeartbeats 4000000 in
set_option maxRecDepth 100000 in
theorem wX9_soon_75 (C0 : Cx p s m args meth c cX9_soon RX9 3 (some .int) wsX9_soon) (G0 : Gx G s) (hJ : gJ 13 G) (z : Nat) (σ : ST) (res : (Int32 × ST)) (h : fX9_soon_75 z σ = some res)  {H : Heap} {locs : List Loc} {ls : Array Slot} (hW : Wd cellM 13 G s.heap σ H locs) (hl : lv_has ls 3 []) : W p l e rX9_soon s m args below meth c H locs 0 0 (MQ below (XQi cellM 13 G res.1 res.2) args s 0 0 (gA 13 G)) (F0 m 75 ls []) := by
  unfold fX9_soon_75 at h
  refine lv_bipush (v := (-9 : Int32)) C0.1 C0.2.1 dX9_soon_75 (by decide) ?_
  cases h
  exact x_iret C0 hW dX9_soon_77
set_option maxHeartbeats 4000000 in
set_option maxRecDepth 100000 in
theorem wX9_soon_30 (C0 : Cx p s m args meth c cX9_soon RX9 3 (some .int) wsX9_soon) (G0 : Gx G s) (hJ : gJ 13 G) (z : Nat) (v1 : Int32) (n : Nat) (σ : ST) (v2 : Int32) (res : (Int32 × ST)) (h : fX9_soon_30 z v1 n σ v2 = some res)  {H : Heap} {locs : List Loc} {ls : Array Slot} (hW : Wd cellM 13 G s.heap σ H locs) (hl : lv_has ls 3 [(0, .ref (aD G 0)), (1, .int v1), (2, .int v2)]) : W p l e rX9_soon s m args below meth c H locs 0 0 (MQ below (XQi cellM 13 G res.1 res.2) args s 0 0 (gA 13 G)) (F0 m 30 ls []) := by
  induction n generalizing σ v2 H locs ls with
  | zero => cases h
  | succ n ih =>
    have hr30 : ∀ (σ : ST) (v2 : Int32), fX9_soon_30 z v1 n σ v2 = some res → ∀ (H : Heap) (locs : List Loc) (ls : Array Slot), Wd cellM 13 G s.heap σ H locs → lv_has ls 3 [(0, .ref (aD G 0)), (1, .int v1), (2, .int v2)] → W p l e rX9_soon s m args below meth c H locs 0 0 (MQ below (XQi cellM 13 G res.1 res.2) args s 0 0 (gA 13 G)) (F0 m 30 ls []) := fun σ v2 h H locs ls hW hl => ih σ v2 h hW hl
    clear ih
    unfold fX9_soon_30 at h
    refine lv_iload_n C0.1 C0.2.1 dX9_soon_30 rfl (lv_at hl 2 rfl) ?_
    refine lv_iconst (v := (5 : Int32)) C0.1 C0.2.1 dX9_soon_31 (by decide) ?_
    refine lv_icmp_ge (tgt := 75) C0.1 C0.2.1 dX9_soon_32 (by decide) (fun c25 => ?_) (fun c25 => ?_)
    · rw [if_pos c25] at h
      exact wX9_soon_75 C0 G0 hJ z σ _ h hW (lv_sub hl [] rfl)
    · rw [if_neg c25] at h
      refine lv_aload_n C0.1 C0.2.1 dX9_soon_35 rfl (lv_at hl 0 rfl) ?_
      refine lv_iload_n C0.1 C0.2.1 dX9_soon_36 rfl (lv_at hl 2 rfl) ?_
      obtain ⟨u26, hu26, h⟩ := bd_some h
      refine x_ki (r := u26) (x_runV (As := [.int v2]) (rest := []) C0 G0 hW (cX9_canLook_met l hJ z σ v2 _ hu26) (cwV 1 C0.2.2.2.1 gX9_soon_X9_canLook rfl rfl rfl hdvX9_canLook ⟨Nat.le_of_ble_eq_true rfl, Nat.le_of_ble_eq_true rfl⟩) cM_0 (by decide) rfl rfl rfl hl (Nat.le_of_ble_eq_true rfl) dX9_soon_37 ⟨Nat.le_refl 0, Nat.le_refl 0⟩) hW (fun H locs hW => ?_)
      refine lv_if_eq (tgt := 75) C0.1 C0.2.1 dX9_soon_40 (by decide) (fun c27 => ?_) (fun c27 => ?_)
      · rw [if_pos c27] at h
        exact wX9_soon_75 C0 G0 hJ z σ _ h hW (lv_sub hl [] rfl)
      · rw [if_neg c27] at h
        refine lv_aload_n C0.1 C0.2.1 dX9_soon_43 rfl (lv_at hl 0 rfl) ?_
        refine lv_iload_n C0.1 C0.2.1 dX9_soon_44 rfl (lv_at hl 2 rfl) ?_
        refine lv_iconst (v := (0 : Int32)) C0.1 C0.2.1 dX9_soon_45 (by decide) ?_
        obtain ⟨u28, hu28, h⟩ := bd_some h
        refine x_kl (r := u28.1) (x_runV (As := [.int v2, .int (0 : Int32)]) (rest := []) C0 G0 hW (cX9_bestBy_met l hJ z σ v2 (0 : Int32) _ hu28) (cwV 2 C0.2.2.2.1 gX9_soon_X9_bestBy rfl rfl rfl hdvX9_bestBy ⟨Nat.le_of_ble_eq_true rfl, Nat.le_of_ble_eq_true rfl⟩) cM_0 (by decide) rfl rfl rfl hl (Nat.le_of_ble_eq_true rfl) dX9_soon_46 ⟨Nat.le_refl 0, Nat.le_refl 0⟩) hW (fun H locs hW => ?_)
        refine lv_aload_n C0.1 C0.2.1 dX9_soon_49 rfl (lv_at hl 0 rfl) ?_
        refine lv_iload_n C0.1 C0.2.1 dX9_soon_50 rfl (lv_at hl 2 rfl) ?_
        refine lv_bipush (v := (100 : Int32)) C0.1 C0.2.1 dX9_soon_51 (by decide) ?_
        obtain ⟨u29, hu29, h⟩ := bd_some h
        refine x_kl (r := u29) (x_runV (As := [.int v2, .int (100 : Int32)]) (rest := [.long u28.1]) C0 G0 hW (cX9_allTimes_met l hJ z u28.2 v2 (100 : Int32) _ hu29) (cwV 2 C0.2.2.2.1 gX9_soon_X9_allTimes rfl rfl rfl hdvX9_allTimes ⟨Nat.le_of_ble_eq_true rfl, Nat.le_of_ble_eq_true rfl⟩) cM_0 (by decide) rfl rfl rfl hl (Nat.le_of_ble_eq_true rfl) dX9_soon_53 ⟨Nat.le_refl 0, Nat.le_refl 0⟩) hW (fun H locs hW => ?_)
        refine lv_ldc2 (v := (10 : Int64)) C0.1 C0.2.1 C0.2.2.2.2.1 (C0.2.2.2.1 _ kcX9_soon_128) dX9_soon_56 ?_
        obtain ⟨g30, h⟩ := gd_some h
        refine lv_ldiv C0.1 C0.2.1 dX9_soon_59 (nzL_of g30) ?_
        refine lv_iload_n C0.1 C0.2.1 dX9_soon_60 rfl (lv_at hl 1 rfl) ?_
        refine lv_i2l (v := ((v1).toInt64)) C0.1 C0.2.1 dX9_soon_61 rfl ?_
        refine lv_lmul C0.1 C0.2.1 dX9_soon_62 ?_
        refine x_lc_lt (tgt := 69) C0 dX9_soon_63 dX9_soon_64 (by decide) (fun c31 => ?_) (fun c31 => ?_)
        · rw [if_pos c31] at h
          refine lv_iinc (v := (v2 + 1)) (lv' := [(2, .int (v2 + 1)), (0, .ref (aD G 0)), (1, .int v1)]) C0.1 C0.2.1 dX9_soon_69 hl (k := 2) rfl rfl (by decide) rfl (fun ls hl => ?_)
          refine lv_goto (tgt := 30) C0.1 C0.2.1 dX9_soon_72 (by decide) ?_
          exact hr30 u28.2 (v2 + 1) h _ _ _ hW (lv_sub hl [1, 2, 0] rfl)
        · rw [if_neg c31] at h
          refine lv_iload_n C0.1 C0.2.1 dX9_soon_67 rfl (lv_at hl 2 rfl) ?_
          cases h
          exact x_iret C0 hW dX9_soon_68
set_option maxHeartbeats 4000000 in
set_option maxRecDepth 100000 in
theorem wX9_soon (C0 : Cx p s m args meth c cX9_soon RX9 3 (some .int) wsX9_soon) (G0 : Gx G s) (hJ : gJ 13 G) (z : Nat) (σ : ST) (v1 : Int32) (res : (Int32 × ST)) (h : fX9_soon z σ v1 = some res)  {H : Heap} {locs : List Loc} {ls : Array Slot} (hW : Wd cellM 13 G s.heap σ H locs) (hl : lv_has ls 3 [(0, .ref (aD G 0)), (1, .int v1)]) : W p l e rX9_soon s m args below meth c H locs 0 0 (MQ below (XQi cellM 13 G res.1 res.2) args s 0 0 (gA 13 G)) (F0 m 0 ls []) := by
  unfold fX9_soon at h
  refine lv_iload_n C0.1 C0.2.1 dX9_soon_0 rfl (lv_at hl 1 rfl) ?_
  refine lv_i2l (v := ((v1).toInt64)) C0.1 C0.2.1 dX9_soon_1 rfl ?_
  refine lv_lconst (v := (1 : Int64)) C0.1 C0.2.1 dX9_soon_2 (by decide) ?_
  refine lv_ldc2 (v := (10 : Int64)) C0.1 C0.2.1 C0.2.2.2.2.1 (C0.2.2.2.1 _ kcX9_soon_128) dX9_soon_3 ?_
  obtain ⟨u21, hu21, h⟩ := bd_some h
  refine x_ki (r := u21) (x_runS (As := [.long ((v1).toInt64), .long (1 : Int64), .long (10 : Int64)]) (rest := []) C0 G0 hW (cX9_in_met l hJ z σ ((v1).toInt64) (1 : Int64) (10 : Int64) _ hu21) (va_cwS 3 C0.2.2.2.1 gX9_soon_X9_in rfl rfl rfl hdsX9_in ⟨Nat.le_of_ble_eq_true rfl, Nat.le_of_ble_eq_true rfl⟩) rfl rfl hl (Nat.le_of_ble_eq_true rfl) dX9_soon_6 ⟨Nat.le_refl 0, Nat.le_refl 0⟩) hW (fun H locs hW => ?_)
  refine lv_if_ne (tgt := 15) C0.1 C0.2.1 dX9_soon_9 (by decide) (fun c22 => ?_) (fun c22 => ?_)
  · rw [if_neg c22] at h
    refine lv_aload_n C0.1 C0.2.1 dX9_soon_15 rfl (lv_at hl 0 rfl) ?_
    refine lv_iconst (v := (0 : Int32)) C0.1 C0.2.1 dX9_soon_16 (by decide) ?_
    obtain ⟨u23, hu23, h⟩ := bd_some h
    refine x_kl (r := u23) (x_runV (As := [.int (0 : Int32)]) (rest := []) C0 G0 hW (cX9_sumOf_met l hJ z σ (0 : Int32) _ hu23) (cwV 1 C0.2.2.2.1 gX9_soon_X9_sumOf rfl rfl rfl hdvX9_sumOf ⟨Nat.le_of_ble_eq_true rfl, Nat.le_of_ble_eq_true rfl⟩) cM_0 (by decide) rfl rfl rfl hl (Nat.le_of_ble_eq_true rfl) dX9_soon_17 ⟨Nat.le_refl 0, Nat.le_refl 0⟩) hW (fun H locs hW => ?_)
    refine lv_lconst (v := (0 : Int64)) C0.1 C0.2.1 dX9_soon_20 (by decide) ?_
    refine x_lc_ne (tgt := 28) C0 dX9_soon_21 dX9_soon_22 (by decide) (fun c24 => ?_) (fun c24 => ?_)
    · rw [if_neg c24] at h
      refine lv_iconst (v := (1 : Int32)) C0.1 C0.2.1 dX9_soon_28 (by decide) ?_
      refine lv_istore_n (lv' := [(2, .int (1 : Int32)), (0, .ref (aD G 0)), (1, .int v1)]) C0.1 C0.2.1 dX9_soon_29 rfl hl (by decide) rfl (fun ls hl => ?_)
      exact wX9_soon_30 C0 G0 hJ z v1 z σ (1 : Int32) _ h hW (lv_sub hl [1, 2, 0] rfl)
    · rw [if_pos c24] at h
      refine lv_bipush (v := (-3 : Int32)) C0.1 C0.2.1 dX9_soon_25 (by decide) ?_
      cases h
      exact x_iret C0 hW dX9_soon_27
  · rw [if_pos c22] at h
    refine lv_bipush (v := (-2 : Int32)) C0.1 C0.2.1 dX9_soon_12 (by decide) ?_
    cases h
    exact x_iret C0 hW dX9_soon_14
theorem cX9_soon_met (l : Launch) {G : GT} (hJ : gJ 13 G) (z : Nat) (σ : ST) (v1 : Int32) (res : (Int32 × ST)) (h : fX9_soon z σ v1 = some res) : Met l yX9_soon wsX9_soon rX9_soon (XPc cellM 13 G σ [.ref (aD G 0), .int v1]) (XQi cellM 13 G res.1 res.2) 0 0 (gA 13 G) :=
  x_met (ret := (some .int)) (maxL := 3) (by decide) rfl (Nat.le_of_ble_eq_true rfl) (fun p e s m args below meth c H locs ls C0 G0 hW hl => wX9_soon C0 G0 hJ z σ v1 res h hW hl)
end
/-! X9_trials -/
def rX9_trials : Room := { frames := 2, cells := 0, slots := 0, locals := 51 }
theorem hdvX9_trials : yX9_trials.cls = RX9 ∧ yX9_trials.cls ≠ "java/lang/invoke/MethodHandle" ∧ yX9_trials.cls ≠ "java/lang/invoke/VarHandle" ∧ (parseMethodDescriptor yX9_trials.desc).map (fun d => d.parameters.length) = some 3 := by decide +kernel
theorem kcX9_trials_223 : Cond.constantLong RX9 223 (30 : Int64) ∈ wsX9_trials := by decide +kernel
def fX9_trials_67 (z : Nat) (σ : ST) (v4 : Int32) : Option (Int32 × ST) := some (v4, σ)
def fX9_trials_58 (z : Nat) (r29 : ST → Int32 → Int32 → Option (Int32 × ST)) (σ : ST) (v1 : Int32) (v2 : Int32) (v3 : Int32) (v5 : Int32) (t0 : Int32) (t1 : Int32) : Option (Int32 × ST) := r29 σ (t1 + t0) (v5 + 1)
def fX9_trials_29 (z : Nat) (v1 : Int32) (v2 : Int32) (v3 : Int32) : Nat → ST → Int32 → Int32 → Option (Int32 × ST)
  | 0 => fun _ _ _ => none
  | n + 1 => fun σ v4 v5 => (if v1 ≤ v5 then fX9_trials_67 z σ v4 else bd (fX9_allParts z σ) (fun u26 => (if u26 ≤ 0 then fX9_trials_67 z σ v4 else bd (fX9_isFound z σ v2 v3) (fun u28 => (if u28.1 = 0 then fX9_trials_58 z (fX9_trials_29 z v1 v2 v3 n) u28.2 v1 v2 v3 v5 (0 : Int32) v4 else fX9_trials_58 z (fX9_trials_29 z v1 v2 v3 n) u28.2 v1 v2 v3 v5 (1 : Int32) v4)))))
def fX9_trials_20 (z : Nat) (σ : ST) : Option (Int32 × ST) := some ((-2 : Int32), σ)
def fX9_trials (z : Nat) (σ : ST) (v1 : Int32) (v2 : Int32) (v3 : Int32) : Option (Int32 × ST) := bd (fX9_in z ((v1).toInt64) (1 : Int64) (30 : Int64)) (fun u21 => (if u21 = 0 then fX9_trials_20 z σ else bd (fX9_isRow z v2 v3) (fun u23 => (if u23 = 0 then fX9_trials_20 z σ else fX9_trials_29 z v1 v2 v3 z σ (0 : Int32) (0 : Int32)))))
section
variable {p : Program} {l : Launch} {e : Env} {s : State} {m : MethodId} {args : Array Value} {below : List Frame} {meth : Method} {c : Code} {G : GT}
set_option maxHeartbeats 4000000 in
set_option maxRecDepth 100000 in
theorem wX9_trials_67 (C0 : Cx p s m args meth c cX9_trials RX9 6 (some .int) wsX9_trials) (G0 : Gx G s) (hJ : gJ 13 G) (z : Nat) (σ : ST) (v4 : Int32) (res : (Int32 × ST)) (h : fX9_trials_67 z σ v4 = some res)  {H : Heap} {locs : List Loc} {ls : Array Slot} (hW : Wd cellM 13 G s.heap σ H locs) (hl : lv_has ls 6 [(4, .int v4)]) : W p l e rX9_trials s m args below meth c H locs 0 0 (MQ below (XQi cellM 13 G res.1 res.2) args s 0 0 (gA 13 G)) (F0 m 67 ls []) := by
  unfold fX9_trials_67 at h
  refine lv_iload C0.1 C0.2.1 dX9_trials_67 (lv_at hl 0 rfl) ?_
  cases h
  exact x_iret C0 hW dX9_trials_69
set_option maxHeartbeats 4000000 in
set_option maxRecDepth 100000 in
theorem wX9_trials_58 (C0 : Cx p s m args meth c cX9_trials RX9 6 (some .int) wsX9_trials) (G0 : Gx G s) (hJ : gJ 13 G) (z : Nat) (r29 : ST → Int32 → Int32 → Option (Int32 × ST)) (σ : ST) (v1 : Int32) (v2 : Int32) (v3 : Int32) (v5 : Int32) (t0 : Int32) (t1 : Int32) (res : (Int32 × ST)) (h : fX9_trials_58 z r29 σ v1 v2 v3 v5 t0 t1 = some res) (hr29 : ∀ (σ : ST) (v4 : Int32) (v5 : Int32), r29 σ v4 v5 = some res → ∀ (H : Heap) (locs : List Loc) (ls : Array Slot), Wd cellM 13 G s.heap σ H locs → lv_has ls 6 [(0, .ref (aD G 0)), (1, .int v1), (2, .int v2), (3, .int v3), (4, .int v4), (5, .int v5)] → W p l e rX9_trials s m args below meth c H locs 0 0 (MQ below (XQi cellM 13 G res.1 res.2) args s 0 0 (gA 13 G)) (F0 m 29 ls [])) {H : Heap} {locs : List Loc} {ls : Array Slot} (hW : Wd cellM 13 G s.heap σ H locs) (hl : lv_has ls 6 [(0, .ref (aD G 0)), (1, .int v1), (2, .int v2), (3, .int v3), (5, .int v5)]) : W p l e rX9_trials s m args below meth c H locs 0 0 (MQ below (XQi cellM 13 G res.1 res.2) args s 0 0 (gA 13 G)) (F0 m 58 ls [.int t0, .int t1]) := by
  unfold fX9_trials_58 at h
  refine lv_iadd C0.1 C0.2.1 dX9_trials_58 ?_
  refine lv_istore (lv' := [(4, .int (t1 + t0)), (0, .ref (aD G 0)), (1, .int v1), (2, .int v2), (3, .int v3), (5, .int v5)]) C0.1 C0.2.1 dX9_trials_59 hl (by decide) rfl (fun ls hl => ?_)
  refine lv_iinc (v := (v5 + 1)) (lv' := [(5, .int (v5 + 1)), (4, .int (t1 + t0)), (0, .ref (aD G 0)), (1, .int v1), (2, .int v2), (3, .int v3)]) C0.1 C0.2.1 dX9_trials_61 hl (k := 5) rfl rfl (by decide) rfl (fun ls hl => ?_)
  refine lv_goto (tgt := 29) C0.1 C0.2.1 dX9_trials_64 (by decide) ?_
  exact hr29 σ (t1 + t0) (v5 + 1) h _ _ _ hW (lv_sub hl [2, 3, 4, 5, 1, 0] rfl)
set_option maxHeartbeats 4000000 in
set_option maxRecDepth 100000 in
theorem wX9_trials_29 (C0 : Cx p s m args meth c cX9_trials RX9 6 (some .int) wsX9_trials) (G0 : Gx G s) (hJ : gJ 13 G) (z : Nat) (v1 : Int32) (v2 : Int32) (v3 : Int32) (n : Nat) (σ : ST) (v4 : Int32) (v5 : Int32) (res : (Int32 × ST)) (h : fX9_trials_29 z v1 v2 v3 n σ v4 v5 = some res)  {H : Heap} {locs : List Loc} {ls : Array Slot} (hW : Wd cellM 13 G s.heap σ H locs) (hl : lv_has ls 6 [(0, .ref (aD G 0)), (1, .int v1), (2, .int v2), (3, .int v3), (4, .int v4), (5, .int v5)]) : W p l e rX9_trials s m args below meth c H locs 0 0 (MQ below (XQi cellM 13 G res.1 res.2) args s 0 0 (gA 13 G)) (F0 m 29 ls []) := by
  induction n generalizing σ v4 v5 H locs ls with
  | zero => cases h
  | succ n ih =>
    have hr29 : ∀ (σ : ST) (v4 : Int32) (v5 : Int32), fX9_trials_29 z v1 v2 v3 n σ v4 v5 = some res → ∀ (H : Heap) (locs : List Loc) (ls : Array Slot), Wd cellM 13 G s.heap σ H locs → lv_has ls 6 [(0, .ref (aD G 0)), (1, .int v1), (2, .int v2), (3, .int v3), (4, .int v4), (5, .int v5)] → W p l e rX9_trials s m args below meth c H locs 0 0 (MQ below (XQi cellM 13 G res.1 res.2) args s 0 0 (gA 13 G)) (F0 m 29 ls []) := fun σ v4 v5 h H locs ls hW hl => ih σ v4 v5 h hW hl
    clear ih
    unfold fX9_trials_29 at h
    refine lv_iload C0.1 C0.2.1 dX9_trials_29 (lv_at hl 5 rfl) ?_
    refine lv_iload_n C0.1 C0.2.1 dX9_trials_31 rfl (lv_at hl 1 rfl) ?_
    refine lv_icmp_ge (tgt := 67) C0.1 C0.2.1 dX9_trials_32 (by decide) (fun c25 => ?_) (fun c25 => ?_)
    · rw [if_pos c25] at h
      exact wX9_trials_67 C0 G0 hJ z σ v4 _ h hW (lv_sub hl [4] rfl)
    · rw [if_neg c25] at h
      refine lv_aload_n C0.1 C0.2.1 dX9_trials_35 rfl (lv_at hl 0 rfl) ?_
      obtain ⟨u26, hu26, h⟩ := bd_some h
      refine x_ki (r := u26) (x_runV (As := []) (rest := []) C0 G0 hW (cX9_allParts_met l hJ z σ _ hu26) (cwV 0 C0.2.2.2.1 gX9_trials_X9_allParts rfl rfl rfl hdvX9_allParts ⟨Nat.le_of_ble_eq_true rfl, Nat.le_of_ble_eq_true rfl⟩) cM_0 (by decide) rfl rfl rfl hl (Nat.le_of_ble_eq_true rfl) dX9_trials_36 ⟨Nat.le_refl 0, Nat.le_refl 0⟩) hW (fun H locs hW => ?_)
      refine lv_if_le (tgt := 67) C0.1 C0.2.1 dX9_trials_39 (by decide) (fun c27 => ?_) (fun c27 => ?_)
      · rw [if_pos c27] at h
        exact wX9_trials_67 C0 G0 hJ z σ v4 _ h hW (lv_sub hl [4] rfl)
      · rw [if_neg c27] at h
        refine lv_iload C0.1 C0.2.1 dX9_trials_42 (lv_at hl 4 rfl) ?_
        refine lv_aload_n C0.1 C0.2.1 dX9_trials_44 rfl (lv_at hl 0 rfl) ?_
        refine lv_iload_n C0.1 C0.2.1 dX9_trials_45 rfl (lv_at hl 2 rfl) ?_
        refine lv_iload_n C0.1 C0.2.1 dX9_trials_46 rfl (lv_at hl 3 rfl) ?_
        obtain ⟨u28, hu28, h⟩ := bd_some h
        refine x_ki (r := u28.1) (x_runV (As := [.int v2, .int v3]) (rest := [.int v4]) C0 G0 hW (cX9_isFound_met l hJ z σ v2 v3 _ hu28) (cwV 2 C0.2.2.2.1 gX9_trials_X9_isFound rfl rfl rfl hdvX9_isFound ⟨Nat.le_of_ble_eq_true rfl, Nat.le_of_ble_eq_true rfl⟩) cM_0 (by decide) rfl rfl rfl hl (Nat.le_of_ble_eq_true rfl) dX9_trials_47 ⟨Nat.le_refl 0, Nat.le_refl 0⟩) hW (fun H locs hW => ?_)
        refine lv_if_eq (tgt := 57) C0.1 C0.2.1 dX9_trials_50 (by decide) (fun c29 => ?_) (fun c29 => ?_)
        · rw [if_pos c29] at h
          refine lv_iconst (v := (0 : Int32)) C0.1 C0.2.1 dX9_trials_57 (by decide) ?_
          exact wX9_trials_58 C0 G0 hJ z (fX9_trials_29 z v1 v2 v3 n) u28.2 v1 v2 v3 v5 (0 : Int32) v4 _ h (by exact hr29) hW (lv_sub hl [0, 1, 2, 3, 5] rfl)
        · rw [if_neg c29] at h
          refine lv_iconst (v := (1 : Int32)) C0.1 C0.2.1 dX9_trials_53 (by decide) ?_
          refine lv_goto (tgt := 58) C0.1 C0.2.1 dX9_trials_54 (by decide) ?_
          exact wX9_trials_58 C0 G0 hJ z (fX9_trials_29 z v1 v2 v3 n) u28.2 v1 v2 v3 v5 (1 : Int32) v4 _ h (by exact hr29) hW (lv_sub hl [0, 1, 2, 3, 5] rfl)
set_option maxHeartbeats 4000000 in
set_option maxRecDepth 100000 in
theorem wX9_trials_20 (C0 : Cx p s m args meth c cX9_trials RX9 6 (some .int) wsX9_trials) (G0 : Gx G s) (hJ : gJ 13 G) (z : Nat) (σ : ST) (res : (Int32 × ST)) (h : fX9_trials_20 z σ = some res)  {H : Heap} {locs : List Loc} {ls : Array Slot} (hW : Wd cellM 13 G s.heap σ H locs) (hl : lv_has ls 6 []) : W p l e rX9_trials s m args below meth c H locs 0 0 (MQ below (XQi cellM 13 G res.1 res.2) args s 0 0 (gA 13 G)) (F0 m 20 ls []) := by
  unfold fX9_trials_20 at h
  refine lv_bipush (v := (-2 : Int32)) C0.1 C0.2.1 dX9_trials_20 (by decide) ?_
  cases h
  exact x_iret C0 hW dX9_trials_22
set_option maxHeartbeats 4000000 in
set_option maxRecDepth 100000 in
theorem wX9_trials (C0 : Cx p s m args meth c cX9_trials RX9 6 (some .int) wsX9_trials) (G0 : Gx G s) (hJ : gJ 13 G) (z : Nat) (σ : ST) (v1 : Int32) (v2 : Int32) (v3 : Int32) (res : (Int32 × ST)) (h : fX9_trials z σ v1 v2 v3 = some res)  {H : Heap} {locs : List Loc} {ls : Array Slot} (hW : Wd cellM 13 G s.heap σ H locs) (hl : lv_has ls 6 [(0, .ref (aD G 0)), (1, .int v1), (2, .int v2), (3, .int v3)]) : W p l e rX9_trials s m args below meth c H locs 0 0 (MQ below (XQi cellM 13 G res.1 res.2) args s 0 0 (gA 13 G)) (F0 m 0 ls []) := by
  unfold fX9_trials at h
  refine lv_iload_n C0.1 C0.2.1 dX9_trials_0 rfl (lv_at hl 1 rfl) ?_
  refine lv_i2l (v := ((v1).toInt64)) C0.1 C0.2.1 dX9_trials_1 rfl ?_
  refine lv_lconst (v := (1 : Int64)) C0.1 C0.2.1 dX9_trials_2 (by decide) ?_
  refine lv_ldc2 (v := (30 : Int64)) C0.1 C0.2.1 C0.2.2.2.2.1 (C0.2.2.2.1 _ kcX9_trials_223) dX9_trials_3 ?_
  obtain ⟨u21, hu21, h⟩ := bd_some h
  refine x_ki (r := u21) (x_runS (As := [.long ((v1).toInt64), .long (1 : Int64), .long (30 : Int64)]) (rest := []) C0 G0 hW (cX9_in_met l hJ z σ ((v1).toInt64) (1 : Int64) (30 : Int64) _ hu21) (va_cwS 3 C0.2.2.2.1 gX9_trials_X9_in rfl rfl rfl hdsX9_in ⟨Nat.le_of_ble_eq_true rfl, Nat.le_of_ble_eq_true rfl⟩) rfl rfl hl (Nat.le_of_ble_eq_true rfl) dX9_trials_6 ⟨Nat.le_refl 0, Nat.le_refl 0⟩) hW (fun H locs hW => ?_)
  refine lv_if_eq (tgt := 20) C0.1 C0.2.1 dX9_trials_9 (by decide) (fun c22 => ?_) (fun c22 => ?_)
  · rw [if_pos c22] at h
    exact wX9_trials_20 C0 G0 hJ z σ _ h hW (lv_sub hl [] rfl)
  · rw [if_neg c22] at h
    refine lv_iload_n C0.1 C0.2.1 dX9_trials_12 rfl (lv_at hl 2 rfl) ?_
    refine lv_iload_n C0.1 C0.2.1 dX9_trials_13 rfl (lv_at hl 3 rfl) ?_
    obtain ⟨u23, hu23, h⟩ := bd_some h
    refine x_ki (r := u23) (x_runS (As := [.int v2, .int v3]) (rest := []) C0 G0 hW (cX9_isRow_met l hJ z σ v2 v3 _ hu23) (va_cwS 2 C0.2.2.2.1 gX9_trials_X9_isRow rfl rfl rfl hdsX9_isRow ⟨Nat.le_of_ble_eq_true rfl, Nat.le_of_ble_eq_true rfl⟩) rfl rfl hl (Nat.le_of_ble_eq_true rfl) dX9_trials_14 ⟨Nat.le_refl 0, Nat.le_refl 0⟩) hW (fun H locs hW => ?_)
    refine lv_if_ne (tgt := 23) C0.1 C0.2.1 dX9_trials_17 (by decide) (fun c24 => ?_) (fun c24 => ?_)
    · rw [if_neg c24] at h
      refine lv_iconst (v := (0 : Int32)) C0.1 C0.2.1 dX9_trials_23 (by decide) ?_
      refine lv_istore (lv' := [(4, .int (0 : Int32)), (0, .ref (aD G 0)), (1, .int v1), (2, .int v2), (3, .int v3)]) C0.1 C0.2.1 dX9_trials_24 hl (by decide) rfl (fun ls hl => ?_)
      refine lv_iconst (v := (0 : Int32)) C0.1 C0.2.1 dX9_trials_26 (by decide) ?_
      refine lv_istore (lv' := [(5, .int (0 : Int32)), (4, .int (0 : Int32)), (0, .ref (aD G 0)), (1, .int v1), (2, .int v2), (3, .int v3)]) C0.1 C0.2.1 dX9_trials_27 hl (by decide) rfl (fun ls hl => ?_)
      exact wX9_trials_29 C0 G0 hJ z v1 v2 v3 z σ (0 : Int32) (0 : Int32) _ h hW (lv_sub hl [2, 3, 4, 5, 1, 0] rfl)
    · rw [if_pos c24] at h
      exact wX9_trials_20 C0 G0 hJ z σ _ h hW (lv_sub hl [] rfl)
theorem cX9_trials_met (l : Launch) {G : GT} (hJ : gJ 13 G) (z : Nat) (σ : ST) (v1 : Int32) (v2 : Int32) (v3 : Int32) (res : (Int32 × ST)) (h : fX9_trials z σ v1 v2 v3 = some res) : Met l yX9_trials wsX9_trials rX9_trials (XPc cellM 13 G σ [.ref (aD G 0), .int v1, .int v2, .int v3]) (XQi cellM 13 G res.1 res.2) 0 0 (gA 13 G) :=
  x_met (ret := (some .int)) (maxL := 6) (by decide) rfl (Nat.le_of_ble_eq_true rfl) (fun p e s m args below meth c H locs ls C0 G0 hW hl => wX9_trials C0 G0 hJ z σ v1 v2 v3 res h hW hl)
end
/-! X9_trust -/
def rX9_trust : Room := { frames := 2, cells := 0, slots := 0, locals := 55 }
theorem hdvX9_trust : yX9_trust.cls = RX9 ∧ yX9_trust.cls ≠ "java/lang/invoke/MethodHandle" ∧ yX9_trust.cls ≠ "java/lang/invoke/VarHandle" ∧ (parseMethodDescriptor yX9_trust.desc).map (fun d => d.parameters.length) = some 4 := by decide +kernel
theorem inX9_trust_X9 : ∀ w ∈ u_ws RX9 TX9 29, w ∈ wsX9_trust := by decide +kernel
theorem lkX9_trust_7 : Cond.fieldLink RX9 7 (TX9 9).1 (TX9 9).2.1 (TX9 9).2.2.1 ∈ wsX9_trust := by decide +kernel
theorem kcX9_trust_155 : Cond.constantLong RX9 155 (-3 : Int64) ∈ wsX9_trust := by decide +kernel
theorem kcX9_trust_149 : Cond.constantLong RX9 149 (-2 : Int64) ∈ wsX9_trust := by decide +kernel
def fX9_trust (z : Nat) (σ : ST) (v1 : Int32) (v2 : Int32) (v3 : Int32) (v4 : Int32) : Option Int64 := bd (fX9_isWitness z v1 v2 v3) (fun u21 => (if u21 = 0 then some (-2 : Int64) else bd (fX9_allParts z σ) (fun u23 => (if u23 = 0 then some (-3 : Int64) else bd (fX9_partsIn z σ v1 v2) (fun u25 => bd (fX9_partsIn z σ (0 : Int32) (9 : Int32)) (fun u26 => bd (fX9_partsIn z σ v1 v2) (fun u27 => gd (inb (10 : Int32) 11) ( bd (fX9_part z (((u25 * v3)).toInt64) (((((u25 * v3) + ((u26 - u27) * ((10 : Int32) - v3))) + ((5 : Int32) * (σ.1 1 ((10 : Int32)).toNatClampNeg)))).toInt64) v4) (fun u29 => some u29)))))))))
section
variable {p : Program} {l : Launch} {e : Env} {s : State} {m : MethodId} {args : Array Value} {below : List Frame} {meth : Method} {c : Code} {G : GT}
set_option maxHeartbeats 4000000 in
set_option maxRecDepth 100000 in
theorem wX9_trust (C0 : Cx p s m args meth c cX9_trust RX9 7 (some .long) wsX9_trust) (G0 : Gx G s) (hJ : gJ 13 G) (z : Nat) (σ : ST) (v1 : Int32) (v2 : Int32) (v3 : Int32) (v4 : Int32) (res : Int64) (h : fX9_trust z σ v1 v2 v3 v4 = some res)  {H : Heap} {locs : List Loc} {ls : Array Slot} (hW : Wd cellM 13 G s.heap σ H locs) (hl : lv_has ls 7 [(0, .ref (aD G 0)), (1, .int v1), (2, .int v2), (3, .int v3), (4, .int v4)]) : W p l e rX9_trust s m args below meth c H locs 0 0 (MQ below (XQl cellM 13 G res σ) args s 0 0 (gA 13 G)) (F0 m 0 ls []) := by
  unfold fX9_trust at h
  refine lv_iload_n C0.1 C0.2.1 dX9_trust_0 rfl (lv_at hl 1 rfl) ?_
  refine lv_iload_n C0.1 C0.2.1 dX9_trust_1 rfl (lv_at hl 2 rfl) ?_
  refine lv_iload_n C0.1 C0.2.1 dX9_trust_2 rfl (lv_at hl 3 rfl) ?_
  obtain ⟨u21, hu21, h⟩ := bd_some h
  refine x_ki (r := u21) (x_runS (As := [.int v1, .int v2, .int v3]) (rest := []) C0 G0 hW (cX9_isWitness_met l hJ z σ v1 v2 v3 _ hu21) (va_cwS 3 C0.2.2.2.1 gX9_trust_X9_isWitness rfl rfl rfl hdsX9_isWitness ⟨Nat.le_of_ble_eq_true rfl, Nat.le_of_ble_eq_true rfl⟩) rfl rfl hl (Nat.le_of_ble_eq_true rfl) dX9_trust_3 ⟨Nat.le_refl 0, Nat.le_refl 0⟩) hW (fun H locs hW => ?_)
  refine lv_if_ne (tgt := 13) C0.1 C0.2.1 dX9_trust_6 (by decide) (fun c22 => ?_) (fun c22 => ?_)
  · rw [if_neg c22] at h
    refine lv_aload_n C0.1 C0.2.1 dX9_trust_13 rfl (lv_at hl 0 rfl) ?_
    obtain ⟨u23, hu23, h⟩ := bd_some h
    refine x_ki (r := u23) (x_runV (As := []) (rest := []) C0 G0 hW (cX9_allParts_met l hJ z σ _ hu23) (cwV 0 C0.2.2.2.1 gX9_trust_X9_allParts rfl rfl rfl hdvX9_allParts ⟨Nat.le_of_ble_eq_true rfl, Nat.le_of_ble_eq_true rfl⟩) cM_0 (by decide) rfl rfl rfl hl (Nat.le_of_ble_eq_true rfl) dX9_trust_14 ⟨Nat.le_refl 0, Nat.le_refl 0⟩) hW (fun H locs hW => ?_)
    refine lv_if_ne (tgt := 24) C0.1 C0.2.1 dX9_trust_17 (by decide) (fun c24 => ?_) (fun c24 => ?_)
    · rw [if_neg c24] at h
      refine lv_aload_n C0.1 C0.2.1 dX9_trust_24 rfl (lv_at hl 0 rfl) ?_
      refine lv_iload_n C0.1 C0.2.1 dX9_trust_25 rfl (lv_at hl 1 rfl) ?_
      refine lv_iload_n C0.1 C0.2.1 dX9_trust_26 rfl (lv_at hl 2 rfl) ?_
      obtain ⟨u25, hu25, h⟩ := bd_some h
      refine x_ki (r := u25) (x_runV (As := [.int v1, .int v2]) (rest := []) C0 G0 hW (cX9_partsIn_met l hJ z σ v1 v2 _ hu25) (cwV 2 C0.2.2.2.1 gX9_trust_X9_partsIn rfl rfl rfl hdvX9_partsIn ⟨Nat.le_of_ble_eq_true rfl, Nat.le_of_ble_eq_true rfl⟩) cM_0 (by decide) rfl rfl rfl hl (Nat.le_of_ble_eq_true rfl) dX9_trust_27 ⟨Nat.le_refl 0, Nat.le_refl 0⟩) hW (fun H locs hW => ?_)
      refine lv_iload_n C0.1 C0.2.1 dX9_trust_30 rfl (lv_at hl 3 rfl) ?_
      refine lv_imul C0.1 C0.2.1 dX9_trust_31 ?_
      refine lv_istore (lv' := [(5, .int (u25 * v3)), (0, .ref (aD G 0)), (1, .int v1), (2, .int v2), (3, .int v3), (4, .int v4)]) C0.1 C0.2.1 dX9_trust_32 hl (by decide) rfl (fun ls hl => ?_)
      refine lv_iload C0.1 C0.2.1 dX9_trust_34 (lv_at hl 0 rfl) ?_
      refine lv_aload_n C0.1 C0.2.1 dX9_trust_36 rfl (lv_at hl 1 rfl) ?_
      refine lv_iconst (v := (0 : Int32)) C0.1 C0.2.1 dX9_trust_37 (by decide) ?_
      refine lv_bipush (v := (9 : Int32)) C0.1 C0.2.1 dX9_trust_38 (by decide) ?_
      obtain ⟨u26, hu26, h⟩ := bd_some h
      refine x_ki (r := u26) (x_runV (As := [.int (0 : Int32), .int (9 : Int32)]) (rest := [.int (u25 * v3)]) C0 G0 hW (cX9_partsIn_met l hJ z σ (0 : Int32) (9 : Int32) _ hu26) (cwV 2 C0.2.2.2.1 gX9_trust_X9_partsIn rfl rfl rfl hdvX9_partsIn ⟨Nat.le_of_ble_eq_true rfl, Nat.le_of_ble_eq_true rfl⟩) cM_0 (by decide) rfl rfl rfl hl (Nat.le_of_ble_eq_true rfl) dX9_trust_40 ⟨Nat.le_refl 0, Nat.le_refl 0⟩) hW (fun H locs hW => ?_)
      refine lv_aload_n C0.1 C0.2.1 dX9_trust_43 rfl (lv_at hl 1 rfl) ?_
      refine lv_iload_n C0.1 C0.2.1 dX9_trust_44 rfl (lv_at hl 2 rfl) ?_
      refine lv_iload_n C0.1 C0.2.1 dX9_trust_45 rfl (lv_at hl 3 rfl) ?_
      obtain ⟨u27, hu27, h⟩ := bd_some h
      refine x_ki (r := u27) (x_runV (As := [.int v1, .int v2]) (rest := [.int u26, .int (u25 * v3)]) C0 G0 hW (cX9_partsIn_met l hJ z σ v1 v2 _ hu27) (cwV 2 C0.2.2.2.1 gX9_trust_X9_partsIn rfl rfl rfl hdvX9_partsIn ⟨Nat.le_of_ble_eq_true rfl, Nat.le_of_ble_eq_true rfl⟩) cM_0 (by decide) rfl rfl rfl hl (Nat.le_of_ble_eq_true rfl) dX9_trust_46 ⟨Nat.le_refl 0, Nat.le_refl 0⟩) hW (fun H locs hW => ?_)
      refine lv_isub C0.1 C0.2.1 dX9_trust_49 ?_
      refine lv_bipush (v := (10 : Int32)) C0.1 C0.2.1 dX9_trust_50 (by decide) ?_
      refine lv_iload_n C0.1 C0.2.1 dX9_trust_52 rfl (lv_at hl 4 rfl) ?_
      refine lv_isub C0.1 C0.2.1 dX9_trust_53 ?_
      refine lv_imul C0.1 C0.2.1 dX9_trust_54 ?_
      refine lv_iadd C0.1 C0.2.1 dX9_trust_55 ?_
      refine lv_iconst (v := (5 : Int32)) C0.1 C0.2.1 dX9_trust_56 (by decide) ?_
      refine lv_aload_n C0.1 C0.2.1 dX9_trust_57 rfl (lv_at hl 1 rfl) ?_
      refine x_get (v := .ref (aD G 1)) C0 G0 hW cM_0 (by decide) rfl 9 (by decide) inX9_trust_X9 lkX9_trust_7 rfl dX9_trust_58 ?_
      refine lv_bipush (v := (10 : Int32)) C0.1 C0.2.1 dX9_trust_61 (by decide) ?_
      obtain ⟨g28, h⟩ := gd_some h
      refine x_iald C0 G0 hW cM_1 (by decide) g28 dX9_trust_63 ?_
      refine lv_imul C0.1 C0.2.1 dX9_trust_64 ?_
      refine lv_iadd C0.1 C0.2.1 dX9_trust_65 ?_
      refine lv_istore (lv' := [(6, .int (((u25 * v3) + ((u26 - u27) * ((10 : Int32) - v3))) + ((5 : Int32) * (σ.1 1 ((10 : Int32)).toNatClampNeg)))), (5, .int (u25 * v3)), (0, .ref (aD G 0)), (1, .int v1), (2, .int v2), (3, .int v3), (4, .int v4)]) C0.1 C0.2.1 dX9_trust_66 hl (by decide) rfl (fun ls hl => ?_)
      refine lv_iload C0.1 C0.2.1 dX9_trust_68 (lv_at hl 1 rfl) ?_
      refine lv_i2l (v := (((u25 * v3)).toInt64)) C0.1 C0.2.1 dX9_trust_70 rfl ?_
      refine lv_iload C0.1 C0.2.1 dX9_trust_71 (lv_at hl 0 rfl) ?_
      refine lv_i2l (v := (((((u25 * v3) + ((u26 - u27) * ((10 : Int32) - v3))) + ((5 : Int32) * (σ.1 1 ((10 : Int32)).toNatClampNeg)))).toInt64)) C0.1 C0.2.1 dX9_trust_73 rfl ?_
      refine lv_iload C0.1 C0.2.1 dX9_trust_74 (lv_at hl 6 rfl) ?_
      obtain ⟨u29, hu29, h⟩ := bd_some h
      refine x_kl (r := u29) (x_runS (As := [.long (((u25 * v3)).toInt64), .long (((((u25 * v3) + ((u26 - u27) * ((10 : Int32) - v3))) + ((5 : Int32) * (σ.1 1 ((10 : Int32)).toNatClampNeg)))).toInt64), .int v4]) (rest := []) C0 G0 hW (cX9_part_met l hJ z σ (((u25 * v3)).toInt64) (((((u25 * v3) + ((u26 - u27) * ((10 : Int32) - v3))) + ((5 : Int32) * (σ.1 1 ((10 : Int32)).toNatClampNeg)))).toInt64) v4 _ hu29) (va_cwS 3 C0.2.2.2.1 gX9_trust_X9_part rfl rfl rfl hdsX9_part ⟨Nat.le_of_ble_eq_true rfl, Nat.le_of_ble_eq_true rfl⟩) rfl rfl hl (Nat.le_of_ble_eq_true rfl) dX9_trust_76 ⟨Nat.le_refl 0, Nat.le_refl 0⟩) hW (fun H locs hW => ?_)
      cases h
      exact x_lret C0 hW dX9_trust_79
    · rw [if_pos c24] at h
      refine lv_ldc2 (v := (-3 : Int64)) C0.1 C0.2.1 C0.2.2.2.2.1 (C0.2.2.2.1 _ kcX9_trust_155) dX9_trust_20 ?_
      cases h
      exact x_lret C0 hW dX9_trust_23
  · rw [if_pos c22] at h
    refine lv_ldc2 (v := (-2 : Int64)) C0.1 C0.2.1 C0.2.2.2.2.1 (C0.2.2.2.1 _ kcX9_trust_149) dX9_trust_9 ?_
    cases h
    exact x_lret C0 hW dX9_trust_12
theorem cX9_trust_met (l : Launch) {G : GT} (hJ : gJ 13 G) (z : Nat) (σ : ST) (v1 : Int32) (v2 : Int32) (v3 : Int32) (v4 : Int32) (res : Int64) (h : fX9_trust z σ v1 v2 v3 v4 = some res) : Met l yX9_trust wsX9_trust rX9_trust (XPc cellM 13 G σ [.ref (aD G 0), .int v1, .int v2, .int v3, .int v4]) (XQl cellM 13 G res σ) 0 0 (gA 13 G) :=
  x_met (ret := (some .long)) (maxL := 7) (by decide) rfl (Nat.le_of_ble_eq_true rfl) (fun p e s m args below meth c H locs ls C0 G0 hW hl => wX9_trust C0 G0 hJ z σ v1 v2 v3 v4 res h hW hl)
end
/-! X9_undo -/
def rX9_undo : Room := { frames := 0, cells := 0, slots := 0, locals := 0 }
theorem hdvX9_undo : yX9_undo.cls = RX9 ∧ yX9_undo.cls ≠ "java/lang/invoke/MethodHandle" ∧ yX9_undo.cls ≠ "java/lang/invoke/VarHandle" ∧ (parseMethodDescriptor yX9_undo.desc).map (fun d => d.parameters.length) = some 0 := by decide +kernel
theorem inX9_undo_X9 : ∀ w ∈ u_ws RX9 TX9 29, w ∈ wsX9_undo := by decide +kernel
theorem lkX9_undo_119 : Cond.fieldLink RX9 119 (TX9 21).1 (TX9 21).2.1 (TX9 21).2.2.1 ∈ wsX9_undo := by decide +kernel
theorem lkX9_undo_19 : Cond.fieldLink RX9 19 (TX9 14).1 (TX9 14).2.1 (TX9 14).2.2.1 ∈ wsX9_undo := by decide +kernel
theorem lkX9_undo_32 : Cond.fieldLink RX9 32 (TX9 22).1 (TX9 22).2.1 (TX9 22).2.2.1 ∈ wsX9_undo := by decide +kernel
theorem lkX9_undo_23 : Cond.fieldLink RX9 23 (TX9 15).1 (TX9 15).2.1 (TX9 15).2.2.1 ∈ wsX9_undo := by decide +kernel
theorem lkX9_undo_35 : Cond.fieldLink RX9 35 (TX9 23).1 (TX9 23).2.1 (TX9 23).2.2.1 ∈ wsX9_undo := by decide +kernel
def fX9_undo_56 (z : Nat) : Nat → ST → Int32 → Option (Int32 × ST)
  | 0 => fun _ _ => none
  | n + 1 => fun σ v1 => (if (9 : Int32) ≤ v1 then some ((σ.1 0 21), σ) else gd (inb (((9 : Int32) * (σ.1 0 21)) + v1) 81) ( gd (inb v1 9) ( lt (pI σ 5 (v1).toNatClampNeg (σ.1 9 ((((9 : Int32) * (σ.1 0 21)) + v1)).toNatClampNeg)) (fun s30 => (fX9_undo_56 z n) s30 (v1 + 1)))))
def fX9_undo_22 (z : Nat) : Nat → ST → Int32 → Option (Int32 × ST)
  | 0 => fun _ _ => none
  | n + 1 => fun σ v1 => (if (11 : Int32) ≤ v1 then fX9_undo_56 z z σ (0 : Int32) else gd (inb (((11 : Int32) * (σ.1 0 21)) + v1) 99) ( gd (inb v1 33) ( lt (pL σ 4 (v1).toNatClampNeg (σ.2 8 ((((11 : Int32) * (σ.1 0 21)) + v1)).toNatClampNeg)) (fun s26 => (fX9_undo_22 z n) s26 (v1 + 1)))))
def fX9_undo (z : Nat) (σ : ST) : Option (Int32 × ST) := (if (σ.1 0 21) = 0 then some ((-3 : Int32), σ) else lt (pI σ 0 21 ((σ.1 0 21) - (1 : Int32))) (fun s22 => fX9_undo_22 z z s22 (0 : Int32)))
section
variable {p : Program} {l : Launch} {e : Env} {s : State} {m : MethodId} {args : Array Value} {below : List Frame} {meth : Method} {c : Code} {G : GT}
set_option maxHeartbeats 4000000 in
set_option maxRecDepth 100000 in
theorem wX9_undo_56 (C0 : Cx p s m args meth c cX9_undo RX9 2 (some .int) wsX9_undo) (G0 : Gx G s) (hJ : gJ 13 G) (z : Nat) (n : Nat) (σ : ST) (v1 : Int32) (res : (Int32 × ST)) (h : fX9_undo_56 z n σ v1 = some res)  {H : Heap} {locs : List Loc} {ls : Array Slot} (hW : Wd cellM 13 G s.heap σ H locs) (hl : lv_has ls 2 [(0, .ref (aD G 0)), (1, .int v1)]) : W p l e rX9_undo s m args below meth c H locs 0 0 (MQ below (XQi cellM 13 G res.1 res.2) args s 0 0 (gA 13 G)) (F0 m 56 ls []) := by
  induction n generalizing σ v1 H locs ls with
  | zero => cases h
  | succ n ih =>
    have hr56 : ∀ (σ : ST) (v1 : Int32), fX9_undo_56 z n σ v1 = some res → ∀ (H : Heap) (locs : List Loc) (ls : Array Slot), Wd cellM 13 G s.heap σ H locs → lv_has ls 2 [(0, .ref (aD G 0)), (1, .int v1)] → W p l e rX9_undo s m args below meth c H locs 0 0 (MQ below (XQi cellM 13 G res.1 res.2) args s 0 0 (gA 13 G)) (F0 m 56 ls []) := fun σ v1 h H locs ls hW hl => ih σ v1 h hW hl
    clear ih
    unfold fX9_undo_56 at h
    refine lv_iload_n C0.1 C0.2.1 dX9_undo_56 rfl (lv_at hl 1 rfl) ?_
    refine lv_bipush (v := (9 : Int32)) C0.1 C0.2.1 dX9_undo_57 (by decide) ?_
    refine lv_icmp_ge (tgt := 88) C0.1 C0.2.1 dX9_undo_59 (by decide) (fun c27 => ?_) (fun c27 => ?_)
    · rw [if_pos c27] at h
      refine lv_aload_n C0.1 C0.2.1 dX9_undo_88 rfl (lv_at hl 0 rfl) ?_
      refine x_get (v := .int (σ.1 0 21)) C0 G0 hW cM_0 (by decide) rfl 21 (by decide) inX9_undo_X9 lkX9_undo_119 rfl dX9_undo_89 ?_
      cases h
      exact x_iret C0 hW dX9_undo_92
    · rw [if_neg c27] at h
      refine lv_aload_n C0.1 C0.2.1 dX9_undo_62 rfl (lv_at hl 0 rfl) ?_
      refine x_get (v := .ref (aD G 5)) C0 G0 hW cM_0 (by decide) rfl 15 (by decide) inX9_undo_X9 lkX9_undo_23 rfl dX9_undo_63 ?_
      refine lv_iload_n C0.1 C0.2.1 dX9_undo_66 rfl (lv_at hl 1 rfl) ?_
      refine lv_aload_n C0.1 C0.2.1 dX9_undo_67 rfl (lv_at hl 0 rfl) ?_
      refine x_get (v := .ref (aD G 9)) C0 G0 hW cM_0 (by decide) rfl 23 (by decide) inX9_undo_X9 lkX9_undo_35 rfl dX9_undo_68 ?_
      refine lv_bipush (v := (9 : Int32)) C0.1 C0.2.1 dX9_undo_71 (by decide) ?_
      refine lv_aload_n C0.1 C0.2.1 dX9_undo_73 rfl (lv_at hl 0 rfl) ?_
      refine x_get (v := .int (σ.1 0 21)) C0 G0 hW cM_0 (by decide) rfl 21 (by decide) inX9_undo_X9 lkX9_undo_119 rfl dX9_undo_74 ?_
      refine lv_imul C0.1 C0.2.1 dX9_undo_77 ?_
      refine lv_iload_n C0.1 C0.2.1 dX9_undo_78 rfl (lv_at hl 1 rfl) ?_
      refine lv_iadd C0.1 C0.2.1 dX9_undo_79 ?_
      obtain ⟨g28, h⟩ := gd_some h
      refine x_iald C0 G0 hW cM_9 (by decide) g28 dX9_undo_80 ?_
      obtain ⟨g29, h⟩ := gd_some h
      refine x_iast C0 G0 hJ hW (fun f g => cM_5) (by decide) g29 dX9_undo_81 (fun H locs hW => ?_)
      obtain ⟨s30, es30, h⟩ := lt_some h
      rw [es30] at hW
      refine lv_iinc (v := (v1 + 1)) (lv' := [(1, .int (v1 + 1)), (0, .ref (aD G 0))]) C0.1 C0.2.1 dX9_undo_82 hl (k := 1) rfl rfl (by decide) rfl (fun ls hl => ?_)
      refine lv_goto (tgt := 56) C0.1 C0.2.1 dX9_undo_85 (by decide) ?_
      exact hr56 s30 (v1 + 1) h _ _ _ hW (lv_sub hl [1, 0] rfl)
set_option maxHeartbeats 4000000 in
set_option maxRecDepth 100000 in
theorem wX9_undo_22 (C0 : Cx p s m args meth c cX9_undo RX9 2 (some .int) wsX9_undo) (G0 : Gx G s) (hJ : gJ 13 G) (z : Nat) (n : Nat) (σ : ST) (v1 : Int32) (res : (Int32 × ST)) (h : fX9_undo_22 z n σ v1 = some res)  {H : Heap} {locs : List Loc} {ls : Array Slot} (hW : Wd cellM 13 G s.heap σ H locs) (hl : lv_has ls 2 [(0, .ref (aD G 0)), (1, .int v1)]) : W p l e rX9_undo s m args below meth c H locs 0 0 (MQ below (XQi cellM 13 G res.1 res.2) args s 0 0 (gA 13 G)) (F0 m 22 ls []) := by
  induction n generalizing σ v1 H locs ls with
  | zero => cases h
  | succ n ih =>
    have hr22 : ∀ (σ : ST) (v1 : Int32), fX9_undo_22 z n σ v1 = some res → ∀ (H : Heap) (locs : List Loc) (ls : Array Slot), Wd cellM 13 G s.heap σ H locs → lv_has ls 2 [(0, .ref (aD G 0)), (1, .int v1)] → W p l e rX9_undo s m args below meth c H locs 0 0 (MQ below (XQi cellM 13 G res.1 res.2) args s 0 0 (gA 13 G)) (F0 m 22 ls []) := fun σ v1 h H locs ls hW hl => ih σ v1 h hW hl
    clear ih
    unfold fX9_undo_22 at h
    refine lv_iload_n C0.1 C0.2.1 dX9_undo_22 rfl (lv_at hl 1 rfl) ?_
    refine lv_bipush (v := (11 : Int32)) C0.1 C0.2.1 dX9_undo_23 (by decide) ?_
    refine lv_icmp_ge (tgt := 54) C0.1 C0.2.1 dX9_undo_25 (by decide) (fun c23 => ?_) (fun c23 => ?_)
    · rw [if_pos c23] at h
      refine lv_iconst (v := (0 : Int32)) C0.1 C0.2.1 dX9_undo_54 (by decide) ?_
      refine lv_istore_n (lv' := [(1, .int (0 : Int32)), (0, .ref (aD G 0))]) C0.1 C0.2.1 dX9_undo_55 rfl hl (by decide) rfl (fun ls hl => ?_)
      exact wX9_undo_56 C0 G0 hJ z z σ (0 : Int32) _ h hW (lv_sub hl [1, 0] rfl)
    · rw [if_neg c23] at h
      refine lv_aload_n C0.1 C0.2.1 dX9_undo_28 rfl (lv_at hl 0 rfl) ?_
      refine x_get (v := .ref (aD G 4)) C0 G0 hW cM_0 (by decide) rfl 14 (by decide) inX9_undo_X9 lkX9_undo_19 rfl dX9_undo_29 ?_
      refine lv_iload_n C0.1 C0.2.1 dX9_undo_32 rfl (lv_at hl 1 rfl) ?_
      refine lv_aload_n C0.1 C0.2.1 dX9_undo_33 rfl (lv_at hl 0 rfl) ?_
      refine x_get (v := .ref (aD G 8)) C0 G0 hW cM_0 (by decide) rfl 22 (by decide) inX9_undo_X9 lkX9_undo_32 rfl dX9_undo_34 ?_
      refine lv_bipush (v := (11 : Int32)) C0.1 C0.2.1 dX9_undo_37 (by decide) ?_
      refine lv_aload_n C0.1 C0.2.1 dX9_undo_39 rfl (lv_at hl 0 rfl) ?_
      refine x_get (v := .int (σ.1 0 21)) C0 G0 hW cM_0 (by decide) rfl 21 (by decide) inX9_undo_X9 lkX9_undo_119 rfl dX9_undo_40 ?_
      refine lv_imul C0.1 C0.2.1 dX9_undo_43 ?_
      refine lv_iload_n C0.1 C0.2.1 dX9_undo_44 rfl (lv_at hl 1 rfl) ?_
      refine lv_iadd C0.1 C0.2.1 dX9_undo_45 ?_
      obtain ⟨g24, h⟩ := gd_some h
      refine x_lald C0 G0 hW cM_8 (by decide) g24 dX9_undo_46 ?_
      obtain ⟨g25, h⟩ := gd_some h
      refine x_last C0 G0 hJ hW (fun f g => cM_4) (by decide) g25 dX9_undo_47 (fun H locs hW => ?_)
      obtain ⟨s26, es26, h⟩ := lt_some h
      rw [es26] at hW
      refine lv_iinc (v := (v1 + 1)) (lv' := [(1, .int (v1 + 1)), (0, .ref (aD G 0))]) C0.1 C0.2.1 dX9_undo_48 hl (k := 1) rfl rfl (by decide) rfl (fun ls hl => ?_)
      refine lv_goto (tgt := 22) C0.1 C0.2.1 dX9_undo_51 (by decide) ?_
      exact hr22 s26 (v1 + 1) h _ _ _ hW (lv_sub hl [1, 0] rfl)
set_option maxHeartbeats 4000000 in
set_option maxRecDepth 100000 in
theorem wX9_undo (C0 : Cx p s m args meth c cX9_undo RX9 2 (some .int) wsX9_undo) (G0 : Gx G s) (hJ : gJ 13 G) (z : Nat) (σ : ST) (res : (Int32 × ST)) (h : fX9_undo z σ = some res)  {H : Heap} {locs : List Loc} {ls : Array Slot} (hW : Wd cellM 13 G s.heap σ H locs) (hl : lv_has ls 2 [(0, .ref (aD G 0))]) : W p l e rX9_undo s m args below meth c H locs 0 0 (MQ below (XQi cellM 13 G res.1 res.2) args s 0 0 (gA 13 G)) (F0 m 0 ls []) := by
  unfold fX9_undo at h
  refine lv_aload_n C0.1 C0.2.1 dX9_undo_0 rfl (lv_at hl 0 rfl) ?_
  refine x_get (v := .int (σ.1 0 21)) C0 G0 hW cM_0 (by decide) rfl 21 (by decide) inX9_undo_X9 lkX9_undo_119 rfl dX9_undo_1 ?_
  refine lv_if_ne (tgt := 10) C0.1 C0.2.1 dX9_undo_4 (by decide) (fun c21 => ?_) (fun c21 => ?_)
  · rw [if_neg c21] at h
    refine lv_aload_n C0.1 C0.2.1 dX9_undo_10 rfl (lv_at hl 0 rfl) ?_
    refine lv_dup C0.1 C0.2.1 dX9_undo_11 rfl ?_
    refine x_get (v := .int (σ.1 0 21)) C0 G0 hW cM_0 (by decide) rfl 21 (by decide) inX9_undo_X9 lkX9_undo_119 rfl dX9_undo_12 ?_
    refine lv_iconst (v := (1 : Int32)) C0.1 C0.2.1 dX9_undo_15 (by decide) ?_
    refine lv_isub C0.1 C0.2.1 dX9_undo_16 ?_
    refine x_putI (v := ((σ.1 0 21) - (1 : Int32))) C0 G0 hJ hW cM_0 (by decide) rfl 21 (by decide) inX9_undo_X9 lkX9_undo_119 tyX9 tyX9_ok nmX9 rfl rfl rfl (Nat.le_of_ble_eq_true rfl) hu_X9_21 dX9_undo_17 (fun H locs hW => ?_)
    obtain ⟨s22, es22, h⟩ := lt_some h
    rw [es22] at hW
    refine lv_iconst (v := (0 : Int32)) C0.1 C0.2.1 dX9_undo_20 (by decide) ?_
    refine lv_istore_n (lv' := [(1, .int (0 : Int32)), (0, .ref (aD G 0))]) C0.1 C0.2.1 dX9_undo_21 rfl hl (by decide) rfl (fun ls hl => ?_)
    exact wX9_undo_22 C0 G0 hJ z z s22 (0 : Int32) _ h hW (lv_sub hl [1, 0] rfl)
  · rw [if_pos c21] at h
    refine lv_bipush (v := (-3 : Int32)) C0.1 C0.2.1 dX9_undo_7 (by decide) ?_
    cases h
    exact x_iret C0 hW dX9_undo_9
theorem cX9_undo_met (l : Launch) {G : GT} (hJ : gJ 13 G) (z : Nat) (σ : ST)  (res : (Int32 × ST)) (h : fX9_undo z σ = some res) : Met l yX9_undo wsX9_undo rX9_undo (XPc cellM 13 G σ [.ref (aD G 0)]) (XQi cellM 13 G res.1 res.2) 0 0 (gA 13 G) :=
  x_met (ret := (some .int)) (maxL := 2) (by decide) rfl (Nat.le_of_ble_eq_true rfl) (fun p e s m args below meth c H locs ls C0 G0 hW hl => wX9_undo C0 G0 hJ z σ res h hW hl)
end
/-! X9_weight -/
def rX9_weight : Room := { frames := 1, cells := 0, slots := 0, locals := 25 }
theorem hdvX9_weight : yX9_weight.cls = RX9 ∧ yX9_weight.cls ≠ "java/lang/invoke/MethodHandle" ∧ yX9_weight.cls ≠ "java/lang/invoke/VarHandle" ∧ (parseMethodDescriptor yX9_weight.desc).map (fun d => d.parameters.length) = some 1 := by decide +kernel
theorem kcX9_weight_128 : Cond.constantLong RX9 128 (10 : Int64) ∈ wsX9_weight := by decide +kernel
theorem kcX9_weight_149 : Cond.constantLong RX9 149 (-2 : Int64) ∈ wsX9_weight := by decide +kernel
theorem inX9_weight_X9 : ∀ w ∈ u_ws RX9 TX9 29, w ∈ wsX9_weight := by decide +kernel
theorem lkX9_weight_19 : Cond.fieldLink RX9 19 (TX9 14).1 (TX9 14).2.1 (TX9 14).2.2.1 ∈ wsX9_weight := by decide +kernel
def fX9_weight_24 (z : Nat) (σ : ST) (t0 : Int64) : Option Int64 := some t0
def fX9_weight (z : Nat) (σ : ST) (v1 : Int32) : Option Int64 := bd (fX9_in z ((v1).toInt64) (0 : Int64) (10 : Int64)) (fun u21 => (if u21 = 0 then fX9_weight_24 z σ (-2 : Int64) else gd (inb v1 33) ( fX9_weight_24 z σ (σ.2 4 (v1).toNatClampNeg))))
section
variable {p : Program} {l : Launch} {e : Env} {s : State} {m : MethodId} {args : Array Value} {below : List Frame} {meth : Method} {c : Code} {G : GT}
set_option maxHeartbeats 4000000 in
set_option maxRecDepth 100000 in
theorem wX9_weight_24 (C0 : Cx p s m args meth c cX9_weight RX9 2 (some .long) wsX9_weight) (G0 : Gx G s) (hJ : gJ 13 G) (z : Nat) (σ : ST) (t0 : Int64) (res : Int64) (h : fX9_weight_24 z σ t0 = some res)  {H : Heap} {locs : List Loc} {ls : Array Slot} (hW : Wd cellM 13 G s.heap σ H locs) (hl : lv_has ls 2 []) : W p l e rX9_weight s m args below meth c H locs 0 0 (MQ below (XQl cellM 13 G res σ) args s 0 0 (gA 13 G)) (F0 m 24 ls [.long t0]) := by
  unfold fX9_weight_24 at h
  cases h
  exact x_lret C0 hW dX9_weight_24
set_option maxHeartbeats 4000000 in
set_option maxRecDepth 100000 in
theorem wX9_weight (C0 : Cx p s m args meth c cX9_weight RX9 2 (some .long) wsX9_weight) (G0 : Gx G s) (hJ : gJ 13 G) (z : Nat) (σ : ST) (v1 : Int32) (res : Int64) (h : fX9_weight z σ v1 = some res)  {H : Heap} {locs : List Loc} {ls : Array Slot} (hW : Wd cellM 13 G s.heap σ H locs) (hl : lv_has ls 2 [(0, .ref (aD G 0)), (1, .int v1)]) : W p l e rX9_weight s m args below meth c H locs 0 0 (MQ below (XQl cellM 13 G res σ) args s 0 0 (gA 13 G)) (F0 m 0 ls []) := by
  unfold fX9_weight at h
  refine lv_iload_n C0.1 C0.2.1 dX9_weight_0 rfl (lv_at hl 1 rfl) ?_
  refine lv_i2l (v := ((v1).toInt64)) C0.1 C0.2.1 dX9_weight_1 rfl ?_
  refine lv_lconst (v := (0 : Int64)) C0.1 C0.2.1 dX9_weight_2 (by decide) ?_
  refine lv_ldc2 (v := (10 : Int64)) C0.1 C0.2.1 C0.2.2.2.2.1 (C0.2.2.2.1 _ kcX9_weight_128) dX9_weight_3 ?_
  obtain ⟨u21, hu21, h⟩ := bd_some h
  refine x_ki (r := u21) (x_runS (As := [.long ((v1).toInt64), .long (0 : Int64), .long (10 : Int64)]) (rest := []) C0 G0 hW (cX9_in_met l hJ z σ ((v1).toInt64) (0 : Int64) (10 : Int64) _ hu21) (va_cwS 3 C0.2.2.2.1 gX9_weight_X9_in rfl rfl rfl hdsX9_in ⟨Nat.le_of_ble_eq_true rfl, Nat.le_of_ble_eq_true rfl⟩) rfl rfl hl (Nat.le_of_ble_eq_true rfl) dX9_weight_6 ⟨Nat.le_refl 0, Nat.le_refl 0⟩) hW (fun H locs hW => ?_)
  refine lv_if_eq (tgt := 21) C0.1 C0.2.1 dX9_weight_9 (by decide) (fun c22 => ?_) (fun c22 => ?_)
  · rw [if_pos c22] at h
    refine lv_ldc2 (v := (-2 : Int64)) C0.1 C0.2.1 C0.2.2.2.2.1 (C0.2.2.2.1 _ kcX9_weight_149) dX9_weight_21 ?_
    exact wX9_weight_24 C0 G0 hJ z σ (-2 : Int64) _ h hW (lv_sub hl [] rfl)
  · rw [if_neg c22] at h
    refine lv_aload_n C0.1 C0.2.1 dX9_weight_12 rfl (lv_at hl 0 rfl) ?_
    refine x_get (v := .ref (aD G 4)) C0 G0 hW cM_0 (by decide) rfl 14 (by decide) inX9_weight_X9 lkX9_weight_19 rfl dX9_weight_13 ?_
    refine lv_iload_n C0.1 C0.2.1 dX9_weight_16 rfl (lv_at hl 1 rfl) ?_
    obtain ⟨g23, h⟩ := gd_some h
    refine x_lald C0 G0 hW cM_4 (by decide) g23 dX9_weight_17 ?_
    refine lv_goto (tgt := 24) C0.1 C0.2.1 dX9_weight_18 (by decide) ?_
    exact wX9_weight_24 C0 G0 hJ z σ (σ.2 4 (v1).toNatClampNeg) _ h hW (lv_sub hl [] rfl)
theorem cX9_weight_met (l : Launch) {G : GT} (hJ : gJ 13 G) (z : Nat) (σ : ST) (v1 : Int32) (res : Int64) (h : fX9_weight z σ v1 = some res) : Met l yX9_weight wsX9_weight rX9_weight (XPc cellM 13 G σ [.ref (aD G 0), .int v1]) (XQl cellM 13 G res σ) 0 0 (gA 13 G) :=
  x_met (ret := (some .long)) (maxL := 2) (by decide) rfl (Nat.le_of_ble_eq_true rfl) (fun p e s m args below meth c H locs ls C0 G0 hW hl => wX9_weight C0 G0 hJ z σ v1 res h hW hl)
end
/-! X9_wipe -/
def rX9_wipe : Room := { frames := 0, cells := 0, slots := 0, locals := 0 }
theorem hdvX9_wipe : yX9_wipe.cls = RX9 ∧ yX9_wipe.cls ≠ "java/lang/invoke/MethodHandle" ∧ yX9_wipe.cls ≠ "java/lang/invoke/VarHandle" ∧ (parseMethodDescriptor yX9_wipe.desc).map (fun d => d.parameters.length) = some 0 := by decide +kernel
theorem inX9_wipe_X9 : ∀ w ∈ u_ws RX9 TX9 29, w ∈ wsX9_wipe := by decide +kernel
theorem lkX9_wipe_58 : Cond.fieldLink RX9 58 (TX9 17).1 (TX9 17).2.1 (TX9 17).2.2.1 ∈ wsX9_wipe := by decide +kernel
def fX9_wipe (z : Nat) (σ : ST) : Option (Int32 × ST) := lt (pI σ 0 17 (0 : Int32)) (fun s21 => some ((σ.1 0 17), s21))
section
variable {p : Program} {l : Launch} {e : Env} {s : State} {m : MethodId} {args : Array Value} {below : List Frame} {meth : Method} {c : Code} {G : GT}
set_option maxHeartbeats 4000000 in
set_option maxRecDepth 100000 in
theorem wX9_wipe (C0 : Cx p s m args meth c cX9_wipe RX9 2 (some .int) wsX9_wipe) (G0 : Gx G s) (hJ : gJ 13 G) (z : Nat) (σ : ST) (res : (Int32 × ST)) (h : fX9_wipe z σ = some res)  {H : Heap} {locs : List Loc} {ls : Array Slot} (hW : Wd cellM 13 G s.heap σ H locs) (hl : lv_has ls 2 [(0, .ref (aD G 0))]) : W p l e rX9_wipe s m args below meth c H locs 0 0 (MQ below (XQi cellM 13 G res.1 res.2) args s 0 0 (gA 13 G)) (F0 m 0 ls []) := by
  unfold fX9_wipe at h
  refine lv_aload_n C0.1 C0.2.1 dX9_wipe_0 rfl (lv_at hl 0 rfl) ?_
  refine x_get (v := .int (σ.1 0 17)) C0 G0 hW cM_0 (by decide) rfl 17 (by decide) inX9_wipe_X9 lkX9_wipe_58 rfl dX9_wipe_1 ?_
  refine lv_istore_n (lv' := [(1, .int (σ.1 0 17)), (0, .ref (aD G 0))]) C0.1 C0.2.1 dX9_wipe_4 rfl hl (by decide) rfl (fun ls hl => ?_)
  refine lv_aload_n C0.1 C0.2.1 dX9_wipe_5 rfl (lv_at hl 1 rfl) ?_
  refine lv_iconst (v := (0 : Int32)) C0.1 C0.2.1 dX9_wipe_6 (by decide) ?_
  refine x_putI (v := (0 : Int32)) C0 G0 hJ hW cM_0 (by decide) rfl 17 (by decide) inX9_wipe_X9 lkX9_wipe_58 tyX9 tyX9_ok nmX9 rfl rfl rfl (Nat.le_of_ble_eq_true rfl) hu_X9_17 dX9_wipe_7 (fun H locs hW => ?_)
  obtain ⟨s21, es21, h⟩ := lt_some h
  rw [es21] at hW
  refine lv_iload_n C0.1 C0.2.1 dX9_wipe_10 rfl (lv_at hl 0 rfl) ?_
  cases h
  exact x_iret C0 hW dX9_wipe_11
theorem cX9_wipe_met (l : Launch) {G : GT} (hJ : gJ 13 G) (z : Nat) (σ : ST)  (res : (Int32 × ST)) (h : fX9_wipe z σ = some res) : Met l yX9_wipe wsX9_wipe rX9_wipe (XPc cellM 13 G σ [.ref (aD G 0)]) (XQi cellM 13 G res.1 res.2) 0 0 (gA 13 G) :=
  x_met (ret := (some .int)) (maxL := 2) (by decide) rfl (Nat.le_of_ble_eq_true rfl) (fun p e s m args below meth c H locs ls C0 G0 hW hl => wX9_wipe C0 G0 hJ z σ res h hW hl)
end
/-! X9_withSecond -/
def rX9_withSecond : Room := { frames := 3, cells := 0, slots := 0, locals := 82 }
theorem hdvX9_withSecond : yX9_withSecond.cls = RX9 ∧ yX9_withSecond.cls ≠ "java/lang/invoke/MethodHandle" ∧ yX9_withSecond.cls ≠ "java/lang/invoke/VarHandle" ∧ (parseMethodDescriptor yX9_withSecond.desc).map (fun d => d.parameters.length) = some 2 := by decide +kernel
theorem kcX9_withSecond_130 : Cond.constantLong RX9 130 (2 : Int64) ∈ wsX9_withSecond := by decide +kernel
theorem inX9_withSecond_X9 : ∀ w ∈ u_ws RX9 TX9 29, w ∈ wsX9_withSecond := by decide +kernel
theorem lkX9_withSecond_112 : Cond.fieldLink RX9 112 (TX9 8).1 (TX9 8).2.1 (TX9 8).2.2.1 ∈ wsX9_withSecond := by decide +kernel
theorem kcX9_withSecond_149 : Cond.constantLong RX9 149 (-2 : Int64) ∈ wsX9_withSecond := by decide +kernel
theorem kcX9_withSecond_155 : Cond.constantLong RX9 155 (-3 : Int64) ∈ wsX9_withSecond := by decide +kernel
def fX9_withSecond_80 (z : Nat) (r40 : ST → Int64 → Int32 → Option (Int64 × ST)) (σ : ST) (v1 : Int32) (v2 : Int32) (v5 : Int32) (t0 : Int64) : Option (Int64 × ST) := r40 σ t0 (v5 + 1)
def fX9_withSecond_55 (z : Nat) (r40 : ST → Int64 → Int32 → Option (Int64 × ST)) (σ : ST) (v1 : Int32) (v2 : Int32) (v3 : Int64) (v5 : Int32) (t0 : Int32) (t1 : Int32) : Option (Int64 × ST) := (if t0 ≤ t1 then bd (fX9_allTimes z σ v1 (1000 : Int32)) (fun u28 => bd (fX9_part z v3 u28 v2) (fun u29 => some (u29, σ))) else bd (fX9_foundByTwo z σ v1 v5) (fun u30 => (if u30.1 ≤ v3 then fX9_withSecond_80 z r40 u30.2 v1 v2 v5 v3 else fX9_withSecond_80 z r40 u30.2 v1 v2 v5 u30.1)))
def fX9_withSecond_40 (z : Nat) (v1 : Int32) (v2 : Int32) : Nat → ST → Int64 → Int32 → Option (Int64 × ST)
  | 0 => fun _ _ _ => none
  | n + 1 => fun σ v3 v5 => (if v1 = (1 : Int32) then fX9_withSecond_55 z (fX9_withSecond_40 z v1 v2 n) σ v1 v2 v3 v5 (12 : Int32) v5 else fX9_withSecond_55 z (fX9_withSecond_40 z v1 v2 n) σ v1 v2 v3 v5 (144 : Int32) v5)
def fX9_withSecond_31 (z : Nat) (σ : ST) : Option (Int64 × ST) := some ((-3 : Int64), σ)
def fX9_withSecond (z : Nat) (σ : ST) (v1 : Int32) (v2 : Int32) : Option (Int64 × ST) := bd (fX9_in z ((v1).toInt64) (1 : Int64) (2 : Int64)) (fun u21 => (if u21 = 0 then some ((-2 : Int64), σ) else (if (σ.1 0 8) = 0 then fX9_withSecond_31 z σ else bd (fX9_canLook z σ v1) (fun u24 => (if u24 = 0 then fX9_withSecond_31 z σ else fX9_withSecond_40 z v1 v2 z σ (0 : Int64) (0 : Int32))))))
section
variable {p : Program} {l : Launch} {e : Env} {s : State} {m : MethodId} {args : Array Value} {below : List Frame} {meth : Method} {c : Code} {G : GT}
set_option maxHeartbeats 4000000 in
set_option maxRecDepth 100000 in
theorem wX9_withSecond_80 (C0 : Cx p s m args meth c cX9_withSecond RX9 8 (some .long) wsX9_withSecond) (G0 : Gx G s) (hJ : gJ 13 G) (z : Nat) (r40 : ST → Int64 → Int32 → Option (Int64 × ST)) (σ : ST) (v1 : Int32) (v2 : Int32) (v5 : Int32) (t0 : Int64) (res : (Int64 × ST)) (h : fX9_withSecond_80 z r40 σ v1 v2 v5 t0 = some res) (hr40 : ∀ (σ : ST) (v3 : Int64) (v5 : Int32), r40 σ v3 v5 = some res → ∀ (H : Heap) (locs : List Loc) (ls : Array Slot), Wd cellM 13 G s.heap σ H locs → lv_has ls 8 [(0, .ref (aD G 0)), (1, .int v1), (2, .int v2), (3, .long v3), (5, .int v5)] → W p l e rX9_withSecond s m args below meth c H locs 0 0 (MQ below (XQl cellM 13 G res.1 res.2) args s 0 0 (gA 13 G)) (F0 m 40 ls [])) {H : Heap} {locs : List Loc} {ls : Array Slot} (hW : Wd cellM 13 G s.heap σ H locs) (hl : lv_has ls 8 [(0, .ref (aD G 0)), (1, .int v1), (2, .int v2), (5, .int v5)]) : W p l e rX9_withSecond s m args below meth c H locs 0 0 (MQ below (XQl cellM 13 G res.1 res.2) args s 0 0 (gA 13 G)) (F0 m 80 ls [.long t0]) := by
  unfold fX9_withSecond_80 at h
  refine lv_lstore_n (lv' := [(3, .long t0), (0, .ref (aD G 0)), (1, .int v1), (2, .int v2), (5, .int v5)]) C0.1 C0.2.1 dX9_withSecond_80 rfl hl (by decide) rfl (fun ls hl => ?_)
  refine lv_iinc (v := (v5 + 1)) (lv' := [(5, .int (v5 + 1)), (3, .long t0), (0, .ref (aD G 0)), (1, .int v1), (2, .int v2)]) C0.1 C0.2.1 dX9_withSecond_81 hl (k := 4) rfl rfl (by decide) rfl (fun ls hl => ?_)
  refine lv_goto (tgt := 40) C0.1 C0.2.1 dX9_withSecond_84 (by decide) ?_
  exact hr40 σ t0 (v5 + 1) h _ _ _ hW (lv_sub hl [2, 3, 4, 1, 0] rfl)
set_option maxHeartbeats 4000000 in
set_option maxRecDepth 100000 in
theorem wX9_withSecond_55 (C0 : Cx p s m args meth c cX9_withSecond RX9 8 (some .long) wsX9_withSecond) (G0 : Gx G s) (hJ : gJ 13 G) (z : Nat) (r40 : ST → Int64 → Int32 → Option (Int64 × ST)) (σ : ST) (v1 : Int32) (v2 : Int32) (v3 : Int64) (v5 : Int32) (t0 : Int32) (t1 : Int32) (res : (Int64 × ST)) (h : fX9_withSecond_55 z r40 σ v1 v2 v3 v5 t0 t1 = some res) (hr40 : ∀ (σ : ST) (v3 : Int64) (v5 : Int32), r40 σ v3 v5 = some res → ∀ (H : Heap) (locs : List Loc) (ls : Array Slot), Wd cellM 13 G s.heap σ H locs → lv_has ls 8 [(0, .ref (aD G 0)), (1, .int v1), (2, .int v2), (3, .long v3), (5, .int v5)] → W p l e rX9_withSecond s m args below meth c H locs 0 0 (MQ below (XQl cellM 13 G res.1 res.2) args s 0 0 (gA 13 G)) (F0 m 40 ls [])) {H : Heap} {locs : List Loc} {ls : Array Slot} (hW : Wd cellM 13 G s.heap σ H locs) (hl : lv_has ls 8 [(0, .ref (aD G 0)), (1, .int v1), (2, .int v2), (3, .long v3), (5, .int v5)]) : W p l e rX9_withSecond s m args below meth c H locs 0 0 (MQ below (XQl cellM 13 G res.1 res.2) args s 0 0 (gA 13 G)) (F0 m 55 ls [.int t0, .int t1]) := by
  unfold fX9_withSecond_55 at h
  refine lv_icmp_ge (tgt := 87) C0.1 C0.2.1 dX9_withSecond_55 (by decide) (fun c27 => ?_) (fun c27 => ?_)
  · rw [if_pos c27] at h
    refine lv_lload_n C0.1 C0.2.1 dX9_withSecond_87 rfl (lv_at hl 3 rfl) ?_
    refine lv_aload_n C0.1 C0.2.1 dX9_withSecond_88 rfl (lv_at hl 0 rfl) ?_
    refine lv_iload_n C0.1 C0.2.1 dX9_withSecond_89 rfl (lv_at hl 1 rfl) ?_
    refine lv_sipush (v := (1000 : Int32)) C0.1 C0.2.1 dX9_withSecond_90 (by decide) ?_
    obtain ⟨u28, hu28, h⟩ := bd_some h
    refine x_kl (r := u28) (x_runV (As := [.int v1, .int (1000 : Int32)]) (rest := [.long v3]) C0 G0 hW (cX9_allTimes_met l hJ z σ v1 (1000 : Int32) _ hu28) (cwV 2 C0.2.2.2.1 gX9_withSecond_X9_allTimes rfl rfl rfl hdvX9_allTimes ⟨Nat.le_of_ble_eq_true rfl, Nat.le_of_ble_eq_true rfl⟩) cM_0 (by decide) rfl rfl rfl hl (Nat.le_of_ble_eq_true rfl) dX9_withSecond_93 ⟨Nat.le_refl 0, Nat.le_refl 0⟩) hW (fun H locs hW => ?_)
    refine lv_iload_n C0.1 C0.2.1 dX9_withSecond_96 rfl (lv_at hl 2 rfl) ?_
    obtain ⟨u29, hu29, h⟩ := bd_some h
    refine x_kl (r := u29) (x_runS (As := [.long v3, .long u28, .int v2]) (rest := []) C0 G0 hW (cX9_part_met l hJ z σ v3 u28 v2 _ hu29) (va_cwS 3 C0.2.2.2.1 gX9_withSecond_X9_part rfl rfl rfl hdsX9_part ⟨Nat.le_of_ble_eq_true rfl, Nat.le_of_ble_eq_true rfl⟩) rfl rfl hl (Nat.le_of_ble_eq_true rfl) dX9_withSecond_97 ⟨Nat.le_refl 0, Nat.le_refl 0⟩) hW (fun H locs hW => ?_)
    cases h
    exact x_lret C0 hW dX9_withSecond_100
  · rw [if_neg c27] at h
    refine lv_aload_n C0.1 C0.2.1 dX9_withSecond_58 rfl (lv_at hl 0 rfl) ?_
    refine lv_iload_n C0.1 C0.2.1 dX9_withSecond_59 rfl (lv_at hl 1 rfl) ?_
    refine lv_iload C0.1 C0.2.1 dX9_withSecond_60 (lv_at hl 4 rfl) ?_
    obtain ⟨u30, hu30, h⟩ := bd_some h
    refine x_kl (r := u30.1) (x_runV (As := [.int v1, .int v5]) (rest := []) C0 G0 hW (cX9_foundByTwo_met l hJ z σ v1 v5 _ hu30) (cwV 2 C0.2.2.2.1 gX9_withSecond_X9_foundByTwo rfl rfl rfl hdvX9_foundByTwo ⟨Nat.le_of_ble_eq_true rfl, Nat.le_of_ble_eq_true rfl⟩) cM_0 (by decide) rfl rfl rfl hl (Nat.le_of_ble_eq_true rfl) dX9_withSecond_62 ⟨Nat.le_refl 0, Nat.le_refl 0⟩) hW (fun H locs hW => ?_)
    refine lv_lstore (lv' := [(6, .long u30.1), (0, .ref (aD G 0)), (1, .int v1), (2, .int v2), (3, .long v3), (5, .int v5)]) C0.1 C0.2.1 dX9_withSecond_65 hl (by decide) rfl (fun ls hl => ?_)
    refine lv_lload C0.1 C0.2.1 dX9_withSecond_67 (lv_at hl 0 rfl) ?_
    refine lv_lload_n C0.1 C0.2.1 dX9_withSecond_69 rfl (lv_at hl 4 rfl) ?_
    refine x_lc_le (tgt := 79) C0 dX9_withSecond_70 dX9_withSecond_71 (by decide) (fun c31 => ?_) (fun c31 => ?_)
    · rw [if_pos c31] at h
      refine lv_lload_n C0.1 C0.2.1 dX9_withSecond_79 rfl (lv_at hl 4 rfl) ?_
      exact wX9_withSecond_80 C0 G0 hJ z r40 u30.2 v1 v2 v5 v3 _ h (by exact hr40) hW (lv_sub hl [1, 2, 3, 5] rfl)
    · rw [if_neg c31] at h
      refine lv_lload C0.1 C0.2.1 dX9_withSecond_74 (lv_at hl 0 rfl) ?_
      refine lv_goto (tgt := 80) C0.1 C0.2.1 dX9_withSecond_76 (by decide) ?_
      exact wX9_withSecond_80 C0 G0 hJ z r40 u30.2 v1 v2 v5 u30.1 _ h (by exact hr40) hW (lv_sub hl [1, 2, 3, 5] rfl)
set_option maxHeartbeats 4000000 in
set_option maxRecDepth 100000 in
theorem wX9_withSecond_40 (C0 : Cx p s m args meth c cX9_withSecond RX9 8 (some .long) wsX9_withSecond) (G0 : Gx G s) (hJ : gJ 13 G) (z : Nat) (v1 : Int32) (v2 : Int32) (n : Nat) (σ : ST) (v3 : Int64) (v5 : Int32) (res : (Int64 × ST)) (h : fX9_withSecond_40 z v1 v2 n σ v3 v5 = some res)  {H : Heap} {locs : List Loc} {ls : Array Slot} (hW : Wd cellM 13 G s.heap σ H locs) (hl : lv_has ls 8 [(0, .ref (aD G 0)), (1, .int v1), (2, .int v2), (3, .long v3), (5, .int v5)]) : W p l e rX9_withSecond s m args below meth c H locs 0 0 (MQ below (XQl cellM 13 G res.1 res.2) args s 0 0 (gA 13 G)) (F0 m 40 ls []) := by
  induction n generalizing σ v3 v5 H locs ls with
  | zero => cases h
  | succ n ih =>
    have hr40 : ∀ (σ : ST) (v3 : Int64) (v5 : Int32), fX9_withSecond_40 z v1 v2 n σ v3 v5 = some res → ∀ (H : Heap) (locs : List Loc) (ls : Array Slot), Wd cellM 13 G s.heap σ H locs → lv_has ls 8 [(0, .ref (aD G 0)), (1, .int v1), (2, .int v2), (3, .long v3), (5, .int v5)] → W p l e rX9_withSecond s m args below meth c H locs 0 0 (MQ below (XQl cellM 13 G res.1 res.2) args s 0 0 (gA 13 G)) (F0 m 40 ls []) := fun σ v3 v5 h H locs ls hW hl => ih σ v3 v5 h hW hl
    clear ih
    unfold fX9_withSecond_40 at h
    refine lv_iload C0.1 C0.2.1 dX9_withSecond_40 (lv_at hl 4 rfl) ?_
    refine lv_iload_n C0.1 C0.2.1 dX9_withSecond_42 rfl (lv_at hl 1 rfl) ?_
    refine lv_iconst (v := (1 : Int32)) C0.1 C0.2.1 dX9_withSecond_43 (by decide) ?_
    refine lv_icmp_ne (tgt := 52) C0.1 C0.2.1 dX9_withSecond_44 (by decide) (fun c26 => ?_) (fun c26 => ?_)
    · rw [if_neg c26] at h
      refine lv_sipush (v := (144 : Int32)) C0.1 C0.2.1 dX9_withSecond_52 (by decide) ?_
      exact wX9_withSecond_55 C0 G0 hJ z (fX9_withSecond_40 z v1 v2 n) σ v1 v2 v3 v5 (144 : Int32) v5 _ h (by exact hr40) hW (lv_sub hl [0, 1, 2, 3, 4] rfl)
    · rw [if_pos c26] at h
      refine lv_bipush (v := (12 : Int32)) C0.1 C0.2.1 dX9_withSecond_47 (by decide) ?_
      refine lv_goto (tgt := 55) C0.1 C0.2.1 dX9_withSecond_49 (by decide) ?_
      exact wX9_withSecond_55 C0 G0 hJ z (fX9_withSecond_40 z v1 v2 n) σ v1 v2 v3 v5 (12 : Int32) v5 _ h (by exact hr40) hW (lv_sub hl [0, 1, 2, 3, 4] rfl)
set_option maxHeartbeats 4000000 in
set_option maxRecDepth 100000 in
theorem wX9_withSecond_31 (C0 : Cx p s m args meth c cX9_withSecond RX9 8 (some .long) wsX9_withSecond) (G0 : Gx G s) (hJ : gJ 13 G) (z : Nat) (σ : ST) (res : (Int64 × ST)) (h : fX9_withSecond_31 z σ = some res)  {H : Heap} {locs : List Loc} {ls : Array Slot} (hW : Wd cellM 13 G s.heap σ H locs) (hl : lv_has ls 8 []) : W p l e rX9_withSecond s m args below meth c H locs 0 0 (MQ below (XQl cellM 13 G res.1 res.2) args s 0 0 (gA 13 G)) (F0 m 31 ls []) := by
  unfold fX9_withSecond_31 at h
  refine lv_ldc2 (v := (-3 : Int64)) C0.1 C0.2.1 C0.2.2.2.2.1 (C0.2.2.2.1 _ kcX9_withSecond_155) dX9_withSecond_31 ?_
  cases h
  exact x_lret C0 hW dX9_withSecond_34
set_option maxHeartbeats 4000000 in
set_option maxRecDepth 100000 in
theorem wX9_withSecond (C0 : Cx p s m args meth c cX9_withSecond RX9 8 (some .long) wsX9_withSecond) (G0 : Gx G s) (hJ : gJ 13 G) (z : Nat) (σ : ST) (v1 : Int32) (v2 : Int32) (res : (Int64 × ST)) (h : fX9_withSecond z σ v1 v2 = some res)  {H : Heap} {locs : List Loc} {ls : Array Slot} (hW : Wd cellM 13 G s.heap σ H locs) (hl : lv_has ls 8 [(0, .ref (aD G 0)), (1, .int v1), (2, .int v2)]) : W p l e rX9_withSecond s m args below meth c H locs 0 0 (MQ below (XQl cellM 13 G res.1 res.2) args s 0 0 (gA 13 G)) (F0 m 0 ls []) := by
  unfold fX9_withSecond at h
  refine lv_iload_n C0.1 C0.2.1 dX9_withSecond_0 rfl (lv_at hl 1 rfl) ?_
  refine lv_i2l (v := ((v1).toInt64)) C0.1 C0.2.1 dX9_withSecond_1 rfl ?_
  refine lv_lconst (v := (1 : Int64)) C0.1 C0.2.1 dX9_withSecond_2 (by decide) ?_
  refine lv_ldc2 (v := (2 : Int64)) C0.1 C0.2.1 C0.2.2.2.2.1 (C0.2.2.2.1 _ kcX9_withSecond_130) dX9_withSecond_3 ?_
  obtain ⟨u21, hu21, h⟩ := bd_some h
  refine x_ki (r := u21) (x_runS (As := [.long ((v1).toInt64), .long (1 : Int64), .long (2 : Int64)]) (rest := []) C0 G0 hW (cX9_in_met l hJ z σ ((v1).toInt64) (1 : Int64) (2 : Int64) _ hu21) (va_cwS 3 C0.2.2.2.1 gX9_withSecond_X9_in rfl rfl rfl hdsX9_in ⟨Nat.le_of_ble_eq_true rfl, Nat.le_of_ble_eq_true rfl⟩) rfl rfl hl (Nat.le_of_ble_eq_true rfl) dX9_withSecond_6 ⟨Nat.le_refl 0, Nat.le_refl 0⟩) hW (fun H locs hW => ?_)
  refine lv_if_ne (tgt := 16) C0.1 C0.2.1 dX9_withSecond_9 (by decide) (fun c22 => ?_) (fun c22 => ?_)
  · rw [if_neg c22] at h
    refine lv_aload_n C0.1 C0.2.1 dX9_withSecond_16 rfl (lv_at hl 0 rfl) ?_
    refine x_get (v := .int (σ.1 0 8)) C0 G0 hW cM_0 (by decide) rfl 8 (by decide) inX9_withSecond_X9 lkX9_withSecond_112 rfl dX9_withSecond_17 ?_
    refine lv_if_eq (tgt := 31) C0.1 C0.2.1 dX9_withSecond_20 (by decide) (fun c23 => ?_) (fun c23 => ?_)
    · rw [if_pos c23] at h
      exact wX9_withSecond_31 C0 G0 hJ z σ _ h hW (lv_sub hl [] rfl)
    · rw [if_neg c23] at h
      refine lv_aload_n C0.1 C0.2.1 dX9_withSecond_23 rfl (lv_at hl 0 rfl) ?_
      refine lv_iload_n C0.1 C0.2.1 dX9_withSecond_24 rfl (lv_at hl 1 rfl) ?_
      obtain ⟨u24, hu24, h⟩ := bd_some h
      refine x_ki (r := u24) (x_runV (As := [.int v1]) (rest := []) C0 G0 hW (cX9_canLook_met l hJ z σ v1 _ hu24) (cwV 1 C0.2.2.2.1 gX9_withSecond_X9_canLook rfl rfl rfl hdvX9_canLook ⟨Nat.le_of_ble_eq_true rfl, Nat.le_of_ble_eq_true rfl⟩) cM_0 (by decide) rfl rfl rfl hl (Nat.le_of_ble_eq_true rfl) dX9_withSecond_25 ⟨Nat.le_refl 0, Nat.le_refl 0⟩) hW (fun H locs hW => ?_)
      refine lv_if_ne (tgt := 35) C0.1 C0.2.1 dX9_withSecond_28 (by decide) (fun c25 => ?_) (fun c25 => ?_)
      · rw [if_neg c25] at h
        refine lv_lconst (v := (0 : Int64)) C0.1 C0.2.1 dX9_withSecond_35 (by decide) ?_
        refine lv_lstore_n (lv' := [(3, .long (0 : Int64)), (0, .ref (aD G 0)), (1, .int v1), (2, .int v2)]) C0.1 C0.2.1 dX9_withSecond_36 rfl hl (by decide) rfl (fun ls hl => ?_)
        refine lv_iconst (v := (0 : Int32)) C0.1 C0.2.1 dX9_withSecond_37 (by decide) ?_
        refine lv_istore (lv' := [(5, .int (0 : Int32)), (3, .long (0 : Int64)), (0, .ref (aD G 0)), (1, .int v1), (2, .int v2)]) C0.1 C0.2.1 dX9_withSecond_38 hl (by decide) rfl (fun ls hl => ?_)
        exact wX9_withSecond_40 C0 G0 hJ z v1 v2 z σ (0 : Int64) (0 : Int32) _ h hW (lv_sub hl [2, 3, 4, 1, 0] rfl)
      · rw [if_pos c25] at h
        exact wX9_withSecond_31 C0 G0 hJ z σ _ h hW (lv_sub hl [] rfl)
  · rw [if_pos c22] at h
    refine lv_ldc2 (v := (-2 : Int64)) C0.1 C0.2.1 C0.2.2.2.2.1 (C0.2.2.2.1 _ kcX9_withSecond_149) dX9_withSecond_12 ?_
    cases h
    exact x_lret C0 hW dX9_withSecond_15
theorem cX9_withSecond_met (l : Launch) {G : GT} (hJ : gJ 13 G) (z : Nat) (σ : ST) (v1 : Int32) (v2 : Int32) (res : (Int64 × ST)) (h : fX9_withSecond z σ v1 v2 = some res) : Met l yX9_withSecond wsX9_withSecond rX9_withSecond (XPc cellM 13 G σ [.ref (aD G 0), .int v1, .int v2]) (XQl cellM 13 G res.1 res.2) 0 0 (gA 13 G) :=
  x_met (ret := (some .long)) (maxL := 8) (by decide) rfl (Nat.le_of_ble_eq_true rfl) (fun p e s m args below meth c H locs ls C0 G0 hW hl => wX9_withSecond C0 G0 hJ z σ v1 v2 res h hW hl)
end
/-! X9_write -/
def rX9_write : Room := { frames := 1, cells := 0, slots := 0, locals := 25 }
theorem hdvX9_write : yX9_write.cls = RX9 ∧ yX9_write.cls ≠ "java/lang/invoke/MethodHandle" ∧ yX9_write.cls ≠ "java/lang/invoke/VarHandle" ∧ (parseMethodDescriptor yX9_write.desc).map (fun d => d.parameters.length) = some 1 := by decide +kernel
theorem kcX9_write_52 : Cond.constantLong RX9 52 (255 : Int64) ∈ wsX9_write := by decide +kernel
theorem inX9_write_X9 : ∀ w ∈ u_ws RX9 TX9 29, w ∈ wsX9_write := by decide +kernel
theorem lkX9_write_58 : Cond.fieldLink RX9 58 (TX9 17).1 (TX9 17).2.1 (TX9 17).2.2.1 ∈ wsX9_write := by decide +kernel
theorem lkX9_write_26 : Cond.fieldLink RX9 26 (TX9 16).1 (TX9 16).2.1 (TX9 16).2.2.1 ∈ wsX9_write := by decide +kernel
def fX9_write (z : Nat) (σ : ST) (v1 : Int32) : Option (Int32 × ST) := bd (fX9_in z ((v1).toInt64) (0 : Int64) (255 : Int64)) (fun u21 => (if u21 = 0 then some ((-2 : Int32), σ) else (if (σ.1 0 17) = (40 : Int32) then some ((-4 : Int32), σ) else gd (inb (σ.1 0 17) 40) ( lt (pI σ 6 ((σ.1 0 17)).toNatClampNeg v1) (fun s25 => lt (pI s25 0 17 ((s25.1 0 17) + (1 : Int32))) (fun s26 => some ((s26.1 0 17), s26)))))))
section
variable {p : Program} {l : Launch} {e : Env} {s : State} {m : MethodId} {args : Array Value} {below : List Frame} {meth : Method} {c : Code} {G : GT}
set_option maxHeartbeats 4000000 in
set_option maxRecDepth 100000 in
theorem wX9_write (C0 : Cx p s m args meth c cX9_write RX9 2 (some .int) wsX9_write) (G0 : Gx G s) (hJ : gJ 13 G) (z : Nat) (σ : ST) (v1 : Int32) (res : (Int32 × ST)) (h : fX9_write z σ v1 = some res)  {H : Heap} {locs : List Loc} {ls : Array Slot} (hW : Wd cellM 13 G s.heap σ H locs) (hl : lv_has ls 2 [(0, .ref (aD G 0)), (1, .int v1)]) : W p l e rX9_write s m args below meth c H locs 0 0 (MQ below (XQi cellM 13 G res.1 res.2) args s 0 0 (gA 13 G)) (F0 m 0 ls []) := by
  unfold fX9_write at h
  refine lv_iload_n C0.1 C0.2.1 dX9_write_0 rfl (lv_at hl 1 rfl) ?_
  refine lv_i2l (v := ((v1).toInt64)) C0.1 C0.2.1 dX9_write_1 rfl ?_
  refine lv_lconst (v := (0 : Int64)) C0.1 C0.2.1 dX9_write_2 (by decide) ?_
  refine lv_ldc2 (v := (255 : Int64)) C0.1 C0.2.1 C0.2.2.2.2.1 (C0.2.2.2.1 _ kcX9_write_52) dX9_write_3 ?_
  obtain ⟨u21, hu21, h⟩ := bd_some h
  refine x_ki (r := u21) (x_runS (As := [.long ((v1).toInt64), .long (0 : Int64), .long (255 : Int64)]) (rest := []) C0 G0 hW (cX9_in_met l hJ z σ ((v1).toInt64) (0 : Int64) (255 : Int64) _ hu21) (va_cwS 3 C0.2.2.2.1 gX9_write_X9_in rfl rfl rfl hdsX9_in ⟨Nat.le_of_ble_eq_true rfl, Nat.le_of_ble_eq_true rfl⟩) rfl rfl hl (Nat.le_of_ble_eq_true rfl) dX9_write_6 ⟨Nat.le_refl 0, Nat.le_refl 0⟩) hW (fun H locs hW => ?_)
  refine lv_if_ne (tgt := 15) C0.1 C0.2.1 dX9_write_9 (by decide) (fun c22 => ?_) (fun c22 => ?_)
  · rw [if_neg c22] at h
    refine lv_aload_n C0.1 C0.2.1 dX9_write_15 rfl (lv_at hl 0 rfl) ?_
    refine x_get (v := .int (σ.1 0 17)) C0 G0 hW cM_0 (by decide) rfl 17 (by decide) inX9_write_X9 lkX9_write_58 rfl dX9_write_16 ?_
    refine lv_bipush (v := (40 : Int32)) C0.1 C0.2.1 dX9_write_19 (by decide) ?_
    refine lv_icmp_ne (tgt := 27) C0.1 C0.2.1 dX9_write_21 (by decide) (fun c23 => ?_) (fun c23 => ?_)
    · rw [if_neg c23] at h
      refine lv_aload_n C0.1 C0.2.1 dX9_write_27 rfl (lv_at hl 0 rfl) ?_
      refine x_get (v := .ref (aD G 6)) C0 G0 hW cM_0 (by decide) rfl 16 (by decide) inX9_write_X9 lkX9_write_26 rfl dX9_write_28 ?_
      refine lv_aload_n C0.1 C0.2.1 dX9_write_31 rfl (lv_at hl 0 rfl) ?_
      refine x_get (v := .int (σ.1 0 17)) C0 G0 hW cM_0 (by decide) rfl 17 (by decide) inX9_write_X9 lkX9_write_58 rfl dX9_write_32 ?_
      refine lv_iload_n C0.1 C0.2.1 dX9_write_35 rfl (lv_at hl 1 rfl) ?_
      obtain ⟨g24, h⟩ := gd_some h
      refine x_iast C0 G0 hJ hW (fun f g => cM_6) (by decide) g24 dX9_write_36 (fun H locs hW => ?_)
      obtain ⟨s25, es25, h⟩ := lt_some h
      rw [es25] at hW
      refine lv_aload_n C0.1 C0.2.1 dX9_write_37 rfl (lv_at hl 0 rfl) ?_
      refine lv_dup C0.1 C0.2.1 dX9_write_38 rfl ?_
      refine x_get (v := .int (s25.1 0 17)) C0 G0 hW cM_0 (by decide) rfl 17 (by decide) inX9_write_X9 lkX9_write_58 rfl dX9_write_39 ?_
      refine lv_iconst (v := (1 : Int32)) C0.1 C0.2.1 dX9_write_42 (by decide) ?_
      refine lv_iadd C0.1 C0.2.1 dX9_write_43 ?_
      refine x_putI (v := ((s25.1 0 17) + (1 : Int32))) C0 G0 hJ hW cM_0 (by decide) rfl 17 (by decide) inX9_write_X9 lkX9_write_58 tyX9 tyX9_ok nmX9 rfl rfl rfl (Nat.le_of_ble_eq_true rfl) hu_X9_17 dX9_write_44 (fun H locs hW => ?_)
      obtain ⟨s26, es26, h⟩ := lt_some h
      rw [es26] at hW
      refine lv_aload_n C0.1 C0.2.1 dX9_write_47 rfl (lv_at hl 0 rfl) ?_
      refine x_get (v := .int (s26.1 0 17)) C0 G0 hW cM_0 (by decide) rfl 17 (by decide) inX9_write_X9 lkX9_write_58 rfl dX9_write_48 ?_
      cases h
      exact x_iret C0 hW dX9_write_51
    · rw [if_pos c23] at h
      refine lv_bipush (v := (-4 : Int32)) C0.1 C0.2.1 dX9_write_24 (by decide) ?_
      cases h
      exact x_iret C0 hW dX9_write_26
  · rw [if_pos c22] at h
    refine lv_bipush (v := (-2 : Int32)) C0.1 C0.2.1 dX9_write_12 (by decide) ?_
    cases h
    exact x_iret C0 hW dX9_write_14
theorem cX9_write_met (l : Launch) {G : GT} (hJ : gJ 13 G) (z : Nat) (σ : ST) (v1 : Int32) (res : (Int32 × ST)) (h : fX9_write z σ v1 = some res) : Met l yX9_write wsX9_write rX9_write (XPc cellM 13 G σ [.ref (aD G 0), .int v1]) (XQi cellM 13 G res.1 res.2) 0 0 (gA 13 G) :=
  x_met (ret := (some .int)) (maxL := 2) (by decide) rfl (Nat.le_of_ble_eq_true rfl) (fun p e s m args below meth c H locs ls C0 G0 hW hl => wX9_write C0 G0 hJ z σ v1 res h hW hl)
end

/-! ===== the constructors ===== -/
def rX1_init : Room := { frames := 1, cells := 0, slots := 0, locals := 12 }
def rX2_init : Room := { frames := 1, cells := 0, slots := 0, locals := 12 }
def rX4_init : Room := { frames := 1, cells := 3, slots := 15, locals := 12 }
def rX6_init : Room := { frames := 1, cells := 1, slots := 40, locals := 12 }
def rX7_init : Room := { frames := 1, cells := 1, slots := 11, locals := 12 }
def rX9_init : Room := { frames := 1, cells := 12, slots := 343, locals := 12 }
theorem hdvX1_init : yX1_init.cls ≠ "java/lang/invoke/MethodHandle" ∧ yX1_init.cls ≠ "java/lang/invoke/VarHandle" ∧ (parseMethodDescriptor yX1_init.desc).map (fun d => d.parameters.length) = some 0 := by decide +kernel
theorem hdvX2_init : yX2_init.cls ≠ "java/lang/invoke/MethodHandle" ∧ yX2_init.cls ≠ "java/lang/invoke/VarHandle" ∧ (parseMethodDescriptor yX2_init.desc).map (fun d => d.parameters.length) = some 0 := by decide +kernel
theorem hdvX4_init : yX4_init.cls ≠ "java/lang/invoke/MethodHandle" ∧ yX4_init.cls ≠ "java/lang/invoke/VarHandle" ∧ (parseMethodDescriptor yX4_init.desc).map (fun d => d.parameters.length) = some 0 := by decide +kernel
theorem hdvX5_init : yX5_init.cls ≠ "java/lang/invoke/MethodHandle" ∧ yX5_init.cls ≠ "java/lang/invoke/VarHandle" ∧ (parseMethodDescriptor yX5_init.desc).map (fun d => d.parameters.length) = some 1 := by decide +kernel
theorem hdvX6_init : yX6_init.cls ≠ "java/lang/invoke/MethodHandle" ∧ yX6_init.cls ≠ "java/lang/invoke/VarHandle" ∧ (parseMethodDescriptor yX6_init.desc).map (fun d => d.parameters.length) = some 0 := by decide +kernel
theorem hdvX7_init : yX7_init.cls ≠ "java/lang/invoke/MethodHandle" ∧ yX7_init.cls ≠ "java/lang/invoke/VarHandle" ∧ (parseMethodDescriptor yX7_init.desc).map (fun d => d.parameters.length) = some 0 := by decide +kernel
theorem hdvX0_init : yX0_init.cls ≠ "java/lang/invoke/MethodHandle" ∧ yX0_init.cls ≠ "java/lang/invoke/VarHandle" ∧ (parseMethodDescriptor yX0_init.desc).map (fun d => d.parameters.length) = some 0 := by decide +kernel
theorem hdvX8_init : yX8_init.cls ≠ "java/lang/invoke/MethodHandle" ∧ yX8_init.cls ≠ "java/lang/invoke/VarHandle" ∧ (parseMethodDescriptor yX8_init.desc).map (fun d => d.parameters.length) = some 0 := by decide +kernel
theorem hdvX9_init : yX9_init.cls ≠ "java/lang/invoke/MethodHandle" ∧ yX9_init.cls ≠ "java/lang/invoke/VarHandle" ∧ (parseMethodDescriptor yX9_init.desc).map (fun d => d.parameters.length) = some 0 := by decide +kernel
theorem inX4_init_X4 : ∀ w ∈ u_ws RX4 TX4 6, w ∈ wsX4_init := by decide +kernel
theorem inX5_init_X5 : ∀ w ∈ u_ws RX5 TX5 1, w ∈ wsX5_init := by decide +kernel
theorem inX5_init_X4 : ∀ w ∈ u_ws RX4 TX4 6, w ∈ wsX5_init := by decide +kernel
theorem inX6_init_X6 : ∀ w ∈ u_ws RX6 TX6 6, w ∈ wsX6_init := by decide +kernel
theorem inX7_init_X7 : ∀ w ∈ u_ws RX7 TX7 9, w ∈ wsX7_init := by decide +kernel
theorem inX0_init_X0 : ∀ w ∈ u_ws RX0 TX0 5, w ∈ wsX0_init := by decide +kernel
theorem inX0_init_X5 : ∀ w ∈ u_ws RX5 TX5 1, w ∈ wsX0_init := by decide +kernel
theorem inX0_init_X1 : ∀ w ∈ u_ws RX1 TX1 2, w ∈ wsX0_init := by decide +kernel
theorem inX8_init_X8 : ∀ w ∈ u_ws RX8 TX8 10, w ∈ wsX8_init := by decide +kernel
theorem inX8_init_X6 : ∀ w ∈ u_ws RX6 TX6 6, w ∈ wsX8_init := by decide +kernel
theorem inX8_init_X7 : ∀ w ∈ u_ws RX7 TX7 9, w ∈ wsX8_init := by decide +kernel
theorem inX8_init_X4 : ∀ w ∈ u_ws RX4 TX4 6, w ∈ wsX8_init := by decide +kernel
theorem inX8_init_X5 : ∀ w ∈ u_ws RX5 TX5 1, w ∈ wsX8_init := by decide +kernel
theorem inX8_init_X0 : ∀ w ∈ u_ws RX0 TX0 5, w ∈ wsX8_init := by decide +kernel
theorem inX8_init_X2 : ∀ w ∈ u_ws RX2 TX2 1, w ∈ wsX8_init := by decide +kernel
theorem inX9_init_X9 : ∀ w ∈ u_ws RX9 TX9 29, w ∈ wsX9_init := by decide +kernel
set_option maxHeartbeats 4000000 in
set_option maxRecDepth 100000 in
theorem i_X1 (l : Launch) {G : GT} (h0 : Nat) : ∀ sz, Met l yX1_init wsX1_init rX1_init (NPc G [(h0, .inr (1, [.long 0, .int 0]))] sz [.ref h0]) (NQv (S := Unit) G (fun _ => [(h0, .inr (1, [.long 0, .int 0]))]) [] [(h0, .inr (1, [.long 0, .int 0]))] sz) 0 0 (va_A [(h0, .inr (1, [.long 0, .int 0]))] sz) := fun sz => by
  refine n_met (cc := cX1_init) (maxL := 1) (by decide) rfl rfl (Nat.le_of_ble_eq_true rfl) ?_
  intro p e s m args below meth c ls C0 hin hG hP hD hS hl
  have hA : ∀ q, s.heap.size ≤ q → va_A [(h0, .inr (1, [.long 0, .int 0]))] s.heap.size q := fun q h => Or.inr h
  refine lv_aload_n C0.1 C0.2.1 dX1_init_0 rfl (lv_at hl 0 rfl) ?_
  refine n_obj (idx := 1) C0 hl (by decide +kernel) (by decide +kernel) (by decide +kernel) dX1_init_1 (Nat.le_of_ble_eq_true rfl) (Nat.le_of_ble_eq_true rfl) ?_
  exact n_ret C0 () hP hD hS hG.1 dX1_init_4
set_option maxHeartbeats 4000000 in
set_option maxRecDepth 100000 in
theorem i_X2 (l : Launch) {G : GT} (h0 : Nat) : ∀ sz, Met l yX2_init wsX2_init rX2_init (NPc G [(h0, .inr (2, [.long 0]))] sz [.ref h0]) (NQv (S := Unit) G (fun _ => [(h0, .inr (2, [.long 0]))]) [] [(h0, .inr (2, [.long 0]))] sz) 0 0 (va_A [(h0, .inr (2, [.long 0]))] sz) := fun sz => by
  refine n_met (cc := cX2_init) (maxL := 1) (by decide) rfl rfl (Nat.le_of_ble_eq_true rfl) ?_
  intro p e s m args below meth c ls C0 hin hG hP hD hS hl
  have hA : ∀ q, s.heap.size ≤ q → va_A [(h0, .inr (2, [.long 0]))] s.heap.size q := fun q h => Or.inr h
  refine lv_aload_n C0.1 C0.2.1 dX2_init_0 rfl (lv_at hl 0 rfl) ?_
  refine n_obj (idx := 1) C0 hl (by decide +kernel) (by decide +kernel) (by decide +kernel) dX2_init_1 (Nat.le_of_ble_eq_true rfl) (Nat.le_of_ble_eq_true rfl) ?_
  exact n_ret C0 () hP hD hS hG.1 dX2_init_4
def w1X4 (G : GT) (h0 : Nat) (a : Nat → Nat) : va_W := [(h0, .inr (3, [.ref (a 1), .ref (a 2), .ref (a 3), .int 0, .int 0, .int 0])), (a 1, .inl (gL G, 11, .inr (.inl (fun _ => 0)))), (a 2, .inl (gI G, 2, .inl (fun _ => 0))), (a 3, .inl (gI G, 2, .inl (fun _ => 0)))]
set_option maxHeartbeats 4000000 in
set_option maxRecDepth 100000 in
theorem i_X4 (l : Launch) {G : GT} (h0 : Nat) : ∀ sz, Met l yX4_init wsX4_init rX4_init (NPc G [(h0, .inr (3, [.null, .null, .null, .int 0, .int 0, .int 0]))] sz [.ref h0]) (NQv (S := Nat → Nat) G (w1X4 G h0) [(gL G, .long), (gI G, .int)] [(h0, .inr (3, [.null, .null, .null, .int 0, .int 0, .int 0]))] sz) 3 15 (va_A [(h0, .inr (3, [.null, .null, .null, .int 0, .int 0, .int 0]))] sz) := fun sz => by
  refine n_met (cc := cX4_init) (maxL := 1) (by decide) rfl rfl (Nat.le_of_ble_eq_true rfl) ?_
  intro p e s m args below meth c ls C0 hin hG hP hD hS hl
  have hA : ∀ q, s.heap.size ≤ q → va_A [(h0, .inr (3, [.null, .null, .null, .int 0, .int 0, .int 0]))] s.heap.size q := fun q h => Or.inr h
  refine lv_aload_n C0.1 C0.2.1 dX4_init_0 rfl (lv_at hl 0 rfl) ?_
  refine n_obj (idx := 3) C0 hl (by decide +kernel) (by decide +kernel) (by decide +kernel) dX4_init_1 (Nat.le_of_ble_eq_true rfl) (Nat.le_of_ble_eq_true rfl) ?_
  refine lv_aload_n C0.1 C0.2.1 dX4_init_4 rfl (lv_at hl 0 rfl) ?_
  refine lv_bipush (v := (11 : Int32)) C0.1 C0.2.1 dX4_init_5 (by decide) ?_
  refine n_newL (N := 11) C0 hG hP hD hS hA (by decide +kernel) (by decide) (by decide) (by decide) (Nat.le_of_ble_eq_true rfl) (Nat.le_of_ble_eq_true rfl) dX4_init_7 (fun q4 H hKL hP hD hS => ?_)
  refine W.widen (k := 1) (n := 11) (by omega) (by omega) ?_
  have hP : va_P (gD G) vwCl [(h0, .inr (3, [.null, .null, .null, .int 0, .int 0, .int 0])), (q4, .inl (gL G, 11, .inr (.inl (fun _ => 0))))] H := hP
  have hD : va_D _ [(h0, .inr (3, [.null, .null, .null, .int 0, .int 0, .int 0])), (q4, .inl (gL G, 11, .inr (.inl (fun _ => 0))))] := hD
  refine n_putF C0 hin hG hP hD hS rfl 0 (by decide) inX4_init_X4 (by decide +kernel) tyX4 tyX4_ok nmX4 rfl rfl rfl rfl (Nat.le_of_ble_eq_true rfl) dX4_init_9 (fun H locs hP hD hS => ?_)
  have hP : va_P (gD G) vwCl [(h0, .inr (3, [.ref q4, .null, .null, .int 0, .int 0, .int 0])), (q4, .inl (gL G, 11, .inr (.inl (fun _ => 0))))] H := hP
  have hD : va_D _ [(h0, .inr (3, [.ref q4, .null, .null, .int 0, .int 0, .int 0])), (q4, .inl (gL G, 11, .inr (.inl (fun _ => 0))))] := hD
  refine lv_aload_n C0.1 C0.2.1 dX4_init_12 rfl (lv_at hl 0 rfl) ?_
  refine lv_iconst (v := (2 : Int32)) C0.1 C0.2.1 dX4_init_13 (by decide) ?_
  refine n_newI (N := 2) C0 hG hP hD hS hA (by decide +kernel) (by decide) (by decide) (by decide) (Nat.le_of_ble_eq_true rfl) (Nat.le_of_ble_eq_true rfl) dX4_init_14 (fun q12 H hKI hP hD hS => ?_)
  refine W.widen (k := 2) (n := 13) (by omega) (by omega) ?_
  have hP : va_P (gD G) vwCl [(h0, .inr (3, [.ref q4, .null, .null, .int 0, .int 0, .int 0])), (q4, .inl (gL G, 11, .inr (.inl (fun _ => 0)))), (q12, .inl (gI G, 2, .inl (fun _ => 0)))] H := hP
  have hD : va_D _ [(h0, .inr (3, [.ref q4, .null, .null, .int 0, .int 0, .int 0])), (q4, .inl (gL G, 11, .inr (.inl (fun _ => 0)))), (q12, .inl (gI G, 2, .inl (fun _ => 0)))] := hD
  refine n_putF C0 hin hG hP hD hS rfl 1 (by decide) inX4_init_X4 (by decide +kernel) tyX4 tyX4_ok nmX4 rfl rfl rfl rfl (Nat.le_of_ble_eq_true rfl) dX4_init_16 (fun H locs hP hD hS => ?_)
  have hP : va_P (gD G) vwCl [(h0, .inr (3, [.ref q4, .ref q12, .null, .int 0, .int 0, .int 0])), (q4, .inl (gL G, 11, .inr (.inl (fun _ => 0)))), (q12, .inl (gI G, 2, .inl (fun _ => 0)))] H := hP
  have hD : va_D _ [(h0, .inr (3, [.ref q4, .ref q12, .null, .int 0, .int 0, .int 0])), (q4, .inl (gL G, 11, .inr (.inl (fun _ => 0)))), (q12, .inl (gI G, 2, .inl (fun _ => 0)))] := hD
  refine lv_aload_n C0.1 C0.2.1 dX4_init_19 rfl (lv_at hl 0 rfl) ?_
  refine lv_iconst (v := (2 : Int32)) C0.1 C0.2.1 dX4_init_20 (by decide) ?_
  refine n_newI (N := 2) C0 hG hP hD hS hA (by decide +kernel) (by decide) (by decide) (by decide) (Nat.le_of_ble_eq_true rfl) (Nat.le_of_ble_eq_true rfl) dX4_init_21 (fun q19 H hKI hP hD hS => ?_)
  refine W.widen (k := 3) (n := 15) (by omega) (by omega) ?_
  have hP : va_P (gD G) vwCl [(h0, .inr (3, [.ref q4, .ref q12, .null, .int 0, .int 0, .int 0])), (q4, .inl (gL G, 11, .inr (.inl (fun _ => 0)))), (q12, .inl (gI G, 2, .inl (fun _ => 0))), (q19, .inl (gI G, 2, .inl (fun _ => 0)))] H := hP
  have hD : va_D _ [(h0, .inr (3, [.ref q4, .ref q12, .null, .int 0, .int 0, .int 0])), (q4, .inl (gL G, 11, .inr (.inl (fun _ => 0)))), (q12, .inl (gI G, 2, .inl (fun _ => 0))), (q19, .inl (gI G, 2, .inl (fun _ => 0)))] := hD
  refine n_putF C0 hin hG hP hD hS rfl 2 (by decide) inX4_init_X4 (by decide +kernel) tyX4 tyX4_ok nmX4 rfl rfl rfl rfl (Nat.le_of_ble_eq_true rfl) dX4_init_23 (fun H locs hP hD hS => ?_)
  have hP : va_P (gD G) vwCl [(h0, .inr (3, [.ref q4, .ref q12, .ref q19, .int 0, .int 0, .int 0])), (q4, .inl (gL G, 11, .inr (.inl (fun _ => 0)))), (q12, .inl (gI G, 2, .inl (fun _ => 0))), (q19, .inl (gI G, 2, .inl (fun _ => 0)))] H := hP
  have hD : va_D _ [(h0, .inr (3, [.ref q4, .ref q12, .ref q19, .int 0, .int 0, .int 0])), (q4, .inl (gL G, 11, .inr (.inl (fun _ => 0)))), (q12, .inl (gI G, 2, .inl (fun _ => 0))), (q19, .inl (gI G, 2, .inl (fun _ => 0)))] := hD
  exact n_ret C0 (fun j => if j = 1 then q4 else if j = 2 then q12 else q19) hP hD hS (hKL.two hKI) dX4_init_26
def w1X6 (G : GT) (h0 : Nat) (a : Nat) : va_W := [(h0, .inr (5, [.ref a, .int 0, .int 0, .int 0, .int 0, .int 0])), (a, .inl (gI G, 40, .inl (fun _ => 0)))]
set_option maxHeartbeats 4000000 in
set_option maxRecDepth 100000 in
theorem i_X6 (l : Launch) {G : GT} (h0 : Nat) : ∀ sz, Met l yX6_init wsX6_init rX6_init (NPc G [(h0, .inr (5, [.null, .int 0, .int 0, .int 0, .int 0, .int 0]))] sz [.ref h0]) (NQv (S := Nat) G (w1X6 G h0) [] [(h0, .inr (5, [.null, .int 0, .int 0, .int 0, .int 0, .int 0]))] sz) 1 40 (va_A [(h0, .inr (5, [.null, .int 0, .int 0, .int 0, .int 0, .int 0]))] sz) := fun sz => by
  refine n_met (cc := cX6_init) (maxL := 1) (by decide) rfl rfl (Nat.le_of_ble_eq_true rfl) ?_
  intro p e s m args below meth c ls C0 hin hG hP hD hS hl
  have hA : ∀ q, s.heap.size ≤ q → va_A [(h0, .inr (5, [.null, .int 0, .int 0, .int 0, .int 0, .int 0]))] s.heap.size q := fun q h => Or.inr h
  refine lv_aload_n C0.1 C0.2.1 dX6_init_0 rfl (lv_at hl 0 rfl) ?_
  refine n_obj (idx := 3) C0 hl (by decide +kernel) (by decide +kernel) (by decide +kernel) dX6_init_1 (Nat.le_of_ble_eq_true rfl) (Nat.le_of_ble_eq_true rfl) ?_
  refine lv_aload_n C0.1 C0.2.1 dX6_init_4 rfl (lv_at hl 0 rfl) ?_
  refine lv_bipush (v := (40 : Int32)) C0.1 C0.2.1 dX6_init_5 (by decide) ?_
  refine n_newI (N := 40) C0 hG hP hD hS hA (by decide +kernel) (by decide) (by decide) (by decide) (Nat.le_of_ble_eq_true rfl) (Nat.le_of_ble_eq_true rfl) dX6_init_7 (fun q4 H hKI hP hD hS => ?_)
  refine W.widen (k := 1) (n := 40) (by omega) (by omega) ?_
  have hP : va_P (gD G) vwCl [(h0, .inr (5, [.null, .int 0, .int 0, .int 0, .int 0, .int 0])), (q4, .inl (gI G, 40, .inl (fun _ => 0)))] H := hP
  have hD : va_D _ [(h0, .inr (5, [.null, .int 0, .int 0, .int 0, .int 0, .int 0])), (q4, .inl (gI G, 40, .inl (fun _ => 0)))] := hD
  refine n_putF C0 hin hG hP hD hS rfl 0 (by decide) inX6_init_X6 (by decide +kernel) tyX6 tyX6_ok nmX6 rfl rfl rfl rfl (Nat.le_of_ble_eq_true rfl) dX6_init_9 (fun H locs hP hD hS => ?_)
  have hP : va_P (gD G) vwCl [(h0, .inr (5, [.ref q4, .int 0, .int 0, .int 0, .int 0, .int 0])), (q4, .inl (gI G, 40, .inl (fun _ => 0)))] H := hP
  have hD : va_D _ [(h0, .inr (5, [.ref q4, .int 0, .int 0, .int 0, .int 0, .int 0])), (q4, .inl (gI G, 40, .inl (fun _ => 0)))] := hD
  exact n_ret C0 q4 hP hD hS hG.1 dX6_init_12
def w1X7 (G : GT) (h0 : Nat) (a : Nat) : va_W := [(h0, .inr (6, [.int 0, .int 0, .int 0, .int 0, .int 0, .int 1, .int (-9), .int 0, .ref a])), (a, .inl (gI G, 11, .inl (fun _ => 0)))]
set_option maxHeartbeats 4000000 in
set_option maxRecDepth 100000 in
theorem i_X7 (l : Launch) {G : GT} (h0 : Nat) : ∀ sz, Met l yX7_init wsX7_init rX7_init (NPc G [(h0, .inr (6, [.int 0, .int 0, .int 0, .int 0, .int 0, .int 0, .int 0, .int 0, .null]))] sz [.ref h0]) (NQv (S := Nat) G (w1X7 G h0) [] [(h0, .inr (6, [.int 0, .int 0, .int 0, .int 0, .int 0, .int 0, .int 0, .int 0, .null]))] sz) 1 11 (va_A [(h0, .inr (6, [.int 0, .int 0, .int 0, .int 0, .int 0, .int 0, .int 0, .int 0, .null]))] sz) := fun sz => by
  refine n_met (cc := cX7_init) (maxL := 1) (by decide) rfl rfl (Nat.le_of_ble_eq_true rfl) ?_
  intro p e s m args below meth c ls C0 hin hG hP hD hS hl
  have hA : ∀ q, s.heap.size ≤ q → va_A [(h0, .inr (6, [.int 0, .int 0, .int 0, .int 0, .int 0, .int 0, .int 0, .int 0, .null]))] s.heap.size q := fun q h => Or.inr h
  refine lv_aload_n C0.1 C0.2.1 dX7_init_0 rfl (lv_at hl 0 rfl) ?_
  refine n_obj (idx := 3) C0 hl (by decide +kernel) (by decide +kernel) (by decide +kernel) dX7_init_1 (Nat.le_of_ble_eq_true rfl) (Nat.le_of_ble_eq_true rfl) ?_
  refine lv_aload_n C0.1 C0.2.1 dX7_init_4 rfl (lv_at hl 0 rfl) ?_
  refine lv_bipush (v := (11 : Int32)) C0.1 C0.2.1 dX7_init_5 (by decide) ?_
  refine n_newI (N := 11) C0 hG hP hD hS hA (by decide +kernel) (by decide) (by decide) (by decide) (Nat.le_of_ble_eq_true rfl) (Nat.le_of_ble_eq_true rfl) dX7_init_7 (fun q4 H hKI hP hD hS => ?_)
  refine W.widen (k := 1) (n := 11) (by omega) (by omega) ?_
  have hP : va_P (gD G) vwCl [(h0, .inr (6, [.int 0, .int 0, .int 0, .int 0, .int 0, .int 0, .int 0, .int 0, .null])), (q4, .inl (gI G, 11, .inl (fun _ => 0)))] H := hP
  have hD : va_D _ [(h0, .inr (6, [.int 0, .int 0, .int 0, .int 0, .int 0, .int 0, .int 0, .int 0, .null])), (q4, .inl (gI G, 11, .inl (fun _ => 0)))] := hD
  refine n_putF C0 hin hG hP hD hS rfl 8 (by decide) inX7_init_X7 (by decide +kernel) tyX7 tyX7_ok nmX7 rfl rfl rfl rfl (Nat.le_of_ble_eq_true rfl) dX7_init_9 (fun H locs hP hD hS => ?_)
  have hP : va_P (gD G) vwCl [(h0, .inr (6, [.int 0, .int 0, .int 0, .int 0, .int 0, .int 0, .int 0, .int 0, .ref q4])), (q4, .inl (gI G, 11, .inl (fun _ => 0)))] H := hP
  have hD : va_D _ [(h0, .inr (6, [.int 0, .int 0, .int 0, .int 0, .int 0, .int 0, .int 0, .int 0, .ref q4])), (q4, .inl (gI G, 11, .inl (fun _ => 0)))] := hD
  refine lv_aload_n C0.1 C0.2.1 dX7_init_12 rfl (lv_at hl 0 rfl) ?_
  refine lv_iconst (v := (1 : Int32)) C0.1 C0.2.1 dX7_init_13 (by decide) ?_
  refine n_put C0 hG hP hD hS rfl 5 (by decide) inX7_init_X7 (by decide +kernel) tyX7 tyX7_ok nmX7 rfl rfl rfl (Nat.le_of_ble_eq_true rfl) dX7_init_14 (fun H locs hP hD hS => ?_)
  have hP : va_P (gD G) vwCl [(h0, .inr (6, [.int 0, .int 0, .int 0, .int 0, .int 0, .int 1, .int 0, .int 0, .ref q4])), (q4, .inl (gI G, 11, .inl (fun _ => 0)))] H := hP
  have hD : va_D _ [(h0, .inr (6, [.int 0, .int 0, .int 0, .int 0, .int 0, .int 1, .int 0, .int 0, .ref q4])), (q4, .inl (gI G, 11, .inl (fun _ => 0)))] := hD
  refine lv_aload_n C0.1 C0.2.1 dX7_init_17 rfl (lv_at hl 0 rfl) ?_
  refine lv_bipush (v := (-9 : Int32)) C0.1 C0.2.1 dX7_init_18 (by decide) ?_
  refine n_put C0 hG hP hD hS rfl 6 (by decide) inX7_init_X7 (by decide +kernel) tyX7 tyX7_ok nmX7 rfl rfl rfl (Nat.le_of_ble_eq_true rfl) dX7_init_20 (fun H locs hP hD hS => ?_)
  have hP : va_P (gD G) vwCl [(h0, .inr (6, [.int 0, .int 0, .int 0, .int 0, .int 0, .int 1, .int (-9), .int 0, .ref q4])), (q4, .inl (gI G, 11, .inl (fun _ => 0)))] H := hP
  have hD : va_D _ [(h0, .inr (6, [.int 0, .int 0, .int 0, .int 0, .int 0, .int 1, .int (-9), .int 0, .ref q4])), (q4, .inl (gI G, 11, .inl (fun _ => 0)))] := hD
  exact n_ret C0 q4 hP hD hS hG.1 dX7_init_23

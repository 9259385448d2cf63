/-! ===== the class's constructor, all of it ===== -/
set_option maxHeartbeats 8000000 in
set_option maxRecDepth 100000 in
theorem i_X8 (l : Launch) {G : GT} (h0 : Nat) : ∀ sz, Met l yX8_init wsX8_init rX8_init (NPc G [(h0, .inr (7, [.null, .null, .null, .null, .null, .null, .null, .null, .int 0, .int 0]))] sz [.ref h0]) (NQv (S := {a : Nat → Nat // a 0 = h0}) G (fun a => wsG cellX 80 (setA G a.1) sig0) [(gO G, .object "GoneOverboard$Scene"), (gL G, .long), (gI G, .int)] [(h0, .inr (7, [.null, .null, .null, .null, .null, .null, .null, .null, .int 0, .int 0]))] sz) 79 431 (va_A [(h0, .inr (7, [.null, .null, .null, .null, .null, .null, .null, .null, .int 0, .int 0]))] sz) := fun sz => by
  refine n_met (cc := cX8_init) (maxL := 1) (by decide) rfl rfl (Nat.le_of_ble_eq_true rfl) ?_
  intro p e s m args below meth c ls C0 hin hG hP hD hS hl
  have hA : ∀ q, s.heap.size ≤ q → va_A [(h0, .inr (7, [.null, .null, .null, .null, .null, .null, .null, .null, .int 0, .int 0]))] s.heap.size q := fun q h => Or.inr h
  refine lv_aload_n C0.1 C0.2.1 dX8_init_0 rfl (lv_at hl 0 rfl) ?_
  refine n_obj (idx := 1) C0 hl (by decide +kernel) (by decide +kernel) (by decide +kernel) dX8_init_1 (Nat.le_of_ble_eq_true rfl) (Nat.le_of_ble_eq_true rfl) ?_
  refine lv_aload_n C0.1 C0.2.1 dX8_init_4 rfl (lv_at hl 0 rfl) ?_
  refine n_new (ci := 5) (fs := [.null, .int 0, .int 0, .int 0, .int 0, .int 0]) C0 hG hP hD hS hA inX8_init_X6 tyX6 tyX6_ok (by decide +kernel) (by decide +kernel) (by decide +kernel) rfl (fun j hj => by rcases (show j = 0 ∨ j = 1 ∨ j = 2 ∨ j = 3 ∨ j = 4 ∨ j = 5 by omega) with rfl | rfl | rfl | rfl | rfl | rfl <;> rfl) (Nat.le_of_ble_eq_true rfl) (Nat.le_of_ble_eq_true rfl) dX8_init_5 (fun q4 H hP hD hS => ?_)
  refine W.widen (k := 1) (n := 6) (by omega) (by omega) ?_
  refine lv_dup C0.1 C0.2.1 dX8_init_8 rfl ?_
  refine n_call (S := Nat) (As := []) (rest := [.ref q4, .ref h0]) C0 hG hP hD hS hA (i_X6 l q4) gX8_init_X6_init rfl rfl rfl (by decide +kernel) (by decide +kernel) (by decide +kernel) rfl hdvX6_init ⟨(Nat.le_of_ble_eq_true rfl), (Nat.le_of_ble_eq_true rfl)⟩ rfl rfl hl (Nat.le_of_ble_eq_true rfl) dX8_init_9 ⟨(Nat.le_of_ble_eq_true rfl), (Nat.le_of_ble_eq_true rfl)⟩ (fun u4 H locs hP hD hS _ => ?_)
  refine W.widen (k := 2) (n := 46) (by omega) (by omega) ?_
  have hP : va_P (gD G) vwCl ((h0, .inr (7, [.null, .null, .null, .null, .null, .null, .null, .null, .int 0, .int 0])) :: (w1X6 G q4 u4)) H := hP
  have hD : va_D _ ((h0, .inr (7, [.null, .null, .null, .null, .null, .null, .null, .null, .int 0, .int 0])) :: (w1X6 G q4 u4)) := hD
  refine n_putF C0 hin hG hP hD hS rfl 0 (by decide) inX8_init_X8 (by decide +kernel) tyX8 tyX8_ok nmX8 rfl rfl rfl rfl (Nat.le_of_ble_eq_true rfl) dX8_init_12 (fun H locs hP hD hS => ?_)
  have hP : va_P (gD G) vwCl ((h0, .inr (7, [.ref q4, .null, .null, .null, .null, .null, .null, .null, .int 0, .int 0])) :: (w1X6 G q4 u4)) H := hP
  have hD : va_D _ ((h0, .inr (7, [.ref q4, .null, .null, .null, .null, .null, .null, .null, .int 0, .int 0])) :: (w1X6 G q4 u4)) := hD
  refine lv_aload_n C0.1 C0.2.1 dX8_init_15 rfl (lv_at hl 0 rfl) ?_
  refine n_new (ci := 6) (fs := [.int 0, .int 0, .int 0, .int 0, .int 0, .int 0, .int 0, .int 0, .null]) C0 hG hP hD hS hA inX8_init_X7 tyX7 tyX7_ok (by decide +kernel) (by decide +kernel) (by decide +kernel) rfl (fun j hj => by rcases (show j = 0 ∨ j = 1 ∨ j = 2 ∨ j = 3 ∨ j = 4 ∨ j = 5 ∨ j = 6 ∨ j = 7 ∨ j = 8 by omega) with rfl | rfl | rfl | rfl | rfl | rfl | rfl | rfl | rfl <;> rfl) (Nat.le_of_ble_eq_true rfl) (Nat.le_of_ble_eq_true rfl) dX8_init_16 (fun q15 H hP hD hS => ?_)
  refine W.widen (k := 3) (n := 55) (by omega) (by omega) ?_
  refine lv_dup C0.1 C0.2.1 dX8_init_19 rfl ?_
  refine n_call (S := Nat) (As := []) (rest := [.ref q15, .ref h0]) C0 hG hP hD hS hA (i_X7 l q15) gX8_init_X7_init rfl rfl rfl (by decide +kernel) (by decide +kernel) (by decide +kernel) rfl hdvX7_init ⟨(Nat.le_of_ble_eq_true rfl), (Nat.le_of_ble_eq_true rfl)⟩ rfl rfl hl (Nat.le_of_ble_eq_true rfl) dX8_init_20 ⟨(Nat.le_of_ble_eq_true rfl), (Nat.le_of_ble_eq_true rfl)⟩ (fun u15 H locs hP hD hS _ => ?_)
  refine W.widen (k := 4) (n := 66) (by omega) (by omega) ?_
  have hP : va_P (gD G) vwCl ((h0, .inr (7, [.ref q4, .null, .null, .null, .null, .null, .null, .null, .int 0, .int 0])) :: ((w1X6 G q4 u4) ++ w1X7 G q15 u15)) H := hP
  have hD : va_D _ ((h0, .inr (7, [.ref q4, .null, .null, .null, .null, .null, .null, .null, .int 0, .int 0])) :: ((w1X6 G q4 u4) ++ w1X7 G q15 u15)) := hD
  refine n_putF C0 hin hG hP hD hS rfl 1 (by decide) inX8_init_X8 (by decide +kernel) tyX8 tyX8_ok nmX8 rfl rfl rfl rfl (Nat.le_of_ble_eq_true rfl) dX8_init_23 (fun H locs hP hD hS => ?_)
  have hP : va_P (gD G) vwCl ((h0, .inr (7, [.ref q4, .ref q15, .null, .null, .null, .null, .null, .null, .int 0, .int 0])) :: ((w1X6 G q4 u4) ++ w1X7 G q15 u15)) H := hP
  have hD : va_D _ ((h0, .inr (7, [.ref q4, .ref q15, .null, .null, .null, .null, .null, .null, .int 0, .int 0])) :: ((w1X6 G q4 u4) ++ w1X7 G q15 u15)) := hD
  refine lv_aload_n C0.1 C0.2.1 dX8_init_26 rfl (lv_at hl 0 rfl) ?_
  refine n_new (ci := 3) (fs := [.null, .null, .null, .int 0, .int 0, .int 0]) C0 hG hP hD hS hA inX8_init_X4 tyX4 tyX4_ok (by decide +kernel) (by decide +kernel) (by decide +kernel) rfl (fun j hj => by rcases (show j = 0 ∨ j = 1 ∨ j = 2 ∨ j = 3 ∨ j = 4 ∨ j = 5 by omega) with rfl | rfl | rfl | rfl | rfl | rfl <;> rfl) (Nat.le_of_ble_eq_true rfl) (Nat.le_of_ble_eq_true rfl) dX8_init_27 (fun q26 H hP hD hS => ?_)
  refine W.widen (k := 5) (n := 72) (by omega) (by omega) ?_
  refine lv_dup C0.1 C0.2.1 dX8_init_30 rfl ?_
  refine n_call (S := Nat → Nat) (As := []) (rest := [.ref q26, .ref h0]) C0 hG hP hD hS hA (i_X4 l q26) gX8_init_X4_init rfl rfl rfl (by decide +kernel) (by decide +kernel) (by decide +kernel) rfl hdvX4_init ⟨(Nat.le_of_ble_eq_true rfl), (Nat.le_of_ble_eq_true rfl)⟩ rfl rfl hl (Nat.le_of_ble_eq_true rfl) dX8_init_31 ⟨(Nat.le_of_ble_eq_true rfl), (Nat.le_of_ble_eq_true rfl)⟩ (fun u26 H locs hP hD hS hKL => ?_)
  refine W.widen (k := 8) (n := 87) (by omega) (by omega) ?_
  have hP : va_P (gD G) vwCl ((h0, .inr (7, [.ref q4, .ref q15, .null, .null, .null, .null, .null, .null, .int 0, .int 0])) :: (((w1X6 G q4 u4) ++ w1X7 G q15 u15) ++ w1X4 G q26 u26)) H := hP
  have hD : va_D _ ((h0, .inr (7, [.ref q4, .ref q15, .null, .null, .null, .null, .null, .null, .int 0, .int 0])) :: (((w1X6 G q4 u4) ++ w1X7 G q15 u15) ++ w1X4 G q26 u26)) := hD
  refine n_putF C0 hin hG hP hD hS rfl 2 (by decide) inX8_init_X8 (by decide +kernel) tyX8 tyX8_ok nmX8 rfl rfl rfl rfl (Nat.le_of_ble_eq_true rfl) dX8_init_34 (fun H locs hP hD hS => ?_)
  have hP : va_P (gD G) vwCl ((h0, .inr (7, [.ref q4, .ref q15, .ref q26, .null, .null, .null, .null, .null, .int 0, .int 0])) :: (((w1X6 G q4 u4) ++ w1X7 G q15 u15) ++ w1X4 G q26 u26)) H := hP
  have hD : va_D _ ((h0, .inr (7, [.ref q4, .ref q15, .ref q26, .null, .null, .null, .null, .null, .int 0, .int 0])) :: (((w1X6 G q4 u4) ++ w1X7 G q15 u15) ++ w1X4 G q26 u26)) := hD
  refine lv_aload_n C0.1 C0.2.1 dX8_init_37 rfl (lv_at hl 0 rfl) ?_
  refine n_new (ci := 3) (fs := [.null, .null, .null, .int 0, .int 0, .int 0]) C0 hG hP hD hS hA inX8_init_X4 tyX4 tyX4_ok (by decide +kernel) (by decide +kernel) (by decide +kernel) rfl (fun j hj => by rcases (show j = 0 ∨ j = 1 ∨ j = 2 ∨ j = 3 ∨ j = 4 ∨ j = 5 by omega) with rfl | rfl | rfl | rfl | rfl | rfl <;> rfl) (Nat.le_of_ble_eq_true rfl) (Nat.le_of_ble_eq_true rfl) dX8_init_38 (fun q37 H hP hD hS => ?_)
  refine W.widen (k := 9) (n := 93) (by omega) (by omega) ?_
  refine lv_dup C0.1 C0.2.1 dX8_init_41 rfl ?_
  refine n_call (S := Nat → Nat) (As := []) (rest := [.ref q37, .ref h0]) C0 hG hP hD hS hA (i_X4 l q37) gX8_init_X4_init rfl rfl rfl (by decide +kernel) (by decide +kernel) (by decide +kernel) rfl hdvX4_init ⟨(Nat.le_of_ble_eq_true rfl), (Nat.le_of_ble_eq_true rfl)⟩ rfl rfl hl (Nat.le_of_ble_eq_true rfl) dX8_init_42 ⟨(Nat.le_of_ble_eq_true rfl), (Nat.le_of_ble_eq_true rfl)⟩ (fun u37 H locs hP hD hS _ => ?_)
  refine W.widen (k := 12) (n := 108) (by omega) (by omega) ?_
  have hP : va_P (gD G) vwCl ((h0, .inr (7, [.ref q4, .ref q15, .ref q26, .null, .null, .null, .null, .null, .int 0, .int 0])) :: ((((w1X6 G q4 u4) ++ w1X7 G q15 u15) ++ w1X4 G q26 u26) ++ w1X4 G q37 u37)) H := hP
  have hD : va_D _ ((h0, .inr (7, [.ref q4, .ref q15, .ref q26, .null, .null, .null, .null, .null, .int 0, .int 0])) :: ((((w1X6 G q4 u4) ++ w1X7 G q15 u15) ++ w1X4 G q26 u26) ++ w1X4 G q37 u37)) := hD
  refine n_putF C0 hin hG hP hD hS rfl 3 (by decide) inX8_init_X8 (by decide +kernel) tyX8 tyX8_ok nmX8 rfl rfl rfl rfl (Nat.le_of_ble_eq_true rfl) dX8_init_45 (fun H locs hP hD hS => ?_)
  have hP : va_P (gD G) vwCl ((h0, .inr (7, [.ref q4, .ref q15, .ref q26, .ref q37, .null, .null, .null, .null, .int 0, .int 0])) :: ((((w1X6 G q4 u4) ++ w1X7 G q15 u15) ++ w1X4 G q26 u26) ++ w1X4 G q37 u37)) H := hP
  have hD : va_D _ ((h0, .inr (7, [.ref q4, .ref q15, .ref q26, .ref q37, .null, .null, .null, .null, .int 0, .int 0])) :: ((((w1X6 G q4 u4) ++ w1X7 G q15 u15) ++ w1X4 G q26 u26) ++ w1X4 G q37 u37)) := hD
  refine lv_aload_n C0.1 C0.2.1 dX8_init_48 rfl (lv_at hl 0 rfl) ?_
  refine n_new (ci := 4) (fs := [.null]) C0 hG hP hD hS hA inX8_init_X5 tyX5 tyX5_ok (by decide +kernel) (by decide +kernel) (by decide +kernel) rfl (fun j hj => by rcases (show j = 0 by omega) with rfl; rfl) (Nat.le_of_ble_eq_true rfl) (Nat.le_of_ble_eq_true rfl) dX8_init_49 (fun q48 H hP hD hS => ?_)
  refine W.widen (k := 13) (n := 109) (by omega) (by omega) ?_
  refine lv_dup C0.1 C0.2.1 dX8_init_52 rfl ?_
  refine lv_bipush (v := nI 8) C0.1 C0.2.1 dX8_init_53 (by decide) ?_
  refine n_call (S := Nat → Nat) (As := [.int (nI 8)]) (rest := [.ref q48, .ref h0]) C0 hG hP hD hS hA (i_X5 l 8 (by decide) q48) gX8_init_X5_init rfl rfl rfl (by decide +kernel) (by decide +kernel) (by decide +kernel) rfl hdvX5_init ⟨(Nat.le_of_ble_eq_true rfl), (Nat.le_of_ble_eq_true rfl)⟩ rfl rfl hl (Nat.le_of_ble_eq_true rfl) dX8_init_55 ⟨(Nat.le_of_ble_eq_true rfl), (Nat.le_of_ble_eq_true rfl)⟩ (fun u48 H locs hP hD hS hKO => ?_)
  refine W.widen (k := 46) (n := 285) (by omega) (by omega) ?_
  have hP : va_P (gD G) vwCl ((h0, .inr (7, [.ref q4, .ref q15, .ref q26, .ref q37, .null, .null, .null, .null, .int 0, .int 0])) :: (((((w1X6 G q4 u4) ++ w1X7 G q15 u15) ++ w1X4 G q26 u26) ++ w1X4 G q37 u37) ++ scW G q48 u48 8)) H := hP
  have hD : va_D _ ((h0, .inr (7, [.ref q4, .ref q15, .ref q26, .ref q37, .null, .null, .null, .null, .int 0, .int 0])) :: (((((w1X6 G q4 u4) ++ w1X7 G q15 u15) ++ w1X4 G q26 u26) ++ w1X4 G q37 u37) ++ scW G q48 u48 8)) := hD
  refine n_putF C0 hin hG hP hD hS rfl 4 (by decide) inX8_init_X8 (by decide +kernel) tyX8 tyX8_ok nmX8 rfl rfl rfl rfl (Nat.le_of_ble_eq_true rfl) dX8_init_58 (fun H locs hP hD hS => ?_)
  have hP : va_P (gD G) vwCl ((h0, .inr (7, [.ref q4, .ref q15, .ref q26, .ref q37, .ref q48, .null, .null, .null, .int 0, .int 0])) :: (((((w1X6 G q4 u4) ++ w1X7 G q15 u15) ++ w1X4 G q26 u26) ++ w1X4 G q37 u37) ++ scW G q48 u48 8)) H := hP
  have hD : va_D _ ((h0, .inr (7, [.ref q4, .ref q15, .ref q26, .ref q37, .ref q48, .null, .null, .null, .int 0, .int 0])) :: (((((w1X6 G q4 u4) ++ w1X7 G q15 u15) ++ w1X4 G q26 u26) ++ w1X4 G q37 u37) ++ scW G q48 u48 8)) := hD
  refine lv_aload_n C0.1 C0.2.1 dX8_init_61 rfl (lv_at hl 0 rfl) ?_
  refine n_new (ci := 4) (fs := [.null]) C0 hG hP hD hS hA inX8_init_X5 tyX5 tyX5_ok (by decide +kernel) (by decide +kernel) (by decide +kernel) rfl (fun j hj => by rcases (show j = 0 by omega) with rfl; rfl) (Nat.le_of_ble_eq_true rfl) (Nat.le_of_ble_eq_true rfl) dX8_init_62 (fun q61 H hP hD hS => ?_)
  refine W.widen (k := 47) (n := 286) (by omega) (by omega) ?_
  refine lv_dup C0.1 C0.2.1 dX8_init_65 rfl ?_
  refine lv_iconst (v := nI 2) C0.1 C0.2.1 dX8_init_66 (by decide) ?_
  refine n_call (S := Nat → Nat) (As := [.int (nI 2)]) (rest := [.ref q61, .ref h0]) C0 hG hP hD hS hA (i_X5 l 2 (by decide) q61) gX8_init_X5_init rfl rfl rfl (by decide +kernel) (by decide +kernel) (by decide +kernel) rfl hdvX5_init ⟨(Nat.le_of_ble_eq_true rfl), (Nat.le_of_ble_eq_true rfl)⟩ rfl rfl hl (Nat.le_of_ble_eq_true rfl) dX8_init_67 ⟨(Nat.le_of_ble_eq_true rfl), (Nat.le_of_ble_eq_true rfl)⟩ (fun u61 H locs hP hD hS _ => ?_)
  refine W.widen (k := 56) (n := 330) (by omega) (by omega) ?_
  have hP : va_P (gD G) vwCl ((h0, .inr (7, [.ref q4, .ref q15, .ref q26, .ref q37, .ref q48, .null, .null, .null, .int 0, .int 0])) :: ((((((w1X6 G q4 u4) ++ w1X7 G q15 u15) ++ w1X4 G q26 u26) ++ w1X4 G q37 u37) ++ scW G q48 u48 8) ++ scW G q61 u61 2)) H := hP
  have hD : va_D _ ((h0, .inr (7, [.ref q4, .ref q15, .ref q26, .ref q37, .ref q48, .null, .null, .null, .int 0, .int 0])) :: ((((((w1X6 G q4 u4) ++ w1X7 G q15 u15) ++ w1X4 G q26 u26) ++ w1X4 G q37 u37) ++ scW G q48 u48 8) ++ scW G q61 u61 2)) := hD
  refine n_putF C0 hin hG hP hD hS rfl 5 (by decide) inX8_init_X8 (by decide +kernel) tyX8 tyX8_ok nmX8 rfl rfl rfl rfl (Nat.le_of_ble_eq_true rfl) dX8_init_70 (fun H locs hP hD hS => ?_)
  have hP : va_P (gD G) vwCl ((h0, .inr (7, [.ref q4, .ref q15, .ref q26, .ref q37, .ref q48, .ref q61, .null, .null, .int 0, .int 0])) :: ((((((w1X6 G q4 u4) ++ w1X7 G q15 u15) ++ w1X4 G q26 u26) ++ w1X4 G q37 u37) ++ scW G q48 u48 8) ++ scW G q61 u61 2)) H := hP
  have hD : va_D _ ((h0, .inr (7, [.ref q4, .ref q15, .ref q26, .ref q37, .ref q48, .ref q61, .null, .null, .int 0, .int 0])) :: ((((((w1X6 G q4 u4) ++ w1X7 G q15 u15) ++ w1X4 G q26 u26) ++ w1X4 G q37 u37) ++ scW G q48 u48 8) ++ scW G q61 u61 2)) := hD
  refine lv_aload_n C0.1 C0.2.1 dX8_init_73 rfl (lv_at hl 0 rfl) ?_
  refine n_new (ci := 0) (fs := [.null, .null, .null, .null, .int 0]) C0 hG hP hD hS hA inX8_init_X0 tyX0 tyX0_ok (by decide +kernel) (by decide +kernel) (by decide +kernel) rfl (fun j hj => by rcases (show j = 0 ∨ j = 1 ∨ j = 2 ∨ j = 3 ∨ j = 4 by omega) with rfl | rfl | rfl | rfl | rfl <;> rfl) (Nat.le_of_ble_eq_true rfl) (Nat.le_of_ble_eq_true rfl) dX8_init_74 (fun q73 H hP hD hS => ?_)
  refine W.widen (k := 57) (n := 335) (by omega) (by omega) ?_
  refine lv_dup C0.1 C0.2.1 dX8_init_77 rfl ?_
  refine n_call (S := (Nat → Nat) × (Nat → Nat)) (As := []) (rest := [.ref q73, .ref h0]) C0 hG hP hD hS hA (i_X0 l q73) gX8_init_X0_init rfl rfl rfl (by decide +kernel) (by decide +kernel) (by decide +kernel) rfl hdvX0_init ⟨(Nat.le_of_ble_eq_true rfl), (Nat.le_of_ble_eq_true rfl)⟩ rfl rfl hl (Nat.le_of_ble_eq_true rfl) dX8_init_78 ⟨(Nat.le_of_ble_eq_true rfl), (Nat.le_of_ble_eq_true rfl)⟩ (fun u73 H locs hP hD hS _ => ?_)
  refine W.widen (k := 78) (n := 430) (by omega) (by omega) ?_
  have hP : va_P (gD G) vwCl ((h0, .inr (7, [.ref q4, .ref q15, .ref q26, .ref q37, .ref q48, .ref q61, .null, .null, .int 0, .int 0])) :: (((((((w1X6 G q4 u4) ++ w1X7 G q15 u15) ++ w1X4 G q26 u26) ++ w1X4 G q37 u37) ++ scW G q48 u48 8) ++ scW G q61 u61 2) ++ w1X0 G q73 u73)) H := hP
  have hD : va_D _ ((h0, .inr (7, [.ref q4, .ref q15, .ref q26, .ref q37, .ref q48, .ref q61, .null, .null, .int 0, .int 0])) :: (((((((w1X6 G q4 u4) ++ w1X7 G q15 u15) ++ w1X4 G q26 u26) ++ w1X4 G q37 u37) ++ scW G q48 u48 8) ++ scW G q61 u61 2) ++ w1X0 G q73 u73)) := hD
  refine n_putF C0 hin hG hP hD hS rfl 6 (by decide) inX8_init_X8 (by decide +kernel) tyX8 tyX8_ok nmX8 rfl rfl rfl rfl (Nat.le_of_ble_eq_true rfl) dX8_init_81 (fun H locs hP hD hS => ?_)
  have hP : va_P (gD G) vwCl ((h0, .inr (7, [.ref q4, .ref q15, .ref q26, .ref q37, .ref q48, .ref q61, .ref q73, .null, .int 0, .int 0])) :: (((((((w1X6 G q4 u4) ++ w1X7 G q15 u15) ++ w1X4 G q26 u26) ++ w1X4 G q37 u37) ++ scW G q48 u48 8) ++ scW G q61 u61 2) ++ w1X0 G q73 u73)) H := hP
  have hD : va_D _ ((h0, .inr (7, [.ref q4, .ref q15, .ref q26, .ref q37, .ref q48, .ref q61, .ref q73, .null, .int 0, .int 0])) :: (((((((w1X6 G q4 u4) ++ w1X7 G q15 u15) ++ w1X4 G q26 u26) ++ w1X4 G q37 u37) ++ scW G q48 u48 8) ++ scW G q61 u61 2) ++ w1X0 G q73 u73)) := hD
  refine lv_aload_n C0.1 C0.2.1 dX8_init_84 rfl (lv_at hl 0 rfl) ?_
  refine n_new (ci := 2) (fs := [.long 0]) C0 hG hP hD hS hA inX8_init_X2 tyX2 tyX2_ok (by decide +kernel) (by decide +kernel) (by decide +kernel) rfl (fun j hj => by rcases (show j = 0 by omega) with rfl; rfl) (Nat.le_of_ble_eq_true rfl) (Nat.le_of_ble_eq_true rfl) dX8_init_85 (fun q84 H hP hD hS => ?_)
  refine W.widen (k := 79) (n := 431) (by omega) (by omega) ?_
  refine lv_dup C0.1 C0.2.1 dX8_init_88 rfl ?_
  refine n_callN (S := Unit) (As := []) (rest := [.ref q84, .ref h0]) C0 hG hP hD hS hA (i_X2 l q84) gX8_init_X2_init_n54 rfl rfl rfl (by decide +kernel) (by decide +kernel) (by decide +kernel) rfl hdvX2_init ⟨(Nat.le_of_ble_eq_true rfl), (Nat.le_of_ble_eq_true rfl)⟩ rfl rfl hl (Nat.le_of_ble_eq_true rfl) dX8_init_89 ⟨(Nat.le_of_ble_eq_true rfl), (Nat.le_of_ble_eq_true rfl)⟩ (fun _u84 H locs hP hD hS _ => ?_)
  refine W.widen (k := 79) (n := 431) (by omega) (by omega) ?_
  have hP : va_P (gD G) vwCl ((h0, .inr (7, [.ref q4, .ref q15, .ref q26, .ref q37, .ref q48, .ref q61, .ref q73, .null, .int 0, .int 0])) :: ((((((((w1X6 G q4 u4) ++ w1X7 G q15 u15) ++ w1X4 G q26 u26) ++ w1X4 G q37 u37) ++ scW G q48 u48 8) ++ scW G q61 u61 2) ++ w1X0 G q73 u73) ++ [(q84, .inr (2, [.long 0]))])) H := hP
  have hD : va_D _ ((h0, .inr (7, [.ref q4, .ref q15, .ref q26, .ref q37, .ref q48, .ref q61, .ref q73, .null, .int 0, .int 0])) :: ((((((((w1X6 G q4 u4) ++ w1X7 G q15 u15) ++ w1X4 G q26 u26) ++ w1X4 G q37 u37) ++ scW G q48 u48 8) ++ scW G q61 u61 2) ++ w1X0 G q73 u73) ++ [(q84, .inr (2, [.long 0]))])) := hD
  refine n_putF C0 hin hG hP hD hS rfl 7 (by decide) inX8_init_X8 (by decide +kernel) tyX8 tyX8_ok nmX8 rfl rfl rfl rfl (Nat.le_of_ble_eq_true rfl) dX8_init_92 (fun H locs hP hD hS => ?_)
  have hP : va_P (gD G) vwCl ((h0, .inr (7, [.ref q4, .ref q15, .ref q26, .ref q37, .ref q48, .ref q61, .ref q73, .ref q84, .int 0, .int 0])) :: ((((((((w1X6 G q4 u4) ++ w1X7 G q15 u15) ++ w1X4 G q26 u26) ++ w1X4 G q37 u37) ++ scW G q48 u48 8) ++ scW G q61 u61 2) ++ w1X0 G q73 u73) ++ [(q84, .inr (2, [.long 0]))])) H := hP
  have hD : va_D _ ((h0, .inr (7, [.ref q4, .ref q15, .ref q26, .ref q37, .ref q48, .ref q61, .ref q73, .ref q84, .int 0, .int 0])) :: ((((((((w1X6 G q4 u4) ++ w1X7 G q15 u15) ++ w1X4 G q26 u26) ++ w1X4 G q37 u37) ++ scW G q48 u48 8) ++ scW G q61 u61 2) ++ w1X0 G q73 u73) ++ [(q84, .inr (2, [.long 0]))])) := hD
  have hP : va_P (gD G) vwCl (w1X8 G h0 q4 u4 q15 u15 q26 u26 q37 u37 q48 u48 q61 u61 q73 u73 q84) H := hP
  have hD : va_D _ (w1X8 G h0 q4 u4 q15 u15 q26 u26 q37 u37 q48 u48 q61 u61 q73 u73 q84) := hD
  have hP := (w1X8_is G h0 q4 u4 q15 u15 q26 u26 q37 u37 q48 u48 q61 u61 q73 u73 q84).1 _ _ _ hP
  have hD := (w1X8_is G h0 q4 u4 q15 u15 q26 u26 q37 u37 q48 u48 q61 u61 q73 u73 q84).2 _ hD
  exact n_ret C0 ⟨adL (w1X8 G h0 q4 u4 q15 u15 q26 u26 q37 u37 q48 u48 q61 u61 q73 u73 q84), rfl⟩ hP hD hS (hKO.two hKL) dX8_init_95

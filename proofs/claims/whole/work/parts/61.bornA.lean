/-! ===== the class's constructor ===== -/
def rX0_init : Room := { frames := 3, cells := 21, slots := 95, locals := 54 }
def rX8_init : Room := { frames := 4, cells := 79, slots := 431, locals := 74 }
def bestW (a : Nat) : va_W := [(a, .inr (1, [.long 0, .int 0]))]
def w1X0 (G : GT) (h0 : Nat) (u : (Nat → Nat) × (Nat → Nat)) : va_W := (h0, .inr (0, [.ref (u.1 0), .ref (u.1 1), .ref (u.1 2), .ref (u.1 3), .int 0])) :: (((scW G (u.1 0) u.2 4 ++ bestW (u.1 1)) ++ bestW (u.1 2)) ++ bestW (u.1 3))
set_option maxHeartbeats 8000000 in
set_option maxRecDepth 100000 in
theorem i_X0 (l : Launch) {G : GT} (h0 : Nat) : ∀ sz, Met l yX0_init wsX0_init rX0_init (NPc G [(h0, .inr (0, [.null, .null, .null, .null, .int 0]))] sz [.ref h0]) (NQv (S := (Nat → Nat) × (Nat → Nat)) G (w1X0 G h0) [(gO G, .object "GoneOverboard$Scene")] [(h0, .inr (0, [.null, .null, .null, .null, .int 0]))] sz) 21 95 (va_A [(h0, .inr (0, [.null, .null, .null, .null, .int 0]))] sz) := fun sz => by
  refine n_met (cc := cX0_init) (maxL := 1) (by decide) rfl rfl (Nat.le_of_ble_eq_true rfl) ?_
  intro p e s m args below meth c ls C0 hin hG hP hD hS hl
  have hA : ∀ q, s.heap.size ≤ q → va_A [(h0, .inr (0, [.null, .null, .null, .null, .int 0]))] s.heap.size q := fun q h => Or.inr h
  refine lv_aload_n C0.1 C0.2.1 dX0_init_0 rfl (lv_at hl 0 rfl) ?_
  refine n_obj (idx := 3) C0 hl (by decide +kernel) (by decide +kernel) (by decide +kernel) dX0_init_1 (Nat.le_of_ble_eq_true rfl) (Nat.le_of_ble_eq_true rfl) ?_
  refine lv_aload_n C0.1 C0.2.1 dX0_init_4 rfl (lv_at hl 0 rfl) ?_
  refine n_new (ci := 4) (fs := [.null]) C0 hG hP hD hS hA inX0_init_X5 tyX5 tyX5_ok (by decide +kernel) (by decide +kernel) (by decide +kernel) rfl (fun j hj => by rcases (show j = 0 by omega) with rfl; rfl) (Nat.le_of_ble_eq_true rfl) (Nat.le_of_ble_eq_true rfl) dX0_init_5 (fun q4 H hP hD hS => ?_)
  refine W.widen (k := 1) (n := 1) (by omega) (by omega) ?_
  refine lv_dup C0.1 C0.2.1 dX0_init_8 rfl ?_
  refine lv_iconst (v := nI 4) C0.1 C0.2.1 dX0_init_9 (by decide) ?_
  refine n_call (S := Nat → Nat) (As := [.int (nI 4)]) (rest := [.ref q4, .ref h0]) C0 hG hP hD hS hA (i_X5 l 4 (by decide) q4) gX0_init_X5_init rfl rfl rfl (by decide +kernel) (by decide +kernel) (by decide +kernel) rfl hdvX5_init ⟨(Nat.le_of_ble_eq_true rfl), (Nat.le_of_ble_eq_true rfl)⟩ rfl rfl hl (Nat.le_of_ble_eq_true rfl) dX0_init_10 ⟨(Nat.le_of_ble_eq_true rfl), (Nat.le_of_ble_eq_true rfl)⟩ (fun u4 H locs hP hD hS hKO => ?_)
  refine W.widen (k := 18) (n := 89) (by omega) (by omega) ?_
  have hP : va_P (gD G) vwCl ((h0, .inr (0, [.null, .null, .null, .null, .int 0])) :: (scW G q4 u4 4)) H := hP
  have hD : va_D _ ((h0, .inr (0, [.null, .null, .null, .null, .int 0])) :: (scW G q4 u4 4)) := hD
  refine n_putF C0 hin hG hP hD hS rfl 0 (by decide) inX0_init_X0 (by decide +kernel) tyX0 tyX0_ok nmX0 rfl rfl rfl rfl (Nat.le_of_ble_eq_true rfl) dX0_init_13 (fun H locs hP hD hS => ?_)
  have hP : va_P (gD G) vwCl ((h0, .inr (0, [.ref q4, .null, .null, .null, .int 0])) :: (scW G q4 u4 4)) H := hP
  have hD : va_D _ ((h0, .inr (0, [.ref q4, .null, .null, .null, .int 0])) :: (scW G q4 u4 4)) := hD
  refine lv_aload_n C0.1 C0.2.1 dX0_init_16 rfl (lv_at hl 0 rfl) ?_
  refine n_new (ci := 1) (fs := [.long 0, .int 0]) C0 hG hP hD hS hA inX0_init_X1 tyX1 tyX1_ok (by decide +kernel) (by decide +kernel) (by decide +kernel) rfl (fun j hj => by rcases (show j = 0 ∨ j = 1 by omega) with rfl | rfl <;> rfl) (Nat.le_of_ble_eq_true rfl) (Nat.le_of_ble_eq_true rfl) dX0_init_17 (fun q16 H hP hD hS => ?_)
  refine W.widen (k := 19) (n := 91) (by omega) (by omega) ?_
  refine lv_dup C0.1 C0.2.1 dX0_init_20 rfl ?_
  refine n_callN (S := Unit) (As := []) (rest := [.ref q16, .ref h0]) C0 hG hP hD hS hA (i_X1 l q16) gX0_init_X1_init_n22 rfl rfl rfl (by decide +kernel) (by decide +kernel) (by decide +kernel) rfl hdvX1_init ⟨(Nat.le_of_ble_eq_true rfl), (Nat.le_of_ble_eq_true rfl)⟩ rfl rfl hl (Nat.le_of_ble_eq_true rfl) dX0_init_21 ⟨(Nat.le_of_ble_eq_true rfl), (Nat.le_of_ble_eq_true rfl)⟩ (fun _u16 H locs hP hD hS _ => ?_)
  refine W.widen (k := 19) (n := 91) (by omega) (by omega) ?_
  have hP : va_P (gD G) vwCl ((h0, .inr (0, [.ref q4, .null, .null, .null, .int 0])) :: ((scW G q4 u4 4) ++ bestW q16)) H := hP
  have hD : va_D _ ((h0, .inr (0, [.ref q4, .null, .null, .null, .int 0])) :: ((scW G q4 u4 4) ++ bestW q16)) := hD
  refine n_putF C0 hin hG hP hD hS rfl 1 (by decide) inX0_init_X0 (by decide +kernel) tyX0 tyX0_ok nmX0 rfl rfl rfl rfl (Nat.le_of_ble_eq_true rfl) dX0_init_24 (fun H locs hP hD hS => ?_)
  have hP : va_P (gD G) vwCl ((h0, .inr (0, [.ref q4, .ref q16, .null, .null, .int 0])) :: ((scW G q4 u4 4) ++ bestW q16)) H := hP
  have hD : va_D _ ((h0, .inr (0, [.ref q4, .ref q16, .null, .null, .int 0])) :: ((scW G q4 u4 4) ++ bestW q16)) := hD
  refine lv_aload_n C0.1 C0.2.1 dX0_init_27 rfl (lv_at hl 0 rfl) ?_
  refine n_new (ci := 1) (fs := [.long 0, .int 0]) C0 hG hP hD hS hA inX0_init_X1 tyX1 tyX1_ok (by decide +kernel) (by decide +kernel) (by decide +kernel) rfl (fun j hj => by rcases (show j = 0 ∨ j = 1 by omega) with rfl | rfl <;> rfl) (Nat.le_of_ble_eq_true rfl) (Nat.le_of_ble_eq_true rfl) dX0_init_28 (fun q27 H hP hD hS => ?_)
  refine W.widen (k := 20) (n := 93) (by omega) (by omega) ?_
  refine lv_dup C0.1 C0.2.1 dX0_init_31 rfl ?_
  refine n_callN (S := Unit) (As := []) (rest := [.ref q27, .ref h0]) C0 hG hP hD hS hA (i_X1 l q27) gX0_init_X1_init_n22 rfl rfl rfl (by decide +kernel) (by decide +kernel) (by decide +kernel) rfl hdvX1_init ⟨(Nat.le_of_ble_eq_true rfl), (Nat.le_of_ble_eq_true rfl)⟩ rfl rfl hl (Nat.le_of_ble_eq_true rfl) dX0_init_32 ⟨(Nat.le_of_ble_eq_true rfl), (Nat.le_of_ble_eq_true rfl)⟩ (fun _u27 H locs hP hD hS _ => ?_)
  refine W.widen (k := 20) (n := 93) (by omega) (by omega) ?_
  have hP : va_P (gD G) vwCl ((h0, .inr (0, [.ref q4, .ref q16, .null, .null, .int 0])) :: (((scW G q4 u4 4) ++ bestW q16) ++ bestW q27)) H := hP
  have hD : va_D _ ((h0, .inr (0, [.ref q4, .ref q16, .null, .null, .int 0])) :: (((scW G q4 u4 4) ++ bestW q16) ++ bestW q27)) := hD
  refine n_putF C0 hin hG hP hD hS rfl 2 (by decide) inX0_init_X0 (by decide +kernel) tyX0 tyX0_ok nmX0 rfl rfl rfl rfl (Nat.le_of_ble_eq_true rfl) dX0_init_35 (fun H locs hP hD hS => ?_)
  have hP : va_P (gD G) vwCl ((h0, .inr (0, [.ref q4, .ref q16, .ref q27, .null, .int 0])) :: (((scW G q4 u4 4) ++ bestW q16) ++ bestW q27)) H := hP
  have hD : va_D _ ((h0, .inr (0, [.ref q4, .ref q16, .ref q27, .null, .int 0])) :: (((scW G q4 u4 4) ++ bestW q16) ++ bestW q27)) := hD
  refine lv_aload_n C0.1 C0.2.1 dX0_init_38 rfl (lv_at hl 0 rfl) ?_
  refine n_new (ci := 1) (fs := [.long 0, .int 0]) C0 hG hP hD hS hA inX0_init_X1 tyX1 tyX1_ok (by decide +kernel) (by decide +kernel) (by decide +kernel) rfl (fun j hj => by rcases (show j = 0 ∨ j = 1 by omega) with rfl | rfl <;> rfl) (Nat.le_of_ble_eq_true rfl) (Nat.le_of_ble_eq_true rfl) dX0_init_39 (fun q38 H hP hD hS => ?_)
  refine W.widen (k := 21) (n := 95) (by omega) (by omega) ?_
  refine lv_dup C0.1 C0.2.1 dX0_init_42 rfl ?_
  refine n_callN (S := Unit) (As := []) (rest := [.ref q38, .ref h0]) C0 hG hP hD hS hA (i_X1 l q38) gX0_init_X1_init_n22 rfl rfl rfl (by decide +kernel) (by decide +kernel) (by decide +kernel) rfl hdvX1_init ⟨(Nat.le_of_ble_eq_true rfl), (Nat.le_of_ble_eq_true rfl)⟩ rfl rfl hl (Nat.le_of_ble_eq_true rfl) dX0_init_43 ⟨(Nat.le_of_ble_eq_true rfl), (Nat.le_of_ble_eq_true rfl)⟩ (fun _u38 H locs hP hD hS _ => ?_)
  refine W.widen (k := 21) (n := 95) (by omega) (by omega) ?_
  have hP : va_P (gD G) vwCl ((h0, .inr (0, [.ref q4, .ref q16, .ref q27, .null, .int 0])) :: ((((scW G q4 u4 4) ++ bestW q16) ++ bestW q27) ++ bestW q38)) H := hP
  have hD : va_D _ ((h0, .inr (0, [.ref q4, .ref q16, .ref q27, .null, .int 0])) :: ((((scW G q4 u4 4) ++ bestW q16) ++ bestW q27) ++ bestW q38)) := hD
  refine n_putF C0 hin hG hP hD hS rfl 3 (by decide) inX0_init_X0 (by decide +kernel) tyX0 tyX0_ok nmX0 rfl rfl rfl rfl (Nat.le_of_ble_eq_true rfl) dX0_init_46 (fun H locs hP hD hS => ?_)
  have hP : va_P (gD G) vwCl ((h0, .inr (0, [.ref q4, .ref q16, .ref q27, .ref q38, .int 0])) :: ((((scW G q4 u4 4) ++ bestW q16) ++ bestW q27) ++ bestW q38)) H := hP
  have hD : va_D _ ((h0, .inr (0, [.ref q4, .ref q16, .ref q27, .ref q38, .int 0])) :: ((((scW G q4 u4 4) ++ bestW q16) ++ bestW q27) ++ bestW q38)) := hD
  exact n_ret C0 (fun j => if j = 0 then q4 else if j = 1 then q16 else if j = 2 then q27 else q38, u4) hP hD hS hKO dX0_init_49
def sig0 : ST := (fun k => match k with
  | 3 => (fun j => match j with
    | 5 => 1
    | 6 => -9
    | _ => 0)
  | _ => fun _ => 0, fun _ _ => 0)
def w1X8 (G : GT) (h0 t t1 d d1 n : Nat) (an : Nat → Nat) (p : Nat) (ap : Nat → Nat) (c : Nat) (ac : Nat → Nat) (k : Nat) (ak : Nat → Nat) (ah : Nat) (xh : (Nat → Nat) × (Nat → Nat)) (dr : Nat) : va_W := (h0, .inr (7, [.ref t, .ref d, .ref n, .ref p, .ref c, .ref k, .ref ah, .ref dr, .int 0, .int 0])) :: (((((((w1X6 G t t1 ++ w1X7 G d d1) ++ w1X4 G n an) ++ w1X4 G p ap) ++ scW G c ac 8) ++ scW G k ak 2) ++ w1X0 G ah xh) ++ [(dr, .inr (2, [.long 0]))])
def smE (e e' : va_E) : Prop := ∀ (D : va_G) (cl : List vw_C) (a : Nat) (H : Heap), va_at D cl (a, e) H → va_at D cl (a, e') H
theorem smE.row {cA : ClassId} {n : Nat} {f g : Nat → Option Nat} (h : ∀ j, j < n → f j = g j) : smE (.inl (cA, n, .inr (.inr (.inr (.inr f))))) (.inl (cA, n, .inr (.inr (.inr (.inr g))))) := fun D cl a H q => by
  show H[a]? = some (vp_cell cA (n, .inr (.inr (.inr (.inr g)))))
  rw [← q_cell h]
  exact q
theorem wsG_sm {cell : CT} {K : Nat} {G : GT} {σ : ST} {w : va_W} (hl : w.length = K) (h : ∀ k, k < K → ∃ e, w[k]? = some (aD G k, e) ∧ smE e (cell G (σ.1 k) (σ.2 k) k)) : (∀ (D : va_G) (cl : List vw_C) (H : Heap), va_P D cl w H → va_P D cl (wsG cell K G σ) H) ∧ ∀ A : Nat → Prop, va_D A w → va_D A (wsG cell K G σ) := by
  refine ⟨fun D cl H hP k q hq => ?_, fun A hD => ⟨fun i j p q hp hq hpq => ?_, fun k q hq => ?_⟩⟩
  · obtain ⟨h1, rfl⟩ := wsG_in hq
    obtain ⟨e, h2, h3⟩ := h k h1
    exact h3 D cl _ H (hP k _ h2)
  · obtain ⟨h1, rfl⟩ := wsG_in hp
    obtain ⟨h2, rfl⟩ := wsG_in hq
    obtain ⟨e, h3, -⟩ := h i h1
    obtain ⟨e', h4, -⟩ := h j h2
    exact hD.1 i j _ _ h3 h4 hpq
  · obtain ⟨h1, rfl⟩ := wsG_in hq
    obtain ⟨e, h3, -⟩ := h k h1
    exact hD.2 k (aD G k, e) h3
set_option maxHeartbeats 8000000 in
set_option maxRecDepth 100000 in
theorem w1X8_is (G : GT) (h0 t t1 d d1 n : Nat) (an : Nat → Nat) (p : Nat) (ap : Nat → Nat) (c : Nat) (ac : Nat → Nat) (k : Nat) (ak : Nat → Nat) (ah : Nat) (xh : (Nat → Nat) × (Nat → Nat)) (dr : Nat) : (∀ (D : va_G) (cl : List vw_C) (H : Heap), va_P D cl (w1X8 G h0 t t1 d d1 n an p ap c ac k ak ah xh dr) H → va_P D cl (wsG cellX 80 (setA G (adL (w1X8 G h0 t t1 d d1 n an p ap c ac k ak ah xh dr))) sig0) H) ∧ ∀ A : Nat → Prop, va_D A (w1X8 G h0 t t1 d d1 n an p ap c ac k ak ah xh dr) → va_D A (wsG cellX 80 (setA G (adL (w1X8 G h0 t t1 d d1 n an p ap c ac k ak ah xh dr))) sig0) := wsG_sm rfl (fun i hi => by
    match i, hi with
    | 0, _ => exact ⟨_, rfl, fun _ _ _ _ h => h⟩
    | 1, _ => exact ⟨_, rfl, fun _ _ _ _ h => h⟩
    | 2, _ => exact ⟨_, rfl, fun _ _ _ _ h => h⟩
    | 3, _ => exact ⟨_, rfl, fun _ _ _ _ h => h⟩
    | 4, _ => exact ⟨_, rfl, fun _ _ _ _ h => h⟩
    | 5, _ => exact ⟨_, rfl, fun _ _ _ _ h => h⟩
    | 6, _ => exact ⟨_, rfl, fun _ _ _ _ h => h⟩
    | 7, _ => exact ⟨_, rfl, fun _ _ _ _ h => h⟩
    | 8, _ => exact ⟨_, rfl, fun _ _ _ _ h => h⟩
    | 9, _ => exact ⟨_, rfl, fun _ _ _ _ h => h⟩
    | 10, _ => exact ⟨_, rfl, fun _ _ _ _ h => h⟩
    | 11, _ => exact ⟨_, rfl, fun _ _ _ _ h => h⟩
    | 12, _ => exact ⟨_, rfl, fun _ _ _ _ h => h⟩
    | 13, _ => exact ⟨_, rfl, fun _ _ _ _ h => h⟩
    | 14, _ => exact ⟨_, rfl, smE.row (fun j hj => by rcases (show j = 0 ∨ j = 1 ∨ j = 2 ∨ j = 3 ∨ j = 4 ∨ j = 5 ∨ j = 6 ∨ j = 7 by omega) with rfl | rfl | rfl | rfl | rfl | rfl | rfl | rfl <;> rfl)⟩
    | 15, _ => exact ⟨_, rfl, fun _ _ _ _ h => h⟩
    | 16, _ => exact ⟨_, rfl, fun _ _ _ _ h => h⟩
    | 17, _ => exact ⟨_, rfl, fun _ _ _ _ h => h⟩
    | 18, _ => exact ⟨_, rfl, fun _ _ _ _ h => h⟩
    | 19, _ => exact ⟨_, rfl, fun _ _ _ _ h => h⟩
    | 20, _ => exact ⟨_, rfl, fun _ _ _ _ h => h⟩
    | 21, _ => exact ⟨_, rfl, fun _ _ _ _ h => h⟩
    | 22, _ => exact ⟨_, rfl, fun _ _ _ _ h => h⟩
    | 23, _ => exact ⟨_, rfl, fun _ _ _ _ h => h⟩
    | 24, _ => exact ⟨_, rfl, fun _ _ _ _ h => h⟩
    | 25, _ => exact ⟨_, rfl, fun _ _ _ _ h => h⟩
    | 26, _ => exact ⟨_, rfl, fun _ _ _ _ h => h⟩
    | 27, _ => exact ⟨_, rfl, fun _ _ _ _ h => h⟩
    | 28, _ => exact ⟨_, rfl, fun _ _ _ _ h => h⟩
    | 29, _ => exact ⟨_, rfl, fun _ _ _ _ h => h⟩
    | 30, _ => exact ⟨_, rfl, fun _ _ _ _ h => h⟩
    | 31, _ => exact ⟨_, rfl, fun _ _ _ _ h => h⟩
    | 32, _ => exact ⟨_, rfl, fun _ _ _ _ h => h⟩
    | 33, _ => exact ⟨_, rfl, fun _ _ _ _ h => h⟩
    | 34, _ => exact ⟨_, rfl, fun _ _ _ _ h => h⟩
    | 35, _ => exact ⟨_, rfl, fun _ _ _ _ h => h⟩
    | 36, _ => exact ⟨_, rfl, fun _ _ _ _ h => h⟩
    | 37, _ => exact ⟨_, rfl, fun _ _ _ _ h => h⟩
    | 38, _ => exact ⟨_, rfl, fun _ _ _ _ h => h⟩
    | 39, _ => exact ⟨_, rfl, fun _ _ _ _ h => h⟩
    | 40, _ => exact ⟨_, rfl, fun _ _ _ _ h => h⟩
    | 41, _ => exact ⟨_, rfl, fun _ _ _ _ h => h⟩
    | 42, _ => exact ⟨_, rfl, fun _ _ _ _ h => h⟩
    | 43, _ => exact ⟨_, rfl, fun _ _ _ _ h => h⟩
    | 44, _ => exact ⟨_, rfl, fun _ _ _ _ h => h⟩
    | 45, _ => exact ⟨_, rfl, fun _ _ _ _ h => h⟩
    | 46, _ => exact ⟨_, rfl, fun _ _ _ _ h => h⟩
    | 47, _ => exact ⟨_, rfl, fun _ _ _ _ h => h⟩
    | 48, _ => exact ⟨_, rfl, smE.row (fun j hj => by rcases (show j = 0 ∨ j = 1 by omega) with rfl | rfl <;> rfl)⟩
    | 49, _ => exact ⟨_, rfl, fun _ _ _ _ h => h⟩
    | 50, _ => exact ⟨_, rfl, fun _ _ _ _ h => h⟩
    | 51, _ => exact ⟨_, rfl, fun _ _ _ _ h => h⟩
    | 52, _ => exact ⟨_, rfl, fun _ _ _ _ h => h⟩
    | 53, _ => exact ⟨_, rfl, fun _ _ _ _ h => h⟩
    | 54, _ => exact ⟨_, rfl, fun _ _ _ _ h => h⟩
    | 55, _ => exact ⟨_, rfl, fun _ _ _ _ h => h⟩
    | 56, _ => exact ⟨_, rfl, fun _ _ _ _ h => h⟩
    | 57, _ => exact ⟨_, rfl, fun _ _ _ _ h => h⟩
    | 58, _ => exact ⟨_, rfl, fun _ _ _ _ h => h⟩
    | 59, _ => exact ⟨_, rfl, smE.row (fun j hj => by rcases (show j = 0 ∨ j = 1 ∨ j = 2 ∨ j = 3 by omega) with rfl | rfl | rfl | rfl <;> rfl)⟩
    | 60, _ => exact ⟨_, rfl, fun _ _ _ _ h => h⟩
    | 61, _ => exact ⟨_, rfl, fun _ _ _ _ h => h⟩
    | 62, _ => exact ⟨_, rfl, fun _ _ _ _ h => h⟩
    | 63, _ => exact ⟨_, rfl, fun _ _ _ _ h => h⟩
    | 64, _ => exact ⟨_, rfl, fun _ _ _ _ h => h⟩
    | 65, _ => exact ⟨_, rfl, fun _ _ _ _ h => h⟩
    | 66, _ => exact ⟨_, rfl, fun _ _ _ _ h => h⟩
    | 67, _ => exact ⟨_, rfl, fun _ _ _ _ h => h⟩
    | 68, _ => exact ⟨_, rfl, fun _ _ _ _ h => h⟩
    | 69, _ => exact ⟨_, rfl, fun _ _ _ _ h => h⟩
    | 70, _ => exact ⟨_, rfl, fun _ _ _ _ h => h⟩
    | 71, _ => exact ⟨_, rfl, fun _ _ _ _ h => h⟩
    | 72, _ => exact ⟨_, rfl, fun _ _ _ _ h => h⟩
    | 73, _ => exact ⟨_, rfl, fun _ _ _ _ h => h⟩
    | 74, _ => exact ⟨_, rfl, fun _ _ _ _ h => h⟩
    | 75, _ => exact ⟨_, rfl, fun _ _ _ _ h => h⟩
    | 76, _ => exact ⟨_, rfl, fun _ _ _ _ h => h⟩
    | 77, _ => exact ⟨_, rfl, fun _ _ _ _ h => h⟩
    | 78, _ => exact ⟨_, rfl, fun _ _ _ _ h => h⟩
    | 79, _ => exact ⟨_, rfl, fun _ _ _ _ h => h⟩
    | i + 80, hi => exact absurd hi (by omega))

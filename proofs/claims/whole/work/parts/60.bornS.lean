/-! ===== a row of scenes is made ===== -/
def scL (G : GT) (a : Nat → Nat) : Nat → va_W
  | 0 => []
  | i + 1 => scL G a i ++ [(a (1 + 4 * i), .inr (3, [.ref (a (2 + 4 * i)), .ref (a (3 + 4 * i)), .ref (a (4 + 4 * i)), .int 0, .int 0, .int 0])), (a (2 + 4 * i), .inl (gL G, 11, .inr (.inl (fun _ => 0)))), (a (3 + 4 * i), .inl (gI G, 2, .inl (fun _ => 0))), (a (4 + 4 * i), .inl (gI G, 2, .inl (fun _ => 0)))]
theorem scL_len {G : GT} {a : Nat → Nat} : ∀ i, (scL G a i).length = 4 * i := by
  intro i
  induction i with
  | zero => rfl
  | succ i ih =>
    unfold scL
    rw [List.length_append, ih]
    show 4 * i + 4 = 4 * (i + 1)
    omega
theorem scL_eq {G : GT} {a b : Nat → Nat} : ∀ i, (∀ j, j < 1 + 4 * i → a j = b j) → scL G a i = scL G b i := by
  intro i
  induction i with
  | zero => intro _; rfl
  | succ i ih =>
    intro h
    unfold scL
    rw [ih (fun j hj => h j (by omega)), h (1 + 4 * i) (by omega), h (2 + 4 * i) (by omega), h (3 + 4 * i) (by omega), h (4 + 4 * i) (by omega)]
def scW (G : GT) (h0 : Nat) (a : Nat → Nat) (n : Nat) : va_W := (h0, .inr (4, [.ref (a 0)])) :: (a 0, .inl (gO G, n, .inr (.inr (.inr (.inr (fun j => some (a (1 + 4 * j)))))))) :: scL G a n
def rX5_init (n : Nat) : Room := { frames := 2, cells := 1 + 4 * n, slots := 22 * n, locals := 32 }
theorem q_cell {cA : ClassId} {n : Nat} {f g : Nat → Option Nat} (h : ∀ j, j < n → f j = g j) : vp_cell cA (n, .inr (.inr (.inr (.inr f)))) = vp_cell cA (n, .inr (.inr (.inr (.inr g)))) := by
  show arrV cA n (fun j => va_rf (f j)) = arrV cA n (fun j => va_rf (g j))
  unfold arrV
  congr 2
  funext j
  show va_rf (f j.1) = va_rf (g j.1)
  rw [h j.1 j.2]
theorem q_P {D : va_G} {cl : List vw_C} {wr : va_W} {x : Nat × va_E} {a n : Nat} {cA : ClassId} {f g : Nat → Option Nat} {H : Heap} (h : ∀ j, j < n → f j = g j) (hP : va_P D cl (x :: (a, .inl (cA, n, .inr (.inr (.inr (.inr f))))) :: wr) H) : va_P D cl (x :: (a, .inl (cA, n, .inr (.inr (.inr (.inr g))))) :: wr) H := by
  intro k q hq
  match k, hq with
  | 0, hq => exact hP 0 q hq
  | 1, hq =>
    cases hq
    have := hP 1 _ rfl
    show H[a]? = some (vp_cell cA (n, .inr (.inr (.inr (.inr g)))))
    rw [← q_cell h]
    exact this
  | k + 2, hq => exact hP (k + 2) q hq
theorem q_D {A : Nat → Prop} {wr : va_W} {x : Nat × va_E} {a : Nat} {e e' : va_E} (hD : va_D A (x :: (a, e) :: wr)) : va_D A (x :: (a, e') :: wr) := hD.set (p := 1) (a := a) (e0 := e) (e := e') rfl
section
variable {p : Program} {l : Launch} {e : Env} {s : State} {m : MethodId} {args : Array Value} {below : List Frame} {meth : Method} {c : Code} {G : GT}
set_option maxHeartbeats 4000000 in
set_option maxRecDepth 100000 in
theorem w_X5_18 (C0 : Cx p s m args meth c cX5_init RX5 3 none wsX5_init) (hG : Bx G s) (hK : va_K (gD G) vwCl [(gO G, .object "GoneOverboard$Scene")] s) {n h0 r : Nat} {w0 : va_W} (hn : n ≤ 8) : ∀ (k i : Nat) (a : Nat → Nat) (f : Nat → Option Nat) (H : Heap) (locs : List Loc) (ls : Array Slot), i + k = n → a 0 = r → (∀ j, j < i → f j = some (a (1 + 4 * j))) → va_P (gD G) vwCl ((h0, .inr (4, [.ref r])) :: (r, .inl (gO G, n, .inr (.inr (.inr (.inr f))))) :: scL G a i) H → va_D (va_A w0 s.heap.size) ((h0, .inr (4, [.ref r])) :: (r, .inl (gO G, n, .inr (.inr (.inr (.inr f))))) :: scL G a i) → va_S (va_A w0 s.heap.size) s.heap H locs → lv_has ls 3 [(0, .ref h0), (1, .int (nI n)), (2, .int (nI i))] → W p l e (rX5_init n) s m args below meth c H locs (1 + 4 * i) (n + 21 * i) (MQ below (NQv (S := Nat → Nat) G (fun a => scW G h0 a n) [(gO G, .object "GoneOverboard$Scene")] w0 s.heap.size) args s (1 + 4 * n) (22 * n) (va_A w0 s.heap.size)) (F0 m 18 ls []) := by
  have hA : ∀ q, s.heap.size ≤ q → va_A w0 s.heap.size q := fun q h => Or.inr h
  intro k
  induction k with
  | zero =>
    intro i a f H locs ls hik ha hf hP hD hS hl
    have e : i = n := by omega
    subst e
    refine lv_iload_n C0.1 C0.2.1 dX5_init_18 rfl (lv_at hl 2 rfl) ?_
    refine lv_aload_n C0.1 C0.2.1 dX5_init_19 rfl (lv_at hl 0 rfl) ?_
    refine va_get (ci := 4) (C := RX5) (T := TX5) (N := 1) C0.1 C0.2.1 C0.2.2.2.1 inX5_init_X5 C0.2.2.2.2.1 hG.1 hP 0 rfl rfl 0 (by decide) (C0.2.2.2.1 (.fieldLink RX5 15 "GoneOverboard$Scenes" "row" "[LGoneOverboard$Scene;") (by decide +kernel)) (fun _ h => h) rfl dX5_init_20 ?_
    refine va_alen (v := nI i) C0.1 C0.2.1 hK hP 1 0 rfl rfl rfl dX5_init_23 ?_
    refine lv_icmp_ge (tgt := 46) C0.1 C0.2.1 dX5_init_24 (by decide) (fun _ => ?_) (fun cc => absurd (nI_le (Nat.le_refl i) (by omega)) cc)
    subst ha
    have hP : va_P (gD G) vwCl (scW G h0 a i) H := q_P hf hP
    have hD : va_D (va_A w0 s.heap.size) (scW G h0 a i) := q_D hD
    refine W.widen (k := 1 + 4 * i) (n := 22 * i) (by omega) (by omega) ?_
    exact n_ret (w1 := fun a => scW G h0 a i) C0 a hP hD hS hK dX5_init_46
  | succ k ih =>
    intro i a f H locs ls hik ha hf hP hD hS hl
    have hin : i < n := by omega
    refine lv_iload_n C0.1 C0.2.1 dX5_init_18 rfl (lv_at hl 2 rfl) ?_
    refine lv_aload_n C0.1 C0.2.1 dX5_init_19 rfl (lv_at hl 0 rfl) ?_
    refine va_get (ci := 4) (C := RX5) (T := TX5) (N := 1) C0.1 C0.2.1 C0.2.2.2.1 inX5_init_X5 C0.2.2.2.2.1 hG.1 hP 0 rfl rfl 0 (by decide) (C0.2.2.2.1 (.fieldLink RX5 15 "GoneOverboard$Scenes" "row" "[LGoneOverboard$Scene;") (by decide +kernel)) (fun _ h => h) rfl dX5_init_20 ?_
    refine va_alen (v := nI n) C0.1 C0.2.1 hK hP 1 0 rfl rfl rfl dX5_init_23 ?_
    refine lv_icmp_ge (tgt := 46) C0.1 C0.2.1 dX5_init_24 (by decide) (fun cc => absurd cc (nI_ge hin (by omega))) (fun _ => ?_)
    refine lv_aload_n C0.1 C0.2.1 dX5_init_27 rfl (lv_at hl 0 rfl) ?_
    refine va_get (ci := 4) (C := RX5) (T := TX5) (N := 1) C0.1 C0.2.1 C0.2.2.2.1 inX5_init_X5 C0.2.2.2.2.1 hG.1 hP 0 rfl rfl 0 (by decide) (C0.2.2.2.1 (.fieldLink RX5 15 "GoneOverboard$Scenes" "row" "[LGoneOverboard$Scene;") (by decide +kernel)) (fun _ h => h) rfl dX5_init_28 ?_
    refine lv_iload_n C0.1 C0.2.1 dX5_init_31 rfl (lv_at hl 2 rfl) ?_
    refine n_new (ci := 3) (fs := [.null, .null, .null, .int 0, .int 0, .int 0]) C0 hG hP hD hS hA inX5_init_X4 tyX4 tyX4_ok (by decide +kernel) (by decide +kernel) (by decide +kernel) rfl (fun j hj => by rcases (show j = 0 ∨ j = 1 ∨ j = 2 ∨ j = 3 ∨ j = 4 ∨ j = 5 by omega) with rfl | rfl | rfl | rfl | rfl | rfl <;> rfl) (by show _ ≤ 1 + 4 * n; omega) (by show _ ≤ 22 * n; omega) dX5_init_32 (fun q H hP hD hS => ?_)
    refine lv_dup C0.1 C0.2.1 dX5_init_35 rfl ?_
    refine n_call (S := Nat → Nat) (As := []) (rest := [.ref q, .int (nI i), .ref r]) C0 hG hP hD hS hA (i_X4 l q) gX5_init_X4_init rfl rfl rfl (by decide +kernel) (by decide +kernel) (by decide +kernel) rfl hdvX4_init ⟨Nat.le_of_ble_eq_true rfl, Nat.le_of_ble_eq_true rfl⟩ rfl rfl hl (Nat.le_of_ble_eq_true rfl) dX5_init_36 ⟨by show _ ≤ 1 + 4 * n; omega, by show _ ≤ 22 * n; omega⟩ (fun b H locs hP hD hS _ => ?_)
    have hvi : ((h0, .inr (4, [.ref r])) :: (r, .inl (gO G, n, .inr (.inr (.inr (.inr f))))) :: scL G a i ++ w1X4 G q b)[2 + 4 * i]? = some (q, (.inr (3, [.ref (b 1), .ref (b 2), .ref (b 3), .int 0, .int 0, .int 0]) : va_E)) := by
      rw [List.getElem?_append_right (by show (scL G a i).length + 1 + 1 ≤ _; rw [scL_len]; omega)]
      rw [show 2 + 4 * i - ((h0, (.inr (4, [.ref r]) : va_E)) :: (r, .inl (gO G, n, .inr (.inr (.inr (.inr f))))) :: scL G a i).length = 0 from by show 2 + 4 * i - ((scL G a i).length + 1 + 1) = 0; rw [scL_len]; omega]
      rfl
    refine va_astq C0.1 C0.2.1 hK hP hD hS 1 0 (2 + 4 * i) 3 rfl rfl hvi rfl (vp_in_nI hin (by omega)) dX5_init_39 (fun H locs hP hD hS => ?_)
    refine lv_iinc (v := nI i + 1) (lv' := [(2, .int (nI i + 1)), (0, .ref h0), (1, .int (nI n))]) C0.1 C0.2.1 dX5_init_40 hl (k := 2) rfl rfl (by decide) rfl (fun ls hl => ?_)
    refine lv_goto (tgt := 18) C0.1 C0.2.1 dX5_init_43 (by decide) ?_
    rw [nI_1] at hl
    obtain ⟨a', ea⟩ : ∃ a' : Nat → Nat, a' = fun j => if j < 1 + 4 * i then a j else if j = 1 + 4 * i then q else b (j - (1 + 4 * i)) := ⟨_, rfl⟩
    have a0 : ∀ j, j < 1 + 4 * i → a' j = a j := fun j hj => by rw [ea]; exact if_pos hj
    have a1 : a' (1 + 4 * i) = q := by rw [ea]; show (if _ then _ else _) = _; rw [if_neg (by omega), if_pos rfl]
    have a2 : ∀ d, 1 ≤ d → a' (d + 1 + 4 * i) = b d := fun d hd => by
      rw [ea]
      show (if _ then _ else _) = _
      rw [if_neg (by omega), if_neg (by omega), show d + 1 + 4 * i - (1 + 4 * i) = d by omega]
    have el : scL G a i ++ w1X4 G q b = scL G a' (i + 1) := by
      conv => rhs; unfold scL
      rw [scL_eq i a0, a1, a2 1 (by decide), a2 2 (by decide), a2 3 (by decide)]
      rfl
    rw [nI_clamp (by omega)] at hP hD
    have hP : va_P (gD G) vwCl ((h0, .inr (4, [.ref r])) :: (r, .inl (gO G, n, .inr (.inr (.inr (.inr (va_up f i (some q))))))) :: (scL G a i ++ w1X4 G q b)) H := hP
    have hD : va_D (va_A w0 s.heap.size) ((h0, .inr (4, [.ref r])) :: (r, .inl (gO G, n, .inr (.inr (.inr (.inr (va_up f i (some q))))))) :: (scL G a i ++ w1X4 G q b)) := hD
    rw [el] at hP hD
    refine W.widen (k := 1 + 4 * (i + 1)) (n := n + 21 * (i + 1)) (by omega) (by omega) ?_
    refine ih (i + 1) a' (va_up f i (some q)) H locs ls (by omega) ((a0 0 (by omega)).trans ha) (fun j hj => ?_) hP hD hS (lv_sub hl [1, 2, 0] rfl)
    by_cases e : j = i
    · subst e
      rw [va_up_self, a1]
    · rw [va_up_ne f _ e, hf j (by omega), a0 (1 + 4 * j) (by omega)]
end
theorem n_nmO {s : State} {cA : ClassId} (h : va_RA s cA (.object "GoneOverboard$Scene")) : s.vm.findClass "[LGoneOverboard$Scene;" = some cA := va_nmO h (by decide +kernel)
set_option maxHeartbeats 4000000 in
set_option maxRecDepth 100000 in
theorem i_X5 (l : Launch) {G : GT} (n : Nat) (hn : n ≤ 8) (h0 : Nat) : ∀ sz, Met l yX5_init wsX5_init (rX5_init n) (NPc G [(h0, .inr (4, [.null]))] sz [.ref h0, .int (nI n)]) (NQv (S := Nat → Nat) G (fun a => scW G h0 a n) [(gO G, .object "GoneOverboard$Scene")] [(h0, .inr (4, [.null]))] sz) (1 + 4 * n) (22 * n) (va_A [(h0, .inr (4, [.null]))] sz) := fun sz => by
  refine n_met (cc := cX5_init) (maxL := 3) (by decide) rfl rfl (Nat.le_of_ble_eq_true rfl) ?_
  intro p e s m args below meth c ls C0 hin hG hP hD hS hl
  have hA : ∀ q, s.heap.size ≤ q → va_A [(h0, .inr (4, [.null]))] s.heap.size q := fun q h => Or.inr h
  have hl : lv_has ls 3 [(0, .ref h0), (1, .int (nI n))] := hl
  refine lv_aload_n C0.1 C0.2.1 dX5_init_0 rfl (lv_at hl 0 rfl) ?_
  refine n_obj (idx := 1) C0 hl (by decide +kernel) (by decide +kernel) (by decide +kernel) dX5_init_1 (Nat.le_of_ble_eq_true rfl) (Nat.le_of_ble_eq_true rfl) ?_
  refine lv_aload_n C0.1 C0.2.1 dX5_init_4 rfl (lv_at hl 0 rfl) ?_
  refine lv_iload_n C0.1 C0.2.1 dX5_init_5 rfl (lv_at hl 1 rfl) ?_
  refine lv_iconst (v := (0 : Int32)) C0.1 C0.2.1 dX5_init_6 (by decide) ?_
  refine va_mmax C0.1 C0.2.1 (by rw [C0.2.2.2.2.2.1]; exact hl.1.symm) C0.2.2.2.2.1 (C0.2.2.2.1 _ (by decide +kernel : Cond.methodLink RX5 7 Lib.Math.max.name ∈ wsX5_init)) (C0.2.2.2.1 _ (by decide +kernel : Cond.static Lib.Math.max.name ∈ wsX5_init)) (C0.2.2.2.1 _ (by decide +kernel : Cond.initialized "java/lang/Math" ∈ wsX5_init)) (C0.2.2.2.1 _ (by decide +kernel : Cond.code Lib.Math.max.name Lib.Math.max.code 2 (some .int) ∈ wsX5_init)) (Nat.le_of_ble_eq_true rfl) (Nat.le_of_ble_eq_true rfl) (Nat.zero_le _) (Nat.zero_le _) dX5_init_7 ?_
  rw [if_neg (nI_pos (by omega))]
  refine va_newq C0.1 C0.2.1 C0.2.2.2.2.1 (C0.2.2.2.1 (.classLink RX5 13 RX4) (by decide +kernel)) hG.2.2.2 hG.1 hP hD hS hA (nI_pos (by omega)) (nI_clamp (by omega)) (by omega) (by show 0 + 1 ≤ 1 + 4 * n; omega) (by show 0 + n ≤ 22 * n; omega) dX5_init_10 (fun r cA H hK hP hD hS => ?_)
  have ec : cA = gO G := hG.2.2.1.2.2.2 cA (n_nmO (hK.2 0 _ rfl).2)
  subst ec
  have hP : va_P (gD G) vwCl [(h0, .inr (4, [.null])), (r, .inl (gO G, n, .inr (.inr (.inr (.inr (fun _ => none))))))] H := hP
  have hD : va_D _ [(h0, .inr (4, [.null])), (r, .inl (gO G, n, .inr (.inr (.inr (.inr (fun _ => none))))))] := hD
  refine n_putF C0 hin hG hP hD hS rfl 0 (by decide) inX5_init_X5 (by decide +kernel) tyX5 tyX5_ok (fun a ha b hb h => absurd (by omega) h) rfl rfl rfl rfl (Nat.le_of_ble_eq_true rfl) dX5_init_13 (fun H locs hP hD hS => ?_)
  refine lv_iconst (v := (0 : Int32)) C0.1 C0.2.1 dX5_init_16 (by decide) ?_
  refine lv_istore_n (lv' := [(2, .int 0), (0, .ref h0), (1, .int (nI n))]) C0.1 C0.2.1 dX5_init_17 rfl hl (by decide) rfl (fun ls hl => ?_)
  refine W.widen (k := 1 + 4 * 0) (n := n + 21 * 0) (by omega) (by omega) ?_
  exact w_X5_18 (w0 := [(h0, .inr (4, [.null]))]) C0 hG hK hn n 0 (fun _ => r) (fun _ => none) H locs ls (by omega) rfl (fun j hj => absurd hj (Nat.not_lt_zero _)) hP hD hS (lv_sub hl [1, 2, 0] rfl)

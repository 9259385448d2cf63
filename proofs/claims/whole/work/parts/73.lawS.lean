/-! ===== the law from its entry ===== -/
theorem inlX0 : ∀ w ∈ wsX00, w ∈ wsL_law := fun _ h => List.mem_append_left _ (List.mem_append_left _ (List.mem_append_left _ (List.mem_append_right _ h)))
theorem inlX1 : ∀ w ∈ wsX10, w ∈ wsL_law := fun _ h => List.mem_append_left _ (List.mem_append_right _ h)
theorem inlX2 : ∀ w ∈ wsX20, w ∈ wsL_law := fun _ h => List.mem_append_left _ (List.mem_append_left _ (List.mem_append_right _ h))
theorem inlX4 : ∀ w ∈ wsX40, w ∈ wsL_law := fun _ h => List.mem_append_left _ (List.mem_append_left _ (List.mem_append_left _ (List.mem_append_left _ (List.mem_append_left _ (List.mem_append_right _ h)))))
theorem inlX5 : ∀ w ∈ wsX50, w ∈ wsL_law := fun _ h => List.mem_append_left _ (List.mem_append_left _ (List.mem_append_left _ (List.mem_append_left _ (List.mem_append_right _ h))))
theorem inlX6 : ∀ w ∈ wsX60, w ∈ wsL_law := fun _ h => List.mem_append_left _ (List.mem_append_left _ (List.mem_append_left _ (List.mem_append_left _ (List.mem_append_left _ (List.mem_append_left _ (List.mem_append_left _ (List.mem_append_right _ h)))))))
theorem inlX7 : ∀ w ∈ wsX70, w ∈ wsL_law := fun _ h => List.mem_append_left _ (List.mem_append_left _ (List.mem_append_left _ (List.mem_append_left _ (List.mem_append_left _ (List.mem_append_left _ (List.mem_append_right _ h))))))
theorem inlX8 : ∀ w ∈ wsX80, w ∈ wsL_law := fun _ h => List.mem_append_left _ (List.mem_append_left _ (List.mem_append_left _ (List.mem_append_left _ (List.mem_append_left _ (List.mem_append_left _ (List.mem_append_left _ (List.mem_append_left _ (List.mem_append_left _ (List.mem_append_right _ h)))))))))
theorem inlX9 : ∀ w ∈ wsX90, w ∈ wsL_law := fun _ h => List.mem_append_left _ (List.mem_append_left _ (List.mem_append_left _ (List.mem_append_left _ (List.mem_append_left _ (List.mem_append_left _ (List.mem_append_left _ (List.mem_append_left _ (List.mem_append_right _ h))))))))
theorem wsG_len {cell : CT} {K : Nat} {G : GT} {σ : ST} : (wsG cell K G σ).length = K := by simp [wsG]
theorem lw_cls (x : Option ClassId) : ∃ y : ClassId, ∀ c, x = some c → c = y := by
  cases x with
  | none => exact ⟨(0 : Nat), fun c q => by cases q⟩
  | some a => exact ⟨a, fun c q => (Option.some.inj q).symm⟩
theorem rel0 : Rel sig0 mu0 := by
  refine ⟨fun j => if j = 5 then 1 else 0, fun _ => 0, none, 0, fun _ => 0, (fun _ => 0, fun _ => 0), 0, fun _ => (fun _ => 0, fun _ => 0), fun _ => none, ⟨⟨rfl, rfl, rfl, rfl, rfl, rfl, fun _ _ => rfl⟩, ⟨rfl, rfl, rfl, rfl, rfl, rfl, fun _ _ => rfl⟩, ⟨by decide, by decide, by decide, by decide, by decide, by decide, by decide, by decide, fun _ _ => Nat.zero_le _⟩⟩, ⟨rfl, rfl⟩, ⟨rfl, rfl, by decide, fun j hj => absurd hj (Nat.not_lt_zero _)⟩, ⟨⟨fun _ _ => rfl, rfl, rfl, rfl, fun w _ h2 => absurd h2 (Nat.not_lt_zero _)⟩, ⟨fun _ _ => rfl, rfl, rfl, rfl, fun w _ h2 => absurd h2 (Nat.not_lt_zero _)⟩, ⟨Nat.zero_le _, Nat.zero_le _, Nat.zero_le _, fun w _ h2 => absurd h2 (Nat.not_lt_zero _), by decide⟩⟩, ⟨rfl, rfl, Nat.zero_le _, fun k hk => absurd hk (Nat.not_lt_zero _)⟩, ⟨rfl, fun s _ => ⟨rfl, fun d hd => by cases hd⟩⟩, rfl⟩
section
variable {p : Program} {e : Env} {s : State} {m : MethodId} {args : Array Value} {below : List Frame} {meth : Method} {c : Code} {Q : State → Prop} {ls : Array Slot} {b L : Nat} {xs : Nat → Int32}
set_option maxHeartbeats 8000000 in
set_option maxRecDepth 100000 in
theorem lw_begin (l : Launch) (C0 : Cx p s m args meth c cL_law RL 4 ret wsL_law) (htsT : ∀ w ∈ lw_tbl, w.before args s = true) (hX : va_X b L xs s s.heap) (hbl : b < s.heap.size) (hL : L ≤ 2560) (hend : ∀ (H : Heap) (ls : Array Slot), W p l e room_1 s m args below meth c H [] 600000 7302250 Q (F0 m 961 ls [.int 1])) (hl : lv_has ls 4 [(0, .ref b)]) : W p l e room_1 s m args below meth c s.heap [] 0 0 Q (F0 m 0 ls []) := by
  have hts := C0.2.2.2.1
  obtain ⟨c0, i0, k0⟩ := u_known (C := RX0) (T := TX0) (N := 5) (n := 5) hts inlX0 (hts (.instantiable RX0 5) (by decide +kernel))
  obtain ⟨c1, i1, k1⟩ := u_known (C := RX1) (T := TX1) (N := 2) (n := 2) hts inlX1 (hts (.instantiable RX1 2) (by decide +kernel))
  obtain ⟨c2, i2, k2⟩ := u_known (C := RX2) (T := TX2) (N := 1) (n := 1) hts inlX2 (hts (.instantiable RX2 1) (by decide +kernel))
  obtain ⟨c3, i3, k3⟩ := u_known (C := RX4) (T := TX4) (N := 6) (n := 6) hts inlX4 (hts (.instantiable RX4 6) (by decide +kernel))
  obtain ⟨c4, i4, k4⟩ := u_known (C := RX5) (T := TX5) (N := 1) (n := 1) hts inlX5 (hts (.instantiable RX5 1) (by decide +kernel))
  obtain ⟨c5, i5, k5⟩ := u_known (C := RX6) (T := TX6) (N := 6) (n := 6) hts inlX6 (hts (.instantiable RX6 6) (by decide +kernel))
  obtain ⟨c6, i6, k6⟩ := u_known (C := RX7) (T := TX7) (N := 9) (n := 9) hts inlX7 (hts (.instantiable RX7 9) (by decide +kernel))
  obtain ⟨c7, i7, k7⟩ := u_known (C := RX8) (T := TX8) (N := 10) (n := 10) hts inlX8 (hts (.instantiable RX8 10) (by decide +kernel))
  obtain ⟨c8, i8, k8⟩ := u_known (C := RX9) (T := TX9) (N := 29) (n := 29) hts inlX9 (hts (.instantiable RX9 29) (by decide +kernel))
  obtain ⟨dC, dI, hKc⟩ : ∃ (dC : Nat → ClassId) (dI : Nat → Nat → Nat), ∀ (k : Nat) (q : vw_C), vwCl[k]? = some q → u_Kn s q.1 q.2.1 q.2.2 (dC k) (dI k) := by
    refine ⟨(fun k => match k with | 0 => c0 | 1 => c1 | 2 => c2 | 3 => c3 | 4 => c4 | 5 => c5 | 6 => c6 | 7 => c7 | _ => c8), (fun k => match k with | 0 => i0 | 1 => i1 | 2 => i2 | 3 => i3 | 4 => i4 | 5 => i5 | 6 => i6 | 7 => i7 | _ => i8), ?_⟩
    intro k q hq
    match k, hq with
    | 0, hq => cases hq; exact k0
    | 1, hq => cases hq; exact k1
    | 2, hq => cases hq; exact k2
    | 3, hq => cases hq; exact k3
    | 4, hq => cases hq; exact k4
    | 5, hq => cases hq; exact k5
    | 6, hq => cases hq; exact k6
    | 7, hq => cases hq; exact k7
    | 8, hq => cases hq; exact k8
    | k + 9, hq => simp [vwCl] at hq
  obtain ⟨cI, hI⟩ := lw_cls (s.vm.findClass "[I")
  obtain ⟨cJ, hJ⟩ := lw_cls (s.vm.findClass "[J")
  obtain ⟨cZ, hZ⟩ := lw_cls (s.vm.findClass "[Z")
  obtain ⟨cO, hO⟩ := lw_cls (s.vm.findClass "[LGoneOverboard$Scene;")
  obtain ⟨G, eG⟩ : ∃ G : GT, G = (fun _ => 0, dC, dI, cI, cJ, cZ, cO) := ⟨_, rfl⟩
  have hG : Bx G s := by
    subst eG
    exact ⟨⟨hKc, fun k q h => by simp at h⟩, nwOK_law htsT, ⟨hI, hJ, hZ, hO⟩, va_AO.of (htsT _ over_in)⟩
  have hA : ∀ q : Nat, s.heap.size ≤ q → (fun q : Nat => s.heap.size ≤ q) q := fun _ h => h
  have hS : va_S (fun q : Nat => s.heap.size ≤ q) s.heap s.heap [] := va_S.rf
  have hP : va_P (gD G) vwCl [] s.heap := fun k q h => by simp at h
  have hD : va_D (fun q : Nat => s.heap.size ≤ q) [] := ⟨fun i j p q h => by simp at h, fun k q h => by simp at h⟩
  refine n_new (ci := 7) (fs := [.null, .null, .null, .null, .null, .null, .null, .null, .int 0, .int 0]) C0 hG hP hD hS hA inlX8 tyX8 tyX8_ok (by decide +kernel) (by decide +kernel) (by decide +kernel) rfl (fun j hj => by rcases (show j = 0 ∨ j = 1 ∨ j = 2 ∨ j = 3 ∨ j = 4 ∨ j = 5 ∨ j = 6 ∨ j = 7 ∨ j = 8 ∨ j = 9 by omega) with rfl | rfl | rfl | rfl | rfl | rfl | rfl | rfl | rfl | rfl <;> rfl) (Nat.le_of_ble_eq_true rfl) (Nat.le_of_ble_eq_true rfl) dL_law_0 (fun q H hP hD hS => ?_)
  refine W.widen (k := 1) (n := 10) (by omega) (by omega) ?_
  refine lv_dup C0.1 C0.2.1 dL_law_3 rfl ?_
  refine n_call (S := {a : Nat → Nat // a 0 = q}) (As := []) (rest := [.ref q]) C0 hG hP hD hS hA (i_X8 l q) gL_law_X8_init rfl rfl rfl (by decide +kernel) (by decide +kernel) (by decide +kernel) rfl hdvX8_init ⟨(Nat.le_of_ble_eq_true rfl), (Nat.le_of_ble_eq_true rfl)⟩ rfl rfl hl (Nat.le_of_ble_eq_true rfl) dL_law_4 ⟨(Nat.le_of_ble_eq_true rfl), (Nat.le_of_ble_eq_true rfl)⟩ (fun u H locs hP hD hS hK1 => ?_)
  obtain ⟨a, ha⟩ := u
  subst ha
  refine W.widen (k := 80) (n := 441) (by omega) (by omega) ?_
  have hP : va_P (gD G) vwCl (wsG cellX 80 (setA G a) sig0) H := hP
  have hD : va_D (fun q : Nat => s.heap.size ≤ q) (wsG cellX 80 (setA G a) sig0) := hD
  refine lv_astore_n (lv' := [(1, .ref (a 0)), (0, .ref b)]) C0.1 C0.2.1 dL_law_7 rfl hl (by decide) rfl (fun ls hl => ?_)
  refine n_new (ci := 8) (fs := [.int 0, .int 0, .int 0, .int 0, .int 0, .int 0, .int 0, .int 0, .int 0, .null, .null, .null, .int 0, .int 0, .null, .null, .null, .int 0, .int 0, .int 0, .null, .int 0, .null, .null, .int 0, .long 0, .null, .null, .null]) C0 hG hP hD hS hA inlX9 tyX9 tyX9_ok (by decide +kernel) (by decide +kernel) (by decide +kernel) rfl (fun j hj => by rcases (show j = 0 ∨ j = 1 ∨ j = 2 ∨ j = 3 ∨ j = 4 ∨ j = 5 ∨ j = 6 ∨ j = 7 ∨ j = 8 ∨ j = 9 ∨ j = 10 ∨ j = 11 ∨ j = 12 ∨ j = 13 ∨ j = 14 ∨ j = 15 ∨ j = 16 ∨ j = 17 ∨ j = 18 ∨ j = 19 ∨ j = 20 ∨ j = 21 ∨ j = 22 ∨ j = 23 ∨ j = 24 ∨ j = 25 ∨ j = 26 ∨ j = 27 ∨ j = 28 by omega) with rfl | rfl | rfl | rfl | rfl | rfl | rfl | rfl | rfl | rfl | rfl | rfl | rfl | rfl | rfl | rfl | rfl | rfl | rfl | rfl | rfl | rfl | rfl | rfl | rfl | rfl | rfl | rfl | rfl <;> rfl) (Nat.le_of_ble_eq_true rfl) (Nat.le_of_ble_eq_true rfl) dL_law_8 (fun q H hP hD hS => ?_)
  refine W.widen (k := 81) (n := 470) (by omega) (by omega) ?_
  refine lv_dup C0.1 C0.2.1 dL_law_11 rfl ?_
  refine n_call (S := {a : Nat → Nat // a 0 = q}) (As := []) (rest := [.ref q]) C0 hG hP hD hS hA (i_X9 l q) gL_law_X9_init rfl rfl rfl (by decide +kernel) (by decide +kernel) (by decide +kernel) rfl hdvX9_init ⟨(Nat.le_of_ble_eq_true rfl), (Nat.le_of_ble_eq_true rfl)⟩ rfl rfl hl (Nat.le_of_ble_eq_true rfl) dL_law_12 ⟨(Nat.le_of_ble_eq_true rfl), (Nat.le_of_ble_eq_true rfl)⟩ (fun u H locs hP hD hS hK2 => ?_)
  obtain ⟨d, hd⟩ := u
  subst hd
  refine W.widen (k := 93) (n := 813) (by omega) (by omega) ?_
  have hP : va_P (gD G) vwCl (wsG cellX 80 (setA G a) sig0 ++ wsG cellM 13 (setA G d) mu0) H := hP
  have hD : va_D (fun q : Nat => s.heap.size ≤ q) (wsG cellX 80 (setA G a) sig0 ++ wsG cellM 13 (setA G d) mu0) := hD
  have e1 : ∀ i, i < 80 → (wsG cellX 80 (setA G a) sig0 ++ wsG cellM 13 (setA G d) mu0)[i]? = some (aD (setA G a) i, cellX (setA G a) (sig0.1 i) (sig0.2 i) i) := fun i hi => by
    rw [List.getElem?_append_left (by rw [wsG_len]; exact hi), wsG_at hi]
  have e2 : ∀ j, j < 13 → (wsG cellX 80 (setA G a) sig0 ++ wsG cellM 13 (setA G d) mu0)[80 + j]? = some (aD (setA G d) j, cellM (setA G d) (mu0.1 j) (mu0.2 j) j) := fun j hj => by
    rw [List.getElem?_append_right (by rw [wsG_len]; omega), wsG_len, show 80 + j - 80 = j by omega, wsG_at hj]
  have hK : va_K (gD G) vwCl (gT G) s := (hK1.two hK2).sub [2, 1, 5, 0] rfl
  have S0 : Sx (setA G a) (setA G d) s := by
    refine ⟨⟨hK, hG.2.1⟩, ⟨hK, hG.2.1⟩, fun i j hi hj h => hD.1 i j _ _ (e1 i hi) (e1 j hj) h, fun i j hi hj h => ?_, fun i j hi hj h => ?_, fun i hi => hD.2 i _ (e1 i hi), fun j hj => hD.2 (80 + j) _ (e2 j hj)⟩
    · have := hD.1 (80 + i) (80 + j) _ _ (e2 i hi) (e2 j hj) h
      omega
    · have := hD.1 i (80 + j) _ _ (e1 i hi) (e2 j hj) h
      omega
  have hW : Wl (setA G a) (setA G d) s sig0 mu0 H locs := by
    refine ⟨hP.by (fun k => k) (fun k q hq => ?_), hP.by (fun k => 80 + k) (fun k q hq => ?_), hS⟩
    · obtain ⟨h1, rfl⟩ := wsG_in hq
      exact e1 k h1
    · obtain ⟨h1, rfl⟩ := wsG_in hq
      exact e2 k h1
  refine lv_astore_n (lv' := [(2, .ref (d 0)), (1, .ref (a 0)), (0, .ref b)]) C0.1 C0.2.1 dL_law_15 rfl hl (by decide) rfl (fun ls hl => ?_)
  refine lv_iconst (v := nI 0) C0.1 C0.2.1 dL_law_16 (by decide) ?_
  refine lv_istore_n (lv' := [(3, .int (nI 0)), (2, .ref (d 0)), (1, .ref (a 0)), (0, .ref b)]) C0.1 C0.2.1 dL_law_17 rfl hl (by decide) rfl (fun ls hl => ?_)
  exact lw_loop C0 S0 hX hbl hL ⟨Nat.le_of_ble_eq_true rfl, Nat.le_of_ble_eq_true rfl⟩ ⟨Nat.le_of_ble_eq_true rfl, Nat.le_of_ble_eq_true rfl⟩ hend (L + 6) 0 sig0 mu0 H locs ls (Nat.zero_le _) (by omega) rel0 hW (lv_sub hl [3, 2, 1, 0] rfl)
end

/-! ===== the law's cases, the rest ===== -/
section
variable {p : Program} {l : Launch} {e : Env} {s : State} {m : MethodId} {args : Array Value} {below : List Frame} {meth : Method} {c : Code} {H : Heap} {locs : List Loc} {cells slots : Nat} {Q : State → Prop}
variable {Ga Gb : GT} {σ μ : ST} {ls : Array Slot} {b L i : Nat} {xs : Nat → Int32}
set_option maxHeartbeats 4000000 in
set_option maxRecDepth 100000 in
theorem lk_13 (C0 : Cx p s m args meth c cL_law RL 4 ret wsL_law) (S0 : Sx Ga Gb s) (hX : va_X b L xs s s.heap) (hbl : b < s.heap.size) (hL : L ≤ 2560) (hi : i + 5 ≤ L) (hRl : Rel σ μ) (hW : Wl Ga Gb s σ μ H locs) (hl : lv_has ls 4 [(0, .ref b), (1, .ref (aD Ga 0)), (2, .ref (aD Gb 0)), (3, .int (nI i))]) (hR : cells ≤ room_1.cells ∧ slots ≤ room_1.slots) (kk : ∀ (σ' μ' : ST) (H : Heap) (locs : List Loc), Rel σ' μ' → Wl Ga Gb s σ' μ' H locs → W p l e room_1 s m args below meth c H locs cells slots Q (F0 m 954 ls [])) : W p l e room_1 s m args below meth c H locs cells slots Q (F0 m 503 ls []) := by
  obtain ⟨r, σ', μ', e1, e2, hRn⟩ := op_bestRow (z := 30000) (by decide) hRl (xs (i + 1))
  refine lv_aload_n C0.1 C0.2.1 dL_law_503 rfl (lv_at hl 1 rfl) ?_
  refine lw_ld (k := 1) (i := i) C0 hX hbl hW.2.2 hl rfl rfl hL (by decide) (by omega) dL_law_504 dL_law_505 dL_law_506 dL_law_507 dL_law_508 ?_
  refine lw_xi (As := [.int (xs (i + 1))]) (rest := []) (r := r) (σ' := σ') C0 S0 hW (cX8_bestRow_met l S0.2.2.1 30000 σ (xs (i + 1)) (r, σ') e1) (cwV 1 C0.2.2.2.1 gL_law_X8_bestRow rfl rfl rfl hdvX8_bestRow ⟨(Nat.le_of_ble_eq_true rfl), (Nat.le_of_ble_eq_true rfl)⟩) rfl rfl hl (Nat.le_of_ble_eq_true rfl) dL_law_509 hR (fun H locs hW => ?_)
  refine lv_aload_n C0.1 C0.2.1 dL_law_512 rfl (lv_at hl 2 rfl) ?_
  refine lw_ld (k := 1) (i := i) C0 hX hbl hW.2.2 hl rfl rfl hL (by decide) (by omega) dL_law_513 dL_law_514 dL_law_515 dL_law_516 dL_law_517 ?_
  refine lw_mi (As := [.int (xs (i + 1))]) (rest := [.int r]) (r := r) (μ' := μ') C0 S0 hW (cX9_bestRow_met l S0.2.2.2.1 30000 μ (xs (i + 1)) (r, μ') e2) (cwV 1 C0.2.2.2.1 gL_law_X9_bestRow rfl rfl rfl hdvX9_bestRow ⟨(Nat.le_of_ble_eq_true rfl), (Nat.le_of_ble_eq_true rfl)⟩) rfl rfl hl (Nat.le_of_ble_eq_true rfl) dL_law_518 hR (fun H locs hW => ?_)
  refine lv_icmp_eq (tgt := 954) C0.1 C0.2.1 dL_law_521 (by decide) (fun _ => ?_) (fun q => absurd rfl q)
  exact kk σ' μ' _ _ hRn hW
set_option maxHeartbeats 4000000 in
set_option maxRecDepth 100000 in
theorem lk_14 (C0 : Cx p s m args meth c cL_law RL 4 ret wsL_law) (S0 : Sx Ga Gb s) (hX : va_X b L xs s s.heap) (hbl : b < s.heap.size) (hL : L ≤ 2560) (hi : i + 5 ≤ L) (hRl : Rel σ μ) (hW : Wl Ga Gb s σ μ H locs) (hl : lv_has ls 4 [(0, .ref b), (1, .ref (aD Ga 0)), (2, .ref (aD Gb 0)), (3, .int (nI i))]) (hR : cells ≤ room_1.cells ∧ slots ≤ room_1.slots) (kk : ∀ (σ' μ' : ST) (H : Heap) (locs : List Loc), Rel σ' μ' → Wl Ga Gb s σ' μ' H locs → W p l e room_1 s m args below meth c H locs cells slots Q (F0 m 954 ls [])) : W p l e room_1 s m args below meth c H locs cells slots Q (F0 m 526 ls []) := by
  obtain ⟨r, σ', μ', e1, e2, hRn⟩ := op_soon (z := 30000) (by decide) hRl (xs (i + 1))
  refine lv_aload_n C0.1 C0.2.1 dL_law_526 rfl (lv_at hl 1 rfl) ?_
  refine lw_ld (k := 1) (i := i) C0 hX hbl hW.2.2 hl rfl rfl hL (by decide) (by omega) dL_law_527 dL_law_528 dL_law_529 dL_law_530 dL_law_531 ?_
  refine lw_xi (As := [.int (xs (i + 1))]) (rest := []) (r := r) (σ' := σ') C0 S0 hW (cX8_soon_met l S0.2.2.1 30000 σ (xs (i + 1)) (r, σ') e1) (cwV 1 C0.2.2.2.1 gL_law_X8_soon rfl rfl rfl hdvX8_soon ⟨(Nat.le_of_ble_eq_true rfl), (Nat.le_of_ble_eq_true rfl)⟩) rfl rfl hl (Nat.le_of_ble_eq_true rfl) dL_law_532 hR (fun H locs hW => ?_)
  refine lv_aload_n C0.1 C0.2.1 dL_law_535 rfl (lv_at hl 2 rfl) ?_
  refine lw_ld (k := 1) (i := i) C0 hX hbl hW.2.2 hl rfl rfl hL (by decide) (by omega) dL_law_536 dL_law_537 dL_law_538 dL_law_539 dL_law_540 ?_
  refine lw_mi (As := [.int (xs (i + 1))]) (rest := [.int r]) (r := r) (μ' := μ') C0 S0 hW (cX9_soon_met l S0.2.2.2.1 30000 μ (xs (i + 1)) (r, μ') e2) (cwV 1 C0.2.2.2.1 gL_law_X9_soon rfl rfl rfl hdvX9_soon ⟨(Nat.le_of_ble_eq_true rfl), (Nat.le_of_ble_eq_true rfl)⟩) rfl rfl hl (Nat.le_of_ble_eq_true rfl) dL_law_541 hR (fun H locs hW => ?_)
  refine lv_icmp_eq (tgt := 954) C0.1 C0.2.1 dL_law_544 (by decide) (fun _ => ?_) (fun q => absurd rfl q)
  exact kk σ' μ' _ _ hRn hW
set_option maxHeartbeats 4000000 in
set_option maxRecDepth 100000 in
theorem lk_15 (C0 : Cx p s m args meth c cL_law RL 4 ret wsL_law) (S0 : Sx Ga Gb s) (hX : va_X b L xs s s.heap) (hbl : b < s.heap.size) (hL : L ≤ 2560) (hi : i + 5 ≤ L) (hRl : Rel σ μ) (hW : Wl Ga Gb s σ μ H locs) (hl : lv_has ls 4 [(0, .ref b), (1, .ref (aD Ga 0)), (2, .ref (aD Gb 0)), (3, .int (nI i))]) (hR : cells ≤ room_1.cells ∧ slots ≤ room_1.slots) (kk : ∀ (σ' μ' : ST) (H : Heap) (locs : List Loc), Rel σ' μ' → Wl Ga Gb s σ' μ' H locs → W p l e room_1 s m args below meth c H locs cells slots Q (F0 m 954 ls [])) : W p l e room_1 s m args below meth c H locs cells slots Q (F0 m 549 ls []) := by
  obtain ⟨r, σ', μ', e1, e2, hRn⟩ := op_first (z := 30000) (by decide) hRl (xs (i + 1)) (if xs (i + 2) = 0 then (0 : Int32) else 1)
  refine lv_aload_n C0.1 C0.2.1 dL_law_549 rfl (lv_at hl 1 rfl) ?_
  refine lw_ld (k := 1) (i := i) C0 hX hbl hW.2.2 hl rfl rfl hL (by decide) (by omega) dL_law_550 dL_law_551 dL_law_552 dL_law_553 dL_law_554 ?_
  refine lw_ld (k := 2) (i := i) C0 hX hbl hW.2.2 hl rfl rfl hL (by decide) (by omega) dL_law_555 dL_law_556 dL_law_557 dL_law_558 dL_law_559 ?_
  refine lw_bool C0 dL_law_560 dL_law_563 dL_law_564 dL_law_567 ?_
  refine lw_xl (As := [.int (xs (i + 1)), .int (if xs (i + 2) = 0 then (0 : Int32) else 1)]) (rest := []) (r := r) (σ' := σ') C0 S0 hW (cX8_first_met l S0.2.2.1 30000 σ (xs (i + 1)) (if xs (i + 2) = 0 then (0 : Int32) else 1) (r, σ') e1) (cwV 2 C0.2.2.2.1 gL_law_X8_first rfl rfl rfl hdvX8_first ⟨(Nat.le_of_ble_eq_true rfl), (Nat.le_of_ble_eq_true rfl)⟩) rfl rfl hl (Nat.le_of_ble_eq_true rfl) dL_law_568 hR (fun H locs hW => ?_)
  refine lv_aload_n C0.1 C0.2.1 dL_law_571 rfl (lv_at hl 2 rfl) ?_
  refine lw_ld (k := 1) (i := i) C0 hX hbl hW.2.2 hl rfl rfl hL (by decide) (by omega) dL_law_572 dL_law_573 dL_law_574 dL_law_575 dL_law_576 ?_
  refine lw_ld (k := 2) (i := i) C0 hX hbl hW.2.2 hl rfl rfl hL (by decide) (by omega) dL_law_577 dL_law_578 dL_law_579 dL_law_580 dL_law_581 ?_
  refine lw_bool C0 dL_law_582 dL_law_585 dL_law_586 dL_law_589 ?_
  refine lw_ml (As := [.int (xs (i + 1)), .int (if xs (i + 2) = 0 then (0 : Int32) else 1)]) (rest := [.long r]) (r := r) (μ' := μ') C0 S0 hW (cX9_first_met l S0.2.2.2.1 30000 μ (xs (i + 1)) (if xs (i + 2) = 0 then (0 : Int32) else 1) (r, μ') e2) (cwV 2 C0.2.2.2.1 gL_law_X9_first rfl rfl rfl hdvX9_first ⟨(Nat.le_of_ble_eq_true rfl), (Nat.le_of_ble_eq_true rfl)⟩) rfl rfl hl (Nat.le_of_ble_eq_true rfl) dL_law_590 hR (fun H locs hW => ?_)
  refine x_lc_eq (tgt := 954) C0 dL_law_593 dL_law_594 (by decide) (fun _ => ?_) (fun q => absurd rfl q)
  exact kk σ' μ' _ _ hRn hW
set_option maxHeartbeats 4000000 in
set_option maxRecDepth 100000 in
theorem lk_16 (C0 : Cx p s m args meth c cL_law RL 4 ret wsL_law) (S0 : Sx Ga Gb s) (hX : va_X b L xs s s.heap) (hbl : b < s.heap.size) (hL : L ≤ 2560) (hi : i + 5 ≤ L) (hRl : Rel σ μ) (hW : Wl Ga Gb s σ μ H locs) (hl : lv_has ls 4 [(0, .ref b), (1, .ref (aD Ga 0)), (2, .ref (aD Gb 0)), (3, .int (nI i))]) (hR : cells ≤ room_1.cells ∧ slots ≤ room_1.slots) (kk : ∀ (σ' μ' : ST) (H : Heap) (locs : List Loc), Rel σ' μ' → Wl Ga Gb s σ' μ' H locs → W p l e room_1 s m args below meth c H locs cells slots Q (F0 m 954 ls [])) : W p l e room_1 s m args below meth c H locs cells slots Q (F0 m 599 ls []) := by
  obtain ⟨r, σ', μ', e1, e2, hRn⟩ := op_withSecond (z := 30000) (by decide) hRl (xs (i + 1)) (if xs (i + 2) = 0 then (0 : Int32) else 1)
  refine lv_aload_n C0.1 C0.2.1 dL_law_599 rfl (lv_at hl 1 rfl) ?_
  refine lw_ld (k := 1) (i := i) C0 hX hbl hW.2.2 hl rfl rfl hL (by decide) (by omega) dL_law_600 dL_law_601 dL_law_602 dL_law_603 dL_law_604 ?_
  refine lw_ld (k := 2) (i := i) C0 hX hbl hW.2.2 hl rfl rfl hL (by decide) (by omega) dL_law_605 dL_law_606 dL_law_607 dL_law_608 dL_law_609 ?_
  refine lw_bool C0 dL_law_610 dL_law_613 dL_law_614 dL_law_617 ?_
  refine lw_xl (As := [.int (xs (i + 1)), .int (if xs (i + 2) = 0 then (0 : Int32) else 1)]) (rest := []) (r := r) (σ' := σ') C0 S0 hW (cX8_withSecond_met l S0.2.2.1 30000 σ (xs (i + 1)) (if xs (i + 2) = 0 then (0 : Int32) else 1) (r, σ') e1) (cwV 2 C0.2.2.2.1 gL_law_X8_withSecond rfl rfl rfl hdvX8_withSecond ⟨(Nat.le_of_ble_eq_true rfl), (Nat.le_of_ble_eq_true rfl)⟩) rfl rfl hl (Nat.le_of_ble_eq_true rfl) dL_law_618 hR (fun H locs hW => ?_)
  refine lv_aload_n C0.1 C0.2.1 dL_law_621 rfl (lv_at hl 2 rfl) ?_
  refine lw_ld (k := 1) (i := i) C0 hX hbl hW.2.2 hl rfl rfl hL (by decide) (by omega) dL_law_622 dL_law_623 dL_law_624 dL_law_625 dL_law_626 ?_
  refine lw_ld (k := 2) (i := i) C0 hX hbl hW.2.2 hl rfl rfl hL (by decide) (by omega) dL_law_627 dL_law_628 dL_law_629 dL_law_630 dL_law_631 ?_
  refine lw_bool C0 dL_law_632 dL_law_635 dL_law_636 dL_law_639 ?_
  refine lw_ml (As := [.int (xs (i + 1)), .int (if xs (i + 2) = 0 then (0 : Int32) else 1)]) (rest := [.long r]) (r := r) (μ' := μ') C0 S0 hW (cX9_withSecond_met l S0.2.2.2.1 30000 μ (xs (i + 1)) (if xs (i + 2) = 0 then (0 : Int32) else 1) (r, μ') e2) (cwV 2 C0.2.2.2.1 gL_law_X9_withSecond rfl rfl rfl hdvX9_withSecond ⟨(Nat.le_of_ble_eq_true rfl), (Nat.le_of_ble_eq_true rfl)⟩) rfl rfl hl (Nat.le_of_ble_eq_true rfl) dL_law_640 hR (fun H locs hW => ?_)
  refine x_lc_eq (tgt := 954) C0 dL_law_643 dL_law_644 (by decide) (fun _ => ?_) (fun q => absurd rfl q)
  exact kk σ' μ' _ _ hRn hW
set_option maxHeartbeats 4000000 in
set_option maxRecDepth 100000 in
theorem lk_17 (C0 : Cx p s m args meth c cL_law RL 4 ret wsL_law) (S0 : Sx Ga Gb s) (hX : va_X b L xs s s.heap) (hbl : b < s.heap.size) (hL : L ≤ 2560) (hi : i + 5 ≤ L) (hRl : Rel σ μ) (hW : Wl Ga Gb s σ μ H locs) (hl : lv_has ls 4 [(0, .ref b), (1, .ref (aD Ga 0)), (2, .ref (aD Gb 0)), (3, .int (nI i))]) (hR : cells ≤ room_1.cells ∧ slots ≤ room_1.slots) (kk : ∀ (σ' μ' : ST) (H : Heap) (locs : List Loc), Rel σ' μ' → Wl Ga Gb s σ' μ' H locs → W p l e room_1 s m args below meth c H locs cells slots Q (F0 m 954 ls [])) : W p l e room_1 s m args below meth c H locs cells slots Q (F0 m 649 ls []) := by
  obtain ⟨r, e1, e2⟩ := op_lanes (z := 30000) (by decide) hRl 
  refine lv_aload_n C0.1 C0.2.1 dL_law_649 rfl (lv_at hl 1 rfl) ?_
  refine lw_xi (As := []) (rest := []) (r := r) (σ' := σ) C0 S0 hW (cX8_lanes_met l S0.2.2.1 30000 σ r e1) (cwV 0 C0.2.2.2.1 gL_law_X8_lanes rfl rfl rfl hdvX8_lanes ⟨(Nat.le_of_ble_eq_true rfl), (Nat.le_of_ble_eq_true rfl)⟩) rfl rfl hl (Nat.le_of_ble_eq_true rfl) dL_law_650 hR (fun H locs hW => ?_)
  refine lv_aload_n C0.1 C0.2.1 dL_law_653 rfl (lv_at hl 2 rfl) ?_
  refine lw_mi (As := []) (rest := [.int r]) (r := r) (μ' := μ) C0 S0 hW (cX9_lanes_met l S0.2.2.2.1 30000 μ r e2) (cwV 0 C0.2.2.2.1 gL_law_X9_lanes rfl rfl rfl hdvX9_lanes ⟨(Nat.le_of_ble_eq_true rfl), (Nat.le_of_ble_eq_true rfl)⟩) rfl rfl hl (Nat.le_of_ble_eq_true rfl) dL_law_654 hR (fun H locs hW => ?_)
  refine lv_icmp_eq (tgt := 954) C0.1 C0.2.1 dL_law_657 (by decide) (fun _ => ?_) (fun q => absurd rfl q)
  exact kk σ μ _ _ hRl hW
set_option maxHeartbeats 4000000 in
set_option maxRecDepth 100000 in
theorem lk_18 (C0 : Cx p s m args meth c cL_law RL 4 ret wsL_law) (S0 : Sx Ga Gb s) (hX : va_X b L xs s s.heap) (hbl : b < s.heap.size) (hL : L ≤ 2560) (hi : i + 5 ≤ L) (hRl : Rel σ μ) (hW : Wl Ga Gb s σ μ H locs) (hl : lv_has ls 4 [(0, .ref b), (1, .ref (aD Ga 0)), (2, .ref (aD Gb 0)), (3, .int (nI i))]) (hR : cells ≤ room_1.cells ∧ slots ≤ room_1.slots) (kk : ∀ (σ' μ' : ST) (H : Heap) (locs : List Loc), Rel σ' μ' → Wl Ga Gb s σ' μ' H locs → W p l e room_1 s m args below meth c H locs cells slots Q (F0 m 954 ls [])) : W p l e room_1 s m args below meth c H locs cells slots Q (F0 m 662 ls []) := by
  obtain ⟨r, σ', μ', e1, e2, hRn⟩ := op_judge (z := 30000) (by decide) hRl (xs (i + 1)) (xs (i + 2))
  refine lv_aload_n C0.1 C0.2.1 dL_law_662 rfl (lv_at hl 1 rfl) ?_
  refine lw_ld (k := 1) (i := i) C0 hX hbl hW.2.2 hl rfl rfl hL (by decide) (by omega) dL_law_663 dL_law_664 dL_law_665 dL_law_666 dL_law_667 ?_
  refine lw_ld (k := 2) (i := i) C0 hX hbl hW.2.2 hl rfl rfl hL (by decide) (by omega) dL_law_668 dL_law_669 dL_law_670 dL_law_671 dL_law_672 ?_
  refine lw_xi (As := [.int (xs (i + 1)), .int (xs (i + 2))]) (rest := []) (r := r) (σ' := σ') C0 S0 hW (cX8_judge_met l S0.2.2.1 30000 σ (xs (i + 1)) (xs (i + 2)) (r, σ') e1) (cwV 2 C0.2.2.2.1 gL_law_X8_judge rfl rfl rfl hdvX8_judge ⟨(Nat.le_of_ble_eq_true rfl), (Nat.le_of_ble_eq_true rfl)⟩) rfl rfl hl (Nat.le_of_ble_eq_true rfl) dL_law_673 hR (fun H locs hW => ?_)
  refine lv_aload_n C0.1 C0.2.1 dL_law_676 rfl (lv_at hl 2 rfl) ?_
  refine lw_ld (k := 1) (i := i) C0 hX hbl hW.2.2 hl rfl rfl hL (by decide) (by omega) dL_law_677 dL_law_678 dL_law_679 dL_law_680 dL_law_681 ?_
  refine lw_ld (k := 2) (i := i) C0 hX hbl hW.2.2 hl rfl rfl hL (by decide) (by omega) dL_law_682 dL_law_683 dL_law_684 dL_law_685 dL_law_686 ?_
  refine lw_mi (As := [.int (xs (i + 1)), .int (xs (i + 2))]) (rest := [.int r]) (r := r) (μ' := μ') C0 S0 hW (cX9_judge_met l S0.2.2.2.1 30000 μ (xs (i + 1)) (xs (i + 2)) (r, μ') e2) (cwV 2 C0.2.2.2.1 gL_law_X9_judge rfl rfl rfl hdvX9_judge ⟨(Nat.le_of_ble_eq_true rfl), (Nat.le_of_ble_eq_true rfl)⟩) rfl rfl hl (Nat.le_of_ble_eq_true rfl) dL_law_687 hR (fun H locs hW => ?_)
  refine lv_icmp_eq (tgt := 954) C0.1 C0.2.1 dL_law_690 (by decide) (fun _ => ?_) (fun q => absurd rfl q)
  exact kk σ' μ' _ _ hRn hW
set_option maxHeartbeats 4000000 in
set_option maxRecDepth 100000 in
theorem lk_19 (C0 : Cx p s m args meth c cL_law RL 4 ret wsL_law) (S0 : Sx Ga Gb s) (hX : va_X b L xs s s.heap) (hbl : b < s.heap.size) (hL : L ≤ 2560) (hi : i + 5 ≤ L) (hRl : Rel σ μ) (hW : Wl Ga Gb s σ μ H locs) (hl : lv_has ls 4 [(0, .ref b), (1, .ref (aD Ga 0)), (2, .ref (aD Gb 0)), (3, .int (nI i))]) (hR : cells ≤ room_1.cells ∧ slots ≤ room_1.slots) (kk : ∀ (σ' μ' : ST) (H : Heap) (locs : List Loc), Rel σ' μ' → Wl Ga Gb s σ' μ' H locs → W p l e room_1 s m args below meth c H locs cells slots Q (F0 m 954 ls [])) : W p l e room_1 s m args below meth c H locs cells slots Q (F0 m 695 ls []) := by
  obtain ⟨r, e1, e2⟩ := op_said (z := 30000) (by decide) hRl (xs (i + 1))
  refine lv_aload_n C0.1 C0.2.1 dL_law_695 rfl (lv_at hl 1 rfl) ?_
  refine lw_ld (k := 1) (i := i) C0 hX hbl hW.2.2 hl rfl rfl hL (by decide) (by omega) dL_law_696 dL_law_697 dL_law_698 dL_law_699 dL_law_700 ?_
  refine lw_xi (As := [.int (xs (i + 1))]) (rest := []) (r := r) (σ' := σ) C0 S0 hW (cX8_said_met l S0.2.2.1 30000 σ (xs (i + 1)) r e1) (cwV 1 C0.2.2.2.1 gL_law_X8_said rfl rfl rfl hdvX8_said ⟨(Nat.le_of_ble_eq_true rfl), (Nat.le_of_ble_eq_true rfl)⟩) rfl rfl hl (Nat.le_of_ble_eq_true rfl) dL_law_701 hR (fun H locs hW => ?_)
  refine lv_aload_n C0.1 C0.2.1 dL_law_704 rfl (lv_at hl 2 rfl) ?_
  refine lw_ld (k := 1) (i := i) C0 hX hbl hW.2.2 hl rfl rfl hL (by decide) (by omega) dL_law_705 dL_law_706 dL_law_707 dL_law_708 dL_law_709 ?_
  refine lw_mi (As := [.int (xs (i + 1))]) (rest := [.int r]) (r := r) (μ' := μ) C0 S0 hW (cX9_said_met l S0.2.2.2.1 30000 μ (xs (i + 1)) r e2) (cwV 1 C0.2.2.2.1 gL_law_X9_said rfl rfl rfl hdvX9_said ⟨(Nat.le_of_ble_eq_true rfl), (Nat.le_of_ble_eq_true rfl)⟩) rfl rfl hl (Nat.le_of_ble_eq_true rfl) dL_law_710 hR (fun H locs hW => ?_)
  refine lv_icmp_eq (tgt := 954) C0.1 C0.2.1 dL_law_713 (by decide) (fun _ => ?_) (fun q => absurd rfl q)
  exact kk σ μ _ _ hRl hW
set_option maxHeartbeats 4000000 in
set_option maxRecDepth 100000 in
theorem lk_20 (C0 : Cx p s m args meth c cL_law RL 4 ret wsL_law) (S0 : Sx Ga Gb s) (hX : va_X b L xs s s.heap) (hbl : b < s.heap.size) (hL : L ≤ 2560) (hi : i + 5 ≤ L) (hRl : Rel σ μ) (hW : Wl Ga Gb s σ μ H locs) (hl : lv_has ls 4 [(0, .ref b), (1, .ref (aD Ga 0)), (2, .ref (aD Gb 0)), (3, .int (nI i))]) (hR : cells ≤ room_1.cells ∧ slots ≤ room_1.slots) (kk : ∀ (σ' μ' : ST) (H : Heap) (locs : List Loc), Rel σ' μ' → Wl Ga Gb s σ' μ' H locs → W p l e room_1 s m args below meth c H locs cells slots Q (F0 m 954 ls [])) : W p l e room_1 s m args below meth c H locs cells slots Q (F0 m 718 ls []) := by
  obtain ⟨r, σ', e1, e2, hRn⟩ := op_trust (z := 30000) (by decide) hRl (xs (i + 1)) (xs (i + 2)) (xs (i + 3)) (if xs (i + 4) = 0 then (0 : Int32) else 1)
  refine lv_aload_n C0.1 C0.2.1 dL_law_718 rfl (lv_at hl 1 rfl) ?_
  refine lw_ld (k := 1) (i := i) C0 hX hbl hW.2.2 hl rfl rfl hL (by decide) (by omega) dL_law_719 dL_law_720 dL_law_721 dL_law_722 dL_law_723 ?_
  refine lw_ld (k := 2) (i := i) C0 hX hbl hW.2.2 hl rfl rfl hL (by decide) (by omega) dL_law_724 dL_law_725 dL_law_726 dL_law_727 dL_law_728 ?_
  refine lw_ld (k := 3) (i := i) C0 hX hbl hW.2.2 hl rfl rfl hL (by decide) (by omega) dL_law_729 dL_law_730 dL_law_731 dL_law_732 dL_law_733 ?_
  refine lw_ld (k := 4) (i := i) C0 hX hbl hW.2.2 hl rfl rfl hL (by decide) (by omega) dL_law_734 dL_law_735 dL_law_736 dL_law_737 dL_law_738 ?_
  refine lw_bool C0 dL_law_739 dL_law_742 dL_law_743 dL_law_746 ?_
  refine lw_xl (As := [.int (xs (i + 1)), .int (xs (i + 2)), .int (xs (i + 3)), .int (if xs (i + 4) = 0 then (0 : Int32) else 1)]) (rest := []) (r := r) (σ' := σ') C0 S0 hW (cX8_trust_met l S0.2.2.1 30000 σ (xs (i + 1)) (xs (i + 2)) (xs (i + 3)) (if xs (i + 4) = 0 then (0 : Int32) else 1) (r, σ') e1) (cwV 4 C0.2.2.2.1 gL_law_X8_trust rfl rfl rfl hdvX8_trust ⟨(Nat.le_of_ble_eq_true rfl), (Nat.le_of_ble_eq_true rfl)⟩) rfl rfl hl (Nat.le_of_ble_eq_true rfl) dL_law_747 hR (fun H locs hW => ?_)
  refine lv_aload_n C0.1 C0.2.1 dL_law_750 rfl (lv_at hl 2 rfl) ?_
  refine lw_ld (k := 1) (i := i) C0 hX hbl hW.2.2 hl rfl rfl hL (by decide) (by omega) dL_law_751 dL_law_752 dL_law_753 dL_law_754 dL_law_755 ?_
  refine lw_ld (k := 2) (i := i) C0 hX hbl hW.2.2 hl rfl rfl hL (by decide) (by omega) dL_law_756 dL_law_757 dL_law_758 dL_law_759 dL_law_760 ?_
  refine lw_ld (k := 3) (i := i) C0 hX hbl hW.2.2 hl rfl rfl hL (by decide) (by omega) dL_law_761 dL_law_762 dL_law_763 dL_law_764 dL_law_765 ?_
  refine lw_ld (k := 4) (i := i) C0 hX hbl hW.2.2 hl rfl rfl hL (by decide) (by omega) dL_law_766 dL_law_767 dL_law_768 dL_law_769 dL_law_770 ?_
  refine lw_bool C0 dL_law_771 dL_law_774 dL_law_775 dL_law_778 ?_
  refine lw_ml (As := [.int (xs (i + 1)), .int (xs (i + 2)), .int (xs (i + 3)), .int (if xs (i + 4) = 0 then (0 : Int32) else 1)]) (rest := [.long r]) (r := r) (μ' := μ) C0 S0 hW (cX9_trust_met l S0.2.2.2.1 30000 μ (xs (i + 1)) (xs (i + 2)) (xs (i + 3)) (if xs (i + 4) = 0 then (0 : Int32) else 1) r e2) (cwV 4 C0.2.2.2.1 gL_law_X9_trust rfl rfl rfl hdvX9_trust ⟨(Nat.le_of_ble_eq_true rfl), (Nat.le_of_ble_eq_true rfl)⟩) rfl rfl hl (Nat.le_of_ble_eq_true rfl) dL_law_779 hR (fun H locs hW => ?_)
  refine x_lc_eq (tgt := 954) C0 dL_law_782 dL_law_783 (by decide) (fun _ => ?_) (fun q => absurd rfl q)
  exact kk σ' μ _ _ hRn hW
set_option maxHeartbeats 4000000 in
set_option maxRecDepth 100000 in
theorem lk_21 (C0 : Cx p s m args meth c cL_law RL 4 ret wsL_law) (S0 : Sx Ga Gb s) (hX : va_X b L xs s s.heap) (hbl : b < s.heap.size) (hL : L ≤ 2560) (hi : i + 5 ≤ L) (hRl : Rel σ μ) (hW : Wl Ga Gb s σ μ H locs) (hl : lv_has ls 4 [(0, .ref b), (1, .ref (aD Ga 0)), (2, .ref (aD Gb 0)), (3, .int (nI i))]) (hR : cells ≤ room_1.cells ∧ slots ≤ room_1.slots) (kk : ∀ (σ' μ' : ST) (H : Heap) (locs : List Loc), Rel σ' μ' → Wl Ga Gb s σ' μ' H locs → W p l e room_1 s m args below meth c H locs cells slots Q (F0 m 954 ls [])) : W p l e room_1 s m args below meth c H locs cells slots Q (F0 m 788 ls []) := by
  refine lv_aload_n C0.1 C0.2.1 dL_law_788 rfl (lv_at hl 1 rfl) ?_
  refine lw_ld (k := 1) (i := i) C0 hX hbl hW.2.2 hl rfl rfl hL (by decide) (by omega) dL_law_789 dL_law_790 dL_law_791 dL_law_792 dL_law_793 ?_
  refine lv_i2l C0.1 C0.2.1 dL_law_794 rfl ?_
  refine lv_bipush (v := (32 : Int32)) C0.1 C0.2.1 dL_law_795 (by decide) ?_
  refine lv_lshl C0.1 C0.2.1 dL_law_797 rfl ?_
  refine lw_ld (k := 2) (i := i) C0 hX hbl hW.2.2 hl rfl rfl hL (by decide) (by omega) dL_law_798 dL_law_799 dL_law_800 dL_law_801 dL_law_802 ?_
  refine lv_i2l C0.1 C0.2.1 dL_law_803 rfl ?_
  refine lv_ldc2 C0.1 C0.2.1 C0.2.2.2.2.1 (C0.2.2.2.1 _ kcL_law_105) dL_law_804 ?_
  refine lv_land C0.1 C0.2.1 dL_law_807 ?_
  refine lv_lor C0.1 C0.2.1 dL_law_808 ?_
  refine lv_topl (fun v ev => ?_)
  obtain ⟨r, σ', μ', e1, e2, hRn⟩ := op_seed (z := 30000) hRl v
  refine lw_xl (As := [.long v]) (rest := []) (r := r) (σ' := σ') C0 S0 hW (cX8_seed_met l S0.2.2.1 30000 σ v (r, σ') e1) (cwV 1 C0.2.2.2.1 gL_law_X8_seed rfl rfl rfl hdvX8_seed ⟨(Nat.le_of_ble_eq_true rfl), (Nat.le_of_ble_eq_true rfl)⟩) rfl rfl hl (Nat.le_of_ble_eq_true rfl) dL_law_809 hR (fun H locs hW => ?_)
  refine lv_aload_n C0.1 C0.2.1 dL_law_812 rfl (lv_at hl 2 rfl) ?_
  refine lw_ld (k := 1) (i := i) C0 hX hbl hW.2.2 hl rfl rfl hL (by decide) (by omega) dL_law_813 dL_law_814 dL_law_815 dL_law_816 dL_law_817 ?_
  refine lv_i2l C0.1 C0.2.1 dL_law_818 rfl ?_
  refine lv_bipush (v := (32 : Int32)) C0.1 C0.2.1 dL_law_819 (by decide) ?_
  refine lv_lshl C0.1 C0.2.1 dL_law_821 rfl ?_
  refine lw_ld (k := 2) (i := i) C0 hX hbl hW.2.2 hl rfl rfl hL (by decide) (by omega) dL_law_822 dL_law_823 dL_law_824 dL_law_825 dL_law_826 ?_
  refine lv_i2l C0.1 C0.2.1 dL_law_827 rfl ?_
  refine lv_ldc2 C0.1 C0.2.1 C0.2.2.2.2.1 (C0.2.2.2.1 _ kcL_law_105) dL_law_828 ?_
  refine lv_land C0.1 C0.2.1 dL_law_831 ?_
  refine lv_lor C0.1 C0.2.1 dL_law_832 ?_
  refine lv_topl (fun v2 ev2 => ?_)
  have e : v2 = v := ev2.trans ev.symm
  subst e
  refine lw_ml (As := [.long v2]) (rest := [.long r]) (r := r) (μ' := μ') C0 S0 hW (cX9_seed_met l S0.2.2.2.1 30000 μ v2 (r, μ') e2) (cwV 1 C0.2.2.2.1 gL_law_X9_seed rfl rfl rfl hdvX9_seed ⟨(Nat.le_of_ble_eq_true rfl), (Nat.le_of_ble_eq_true rfl)⟩) rfl rfl hl (Nat.le_of_ble_eq_true rfl) dL_law_833 hR (fun H locs hW => ?_)
  refine x_lc_eq (tgt := 954) C0 dL_law_836 dL_law_837 (by decide) (fun _ => ?_) (fun q => absurd rfl q)
  exact kk σ' μ' _ _ hRn hW
set_option maxHeartbeats 4000000 in
set_option maxRecDepth 100000 in
theorem lk_22 (C0 : Cx p s m args meth c cL_law RL 4 ret wsL_law) (S0 : Sx Ga Gb s) (hX : va_X b L xs s s.heap) (hbl : b < s.heap.size) (hL : L ≤ 2560) (hi : i + 5 ≤ L) (hRl : Rel σ μ) (hW : Wl Ga Gb s σ μ H locs) (hl : lv_has ls 4 [(0, .ref b), (1, .ref (aD Ga 0)), (2, .ref (aD Gb 0)), (3, .int (nI i))]) (hR : cells ≤ room_1.cells ∧ slots ≤ room_1.slots) (kk : ∀ (σ' μ' : ST) (H : Heap) (locs : List Loc), Rel σ' μ' → Wl Ga Gb s σ' μ' H locs → W p l e room_1 s m args below meth c H locs cells slots Q (F0 m 954 ls [])) : W p l e room_1 s m args below meth c H locs cells slots Q (F0 m 842 ls []) := by
  obtain ⟨r, σ', μ', e1, e2, hRn⟩ := op_trials (z := 30000) (by decide) hRl (xs (i + 1)) (xs (i + 2)) (xs (i + 3))
  refine lv_aload_n C0.1 C0.2.1 dL_law_842 rfl (lv_at hl 1 rfl) ?_
  refine lw_ld (k := 1) (i := i) C0 hX hbl hW.2.2 hl rfl rfl hL (by decide) (by omega) dL_law_843 dL_law_844 dL_law_845 dL_law_846 dL_law_847 ?_
  refine lw_ld (k := 2) (i := i) C0 hX hbl hW.2.2 hl rfl rfl hL (by decide) (by omega) dL_law_848 dL_law_849 dL_law_850 dL_law_851 dL_law_852 ?_
  refine lw_ld (k := 3) (i := i) C0 hX hbl hW.2.2 hl rfl rfl hL (by decide) (by omega) dL_law_853 dL_law_854 dL_law_855 dL_law_856 dL_law_857 ?_
  refine lw_xi (As := [.int (xs (i + 1)), .int (xs (i + 2)), .int (xs (i + 3))]) (rest := []) (r := r) (σ' := σ') C0 S0 hW (cX8_trials_met l S0.2.2.1 30000 σ (xs (i + 1)) (xs (i + 2)) (xs (i + 3)) (r, σ') e1) (cwV 3 C0.2.2.2.1 gL_law_X8_trials rfl rfl rfl hdvX8_trials ⟨(Nat.le_of_ble_eq_true rfl), (Nat.le_of_ble_eq_true rfl)⟩) rfl rfl hl (Nat.le_of_ble_eq_true rfl) dL_law_858 hR (fun H locs hW => ?_)
  refine lv_aload_n C0.1 C0.2.1 dL_law_861 rfl (lv_at hl 2 rfl) ?_
  refine lw_ld (k := 1) (i := i) C0 hX hbl hW.2.2 hl rfl rfl hL (by decide) (by omega) dL_law_862 dL_law_863 dL_law_864 dL_law_865 dL_law_866 ?_
  refine lw_ld (k := 2) (i := i) C0 hX hbl hW.2.2 hl rfl rfl hL (by decide) (by omega) dL_law_867 dL_law_868 dL_law_869 dL_law_870 dL_law_871 ?_
  refine lw_ld (k := 3) (i := i) C0 hX hbl hW.2.2 hl rfl rfl hL (by decide) (by omega) dL_law_872 dL_law_873 dL_law_874 dL_law_875 dL_law_876 ?_
  refine lw_mi (As := [.int (xs (i + 1)), .int (xs (i + 2)), .int (xs (i + 3))]) (rest := [.int r]) (r := r) (μ' := μ') C0 S0 hW (cX9_trials_met l S0.2.2.2.1 30000 μ (xs (i + 1)) (xs (i + 2)) (xs (i + 3)) (r, μ') e2) (cwV 3 C0.2.2.2.1 gL_law_X9_trials rfl rfl rfl hdvX9_trials ⟨(Nat.le_of_ble_eq_true rfl), (Nat.le_of_ble_eq_true rfl)⟩) rfl rfl hl (Nat.le_of_ble_eq_true rfl) dL_law_877 hR (fun H locs hW => ?_)
  refine lv_icmp_eq (tgt := 954) C0.1 C0.2.1 dL_law_880 (by decide) (fun _ => ?_) (fun q => absurd rfl q)
  exact kk σ' μ' _ _ hRn hW
set_option maxHeartbeats 4000000 in
set_option maxRecDepth 100000 in
theorem lk_23 (C0 : Cx p s m args meth c cL_law RL 4 ret wsL_law) (S0 : Sx Ga Gb s) (hX : va_X b L xs s s.heap) (hbl : b < s.heap.size) (hL : L ≤ 2560) (hi : i + 5 ≤ L) (hRl : Rel σ μ) (hW : Wl Ga Gb s σ μ H locs) (hl : lv_has ls 4 [(0, .ref b), (1, .ref (aD Ga 0)), (2, .ref (aD Gb 0)), (3, .int (nI i))]) (hR : cells ≤ room_1.cells ∧ slots ≤ room_1.slots) (kk : ∀ (σ' μ' : ST) (H : Heap) (locs : List Loc), Rel σ' μ' → Wl Ga Gb s σ' μ' H locs → W p l e room_1 s m args below meth c H locs cells slots Q (F0 m 954 ls [])) : W p l e room_1 s m args below meth c H locs cells slots Q (F0 m 885 ls []) := by
  obtain ⟨r, σ', μ', e1, e2, hRn⟩ := op_keep (z := 30000) (by decide) hRl (xs (i + 1))
  refine lv_aload_n C0.1 C0.2.1 dL_law_885 rfl (lv_at hl 1 rfl) ?_
  refine lw_ld (k := 1) (i := i) C0 hX hbl hW.2.2 hl rfl rfl hL (by decide) (by omega) dL_law_886 dL_law_887 dL_law_888 dL_law_889 dL_law_890 ?_
  refine lw_xi (As := [.int (xs (i + 1))]) (rest := []) (r := r) (σ' := σ') C0 S0 hW (cX8_keep_met l S0.2.2.1 30000 σ (xs (i + 1)) (r, σ') e1) (cwV 1 C0.2.2.2.1 gL_law_X8_keep rfl rfl rfl hdvX8_keep ⟨(Nat.le_of_ble_eq_true rfl), (Nat.le_of_ble_eq_true rfl)⟩) rfl rfl hl (Nat.le_of_ble_eq_true rfl) dL_law_891 hR (fun H locs hW => ?_)
  refine lv_aload_n C0.1 C0.2.1 dL_law_894 rfl (lv_at hl 2 rfl) ?_
  refine lw_ld (k := 1) (i := i) C0 hX hbl hW.2.2 hl rfl rfl hL (by decide) (by omega) dL_law_895 dL_law_896 dL_law_897 dL_law_898 dL_law_899 ?_
  refine lw_mi (As := [.int (xs (i + 1))]) (rest := [.int r]) (r := r) (μ' := μ') C0 S0 hW (cX9_keep_met l S0.2.2.2.1 30000 μ (xs (i + 1)) (r, μ') e2) (cwV 1 C0.2.2.2.1 gL_law_X9_keep rfl rfl rfl hdvX9_keep ⟨(Nat.le_of_ble_eq_true rfl), (Nat.le_of_ble_eq_true rfl)⟩) rfl rfl hl (Nat.le_of_ble_eq_true rfl) dL_law_900 hR (fun H locs hW => ?_)
  refine lv_icmp_eq (tgt := 954) C0.1 C0.2.1 dL_law_903 (by decide) (fun _ => ?_) (fun q => absurd rfl q)
  exact kk σ' μ' _ _ hRn hW
set_option maxHeartbeats 4000000 in
set_option maxRecDepth 100000 in
theorem lk_24 (C0 : Cx p s m args meth c cL_law RL 4 ret wsL_law) (S0 : Sx Ga Gb s) (hX : va_X b L xs s s.heap) (hbl : b < s.heap.size) (hL : L ≤ 2560) (hi : i + 5 ≤ L) (hRl : Rel σ μ) (hW : Wl Ga Gb s σ μ H locs) (hl : lv_has ls 4 [(0, .ref b), (1, .ref (aD Ga 0)), (2, .ref (aD Gb 0)), (3, .int (nI i))]) (hR : cells ≤ room_1.cells ∧ slots ≤ room_1.slots) (kk : ∀ (σ' μ' : ST) (H : Heap) (locs : List Loc), Rel σ' μ' → Wl Ga Gb s σ' μ' H locs → W p l e room_1 s m args below meth c H locs cells slots Q (F0 m 954 ls [])) : W p l e room_1 s m args below meth c H locs cells slots Q (F0 m 908 ls []) := by
  obtain ⟨r, σ', μ', e1, e2, hRn⟩ := op_again (z := 30000) (by decide) hRl (xs (i + 1))
  refine lv_aload_n C0.1 C0.2.1 dL_law_908 rfl (lv_at hl 1 rfl) ?_
  refine lw_ld (k := 1) (i := i) C0 hX hbl hW.2.2 hl rfl rfl hL (by decide) (by omega) dL_law_909 dL_law_910 dL_law_911 dL_law_912 dL_law_913 ?_
  refine lw_xi (As := [.int (xs (i + 1))]) (rest := []) (r := r) (σ' := σ') C0 S0 hW (cX8_again_met l S0.2.2.1 30000 σ (xs (i + 1)) (r, σ') e1) (cwV 1 C0.2.2.2.1 gL_law_X8_again rfl rfl rfl hdvX8_again ⟨(Nat.le_of_ble_eq_true rfl), (Nat.le_of_ble_eq_true rfl)⟩) rfl rfl hl (Nat.le_of_ble_eq_true rfl) dL_law_914 hR (fun H locs hW => ?_)
  refine lv_aload_n C0.1 C0.2.1 dL_law_917 rfl (lv_at hl 2 rfl) ?_
  refine lw_ld (k := 1) (i := i) C0 hX hbl hW.2.2 hl rfl rfl hL (by decide) (by omega) dL_law_918 dL_law_919 dL_law_920 dL_law_921 dL_law_922 ?_
  refine lw_mi (As := [.int (xs (i + 1))]) (rest := [.int r]) (r := r) (μ' := μ') C0 S0 hW (cX9_again_met l S0.2.2.2.1 30000 μ (xs (i + 1)) (r, μ') e2) (cwV 1 C0.2.2.2.1 gL_law_X9_again rfl rfl rfl hdvX9_again ⟨(Nat.le_of_ble_eq_true rfl), (Nat.le_of_ble_eq_true rfl)⟩) rfl rfl hl (Nat.le_of_ble_eq_true rfl) dL_law_923 hR (fun H locs hW => ?_)
  refine lv_icmp_eq (tgt := 954) C0.1 C0.2.1 dL_law_926 (by decide) (fun _ => ?_) (fun q => absurd rfl q)
  exact kk σ' μ' _ _ hRn hW
set_option maxHeartbeats 4000000 in
set_option maxRecDepth 100000 in
theorem lk_25 (C0 : Cx p s m args meth c cL_law RL 4 ret wsL_law) (S0 : Sx Ga Gb s) (hX : va_X b L xs s s.heap) (hbl : b < s.heap.size) (hL : L ≤ 2560) (hi : i + 5 ≤ L) (hRl : Rel σ μ) (hW : Wl Ga Gb s σ μ H locs) (hl : lv_has ls 4 [(0, .ref b), (1, .ref (aD Ga 0)), (2, .ref (aD Gb 0)), (3, .int (nI i))]) (hR : cells ≤ room_1.cells ∧ slots ≤ room_1.slots) (kk : ∀ (σ' μ' : ST) (H : Heap) (locs : List Loc), Rel σ' μ' → Wl Ga Gb s σ' μ' H locs → W p l e room_1 s m args below meth c H locs cells slots Q (F0 m 954 ls [])) : W p l e room_1 s m args below meth c H locs cells slots Q (F0 m 931 ls []) := by
  obtain ⟨r, e1, e2⟩ := op_count (z := 30000) (by decide) hRl (xs (i + 1))
  refine lv_aload_n C0.1 C0.2.1 dL_law_931 rfl (lv_at hl 1 rfl) ?_
  refine lw_ld (k := 1) (i := i) C0 hX hbl hW.2.2 hl rfl rfl hL (by decide) (by omega) dL_law_932 dL_law_933 dL_law_934 dL_law_935 dL_law_936 ?_
  refine lw_xi (As := [.int (xs (i + 1))]) (rest := []) (r := r) (σ' := σ) C0 S0 hW (cX8_count_met l S0.2.2.1 30000 σ (xs (i + 1)) r e1) (cwV 1 C0.2.2.2.1 gL_law_X8_count rfl rfl rfl hdvX8_count ⟨(Nat.le_of_ble_eq_true rfl), (Nat.le_of_ble_eq_true rfl)⟩) rfl rfl hl (Nat.le_of_ble_eq_true rfl) dL_law_937 hR (fun H locs hW => ?_)
  refine lv_aload_n C0.1 C0.2.1 dL_law_940 rfl (lv_at hl 2 rfl) ?_
  refine lw_ld (k := 1) (i := i) C0 hX hbl hW.2.2 hl rfl rfl hL (by decide) (by omega) dL_law_941 dL_law_942 dL_law_943 dL_law_944 dL_law_945 ?_
  refine lw_mi (As := [.int (xs (i + 1))]) (rest := [.int r]) (r := r) (μ' := μ) C0 S0 hW (cX9_count_met l S0.2.2.2.1 30000 μ (xs (i + 1)) r e2) (cwV 1 C0.2.2.2.1 gL_law_X9_count rfl rfl rfl hdvX9_count ⟨(Nat.le_of_ble_eq_true rfl), (Nat.le_of_ble_eq_true rfl)⟩) rfl rfl hl (Nat.le_of_ble_eq_true rfl) dL_law_946 hR (fun H locs hW => ?_)
  refine lv_icmp_eq (tgt := 954) C0.1 C0.2.1 dL_law_949 (by decide) (fun _ => ?_) (fun q => absurd rfl q)
  exact kk σ μ _ _ hRl hW
end

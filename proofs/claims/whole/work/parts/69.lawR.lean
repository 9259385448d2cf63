/-! ===== the law's rows: both worlds side by side ===== -/
def Sx (Ga Gb : GT) (s : State) : Prop := Gx Ga s ∧ Gx Gb s ∧ gJ 80 Ga ∧ gJ 13 Gb ∧ (∀ i j, i < 80 → j < 13 → aD Ga i ≠ aD Gb j) ∧ (∀ i, i < 80 → s.heap.size ≤ aD Ga i) ∧ ∀ j, j < 13 → s.heap.size ≤ aD Gb j
def Wl (Ga Gb : GT) (s : State) (σ μ : ST) (H : Heap) (locs : List Loc) : Prop := va_P (gD Ga) vwCl (wsG cellX 80 Ga σ) H ∧ va_P (gD Gb) vwCl (wsG cellM 13 Gb μ) H ∧ va_S (fun q => s.heap.size ≤ q) s.heap H locs
theorem wsG_kept {cell : CT} {K : Nat} {G : GT} {σ : ST} {H H1 : Heap} {B : Nat → Prop} (hP : va_P (gD G) vwCl (wsG cell K G σ) H) (hk : ∀ q : Nat, q < H.size → ¬ B q → H1[q]? = H[q]?) (hB : ∀ k, k < K → ¬ B (aD G k)) : va_P (gD G) vwCl (wsG cell K G σ) H1 := hP.kept (fun k q hq => by
  obtain ⟨h1, rfl⟩ := wsG_in hq
  exact hk _ ((hP k _ hq).lt) (hB k h1))
section LRows
variable {p : Program} {l : Launch} {e : Env} {s : State} {m : MethodId} {args : Array Value} {below : List Frame} {meth : Method} {c : Code} {H : Heap} {locs : List Loc} {cells slots : Nat} {Q : State → Prop}
variable {Ga Gb : GT} {σ μ σ' μ' : ST} {pc : Nat} {ls : Array Slot} {rest : List Value}
theorem lw_xi (C0 : Cx p s m args meth c cL_law RL 4 ret wsL_law) (S0 : Sx Ga Gb s) (hW : Wl Ga Gb s σ μ H locs) {y : MethodName} {ws : List Cond} {rm : Room} {r : Int32} {As st0 : List Value} {index maxL n : Nat} {bytes : ByteArray} {ret2 : Option FieldType} {lv : List (Nat × Value)} (hM : Met l y ws rm (XPc cellX 80 Ga σ (.ref (aD Ga 0) :: As)) (XQi cellX 80 Ga r σ') 0 0 (gA 80 Ga)) (cw : CallW room_1 s args RL RX8 index y bytes maxL ret2 ws rm 0 0 n) (hn : As.length = n) (hst : st0 = As.reverse ++ .ref (aD Ga 0) :: rest) (hl : lv_has ls 4 lv) (hroom : (rest.map fun v => v.category).sum ≤ 8) (hd : decode cL_law pc = .ok (.invokevirtual index, 3)) (hR : cells ≤ room_1.cells ∧ slots ≤ room_1.slots) (kk : ∀ (H : Heap) (locs : List Loc), Wl Ga Gb s σ' μ H locs → W p l e room_1 s m args below meth c H locs cells slots Q (F0 m (pc + 3) ls (.int r :: rest))) : W p l e room_1 s m args below meth c H locs cells slots Q (F0 m pc ls st0) := by
  obtain ⟨hx, hb, hr, hts, hown, hml, hlk⟩ := C0
  obtain ⟨GX, GM, JX, JM, hap, gx, gm⟩ := S0
  obtain ⟨hP1, hP2, hS⟩ := hW
  refine va_calli (va_runV (g := F0 m pc ls st0) (nL := 4) (cc := cL_law) ⟨hx, hb, hml, hown, hts⟩ hM cw ⟨XPc.blind, va_recv (ci := 7) (q0 := 0) GX.1 hP1 rfl (by rw [wsG_at (by decide), cX_X8 rfl]), fun U hU hw => ⟨rfl, by rw [hU]; exact hP1, GX.warm hw⟩⟩ rfl hn hl.1 hst (lv_room (m := m) (pc := pc) (ls := ls) (rest := st0) hroom) hd hR) hS (fun q _ h => ?_) (fun q h => ?_) (fun r' _ t H1 locs1 ht _ hp hB _ hk hS => ?_)
  · obtain ⟨k, h1, rfl⟩ := h
    exact gx k h1
  · obtain ⟨k, h1, rfl⟩ := h
    exact gx k h1
  · subst hp; subst ht
    exact kk _ _ ⟨hB, wsG_kept hP2 hk (fun j hj h => by
      obtain ⟨i, h1, h2⟩ := h
      exact hap i j h1 hj h2.symm), hS⟩
theorem lw_xl (C0 : Cx p s m args meth c cL_law RL 4 ret wsL_law) (S0 : Sx Ga Gb s) (hW : Wl Ga Gb s σ μ H locs) {y : MethodName} {ws : List Cond} {rm : Room} {r : Int64} {As st0 : List Value} {index maxL n : Nat} {bytes : ByteArray} {ret2 : Option FieldType} {lv : List (Nat × Value)} (hM : Met l y ws rm (XPc cellX 80 Ga σ (.ref (aD Ga 0) :: As)) (XQl cellX 80 Ga r σ') 0 0 (gA 80 Ga)) (cw : CallW room_1 s args RL RX8 index y bytes maxL ret2 ws rm 0 0 n) (hn : As.length = n) (hst : st0 = As.reverse ++ .ref (aD Ga 0) :: rest) (hl : lv_has ls 4 lv) (hroom : (rest.map fun v => v.category).sum ≤ 8) (hd : decode cL_law pc = .ok (.invokevirtual index, 3)) (hR : cells ≤ room_1.cells ∧ slots ≤ room_1.slots) (kk : ∀ (H : Heap) (locs : List Loc), Wl Ga Gb s σ' μ H locs → W p l e room_1 s m args below meth c H locs cells slots Q (F0 m (pc + 3) ls (.long r :: rest))) : W p l e room_1 s m args below meth c H locs cells slots Q (F0 m pc ls st0) := by
  obtain ⟨hx, hb, hr, hts, hown, hml, hlk⟩ := C0
  obtain ⟨GX, GM, JX, JM, hap, gx, gm⟩ := S0
  obtain ⟨hP1, hP2, hS⟩ := hW
  refine va_calll (va_runV (g := F0 m pc ls st0) (nL := 4) (cc := cL_law) ⟨hx, hb, hml, hown, hts⟩ hM cw ⟨XPc.blind, va_recv (ci := 7) (q0 := 0) GX.1 hP1 rfl (by rw [wsG_at (by decide), cX_X8 rfl]), fun U hU hw => ⟨rfl, by rw [hU]; exact hP1, GX.warm hw⟩⟩ rfl hn hl.1 hst (lv_room (m := m) (pc := pc) (ls := ls) (rest := st0) hroom) hd hR) hS (fun q _ h => ?_) (fun q h => ?_) (fun r' _ t H1 locs1 ht _ hp hB _ hk hS => ?_)
  · obtain ⟨k, h1, rfl⟩ := h
    exact gx k h1
  · obtain ⟨k, h1, rfl⟩ := h
    exact gx k h1
  · subst hp; subst ht
    exact kk _ _ ⟨hB, wsG_kept hP2 hk (fun j hj h => by
      obtain ⟨i, h1, h2⟩ := h
      exact hap i j h1 hj h2.symm), hS⟩
theorem lw_mi (C0 : Cx p s m args meth c cL_law RL 4 ret wsL_law) (S0 : Sx Ga Gb s) (hW : Wl Ga Gb s σ μ H locs) {y : MethodName} {ws : List Cond} {rm : Room} {r : Int32} {As st0 : List Value} {index maxL n : Nat} {bytes : ByteArray} {ret2 : Option FieldType} {lv : List (Nat × Value)} (hM : Met l y ws rm (XPc cellM 13 Gb μ (.ref (aD Gb 0) :: As)) (XQi cellM 13 Gb r μ') 0 0 (gA 13 Gb)) (cw : CallW room_1 s args RL RX9 index y bytes maxL ret2 ws rm 0 0 n) (hn : As.length = n) (hst : st0 = As.reverse ++ .ref (aD Gb 0) :: rest) (hl : lv_has ls 4 lv) (hroom : (rest.map fun v => v.category).sum ≤ 8) (hd : decode cL_law pc = .ok (.invokevirtual index, 3)) (hR : cells ≤ room_1.cells ∧ slots ≤ room_1.slots) (kk : ∀ (H : Heap) (locs : List Loc), Wl Ga Gb s σ μ' H locs → W p l e room_1 s m args below meth c H locs cells slots Q (F0 m (pc + 3) ls (.int r :: rest))) : W p l e room_1 s m args below meth c H locs cells slots Q (F0 m pc ls st0) := by
  obtain ⟨hx, hb, hr, hts, hown, hml, hlk⟩ := C0
  obtain ⟨GX, GM, JX, JM, hap, gx, gm⟩ := S0
  obtain ⟨hP1, hP2, hS⟩ := hW
  refine va_calli (va_runV (g := F0 m pc ls st0) (nL := 4) (cc := cL_law) ⟨hx, hb, hml, hown, hts⟩ hM cw ⟨XPc.blind, va_recv (ci := 8) (q0 := 0) GM.1 hP2 rfl (by rw [wsG_at (by decide), cM_0]), fun U hU hw => ⟨rfl, by rw [hU]; exact hP2, GM.warm hw⟩⟩ rfl hn hl.1 hst (lv_room (m := m) (pc := pc) (ls := ls) (rest := st0) hroom) hd hR) hS (fun q _ h => ?_) (fun q h => ?_) (fun r' _ t H1 locs1 ht _ hp hB _ hk hS => ?_)
  · obtain ⟨k, h1, rfl⟩ := h
    exact gm k h1
  · obtain ⟨k, h1, rfl⟩ := h
    exact gm k h1
  · subst hp; subst ht
    exact kk _ _ ⟨wsG_kept hP1 hk (fun i hi h => by
      obtain ⟨j, h1, h2⟩ := h
      exact hap i j hi h1 h2), hB, hS⟩
theorem lw_ml (C0 : Cx p s m args meth c cL_law RL 4 ret wsL_law) (S0 : Sx Ga Gb s) (hW : Wl Ga Gb s σ μ H locs) {y : MethodName} {ws : List Cond} {rm : Room} {r : Int64} {As st0 : List Value} {index maxL n : Nat} {bytes : ByteArray} {ret2 : Option FieldType} {lv : List (Nat × Value)} (hM : Met l y ws rm (XPc cellM 13 Gb μ (.ref (aD Gb 0) :: As)) (XQl cellM 13 Gb r μ') 0 0 (gA 13 Gb)) (cw : CallW room_1 s args RL RX9 index y bytes maxL ret2 ws rm 0 0 n) (hn : As.length = n) (hst : st0 = As.reverse ++ .ref (aD Gb 0) :: rest) (hl : lv_has ls 4 lv) (hroom : (rest.map fun v => v.category).sum ≤ 8) (hd : decode cL_law pc = .ok (.invokevirtual index, 3)) (hR : cells ≤ room_1.cells ∧ slots ≤ room_1.slots) (kk : ∀ (H : Heap) (locs : List Loc), Wl Ga Gb s σ μ' H locs → W p l e room_1 s m args below meth c H locs cells slots Q (F0 m (pc + 3) ls (.long r :: rest))) : W p l e room_1 s m args below meth c H locs cells slots Q (F0 m pc ls st0) := by
  obtain ⟨hx, hb, hr, hts, hown, hml, hlk⟩ := C0
  obtain ⟨GX, GM, JX, JM, hap, gx, gm⟩ := S0
  obtain ⟨hP1, hP2, hS⟩ := hW
  refine va_calll (va_runV (g := F0 m pc ls st0) (nL := 4) (cc := cL_law) ⟨hx, hb, hml, hown, hts⟩ hM cw ⟨XPc.blind, va_recv (ci := 8) (q0 := 0) GM.1 hP2 rfl (by rw [wsG_at (by decide), cM_0]), fun U hU hw => ⟨rfl, by rw [hU]; exact hP2, GM.warm hw⟩⟩ rfl hn hl.1 hst (lv_room (m := m) (pc := pc) (ls := ls) (rest := st0) hroom) hd hR) hS (fun q _ h => ?_) (fun q h => ?_) (fun r' _ t H1 locs1 ht _ hp hB _ hk hS => ?_)
  · obtain ⟨k, h1, rfl⟩ := h
    exact gm k h1
  · obtain ⟨k, h1, rfl⟩ := h
    exact gm k h1
  · subst hp; subst ht
    exact kk _ _ ⟨wsG_kept hP1 hk (fun i hi h => by
      obtain ⟨j, h1, h2⟩ := h
      exact hap i j hi h1 h2), hB, hS⟩
theorem lw_ld (C0 : Cx p s m args meth c cL_law RL 4 ret wsL_law) {b L i : Nat} {xs : Nat → Int32} {lv : List (Nat × Value)} (hX : va_X b L xs s s.heap) (hbl : b < s.heap.size) (hS : va_S (fun q => s.heap.size ≤ q) s.heap H locs) (hl : lv_has ls 4 lv) (h0 : lv[0]? = some (0, .ref b)) (h3 : lv[3]? = some (3, .int (nI i))) (hL : L ≤ 2560) {k : Nat} {kI : Int} (hk : Int32.ofInt kI = nI k) (hik : i + k < L) (d0 : decode cL_law pc = .ok (.aload_n 0, 1)) (d1 : decode cL_law (pc + 1) = .ok (.iload_n 3, 1)) (d2 : decode cL_law (pc + 2) = .ok (.iconst kI, 1)) (d3 : decode cL_law (pc + 3) = .ok (.iadd, 1)) (d4 : decode cL_law (pc + 4) = .ok (.iaload, 1)) (kk : W p l e room_1 s m args below meth c H locs cells slots Q (F0 m (pc + 5) ls (.int (xs (i + k)) :: rest))) : W p l e room_1 s m args below meth c H locs cells slots Q (F0 m pc ls rest) := by
  refine lv_aload_n C0.1 C0.2.1 d0 rfl (lv_at hl 0 h0) ?_
  refine lv_iload_n C0.1 C0.2.1 d1 rfl (lv_at hl 3 h3) ?_
  refine lv_iconst (v := nI k) C0.1 C0.2.1 d2 hk ?_
  refine lv_iadd C0.1 C0.2.1 d3 ?_
  rw [nI_add]
  refine va_sld C0.1 C0.2.1 hX hbl (Nat.not_le.mpr hbl) hS (vp_in_nI hik (by omega)) d4 ?_
  rw [nI_clamp (by omega)]
  exact kk
theorem lw_bool (C0 : Cx p s m args meth c cL_law RL 4 ret wsL_law) {v : Int32} (d0 : decode cL_law pc = .ok (.ifCond .eq 7, 3)) (d1 : decode cL_law (pc + 3) = .ok (.iconst 1, 1)) (d2 : decode cL_law (pc + 4) = .ok (.goto 4, 3)) (d3 : decode cL_law (pc + 7) = .ok (.iconst 0, 1)) (kk : W p l e room_1 s m args below meth c H locs cells slots Q (F0 m (pc + 8) ls (.int (if v = 0 then 0 else 1) :: rest))) : W p l e room_1 s m args below meth c H locs cells slots Q (F0 m pc ls (.int v :: rest)) := by
  refine lv_if_eq (tgt := pc + 7) C0.1 C0.2.1 d0 (by omega) (fun q => ?_) (fun q => ?_)
  · rw [if_pos q] at kk
    exact lv_iconst (v := 0) C0.1 C0.2.1 d3 (by decide) kk
  · rw [if_neg q] at kk
    refine lv_iconst (v := 1) C0.1 C0.2.1 d1 (by decide) ?_
    exact lv_goto (tgt := pc + 8) C0.1 C0.2.1 d2 (by omega) kk
theorem lw_and (x : Int32) : ∃ k, k ≤ 31 ∧ x &&& 31 = nI k := by
  refine ⟨(x &&& 31).toBitVec.toNat, ?_, ?_⟩
  · rw [Int32.toBitVec_and, BitVec.toNat_and]
    exact Nat.and_le_right
  · apply Int32.toBitVec_inj.mp
    show (x &&& 31).toBitVec = BitVec.ofNat 32 (x &&& 31).toBitVec.toNat
    rw [BitVec.ofNat_toNat, BitVec.setWidth_eq]
theorem lw_five {L : Nat} (hL : L ≤ 2560) : (nI L - 5).toInt = (L : Int) - 5 := by
  by_cases h : 5 ≤ L
  · rw [show (5 : Int32) = nI 5 from rfl, pk_sub h, nI_toInt (by omega)]
    omega
  · have : L = 0 ∨ L = 1 ∨ L = 2 ∨ L = 3 ∨ L = 4 := by omega
    rcases this with e | e | e | e | e <;> subst e <;> decide
theorem lw_more {L i : Nat} (hL : L ≤ 2560) (hi : i ≤ L + 5) (h : ¬ nI L - 5 < nI i) : i + 5 ≤ L := by
  rcases Nat.lt_or_ge L (i + 5) with q | q
  · refine absurd ?_ h
    rw [Int32.lt_iff_toInt_lt, lw_five hL, nI_toInt (by omega)]
    omega
  · exact q
end LRows

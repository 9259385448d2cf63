/-! ===== the law's cases ===== -/
theorem kcL_law_105 : Cond.constantLong RL 105 (4294967295 : Int64) ∈ wsL_law := by decide +kernel
section
variable {p : Program} {l : Launch} {e : Env} {s : State} {m : MethodId} {args : Array Value} {below : List Frame} {meth : Method} {c : Code} {H : Heap} {locs : List Loc} {cells slots : Nat} {Q : State → Prop}
variable {Ga Gb : GT} {σ μ : ST} {ls : Array Slot} {b L i : Nat} {xs : Nat → Int32}
set_option maxHeartbeats 4000000 in
set_option maxRecDepth 100000 in
theorem lk_0 (C0 : Cx p s m args meth c cL_law RL 4 ret wsL_law) (S0 : Sx Ga Gb s) (hX : va_X b L xs s s.heap) (hbl : b < s.heap.size) (hL : L ≤ 2560) (hi : i + 5 ≤ L) (hRl : Rel σ μ) (hW : Wl Ga Gb s σ μ H locs) (hl : lv_has ls 4 [(0, .ref b), (1, .ref (aD Ga 0)), (2, .ref (aD Gb 0)), (3, .int (nI i))]) (hR : cells ≤ room_1.cells ∧ slots ≤ room_1.slots) (kk : ∀ (σ' μ' : ST) (H : Heap) (locs : List Loc), Rel σ' μ' → Wl Ga Gb s σ' μ' H locs → W p l e room_1 s m args below meth c H locs cells slots Q (F0 m 954 ls [])) : W p l e room_1 s m args below meth c H locs cells slots Q (F0 m 152 ls []) := by
  obtain ⟨r, σ', μ', e1, e2, hRn⟩ := op_write (z := 30000) hRl (xs (i + 1))
  refine lv_aload_n C0.1 C0.2.1 dL_law_152 rfl (lv_at hl 1 rfl) ?_
  refine lw_ld (k := 1) (i := i) C0 hX hbl hW.2.2 hl rfl rfl hL (by decide) (by omega) dL_law_153 dL_law_154 dL_law_155 dL_law_156 dL_law_157 ?_
  refine lw_xi (As := [.int (xs (i + 1))]) (rest := []) (r := r) (σ' := σ') C0 S0 hW (cX8_write_met l S0.2.2.1 30000 σ (xs (i + 1)) (r, σ') e1) (cwV 1 C0.2.2.2.1 gL_law_X8_write rfl rfl rfl hdvX8_write ⟨(Nat.le_of_ble_eq_true rfl), (Nat.le_of_ble_eq_true rfl)⟩) rfl rfl hl (Nat.le_of_ble_eq_true rfl) dL_law_158 hR (fun H locs hW => ?_)
  refine lv_aload_n C0.1 C0.2.1 dL_law_161 rfl (lv_at hl 2 rfl) ?_
  refine lw_ld (k := 1) (i := i) C0 hX hbl hW.2.2 hl rfl rfl hL (by decide) (by omega) dL_law_162 dL_law_163 dL_law_164 dL_law_165 dL_law_166 ?_
  refine lw_mi (As := [.int (xs (i + 1))]) (rest := [.int r]) (r := r) (μ' := μ') C0 S0 hW (cX9_write_met l S0.2.2.2.1 30000 μ (xs (i + 1)) (r, μ') e2) (cwV 1 C0.2.2.2.1 gL_law_X9_write rfl rfl rfl hdvX9_write ⟨(Nat.le_of_ble_eq_true rfl), (Nat.le_of_ble_eq_true rfl)⟩) rfl rfl hl (Nat.le_of_ble_eq_true rfl) dL_law_167 hR (fun H locs hW => ?_)
  refine lv_icmp_eq (tgt := 954) C0.1 C0.2.1 dL_law_170 (by decide) (fun _ => ?_) (fun q => absurd rfl q)
  exact kk σ' μ' _ _ hRn hW
set_option maxHeartbeats 4000000 in
set_option maxRecDepth 100000 in
theorem lk_1 (C0 : Cx p s m args meth c cL_law RL 4 ret wsL_law) (S0 : Sx Ga Gb s) (hX : va_X b L xs s s.heap) (hbl : b < s.heap.size) (hL : L ≤ 2560) (hi : i + 5 ≤ L) (hRl : Rel σ μ) (hW : Wl Ga Gb s σ μ H locs) (hl : lv_has ls 4 [(0, .ref b), (1, .ref (aD Ga 0)), (2, .ref (aD Gb 0)), (3, .int (nI i))]) (hR : cells ≤ room_1.cells ∧ slots ≤ room_1.slots) (kk : ∀ (σ' μ' : ST) (H : Heap) (locs : List Loc), Rel σ' μ' → Wl Ga Gb s σ' μ' H locs → W p l e room_1 s m args below meth c H locs cells slots Q (F0 m 954 ls [])) : W p l e room_1 s m args below meth c H locs cells slots Q (F0 m 175 ls []) := by
  obtain ⟨r, σ', μ', e1, e2, hRn⟩ := op_wipe (z := 30000) hRl 
  refine lv_aload_n C0.1 C0.2.1 dL_law_175 rfl (lv_at hl 1 rfl) ?_
  refine lw_xi (As := []) (rest := []) (r := r) (σ' := σ') C0 S0 hW (cX8_wipe_met l S0.2.2.1 30000 σ (r, σ') e1) (cwV 0 C0.2.2.2.1 gL_law_X8_wipe rfl rfl rfl hdvX8_wipe ⟨(Nat.le_of_ble_eq_true rfl), (Nat.le_of_ble_eq_true rfl)⟩) rfl rfl hl (Nat.le_of_ble_eq_true rfl) dL_law_176 hR (fun H locs hW => ?_)
  refine lv_aload_n C0.1 C0.2.1 dL_law_179 rfl (lv_at hl 2 rfl) ?_
  refine lw_mi (As := []) (rest := [.int r]) (r := r) (μ' := μ') C0 S0 hW (cX9_wipe_met l S0.2.2.2.1 30000 μ (r, μ') e2) (cwV 0 C0.2.2.2.1 gL_law_X9_wipe rfl rfl rfl hdvX9_wipe ⟨(Nat.le_of_ble_eq_true rfl), (Nat.le_of_ble_eq_true rfl)⟩) rfl rfl hl (Nat.le_of_ble_eq_true rfl) dL_law_180 hR (fun H locs hW => ?_)
  refine lv_icmp_eq (tgt := 954) C0.1 C0.2.1 dL_law_183 (by decide) (fun _ => ?_) (fun q => absurd rfl q)
  exact kk σ' μ' _ _ hRn hW
set_option maxHeartbeats 4000000 in
set_option maxRecDepth 100000 in
theorem lk_2 (C0 : Cx p s m args meth c cL_law RL 4 ret wsL_law) (S0 : Sx Ga Gb s) (hX : va_X b L xs s s.heap) (hbl : b < s.heap.size) (hL : L ≤ 2560) (hi : i + 5 ≤ L) (hRl : Rel σ μ) (hW : Wl Ga Gb s σ μ H locs) (hl : lv_has ls 4 [(0, .ref b), (1, .ref (aD Ga 0)), (2, .ref (aD Gb 0)), (3, .int (nI i))]) (hR : cells ≤ room_1.cells ∧ slots ≤ room_1.slots) (kk : ∀ (σ' μ' : ST) (H : Heap) (locs : List Loc), Rel σ' μ' → Wl Ga Gb s σ' μ' H locs → W p l e room_1 s m args below meth c H locs cells slots Q (F0 m 954 ls [])) : W p l e room_1 s m args below meth c H locs cells slots Q (F0 m 188 ls []) := by
  obtain ⟨r, σ', μ', e1, e2, hRn⟩ := op_fault (z := 30000) (by decide) hRl 
  refine lv_aload_n C0.1 C0.2.1 dL_law_188 rfl (lv_at hl 1 rfl) ?_
  refine lw_xi (As := []) (rest := []) (r := r) (σ' := σ') C0 S0 hW (cX8_fault_met l S0.2.2.1 30000 σ (r, σ') e1) (cwV 0 C0.2.2.2.1 gL_law_X8_fault rfl rfl rfl hdvX8_fault ⟨(Nat.le_of_ble_eq_true rfl), (Nat.le_of_ble_eq_true rfl)⟩) rfl rfl hl (Nat.le_of_ble_eq_true rfl) dL_law_189 hR (fun H locs hW => ?_)
  refine lv_aload_n C0.1 C0.2.1 dL_law_192 rfl (lv_at hl 2 rfl) ?_
  refine lw_mi (As := []) (rest := [.int r]) (r := r) (μ' := μ') C0 S0 hW (cX9_fault_met l S0.2.2.2.1 30000 μ (r, μ') e2) (cwV 0 C0.2.2.2.1 gL_law_X9_fault rfl rfl rfl hdvX9_fault ⟨(Nat.le_of_ble_eq_true rfl), (Nat.le_of_ble_eq_true rfl)⟩) rfl rfl hl (Nat.le_of_ble_eq_true rfl) dL_law_193 hR (fun H locs hW => ?_)
  refine lv_icmp_eq (tgt := 954) C0.1 C0.2.1 dL_law_196 (by decide) (fun _ => ?_) (fun q => absurd rfl q)
  exact kk σ' μ' _ _ hRn hW
set_option maxHeartbeats 4000000 in
set_option maxRecDepth 100000 in
theorem lk_3 (C0 : Cx p s m args meth c cL_law RL 4 ret wsL_law) (S0 : Sx Ga Gb s) (hX : va_X b L xs s s.heap) (hbl : b < s.heap.size) (hL : L ≤ 2560) (hi : i + 5 ≤ L) (hRl : Rel σ μ) (hW : Wl Ga Gb s σ μ H locs) (hl : lv_has ls 4 [(0, .ref b), (1, .ref (aD Ga 0)), (2, .ref (aD Gb 0)), (3, .int (nI i))]) (hR : cells ≤ room_1.cells ∧ slots ≤ room_1.slots) (kk : ∀ (σ' μ' : ST) (H : Heap) (locs : List Loc), Rel σ' μ' → Wl Ga Gb s σ' μ' H locs → W p l e room_1 s m args below meth c H locs cells slots Q (F0 m 954 ls [])) : W p l e room_1 s m args below meth c H locs cells slots Q (F0 m 201 ls []) := by
  obtain ⟨r, σ', μ', e1, e2, hRn⟩ := op_search (z := 30000) (by decide) hRl 
  refine lv_aload_n C0.1 C0.2.1 dL_law_201 rfl (lv_at hl 1 rfl) ?_
  refine lw_xi (As := []) (rest := []) (r := r) (σ' := σ') C0 S0 hW (cX8_search_met l S0.2.2.1 30000 σ (r, σ') e1) (cwV 0 C0.2.2.2.1 gL_law_X8_search rfl rfl rfl hdvX8_search ⟨(Nat.le_of_ble_eq_true rfl), (Nat.le_of_ble_eq_true rfl)⟩) rfl rfl hl (Nat.le_of_ble_eq_true rfl) dL_law_202 hR (fun H locs hW => ?_)
  refine lv_aload_n C0.1 C0.2.1 dL_law_205 rfl (lv_at hl 2 rfl) ?_
  refine lw_mi (As := []) (rest := [.int r]) (r := r) (μ' := μ') C0 S0 hW (cX9_search_met l S0.2.2.2.1 30000 μ (r, μ') e2) (cwV 0 C0.2.2.2.1 gL_law_X9_search rfl rfl rfl hdvX9_search ⟨(Nat.le_of_ble_eq_true rfl), (Nat.le_of_ble_eq_true rfl)⟩) rfl rfl hl (Nat.le_of_ble_eq_true rfl) dL_law_206 hR (fun H locs hW => ?_)
  refine lv_icmp_eq (tgt := 954) C0.1 C0.2.1 dL_law_209 (by decide) (fun _ => ?_) (fun q => absurd rfl q)
  exact kk σ' μ' _ _ hRn hW
set_option maxHeartbeats 4000000 in
set_option maxRecDepth 100000 in
theorem lk_4 (C0 : Cx p s m args meth c cL_law RL 4 ret wsL_law) (S0 : Sx Ga Gb s) (hX : va_X b L xs s s.heap) (hbl : b < s.heap.size) (hL : L ≤ 2560) (hi : i + 5 ≤ L) (hRl : Rel σ μ) (hW : Wl Ga Gb s σ μ H locs) (hl : lv_has ls 4 [(0, .ref b), (1, .ref (aD Ga 0)), (2, .ref (aD Gb 0)), (3, .int (nI i))]) (hR : cells ≤ room_1.cells ∧ slots ≤ room_1.slots) (kk : ∀ (σ' μ' : ST) (H : Heap) (locs : List Loc), Rel σ' μ' → Wl Ga Gb s σ' μ' H locs → W p l e room_1 s m args below meth c H locs cells slots Q (F0 m 954 ls [])) : W p l e room_1 s m args below meth c H locs cells slots Q (F0 m 214 ls []) := by
  obtain ⟨r, σ', μ', e1, e2, hRn⟩ := op_look (z := 30000) (by decide) hRl (xs (i + 1))
  refine lv_aload_n C0.1 C0.2.1 dL_law_214 rfl (lv_at hl 1 rfl) ?_
  refine lw_ld (k := 1) (i := i) C0 hX hbl hW.2.2 hl rfl rfl hL (by decide) (by omega) dL_law_215 dL_law_216 dL_law_217 dL_law_218 dL_law_219 ?_
  refine lw_xi (As := [.int (xs (i + 1))]) (rest := []) (r := r) (σ' := σ') C0 S0 hW (cX8_look_met l S0.2.2.1 30000 σ (xs (i + 1)) (r, σ') e1) (cwV 1 C0.2.2.2.1 gL_law_X8_look rfl rfl rfl hdvX8_look ⟨(Nat.le_of_ble_eq_true rfl), (Nat.le_of_ble_eq_true rfl)⟩) rfl rfl hl (Nat.le_of_ble_eq_true rfl) dL_law_220 hR (fun H locs hW => ?_)
  refine lv_aload_n C0.1 C0.2.1 dL_law_223 rfl (lv_at hl 2 rfl) ?_
  refine lw_ld (k := 1) (i := i) C0 hX hbl hW.2.2 hl rfl rfl hL (by decide) (by omega) dL_law_224 dL_law_225 dL_law_226 dL_law_227 dL_law_228 ?_
  refine lw_mi (As := [.int (xs (i + 1))]) (rest := [.int r]) (r := r) (μ' := μ') C0 S0 hW (cX9_look_met l S0.2.2.2.1 30000 μ (xs (i + 1)) (r, μ') e2) (cwV 1 C0.2.2.2.1 gL_law_X9_look rfl rfl rfl hdvX9_look ⟨(Nat.le_of_ble_eq_true rfl), (Nat.le_of_ble_eq_true rfl)⟩) rfl rfl hl (Nat.le_of_ble_eq_true rfl) dL_law_229 hR (fun H locs hW => ?_)
  refine lv_icmp_eq (tgt := 954) C0.1 C0.2.1 dL_law_232 (by decide) (fun _ => ?_) (fun q => absurd rfl q)
  exact kk σ' μ' _ _ hRn hW
set_option maxHeartbeats 4000000 in
set_option maxRecDepth 100000 in
theorem lk_5 (C0 : Cx p s m args meth c cL_law RL 4 ret wsL_law) (S0 : Sx Ga Gb s) (hX : va_X b L xs s s.heap) (hbl : b < s.heap.size) (hL : L ≤ 2560) (hi : i + 5 ≤ L) (hRl : Rel σ μ) (hW : Wl Ga Gb s σ μ H locs) (hl : lv_has ls 4 [(0, .ref b), (1, .ref (aD Ga 0)), (2, .ref (aD Gb 0)), (3, .int (nI i))]) (hR : cells ≤ room_1.cells ∧ slots ≤ room_1.slots) (kk : ∀ (σ' μ' : ST) (H : Heap) (locs : List Loc), Rel σ' μ' → Wl Ga Gb s σ' μ' H locs → W p l e room_1 s m args below meth c H locs cells slots Q (F0 m 954 ls [])) : W p l e room_1 s m args below meth c H locs cells slots Q (F0 m 237 ls []) := by
  obtain ⟨r, σ', μ', e1, e2, hRn⟩ := op_lookAboard (z := 30000) (by decide) hRl 
  refine lv_aload_n C0.1 C0.2.1 dL_law_237 rfl (lv_at hl 1 rfl) ?_
  refine lw_xi (As := []) (rest := []) (r := r) (σ' := σ') C0 S0 hW (cX8_lookAboard_met l S0.2.2.1 30000 σ (r, σ') e1) (cwV 0 C0.2.2.2.1 gL_law_X8_lookAboard rfl rfl rfl hdvX8_lookAboard ⟨(Nat.le_of_ble_eq_true rfl), (Nat.le_of_ble_eq_true rfl)⟩) rfl rfl hl (Nat.le_of_ble_eq_true rfl) dL_law_238 hR (fun H locs hW => ?_)
  refine lv_aload_n C0.1 C0.2.1 dL_law_241 rfl (lv_at hl 2 rfl) ?_
  refine lw_mi (As := []) (rest := [.int r]) (r := r) (μ' := μ') C0 S0 hW (cX9_lookAboard_met l S0.2.2.2.1 30000 μ (r, μ') e2) (cwV 0 C0.2.2.2.1 gL_law_X9_lookAboard rfl rfl rfl hdvX9_lookAboard ⟨(Nat.le_of_ble_eq_true rfl), (Nat.le_of_ble_eq_true rfl)⟩) rfl rfl hl (Nat.le_of_ble_eq_true rfl) dL_law_242 hR (fun H locs hW => ?_)
  refine lv_icmp_eq (tgt := 954) C0.1 C0.2.1 dL_law_245 (by decide) (fun _ => ?_) (fun q => absurd rfl q)
  exact kk σ' μ' _ _ hRn hW
set_option maxHeartbeats 4000000 in
set_option maxRecDepth 100000 in
theorem lk_6 (C0 : Cx p s m args meth c cL_law RL 4 ret wsL_law) (S0 : Sx Ga Gb s) (hX : va_X b L xs s s.heap) (hbl : b < s.heap.size) (hL : L ≤ 2560) (hi : i + 5 ≤ L) (hRl : Rel σ μ) (hW : Wl Ga Gb s σ μ H locs) (hl : lv_has ls 4 [(0, .ref b), (1, .ref (aD Ga 0)), (2, .ref (aD Gb 0)), (3, .int (nI i))]) (hR : cells ≤ room_1.cells ∧ slots ≤ room_1.slots) (kk : ∀ (σ' μ' : ST) (H : Heap) (locs : List Loc), Rel σ' μ' → Wl Ga Gb s σ' μ' H locs → W p l e room_1 s m args below meth c H locs cells slots Q (F0 m 954 ls [])) : W p l e room_1 s m args below meth c H locs cells slots Q (F0 m 250 ls []) := by
  obtain ⟨r, σ', μ', e1, e2, hRn⟩ := op_hear (z := 30000) (by decide) hRl (xs (i + 1)) (xs (i + 2)) (xs (i + 3))
  refine lv_aload_n C0.1 C0.2.1 dL_law_250 rfl (lv_at hl 1 rfl) ?_
  refine lw_ld (k := 1) (i := i) C0 hX hbl hW.2.2 hl rfl rfl hL (by decide) (by omega) dL_law_251 dL_law_252 dL_law_253 dL_law_254 dL_law_255 ?_
  refine lw_ld (k := 2) (i := i) C0 hX hbl hW.2.2 hl rfl rfl hL (by decide) (by omega) dL_law_256 dL_law_257 dL_law_258 dL_law_259 dL_law_260 ?_
  refine lw_ld (k := 3) (i := i) C0 hX hbl hW.2.2 hl rfl rfl hL (by decide) (by omega) dL_law_261 dL_law_262 dL_law_263 dL_law_264 dL_law_265 ?_
  refine lw_xi (As := [.int (xs (i + 1)), .int (xs (i + 2)), .int (xs (i + 3))]) (rest := []) (r := r) (σ' := σ') C0 S0 hW (cX8_hear_met l S0.2.2.1 30000 σ (xs (i + 1)) (xs (i + 2)) (xs (i + 3)) (r, σ') e1) (cwV 3 C0.2.2.2.1 gL_law_X8_hear rfl rfl rfl hdvX8_hear ⟨(Nat.le_of_ble_eq_true rfl), (Nat.le_of_ble_eq_true rfl)⟩) rfl rfl hl (Nat.le_of_ble_eq_true rfl) dL_law_266 hR (fun H locs hW => ?_)
  refine lv_aload_n C0.1 C0.2.1 dL_law_269 rfl (lv_at hl 2 rfl) ?_
  refine lw_ld (k := 1) (i := i) C0 hX hbl hW.2.2 hl rfl rfl hL (by decide) (by omega) dL_law_270 dL_law_271 dL_law_272 dL_law_273 dL_law_274 ?_
  refine lw_ld (k := 2) (i := i) C0 hX hbl hW.2.2 hl rfl rfl hL (by decide) (by omega) dL_law_275 dL_law_276 dL_law_277 dL_law_278 dL_law_279 ?_
  refine lw_ld (k := 3) (i := i) C0 hX hbl hW.2.2 hl rfl rfl hL (by decide) (by omega) dL_law_280 dL_law_281 dL_law_282 dL_law_283 dL_law_284 ?_
  refine lw_mi (As := [.int (xs (i + 1)), .int (xs (i + 2)), .int (xs (i + 3))]) (rest := [.int r]) (r := r) (μ' := μ') C0 S0 hW (cX9_hear_met l S0.2.2.2.1 30000 μ (xs (i + 1)) (xs (i + 2)) (xs (i + 3)) (r, μ') e2) (cwV 3 C0.2.2.2.1 gL_law_X9_hear rfl rfl rfl hdvX9_hear ⟨(Nat.le_of_ble_eq_true rfl), (Nat.le_of_ble_eq_true rfl)⟩) rfl rfl hl (Nat.le_of_ble_eq_true rfl) dL_law_285 hR (fun H locs hW => ?_)
  refine lv_icmp_eq (tgt := 954) C0.1 C0.2.1 dL_law_288 (by decide) (fun _ => ?_) (fun q => absurd rfl q)
  exact kk σ' μ' _ _ hRn hW
set_option maxHeartbeats 4000000 in
set_option maxRecDepth 100000 in
theorem lk_7 (C0 : Cx p s m args meth c cL_law RL 4 ret wsL_law) (S0 : Sx Ga Gb s) (hX : va_X b L xs s s.heap) (hbl : b < s.heap.size) (hL : L ≤ 2560) (hi : i + 5 ≤ L) (hRl : Rel σ μ) (hW : Wl Ga Gb s σ μ H locs) (hl : lv_has ls 4 [(0, .ref b), (1, .ref (aD Ga 0)), (2, .ref (aD Gb 0)), (3, .int (nI i))]) (hR : cells ≤ room_1.cells ∧ slots ≤ room_1.slots) (kk : ∀ (σ' μ' : ST) (H : Heap) (locs : List Loc), Rel σ' μ' → Wl Ga Gb s σ' μ' H locs → W p l e room_1 s m args below meth c H locs cells slots Q (F0 m 954 ls [])) : W p l e room_1 s m args below meth c H locs cells slots Q (F0 m 293 ls []) := by
  obtain ⟨r, σ', μ', e1, e2, hRn⟩ := op_undo (z := 30000) (by decide) hRl 
  refine lv_aload_n C0.1 C0.2.1 dL_law_293 rfl (lv_at hl 1 rfl) ?_
  refine lw_xi (As := []) (rest := []) (r := r) (σ' := σ') C0 S0 hW (cX8_undo_met l S0.2.2.1 30000 σ (r, σ') e1) (cwV 0 C0.2.2.2.1 gL_law_X8_undo rfl rfl rfl hdvX8_undo ⟨(Nat.le_of_ble_eq_true rfl), (Nat.le_of_ble_eq_true rfl)⟩) rfl rfl hl (Nat.le_of_ble_eq_true rfl) dL_law_294 hR (fun H locs hW => ?_)
  refine lv_aload_n C0.1 C0.2.1 dL_law_297 rfl (lv_at hl 2 rfl) ?_
  refine lw_mi (As := []) (rest := [.int r]) (r := r) (μ' := μ') C0 S0 hW (cX9_undo_met l S0.2.2.2.1 30000 μ (r, μ') e2) (cwV 0 C0.2.2.2.1 gL_law_X9_undo rfl rfl rfl hdvX9_undo ⟨(Nat.le_of_ble_eq_true rfl), (Nat.le_of_ble_eq_true rfl)⟩) rfl rfl hl (Nat.le_of_ble_eq_true rfl) dL_law_298 hR (fun H locs hW => ?_)
  refine lv_icmp_eq (tgt := 954) C0.1 C0.2.1 dL_law_301 (by decide) (fun _ => ?_) (fun q => absurd rfl q)
  exact kk σ' μ' _ _ hRn hW
set_option maxHeartbeats 4000000 in
set_option maxRecDepth 100000 in
theorem lk_8 (C0 : Cx p s m args meth c cL_law RL 4 ret wsL_law) (S0 : Sx Ga Gb s) (hX : va_X b L xs s s.heap) (hbl : b < s.heap.size) (hL : L ≤ 2560) (hi : i + 5 ≤ L) (hRl : Rel σ μ) (hW : Wl Ga Gb s σ μ H locs) (hl : lv_has ls 4 [(0, .ref b), (1, .ref (aD Ga 0)), (2, .ref (aD Gb 0)), (3, .int (nI i))]) (hR : cells ≤ room_1.cells ∧ slots ≤ room_1.slots) (kk : ∀ (σ' μ' : ST) (H : Heap) (locs : List Loc), Rel σ' μ' → Wl Ga Gb s σ' μ' H locs → W p l e room_1 s m args below meth c H locs cells slots Q (F0 m 954 ls [])) : W p l e room_1 s m args below meth c H locs cells slots Q (F0 m 306 ls []) := by
  obtain ⟨r, e1, e2⟩ := op_weight (z := 30000) (by decide) hRl (xs (i + 1))
  refine lv_aload_n C0.1 C0.2.1 dL_law_306 rfl (lv_at hl 1 rfl) ?_
  refine lw_ld (k := 1) (i := i) C0 hX hbl hW.2.2 hl rfl rfl hL (by decide) (by omega) dL_law_307 dL_law_308 dL_law_309 dL_law_310 dL_law_311 ?_
  refine lw_xl (As := [.int (xs (i + 1))]) (rest := []) (r := r) (σ' := σ) C0 S0 hW (cX8_weight_met l S0.2.2.1 30000 σ (xs (i + 1)) r e1) (cwV 1 C0.2.2.2.1 gL_law_X8_weight rfl rfl rfl hdvX8_weight ⟨(Nat.le_of_ble_eq_true rfl), (Nat.le_of_ble_eq_true rfl)⟩) rfl rfl hl (Nat.le_of_ble_eq_true rfl) dL_law_312 hR (fun H locs hW => ?_)
  refine lv_aload_n C0.1 C0.2.1 dL_law_315 rfl (lv_at hl 2 rfl) ?_
  refine lw_ld (k := 1) (i := i) C0 hX hbl hW.2.2 hl rfl rfl hL (by decide) (by omega) dL_law_316 dL_law_317 dL_law_318 dL_law_319 dL_law_320 ?_
  refine lw_ml (As := [.int (xs (i + 1))]) (rest := [.long r]) (r := r) (μ' := μ) C0 S0 hW (cX9_weight_met l S0.2.2.2.1 30000 μ (xs (i + 1)) r e2) (cwV 1 C0.2.2.2.1 gL_law_X9_weight rfl rfl rfl hdvX9_weight ⟨(Nat.le_of_ble_eq_true rfl), (Nat.le_of_ble_eq_true rfl)⟩) rfl rfl hl (Nat.le_of_ble_eq_true rfl) dL_law_321 hR (fun H locs hW => ?_)
  refine x_lc_eq (tgt := 954) C0 dL_law_324 dL_law_325 (by decide) (fun _ => ?_) (fun q => absurd rfl q)
  exact kk σ μ _ _ hRl hW
set_option maxHeartbeats 4000000 in
set_option maxRecDepth 100000 in
theorem lk_9 (C0 : Cx p s m args meth c cL_law RL 4 ret wsL_law) (S0 : Sx Ga Gb s) (hX : va_X b L xs s s.heap) (hbl : b < s.heap.size) (hL : L ≤ 2560) (hi : i + 5 ≤ L) (hRl : Rel σ μ) (hW : Wl Ga Gb s σ μ H locs) (hl : lv_has ls 4 [(0, .ref b), (1, .ref (aD Ga 0)), (2, .ref (aD Gb 0)), (3, .int (nI i))]) (hR : cells ≤ room_1.cells ∧ slots ≤ room_1.slots) (kk : ∀ (σ' μ' : ST) (H : Heap) (locs : List Loc), Rel σ' μ' → Wl Ga Gb s σ' μ' H locs → W p l e room_1 s m args below meth c H locs cells slots Q (F0 m 954 ls [])) : W p l e room_1 s m args below meth c H locs cells slots Q (F0 m 330 ls []) := by
  obtain ⟨r, e1, e2⟩ := op_likely (z := 30000) (by decide) hRl (xs (i + 1)) (if xs (i + 2) = 0 then (0 : Int32) else 1)
  refine lv_aload_n C0.1 C0.2.1 dL_law_330 rfl (lv_at hl 1 rfl) ?_
  refine lw_ld (k := 1) (i := i) C0 hX hbl hW.2.2 hl rfl rfl hL (by decide) (by omega) dL_law_331 dL_law_332 dL_law_333 dL_law_334 dL_law_335 ?_
  refine lw_ld (k := 2) (i := i) C0 hX hbl hW.2.2 hl rfl rfl hL (by decide) (by omega) dL_law_336 dL_law_337 dL_law_338 dL_law_339 dL_law_340 ?_
  refine lw_bool C0 dL_law_341 dL_law_344 dL_law_345 dL_law_348 ?_
  refine lw_xl (As := [.int (xs (i + 1)), .int (if xs (i + 2) = 0 then (0 : Int32) else 1)]) (rest := []) (r := r) (σ' := σ) C0 S0 hW (cX8_likely_met l S0.2.2.1 30000 σ (xs (i + 1)) (if xs (i + 2) = 0 then (0 : Int32) else 1) r e1) (cwV 2 C0.2.2.2.1 gL_law_X8_likely rfl rfl rfl hdvX8_likely ⟨(Nat.le_of_ble_eq_true rfl), (Nat.le_of_ble_eq_true rfl)⟩) rfl rfl hl (Nat.le_of_ble_eq_true rfl) dL_law_349 hR (fun H locs hW => ?_)
  refine lv_aload_n C0.1 C0.2.1 dL_law_352 rfl (lv_at hl 2 rfl) ?_
  refine lw_ld (k := 1) (i := i) C0 hX hbl hW.2.2 hl rfl rfl hL (by decide) (by omega) dL_law_353 dL_law_354 dL_law_355 dL_law_356 dL_law_357 ?_
  refine lw_ld (k := 2) (i := i) C0 hX hbl hW.2.2 hl rfl rfl hL (by decide) (by omega) dL_law_358 dL_law_359 dL_law_360 dL_law_361 dL_law_362 ?_
  refine lw_bool C0 dL_law_363 dL_law_366 dL_law_367 dL_law_370 ?_
  refine lw_ml (As := [.int (xs (i + 1)), .int (if xs (i + 2) = 0 then (0 : Int32) else 1)]) (rest := [.long r]) (r := r) (μ' := μ) C0 S0 hW (cX9_likely_met l S0.2.2.2.1 30000 μ (xs (i + 1)) (if xs (i + 2) = 0 then (0 : Int32) else 1) r e2) (cwV 2 C0.2.2.2.1 gL_law_X9_likely rfl rfl rfl hdvX9_likely ⟨(Nat.le_of_ble_eq_true rfl), (Nat.le_of_ble_eq_true rfl)⟩) rfl rfl hl (Nat.le_of_ble_eq_true rfl) dL_law_371 hR (fun H locs hW => ?_)
  refine x_lc_eq (tgt := 954) C0 dL_law_374 dL_law_375 (by decide) (fun _ => ?_) (fun q => absurd rfl q)
  exact kk σ μ _ _ hRl hW
set_option maxHeartbeats 4000000 in
set_option maxRecDepth 100000 in
theorem lk_10 (C0 : Cx p s m args meth c cL_law RL 4 ret wsL_law) (S0 : Sx Ga Gb s) (hX : va_X b L xs s s.heap) (hbl : b < s.heap.size) (hL : L ≤ 2560) (hi : i + 5 ≤ L) (hRl : Rel σ μ) (hW : Wl Ga Gb s σ μ H locs) (hl : lv_has ls 4 [(0, .ref b), (1, .ref (aD Ga 0)), (2, .ref (aD Gb 0)), (3, .int (nI i))]) (hR : cells ≤ room_1.cells ∧ slots ≤ room_1.slots) (kk : ∀ (σ' μ' : ST) (H : Heap) (locs : List Loc), Rel σ' μ' → Wl Ga Gb s σ' μ' H locs → W p l e room_1 s m args below meth c H locs cells slots Q (F0 m 954 ls [])) : W p l e room_1 s m args below meth c H locs cells slots Q (F0 m 380 ls []) := by
  obtain ⟨r, e1, e2⟩ := op_likeliest (z := 30000) (by decide) hRl 
  refine lv_aload_n C0.1 C0.2.1 dL_law_380 rfl (lv_at hl 1 rfl) ?_
  refine lw_xi (As := []) (rest := []) (r := r) (σ' := σ) C0 S0 hW (cX8_likeliest_met l S0.2.2.1 30000 σ r e1) (cwV 0 C0.2.2.2.1 gL_law_X8_likeliest rfl rfl rfl hdvX8_likeliest ⟨(Nat.le_of_ble_eq_true rfl), (Nat.le_of_ble_eq_true rfl)⟩) rfl rfl hl (Nat.le_of_ble_eq_true rfl) dL_law_381 hR (fun H locs hW => ?_)
  refine lv_aload_n C0.1 C0.2.1 dL_law_384 rfl (lv_at hl 2 rfl) ?_
  refine lw_mi (As := []) (rest := [.int r]) (r := r) (μ' := μ) C0 S0 hW (cX9_likeliest_met l S0.2.2.2.1 30000 μ r e2) (cwV 0 C0.2.2.2.1 gL_law_X9_likeliest rfl rfl rfl hdvX9_likeliest ⟨(Nat.le_of_ble_eq_true rfl), (Nat.le_of_ble_eq_true rfl)⟩) rfl rfl hl (Nat.le_of_ble_eq_true rfl) dL_law_385 hR (fun H locs hW => ?_)
  refine lv_icmp_eq (tgt := 954) C0.1 C0.2.1 dL_law_388 (by decide) (fun _ => ?_) (fun q => absurd rfl q)
  exact kk σ μ _ _ hRl hW
set_option maxHeartbeats 4000000 in
set_option maxRecDepth 100000 in
theorem lk_11 (C0 : Cx p s m args meth c cL_law RL 4 ret wsL_law) (S0 : Sx Ga Gb s) (hX : va_X b L xs s s.heap) (hbl : b < s.heap.size) (hL : L ≤ 2560) (hi : i + 5 ≤ L) (hRl : Rel σ μ) (hW : Wl Ga Gb s σ μ H locs) (hl : lv_has ls 4 [(0, .ref b), (1, .ref (aD Ga 0)), (2, .ref (aD Gb 0)), (3, .int (nI i))]) (hR : cells ≤ room_1.cells ∧ slots ≤ room_1.slots) (kk : ∀ (σ' μ' : ST) (H : Heap) (locs : List Loc), Rel σ' μ' → Wl Ga Gb s σ' μ' H locs → W p l e room_1 s m args below meth c H locs cells slots Q (F0 m 954 ls [])) : W p l e room_1 s m args below meth c H locs cells slots Q (F0 m 393 ls []) := by
  obtain ⟨r, σ', μ', e1, e2, hRn⟩ := op_by (z := 30000) (by decide) hRl (xs (i + 1)) (xs (i + 2)) (if xs (i + 3) = 0 then (0 : Int32) else 1)
  refine lv_aload_n C0.1 C0.2.1 dL_law_393 rfl (lv_at hl 1 rfl) ?_
  refine lw_ld (k := 1) (i := i) C0 hX hbl hW.2.2 hl rfl rfl hL (by decide) (by omega) dL_law_394 dL_law_395 dL_law_396 dL_law_397 dL_law_398 ?_
  refine lw_ld (k := 2) (i := i) C0 hX hbl hW.2.2 hl rfl rfl hL (by decide) (by omega) dL_law_399 dL_law_400 dL_law_401 dL_law_402 dL_law_403 ?_
  refine lw_ld (k := 3) (i := i) C0 hX hbl hW.2.2 hl rfl rfl hL (by decide) (by omega) dL_law_404 dL_law_405 dL_law_406 dL_law_407 dL_law_408 ?_
  refine lw_bool C0 dL_law_409 dL_law_412 dL_law_413 dL_law_416 ?_
  refine lw_xl (As := [.int (xs (i + 1)), .int (xs (i + 2)), .int (if xs (i + 3) = 0 then (0 : Int32) else 1)]) (rest := []) (r := r) (σ' := σ') C0 S0 hW (cX8_by_met l S0.2.2.1 30000 σ (xs (i + 1)) (xs (i + 2)) (if xs (i + 3) = 0 then (0 : Int32) else 1) (r, σ') e1) (cwV 3 C0.2.2.2.1 gL_law_X8_by rfl rfl rfl hdvX8_by ⟨(Nat.le_of_ble_eq_true rfl), (Nat.le_of_ble_eq_true rfl)⟩) rfl rfl hl (Nat.le_of_ble_eq_true rfl) dL_law_417 hR (fun H locs hW => ?_)
  refine lv_aload_n C0.1 C0.2.1 dL_law_420 rfl (lv_at hl 2 rfl) ?_
  refine lw_ld (k := 1) (i := i) C0 hX hbl hW.2.2 hl rfl rfl hL (by decide) (by omega) dL_law_421 dL_law_422 dL_law_423 dL_law_424 dL_law_425 ?_
  refine lw_ld (k := 2) (i := i) C0 hX hbl hW.2.2 hl rfl rfl hL (by decide) (by omega) dL_law_426 dL_law_427 dL_law_428 dL_law_429 dL_law_430 ?_
  refine lw_ld (k := 3) (i := i) C0 hX hbl hW.2.2 hl rfl rfl hL (by decide) (by omega) dL_law_431 dL_law_432 dL_law_433 dL_law_434 dL_law_435 ?_
  refine lw_bool C0 dL_law_436 dL_law_439 dL_law_440 dL_law_443 ?_
  refine lw_ml (As := [.int (xs (i + 1)), .int (xs (i + 2)), .int (if xs (i + 3) = 0 then (0 : Int32) else 1)]) (rest := [.long r]) (r := r) (μ' := μ') C0 S0 hW (cX9_by_met l S0.2.2.2.1 30000 μ (xs (i + 1)) (xs (i + 2)) (if xs (i + 3) = 0 then (0 : Int32) else 1) (r, μ') e2) (cwV 3 C0.2.2.2.1 gL_law_X9_by rfl rfl rfl hdvX9_by ⟨(Nat.le_of_ble_eq_true rfl), (Nat.le_of_ble_eq_true rfl)⟩) rfl rfl hl (Nat.le_of_ble_eq_true rfl) dL_law_444 hR (fun H locs hW => ?_)
  refine x_lc_eq (tgt := 954) C0 dL_law_447 dL_law_448 (by decide) (fun _ => ?_) (fun q => absurd rfl q)
  exact kk σ' μ' _ _ hRn hW
set_option maxHeartbeats 4000000 in
set_option maxRecDepth 100000 in
theorem lk_12 (C0 : Cx p s m args meth c cL_law RL 4 ret wsL_law) (S0 : Sx Ga Gb s) (hX : va_X b L xs s s.heap) (hbl : b < s.heap.size) (hL : L ≤ 2560) (hi : i + 5 ≤ L) (hRl : Rel σ μ) (hW : Wl Ga Gb s σ μ H locs) (hl : lv_has ls 4 [(0, .ref b), (1, .ref (aD Ga 0)), (2, .ref (aD Gb 0)), (3, .int (nI i))]) (hR : cells ≤ room_1.cells ∧ slots ≤ room_1.slots) (kk : ∀ (σ' μ' : ST) (H : Heap) (locs : List Loc), Rel σ' μ' → Wl Ga Gb s σ' μ' H locs → W p l e room_1 s m args below meth c H locs cells slots Q (F0 m 954 ls [])) : W p l e room_1 s m args below meth c H locs cells slots Q (F0 m 453 ls []) := by
  obtain ⟨r, σ', μ', e1, e2, hRn⟩ := op_best (z := 30000) (by decide) hRl (xs (i + 1)) (if xs (i + 2) = 0 then (0 : Int32) else 1)
  refine lv_aload_n C0.1 C0.2.1 dL_law_453 rfl (lv_at hl 1 rfl) ?_
  refine lw_ld (k := 1) (i := i) C0 hX hbl hW.2.2 hl rfl rfl hL (by decide) (by omega) dL_law_454 dL_law_455 dL_law_456 dL_law_457 dL_law_458 ?_
  refine lw_ld (k := 2) (i := i) C0 hX hbl hW.2.2 hl rfl rfl hL (by decide) (by omega) dL_law_459 dL_law_460 dL_law_461 dL_law_462 dL_law_463 ?_
  refine lw_bool C0 dL_law_464 dL_law_467 dL_law_468 dL_law_471 ?_
  refine lw_xl (As := [.int (xs (i + 1)), .int (if xs (i + 2) = 0 then (0 : Int32) else 1)]) (rest := []) (r := r) (σ' := σ') C0 S0 hW (cX8_best_met l S0.2.2.1 30000 σ (xs (i + 1)) (if xs (i + 2) = 0 then (0 : Int32) else 1) (r, σ') e1) (cwV 2 C0.2.2.2.1 gL_law_X8_best rfl rfl rfl hdvX8_best ⟨(Nat.le_of_ble_eq_true rfl), (Nat.le_of_ble_eq_true rfl)⟩) rfl rfl hl (Nat.le_of_ble_eq_true rfl) dL_law_472 hR (fun H locs hW => ?_)
  refine lv_aload_n C0.1 C0.2.1 dL_law_475 rfl (lv_at hl 2 rfl) ?_
  refine lw_ld (k := 1) (i := i) C0 hX hbl hW.2.2 hl rfl rfl hL (by decide) (by omega) dL_law_476 dL_law_477 dL_law_478 dL_law_479 dL_law_480 ?_
  refine lw_ld (k := 2) (i := i) C0 hX hbl hW.2.2 hl rfl rfl hL (by decide) (by omega) dL_law_481 dL_law_482 dL_law_483 dL_law_484 dL_law_485 ?_
  refine lw_bool C0 dL_law_486 dL_law_489 dL_law_490 dL_law_493 ?_
  refine lw_ml (As := [.int (xs (i + 1)), .int (if xs (i + 2) = 0 then (0 : Int32) else 1)]) (rest := [.long r]) (r := r) (μ' := μ') C0 S0 hW (cX9_best_met l S0.2.2.2.1 30000 μ (xs (i + 1)) (if xs (i + 2) = 0 then (0 : Int32) else 1) (r, μ') e2) (cwV 2 C0.2.2.2.1 gL_law_X9_best rfl rfl rfl hdvX9_best ⟨(Nat.le_of_ble_eq_true rfl), (Nat.le_of_ble_eq_true rfl)⟩) rfl rfl hl (Nat.le_of_ble_eq_true rfl) dL_law_494 hR (fun H locs hW => ?_)
  refine x_lc_eq (tgt := 954) C0 dL_law_497 dL_law_498 (by decide) (fun _ => ?_) (fun q => absurd rfl q)
  exact kk σ' μ' _ _ hRn hW
end

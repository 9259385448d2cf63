/-! ===== the law's loop ===== -/
section
variable {p : Program} {l : Launch} {e : Env} {s : State} {m : MethodId} {args : Array Value} {below : List Frame} {meth : Method} {c : Code} {cells slots : Nat} {Q : State → Prop}
variable {Ga Gb : GT} {b L : Nat} {xs : Nat → Int32}
set_option maxHeartbeats 4000000 in
set_option maxRecDepth 100000 in
theorem lw_loop (C0 : Cx p s m args meth c cL_law RL 4 ret wsL_law) (S0 : Sx Ga Gb s) (hX : va_X b L xs s s.heap) (hbl : b < s.heap.size) (hL : L ≤ 2560) (hR : cells ≤ room_1.cells ∧ slots ≤ room_1.slots) (hR2 : cells ≤ 600000 ∧ slots ≤ 7302250) (hend : ∀ (H : Heap) (ls : Array Slot), W p l e room_1 s m args below meth c H [] 600000 7302250 Q (F0 m 961 ls [.int 1])) : ∀ (n i : Nat) (σ μ : ST) (H : Heap) (locs : List Loc) (ls : Array Slot), i ≤ L + 5 → L + 6 ≤ i + n → Rel σ μ → Wl Ga Gb s σ μ H locs → lv_has ls 4 [(0, .ref b), (1, .ref (aD Ga 0)), (2, .ref (aD Gb 0)), (3, .int (nI i))] → W p l e room_1 s m args below meth c H locs cells slots Q (F0 m 18 ls []) := by
  intro n
  induction n with
  | zero => intro i σ μ H locs ls h1 h2; omega
  | succ n ih =>
    intro i σ μ H locs ls h1 h2 hRl hW hl
    refine lv_iload_n C0.1 C0.2.1 dL_law_18 rfl (lv_at hl 3 rfl) ?_
    refine lv_aload_n C0.1 C0.2.1 dL_law_19 rfl (lv_at hl 0 rfl) ?_
    refine va_slen C0.1 C0.2.1 hX hbl (Nat.not_le.mpr hbl) hW.2.2 dL_law_20 ?_
    refine lv_iconst (v := 5) C0.1 C0.2.1 dL_law_21 (by decide) ?_
    refine lv_isub C0.1 C0.2.1 dL_law_22 ?_
    refine lv_icmp_gt (tgt := 960) C0.1 C0.2.1 dL_law_23 (by decide) (fun _ => ?_) (fun cc => ?_)
    · refine lv_iconst (v := 1) C0.1 C0.2.1 dL_law_960 (by decide) ?_
      refine va_forget (fun q hq => hW.2.2.2.2 q hq) ?_
      refine W.widen (k := 600000) (n := 7302250) hR2.1 hR2.2 ?_
      exact hend H ls
    · have hi : i + 5 ≤ L := lw_more hL h1 cc
      refine lv_aload_n C0.1 C0.2.1 dL_law_26 rfl (lv_at hl 0 rfl) ?_
      refine lv_iload_n C0.1 C0.2.1 dL_law_27 rfl (lv_at hl 3 rfl) ?_
      refine va_sld C0.1 C0.2.1 hX hbl (Nat.not_le.mpr hbl) hW.2.2 (vp_in_nI (show i < L by omega) (by omega)) dL_law_28 ?_
      refine lv_bipush (v := (31 : Int32)) C0.1 C0.2.1 dL_law_29 (by decide) ?_
      refine lv_iand C0.1 C0.2.1 dL_law_31 ?_
      refine lv_topi (fun v ev => ?_)
      obtain ⟨k, hk, ek⟩ := lw_and (xs (nI i).toNatClampNeg)
      rw [ek] at ev
      subst ev
      have kk : ∀ (σ' μ' : ST) (H : Heap) (locs : List Loc), Rel σ' μ' → Wl Ga Gb s σ' μ' H locs → W p l e room_1 s m args below meth c H locs cells slots Q (F0 m 954 ls []) := by
        intro σ' μ' H locs hRl hW
        refine lv_iinc (v := nI i + 5) (lv' := [(3, .int (nI i + 5)), (0, .ref b), (1, .ref (aD Ga 0)), (2, .ref (aD Gb 0))]) C0.1 C0.2.1 dL_law_954 hl (k := 3) rfl rfl (by decide) rfl (fun ls hl => ?_)
        refine lv_goto (tgt := 18) C0.1 C0.2.1 dL_law_957 (by decide) ?_
        rw [show (5 : Int32) = nI 5 from rfl, nI_add] at hl
        exact ih (i + 5) σ' μ' H locs ls (by omega) (by omega) hRl hW (lv_sub hl [1, 2, 3, 0] rfl)
      by_cases h26 : 26 ≤ k
      · refine lv_tableOut (tgt := 954) C0.1 C0.2.1 dL_law_32 (Or.inr (by rw [nI_toInt (by omega)]; omega)) (by decide) ?_
        exact kk σ μ H locs hRl hW
      · match k, h26 with
        | 0, _ => exact lv_tableIn (off := 120) (tgt := 152) C0.1 C0.2.1 dL_law_32 (by decide) (by decide) (by decide) (by decide) (lk_0 C0 S0 hX hbl hL hi hRl hW hl hR kk)
        | 1, _ => exact lv_tableIn (off := 143) (tgt := 175) C0.1 C0.2.1 dL_law_32 (by decide) (by decide) (by decide) (by decide) (lk_1 C0 S0 hX hbl hL hi hRl hW hl hR kk)
        | 2, _ => exact lv_tableIn (off := 156) (tgt := 188) C0.1 C0.2.1 dL_law_32 (by decide) (by decide) (by decide) (by decide) (lk_2 C0 S0 hX hbl hL hi hRl hW hl hR kk)
        | 3, _ => exact lv_tableIn (off := 169) (tgt := 201) C0.1 C0.2.1 dL_law_32 (by decide) (by decide) (by decide) (by decide) (lk_3 C0 S0 hX hbl hL hi hRl hW hl hR kk)
        | 4, _ => exact lv_tableIn (off := 182) (tgt := 214) C0.1 C0.2.1 dL_law_32 (by decide) (by decide) (by decide) (by decide) (lk_4 C0 S0 hX hbl hL hi hRl hW hl hR kk)
        | 5, _ => exact lv_tableIn (off := 205) (tgt := 237) C0.1 C0.2.1 dL_law_32 (by decide) (by decide) (by decide) (by decide) (lk_5 C0 S0 hX hbl hL hi hRl hW hl hR kk)
        | 6, _ => exact lv_tableIn (off := 218) (tgt := 250) C0.1 C0.2.1 dL_law_32 (by decide) (by decide) (by decide) (by decide) (lk_6 C0 S0 hX hbl hL hi hRl hW hl hR kk)
        | 7, _ => exact lv_tableIn (off := 261) (tgt := 293) C0.1 C0.2.1 dL_law_32 (by decide) (by decide) (by decide) (by decide) (lk_7 C0 S0 hX hbl hL hi hRl hW hl hR kk)
        | 8, _ => exact lv_tableIn (off := 274) (tgt := 306) C0.1 C0.2.1 dL_law_32 (by decide) (by decide) (by decide) (by decide) (lk_8 C0 S0 hX hbl hL hi hRl hW hl hR kk)
        | 9, _ => exact lv_tableIn (off := 298) (tgt := 330) C0.1 C0.2.1 dL_law_32 (by decide) (by decide) (by decide) (by decide) (lk_9 C0 S0 hX hbl hL hi hRl hW hl hR kk)
        | 10, _ => exact lv_tableIn (off := 348) (tgt := 380) C0.1 C0.2.1 dL_law_32 (by decide) (by decide) (by decide) (by decide) (lk_10 C0 S0 hX hbl hL hi hRl hW hl hR kk)
        | 11, _ => exact lv_tableIn (off := 361) (tgt := 393) C0.1 C0.2.1 dL_law_32 (by decide) (by decide) (by decide) (by decide) (lk_11 C0 S0 hX hbl hL hi hRl hW hl hR kk)
        | 12, _ => exact lv_tableIn (off := 421) (tgt := 453) C0.1 C0.2.1 dL_law_32 (by decide) (by decide) (by decide) (by decide) (lk_12 C0 S0 hX hbl hL hi hRl hW hl hR kk)
        | 13, _ => exact lv_tableIn (off := 471) (tgt := 503) C0.1 C0.2.1 dL_law_32 (by decide) (by decide) (by decide) (by decide) (lk_13 C0 S0 hX hbl hL hi hRl hW hl hR kk)
        | 14, _ => exact lv_tableIn (off := 494) (tgt := 526) C0.1 C0.2.1 dL_law_32 (by decide) (by decide) (by decide) (by decide) (lk_14 C0 S0 hX hbl hL hi hRl hW hl hR kk)
        | 15, _ => exact lv_tableIn (off := 517) (tgt := 549) C0.1 C0.2.1 dL_law_32 (by decide) (by decide) (by decide) (by decide) (lk_15 C0 S0 hX hbl hL hi hRl hW hl hR kk)
        | 16, _ => exact lv_tableIn (off := 567) (tgt := 599) C0.1 C0.2.1 dL_law_32 (by decide) (by decide) (by decide) (by decide) (lk_16 C0 S0 hX hbl hL hi hRl hW hl hR kk)
        | 17, _ => exact lv_tableIn (off := 617) (tgt := 649) C0.1 C0.2.1 dL_law_32 (by decide) (by decide) (by decide) (by decide) (lk_17 C0 S0 hX hbl hL hi hRl hW hl hR kk)
        | 18, _ => exact lv_tableIn (off := 630) (tgt := 662) C0.1 C0.2.1 dL_law_32 (by decide) (by decide) (by decide) (by decide) (lk_18 C0 S0 hX hbl hL hi hRl hW hl hR kk)
        | 19, _ => exact lv_tableIn (off := 663) (tgt := 695) C0.1 C0.2.1 dL_law_32 (by decide) (by decide) (by decide) (by decide) (lk_19 C0 S0 hX hbl hL hi hRl hW hl hR kk)
        | 20, _ => exact lv_tableIn (off := 686) (tgt := 718) C0.1 C0.2.1 dL_law_32 (by decide) (by decide) (by decide) (by decide) (lk_20 C0 S0 hX hbl hL hi hRl hW hl hR kk)
        | 21, _ => exact lv_tableIn (off := 756) (tgt := 788) C0.1 C0.2.1 dL_law_32 (by decide) (by decide) (by decide) (by decide) (lk_21 C0 S0 hX hbl hL hi hRl hW hl hR kk)
        | 22, _ => exact lv_tableIn (off := 810) (tgt := 842) C0.1 C0.2.1 dL_law_32 (by decide) (by decide) (by decide) (by decide) (lk_22 C0 S0 hX hbl hL hi hRl hW hl hR kk)
        | 23, _ => exact lv_tableIn (off := 853) (tgt := 885) C0.1 C0.2.1 dL_law_32 (by decide) (by decide) (by decide) (by decide) (lk_23 C0 S0 hX hbl hL hi hRl hW hl hR kk)
        | 24, _ => exact lv_tableIn (off := 876) (tgt := 908) C0.1 C0.2.1 dL_law_32 (by decide) (by decide) (by decide) (by decide) (lk_24 C0 S0 hX hbl hL hi hRl hW hl hR kk)
        | 25, _ => exact lv_tableIn (off := 899) (tgt := 931) C0.1 C0.2.1 dL_law_32 (by decide) (by decide) (by decide) (by decide) (lk_25 C0 S0 hX hbl hL hi hRl hW hl hR kk)
        | k + 26, h26 => exact absurd (by omega) h26
end

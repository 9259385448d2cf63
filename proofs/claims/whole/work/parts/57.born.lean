/-! ===== constructors: what they take for granted, what they leave ===== -/
def UQ (G : GT) (U : State) : Prop := (∀ c, U.vm.findClass "[I" = some c → c = gI G) ∧ (∀ c, U.vm.findClass "[J" = some c → c = gL G) ∧ (∀ c, U.vm.findClass "[Z" = some c → c = gZ G) ∧ ∀ c, U.vm.findClass "[LGoneOverboard$Scene;" = some c → c = gO G
theorem UQ.moved {G : GT} {u U : State} (hvm : u.vm.Alike U.vm) (h : UQ G u) : UQ G U := ⟨fun c q => h.1 c (by rw [hvm.findClass] at q; exact q), fun c q => h.2.1 c (by rw [hvm.findClass] at q; exact q), fun c q => h.2.2.1 c (by rw [hvm.findClass] at q; exact q), fun c q => h.2.2.2 c (by rw [hvm.findClass] at q; exact q)⟩
def Bx (G : GT) (U : State) : Prop := va_K (gD G) vwCl [] U ∧ nwOK U ∧ UQ G U ∧ va_AO "GoneOverboard$Scene" U
theorem Bx.warm {G : GT} {s U : State} (hW : s.WarmedH U.vm) (h : Bx G s) : Bx G U := ⟨va_K.moved hW.alike h.1, h.2.1.warm hW, h.2.2.1.moved hW.alike, h.2.2.2.moved hW.alike⟩
theorem Bx.same {G : GT} {u U : State} (hv : u.vm = U.vm) (h : Bx G u) : Bx G U := by
  have ha : u.vm.Alike U.vm := by rw [← hv]; exact Vm.Alike.refl u.vm
  exact ⟨va_K.moved ha h.1, h.2.1.same hv, h.2.2.1.moved ha, h.2.2.2.moved ha⟩
def NPc (G : GT) (w0 : va_W) (sz : Nat) (av : List Value) : Array Value → State → Prop := va_Pc av (fun U => U.heap.size = sz ∧ va_P (gD G) vwCl w0 U.heap ∧ va_D (fun _ => True) w0 ∧ Bx G U)
theorem NPc.blind {G : GT} {w0 : va_W} {sz : Nat} {av : List Value} : FrameBlind (NPc G w0 sz av) := fun _ U g mk q => ⟨q.1, q.2.1, q.2.2.1, q.2.2.2.1, Bx.same (u := U) rfl q.2.2.2.2⟩
def NQv {S : Type} (G : GT) (w1 : S → va_W) (tys : List (ClassId × FieldType)) (w0 : va_W) (sz : Nat) : Array Value → State → Outcome → State → Prop := va_Qv (S := S) (fun _ => True) (fun a t => va_P (gD G) vwCl (w1 a) t.heap ∧ va_D (va_A w0 sz) (w1 a) ∧ va_K (gD G) vwCl tys t) (va_A w0 sz)
theorem n_met {S : Type} {G : GT} {l : Launch} {y : MethodName} {ws ws' : List Cond} {rm : Room} {cc : ByteArray} {maxL mc ms sz : Nat} {av : List Value} {w0 : va_W} {w1 : S → va_W} {tys : List (ClassId × FieldType)} (hy : plainName y.cls = true) (hn : y.name = "<init>") (hw : ws = Cond.code y cc maxL none :: ws') (hlen : (lg_sl av).length ≤ maxL)
    (body : ∀ (p : Program) (e : Env) (s : State) (m : MethodId) (args : Array Value) (below : List Frame) (meth : Method) (c : Code) (ls : Array Slot), Cx p s m args meth c cc y.cls maxL none ws → meth.name = "<init>" → Bx G s → va_P (gD G) vwCl w0 s.heap → va_D (va_A w0 s.heap.size) w0 → va_S (va_A w0 s.heap.size) s.heap s.heap [] → lv_has ls maxL (lv_args 0 av) → W p l e rm s m args below meth c s.heap [] 0 0 (MQ below (NQv G w1 tys w0 s.heap.size) args s mc ms (va_A w0 s.heap.size)) (F0 m 0 ls [])) : Met l y ws rm (NPc G w0 sz av) (NQv G w1 tys w0 sz) mc ms (va_A w0 sz) := by
  refine Met.ofW (cc := cc) (maxL := maxL) (ret := none) hy hw ?_
  intro p e s m args below meth c s₁ B hml hv
  obtain ⟨rfl, rfl, hP, hD, hG⟩ := hv
  have hts := atoms_spec (ws := ws) B.pre
  have hown : s.vm.findClass y.cls = some m.cls := findClass_of_methodNamed B.named
  have hin : meth.name = "<init>" := (name_of_methodNamed B.named B.method).1.trans hn
  have hl := lv_entry av hlen
  rw [lg_entry_eq]
  generalize (lg_sl av ++ List.replicate (maxL - (lg_sl av).length) Slot.unset).toArray = ls at hl ⊢
  exact body p e s m _ below meth c ls ⟨B.exec, B.bytes, B.returns, hts, hown, hml, B.notSynchronized⟩ hin hG hP hD.self va_S.rf hl
theorem va_nd_range' : ∀ (n s : Nat), va_nd (List.range' s n) = true := by
  intro n
  induction n with
  | zero => intro s; rfl
  | succ n ih =>
    intro s
    rw [List.range'_succ]
    unfold va_nd
    rw [ih (s + 1), Bool.and_true]
    refine decide_eq_true (fun h => ?_)
    have := (List.mem_range'_1.mp h).1
    omega
/-- what comes back from the making of the last cells, behind the rest -/
theorem n_join {A0 : Nat → Prop} {D : va_G} {cl : List vw_C} {ws wc w1 : va_W} {H H1 : Heap} (hP : va_P D cl (ws ++ wc) H) (hD : va_D A0 (ws ++ wc)) (hk : ∀ q : Nat, q < H.size → ¬ va_A wc H.size q → H1[q]? = H[q]?) (hF : ∀ q, va_A wc H.size q → A0 q) (hP1 : va_P D cl w1 H1) (hD1 : va_D (va_A wc H.size) w1) : va_P D cl (ws ++ w1) H1 ∧ va_D A0 (ws ++ w1) := by
  refine va_join (wc := wc) (wr := ws) hP hD (List.range' ws.length wc.length) (List.range' 0 ws.length) ?_ ?_ (va_nd_range' _ _) ?_ hk hF hP1 hD1
  · apply List.ext_getElem?
    intro i
    rw [List.getElem?_map, List.getElem?_map]
    by_cases hi : i < wc.length
    · rw [List.getElem?_range' hi, List.getElem?_eq_getElem hi]
      show some ((ws ++ wc)[ws.length + 1 * i]?) = _
      rw [List.getElem?_append_right (by omega), show ws.length + 1 * i - ws.length = i by omega, List.getElem?_eq_getElem hi]
      rfl
    · rw [List.getElem?_eq_none (by rw [List.length_range']; omega), List.getElem?_eq_none (by omega)]
      rfl
  · apply List.ext_getElem?
    intro i
    rw [List.getElem?_map, List.getElem?_map]
    by_cases hi : i < ws.length
    · rw [List.getElem?_range' hi, List.getElem?_eq_getElem hi]
      show some ((ws ++ wc)[0 + 1 * i]?) = _
      rw [show 0 + 1 * i = i by omega, List.getElem?_append_left hi, List.getElem?_eq_getElem hi]
      rfl
    · rw [List.getElem?_eq_none (by rw [List.length_range']; omega), List.getElem?_eq_none (by omega)]
      rfl
  · intro i h1 h2
    have := (List.mem_range'_1.mp h1).2
    have := (List.mem_range'_1.mp h2).1
    omega
theorem n_free {A0 : Nat → Prop} {ws wc : va_W} {H0 H : Heap} {locs : List Loc} (hD : va_D A0 (ws ++ wc)) (hS : va_S A0 H0 H locs) (hA : ∀ q, H0.size ≤ q → A0 q) : ∀ q, va_A wc H.size q → A0 q := by
  intro q h
  rcases h with ⟨k, e, h⟩ | h
  · exact hD.2 (ws.length + k) (q, e) (by rw [List.getElem?_append_right (by omega), show ws.length + k - ws.length = k by omega]; exact h)
  · exact hA q (Nat.le_trans hS.1 h)
section NRows
variable {p : Program} {l : Launch} {e : Env} {R : Room} {s : State} {m : MethodId} {args : Array Value} {below : List Frame} {meth : Method} {c : Code} {H : Heap} {locs : List Loc} {cells slots : Nat} {Q : State → Prop}
variable {G : GT} {cc : ByteArray} {own : String} {nL : Nat} {ret : Option FieldType} {Ts : List Cond} {pc : Nat} {ls : Array Slot} {rest : List Value} {A : Nat → Prop} {ws : va_W} {H0 : Heap}
theorem n_obj (C0 : Cx p s m args meth c cc own nL ret Ts) {a idx : Nat} {lv : List (Nat × Value)} (hl : lv_has ls nL lv) (h1 : Cond.methodLink own idx Lib.objectInit ∈ Ts) (h2 : Cond.instanceMethod Lib.objectInit ∈ Ts) (h3 : Cond.code Lib.objectInit ⟨#[0xb1]⟩ 1 none ∈ Ts) (hd : decode cc pc = .ok (.invokespecial idx, 3)) (hf : 1 ≤ R.frames) (hlo : 12 ≤ R.locals) (kk : W p l e R s m args below meth c H locs cells slots Q (F0 m (pc + 3) ls [])) : W p l e R s m args below meth c H locs cells slots Q (F0 m pc ls [.ref a]) := by
  obtain ⟨hx, hb, hr, hts, hown, hml, hlk⟩ := C0
  exact W.objInit hx hb hown (hts _ h1) (hts _ h2) (hts _ h3) rfl (by rw [hml]; exact hl.1) rfl hd hf (by show 2 * 0 + 0 + 12 ≤ _; omega) kk
theorem n_newI (C0 : Cx p s m args meth c cc own nL ret Ts) (hG : Bx G s) (hP : va_P (gD G) vwCl ws H) (hD : va_D A ws) (hS : va_S A H0 H locs) (hA : ∀ q, H0.size ≤ q → A q) {n : Int32} {N : Nat} (hc : Cond.arrayClass .int ∈ Ts) (hn : ¬ n < 0) (hN : n.toNatClampNeg = N) (hN2 : N ≤ 1000) (hcells : cells + 1 ≤ R.cells) (hslots : slots + N ≤ R.slots) (hd : decode cc pc = .ok (.newarray .int, 2))
    (kk : ∀ (q : Nat) (H1 : Heap), va_K (gD G) vwCl [(gI G, .int)] s → va_P (gD G) vwCl (ws ++ [(q, .inl (gI G, N, .inl (fun _ => 0)))]) H1 → va_D A (ws ++ [(q, .inl (gI G, N, .inl (fun _ => 0)))]) → va_S A H0 H1 locs → W p l e R s m args below meth c H1 locs (cells + 1) (slots + N) Q (F0 m (pc + 2) ls (.ref q :: rest))) : W p l e R s m args below meth c H locs cells slots Q (F0 m pc ls (.int n :: rest)) := by
  obtain ⟨hx, hb, hr, hts, hown, hml, hlk⟩ := C0
  refine va_newa (atype := .int) (ty := .int) (N' := N) (a0 := (N, .inl (fun _ => 0))) hx hb (hts _ hc) rfl hG.1 hP hD hS hA (fun cA => rfl) hn hN (by show N * 4 ≤ _; omega) hcells hslots hd (fun q cA H1 hK hP hD hS => ?_)
  have e : cA = gI G := hG.2.2.1.1 cA (va_nm_int (hK.2 0 _ rfl).2)
  subst e
  exact kk q H1 hK hP hD hS
theorem n_newL (C0 : Cx p s m args meth c cc own nL ret Ts) (hG : Bx G s) (hP : va_P (gD G) vwCl ws H) (hD : va_D A ws) (hS : va_S A H0 H locs) (hA : ∀ q, H0.size ≤ q → A q) {n : Int32} {N : Nat} (hc : Cond.arrayClass .long ∈ Ts) (hn : ¬ n < 0) (hN : n.toNatClampNeg = N) (hN2 : N ≤ 1000) (hcells : cells + 1 ≤ R.cells) (hslots : slots + N ≤ R.slots) (hd : decode cc pc = .ok (.newarray .long, 2))
    (kk : ∀ (q : Nat) (H1 : Heap), va_K (gD G) vwCl [(gL G, .long)] s → va_P (gD G) vwCl (ws ++ [(q, .inl (gL G, N, .inr (.inl (fun _ => 0))))]) H1 → va_D A (ws ++ [(q, .inl (gL G, N, .inr (.inl (fun _ => 0))))]) → va_S A H0 H1 locs → W p l e R s m args below meth c H1 locs (cells + 1) (slots + N) Q (F0 m (pc + 2) ls (.ref q :: rest))) : W p l e R s m args below meth c H locs cells slots Q (F0 m pc ls (.int n :: rest)) := by
  obtain ⟨hx, hb, hr, hts, hown, hml, hlk⟩ := C0
  refine va_newa (atype := .long) (ty := .long) (N' := N) (a0 := (N, .inr (.inl (fun _ => 0)))) hx hb (hts _ hc) rfl hG.1 hP hD hS hA (fun cA => rfl) hn hN (by show N * 8 ≤ _; omega) hcells hslots hd (fun q cA H1 hK hP hD hS => ?_)
  have e : cA = gL G := hG.2.2.1.2.1 cA (va_nm_long (hK.2 0 _ rfl).2)
  subst e
  exact kk q H1 hK hP hD hS
theorem n_newZ (C0 : Cx p s m args meth c cc own nL ret Ts) (hG : Bx G s) (hP : va_P (gD G) vwCl ws H) (hD : va_D A ws) (hS : va_S A H0 H locs) (hA : ∀ q, H0.size ≤ q → A q) {n : Int32} {N : Nat} (hc : Cond.arrayClass .boolean ∈ Ts) (hn : ¬ n < 0) (hN : n.toNatClampNeg = N) (hN2 : N ≤ 1000) (hcells : cells + 1 ≤ R.cells) (hslots : slots + N ≤ R.slots) (hd : decode cc pc = .ok (.newarray .boolean, 2))
    (kk : ∀ (q : Nat) (H1 : Heap), va_K (gD G) vwCl [(gZ G, .boolean)] s → va_P (gD G) vwCl (ws ++ [(q, .inl (gZ G, N, .inl (fun _ => 0)))]) H1 → va_D A (ws ++ [(q, .inl (gZ G, N, .inl (fun _ => 0)))]) → va_S A H0 H1 locs → W p l e R s m args below meth c H1 locs (cells + 1) (slots + N) Q (F0 m (pc + 2) ls (.ref q :: rest))) : W p l e R s m args below meth c H locs cells slots Q (F0 m pc ls (.int n :: rest)) := by
  obtain ⟨hx, hb, hr, hts, hown, hml, hlk⟩ := C0
  refine va_newa (atype := .boolean) (ty := .boolean) (N' := N) (a0 := (N, .inl (fun _ => 0))) hx hb (hts _ hc) rfl hG.1 hP hD hS hA (fun cA => rfl) hn hN (by show N * 1 ≤ _; omega) hcells hslots hd (fun q cA H1 hK hP hD hS => ?_)
  have e : cA = gZ G := hG.2.2.1.2.2.1 cA (va_nm_boolean (hK.2 0 _ rfl).2)
  subst e
  exact kk q H1 hK hP hD hS
theorem n_new (C0 : Cx p s m args meth c cc own nL ret Ts) (hG : Bx G s) (hP : va_P (gD G) vwCl ws H) (hD : va_D A ws) (hS : va_S A H0 H locs) (hA : ∀ q, H0.size ≤ q → A q) {C : String} {T : u_T} {N ci index : Nat} (hin : ∀ w ∈ u_ws C T N, w ∈ Ts) (ty : Nat → FieldType) (hty : ∀ k, k < N → parseFieldDescriptor (T k).2.2.1 = some (ty k)) (hcl : Cond.classLink own index C ∈ Ts) (hinst : Cond.instantiable C N ∈ Ts) (hini : Cond.initialized C ∈ Ts) (hc : vwCl[ci]? = some (C, T, N)) {fs : List Value} (hfs : ∀ j, j < N → defaultValue (ty j) = vp_V fs j) (hcells : cells + 1 ≤ R.cells) (hslots : slots + N ≤ R.slots) (hd : decode cc pc = .ok (.new index, 3))
    (kk : ∀ (q : Nat) (H1 : Heap), va_P (gD G) vwCl (ws ++ [(q, .inr (ci, fs))]) H1 → va_D A (ws ++ [(q, .inr (ci, fs))]) → va_S A H0 H1 locs → W p l e R s m args below meth c H1 locs (cells + 1) (slots + N) Q (F0 m (pc + 3) ls (.ref q :: rest))) : W p l e R s m args below meth c H locs cells slots Q (F0 m pc ls rest) := by
  obtain ⟨hx, hb, hr, hts, hown, hml, hlk⟩ := C0
  exact va_new hx hb hts hin ty hty hown (hts _ hcl) (hts _ hinst) (hts _ hini) hG.1 hP hD hS hA hc hfs hcells hslots hd kk
theorem n_call {S : Type} (C0 : Cx p s m args meth c cc own nL ret Ts) (hG : Bx G s) {y : MethodName} {ws2 ws' : List Cond} {rm : Room} {wc : va_W} {w1 : S → va_W} {tys : List (ClassId × FieldType)} {mc ms b index maxL n : Nat} {As st0 : List Value} {bytes : ByteArray} {lv : List (Nat × Value)} (hP : va_P (gD G) vwCl (ws ++ wc) H) (hD : va_D A (ws ++ wc)) (hS : va_S A H0 H locs) (hA : ∀ q, H0.size ≤ q → A q) (hM : ∀ sz, Met l y ws2 rm (NPc G wc sz (.ref b :: As)) (NQv G w1 tys wc sz) mc ms (va_A wc sz))
    (hGd : GoodIn Ts ws2) (hw : ws2 = Cond.code y bytes maxL none :: ws') (hrc : rm.cells = mc) (hrs : rm.slots = ms) (hini : Cond.initialized y.cls ∈ Ts) (hml2 : Cond.methodLink own index y ∈ Ts) (him : Cond.instanceMethod y ∈ Ts) (hy1 : y.name = "<init>") (hdv : y.cls ≠ "java/lang/invoke/MethodHandle" ∧ y.cls ≠ "java/lang/invoke/VarHandle" ∧ (parseMethodDescriptor y.desc).map (fun d => d.parameters.length) = some n) (hR : rm.frames + 1 ≤ R.frames ∧ 8 + (maxL + 11) + rm.locals ≤ R.locals) (hn : As.length = n) (hst : st0 = As.reverse ++ .ref b :: rest) (hl : lv_has ls nL lv) (hroom : (rest.map fun v => v.category).sum ≤ 8) (hd : decode cc pc = .ok (.invokespecial index, 3)) (hRc : cells + mc ≤ R.cells ∧ slots + ms ≤ R.slots)
    (kk : ∀ (u : S) (H1 : Heap) (locs1 : List Loc), va_P (gD G) vwCl (ws ++ w1 u) H1 → va_D A (ws ++ w1 u) → va_S A H0 H1 locs1 → va_K (gD G) vwCl tys s → W p l e R s m args below meth c H1 locs1 (cells + mc) (slots + ms) Q (F0 m (pc + 3) ls rest)) : W p l e R s m args below meth c H locs cells slots Q (F0 m pc ls st0) := by
  obtain ⟨hx, hb, hr, hts, hown, hml, hlk⟩ := C0
  have hFc := n_free hD hS hA
  have hPc : va_P (gD G) vwCl wc H := hP.by (fun k => ws.length + k) (fun k q hq => by rw [List.getElem?_append_right (by omega), show ws.length + k - ws.length = k by omega]; exact hq)
  have hDc : va_D (fun _ => True) wc := ⟨fun i j a b ha hb h => by
    have := hD.1 (ws.length + i) (ws.length + j) a b (by rw [List.getElem?_append_right (by omega), show ws.length + i - ws.length = i by omega]; exact ha) (by rw [List.getElem?_append_right (by omega), show ws.length + j - ws.length = j by omega]; exact hb) h
    omega, fun _ _ _ => trivial⟩
  refine va_callv (va_runI (g := F0 m pc ls st0) (nL := nL) (cc := cc) ⟨hx, hb, hml, hown, hts⟩ (hM H.size) (cwI n hts hGd hw hrc hrs (hts _ hini) (hts _ hml2) (hts _ him) hy1 hdv hR) ⟨NPc.blind, fun U hU hW => ⟨rfl, by rw [hU], by rw [hU]; exact hPc, hDc, hG.warm hW⟩⟩ rfl hn hl.1 hst (lv_room (m := m) (pc := pc) (ls := ls) (rest := st0) hroom) hd hRc) hS (fun q _ h => hFc q h) hFc (fun u t H1 locs1 ht hvm _ hB hz1 hk1 hS => ?_)
  obtain ⟨hP1, hD1, hK1⟩ := hB
  rw [ht] at hP1
  obtain ⟨hP, hD⟩ := n_join hP hD hk1 hFc hP1 hD1
  exact kk u H1 locs1 hP hD hS (va_K.moved hvm.symm hK1)
theorem n_callN {S : Type} (C0 : Cx p s m args meth c cc own nL ret Ts) (hG : Bx G s) {y : MethodName} {ws2 ws' : List Cond} {rm : Room} {wc : va_W} {w1 : S → va_W} {tys : List (ClassId × FieldType)} {mc ms b index maxL n : Nat} {As st0 : List Value} {bytes : ByteArray} {lv : List (Nat × Value)} (hP : va_P (gD G) vwCl (ws ++ wc) H) (hD : va_D A (ws ++ wc)) (hS : va_S A H0 H locs) (hA : ∀ q, H0.size ≤ q → A q) (hM : ∀ sz, Met l y ws2 rm (NPc G wc sz (.ref b :: As)) (NQv G w1 tys wc sz) mc ms (va_A wc sz))
    (hGd : GoodIn Ts ws2) (hw : ws2 = Cond.code y bytes maxL none :: ws') (hrc : rm.cells = mc) (hrs : rm.slots = ms) (hini : Cond.initialized y.cls ∈ Ts) (hnw : (own, index, y) ∈ nwM) (him : Cond.instanceMethod y ∈ Ts) (hy1 : y.name = "<init>") (hdv : y.cls ≠ "java/lang/invoke/MethodHandle" ∧ y.cls ≠ "java/lang/invoke/VarHandle" ∧ (parseMethodDescriptor y.desc).map (fun d => d.parameters.length) = some n) (hR : rm.frames + 1 ≤ R.frames ∧ 8 + (maxL + 11) + rm.locals ≤ R.locals) (hn : As.length = n) (hst : st0 = As.reverse ++ .ref b :: rest) (hl : lv_has ls nL lv) (hroom : (rest.map fun v => v.category).sum ≤ 8) (hd : decode cc pc = .ok (.invokespecial index, 3)) (hRc : cells + mc ≤ R.cells ∧ slots + ms ≤ R.slots)
    (kk : ∀ (u : S) (H1 : Heap) (locs1 : List Loc), va_P (gD G) vwCl (ws ++ w1 u) H1 → va_D A (ws ++ w1 u) → va_S A H0 H1 locs1 → va_K (gD G) vwCl tys s → W p l e R s m args below meth c H1 locs1 (cells + mc) (slots + ms) Q (F0 m (pc + 3) ls rest)) : W p l e R s m args below meth c H locs cells slots Q (F0 m pc ls st0) := by
  obtain ⟨hx, hb, hr, hts, hown, hml, hlk⟩ := C0
  have hFc := n_free hD hS hA
  have hPc : va_P (gD G) vwCl wc H := hP.by (fun k => ws.length + k) (fun k q hq => by rw [List.getElem?_append_right (by omega), show ws.length + k - ws.length = k by omega]; exact hq)
  have hDc : va_D (fun _ => True) wc := ⟨fun i j a b ha hb h => by
    have := hD.1 (ws.length + i) (ws.length + j) a b (by rw [List.getElem?_append_right (by omega), show ws.length + i - ws.length = i by omega]; exact ha) (by rw [List.getElem?_append_right (by omega), show ws.length + j - ws.length = j by omega]; exact hb) h
    omega, fun _ _ _ => trivial⟩
  refine va_callv (va_runIN (g := F0 m pc ls st0) (nL := nL) (cc := cc) ⟨hx, hb, hml, hown, hts⟩ (hM H.size) ⟨va_cnB n hts hGd hw hrc hrs (hG.2.1.2 _ hnw) (hts _ hini) hdv hR, hy1, hts _ him⟩ ⟨NPc.blind, fun U hU hW => ⟨rfl, by rw [hU], by rw [hU]; exact hPc, hDc, hG.warm hW⟩⟩ rfl hn hl.1 hst (lv_room (m := m) (pc := pc) (ls := ls) (rest := st0) hroom) hd hRc) hS (fun q _ h => hFc q h) hFc (fun u t H1 locs1 ht hvm _ hB hz1 hk1 hS => ?_)
  obtain ⟨hP1, hD1, hK1⟩ := hB
  rw [ht] at hP1
  obtain ⟨hP, hD⟩ := n_join hP hD hk1 hFc hP1 hD1
  exact kk u H1 locs1 hP hD hS (va_K.moved hvm.symm hK1)
/-- a final field of the object that is made, the first of the cells -/
theorem n_putF (C0 : Cx p s m args meth c cc own nL ret Ts) (hin2 : meth.name = "<init>") (hG : Bx G s) {wr : va_W} {a : Nat} {C : String} {T : u_T} {N ci index : Nat} {fs : List Value} (hP : va_P (gD G) vwCl ((a, .inr (ci, fs)) :: wr) H) (hD : va_D A ((a, .inr (ci, fs)) :: wr)) (hS : va_S A H0 H locs) (hc : vwCl[ci]? = some (C, T, N)) (k : Nat) (hk : k < N) (hin : ∀ w ∈ u_ws C T N, w ∈ Ts) (hlink : Cond.fieldLink own index (T k).1 (T k).2.1 (T k).2.2.1 ∈ Ts) (ty0 : Nat → FieldType) (hty : ∀ k, k < N → parseFieldDescriptor (T k).2.2.1 = some (ty0 k)) (hnm : ∀ a, a < N → ∀ b, b < N → a ≠ b → (T a).2.1 ≠ (T b).2.1) (hfin : (T k).2.2.2 = true) (hdecl : (T k).1 = own) {v : Value} (hn : narrow (ty0 k) v = v) (hfit : fits (ty0 k) v = true) (hl : k < fs.length) (hd : decode cc pc = .ok (.putfield index, 3))
    (kk : ∀ (H1 : Heap) (locs1 : List Loc), va_P (gD G) vwCl ((a, .inr (ci, fs.set k v)) :: wr) H1 → va_D A ((a, .inr (ci, fs.set k v)) :: wr) → va_S A H0 H1 locs1 → W p l e R s m args below meth c H1 locs1 cells slots Q (F0 m (pc + 3) ls rest)) : W p l e R s m args below meth c H locs cells slots Q (F0 m pc ls (v :: .ref a :: rest)) := by
  obtain ⟨hx, hb, hr, hts, hown, hml, hlk⟩ := C0
  exact va_putF hx hb hts hin ty0 hty hnm hown hG.1 hP hD hS 0 rfl hc k hk (hts _ hlink) (fun _ h => h) hfin hin2 hdecl (hty k hk) hn hfit hl hd kk
theorem n_put (C0 : Cx p s m args meth c cc own nL ret Ts) (hG : Bx G s) {wr : va_W} {a : Nat} {C : String} {T : u_T} {N ci index : Nat} {fs : List Value} (hP : va_P (gD G) vwCl ((a, .inr (ci, fs)) :: wr) H) (hD : va_D A ((a, .inr (ci, fs)) :: wr)) (hS : va_S A H0 H locs) (hc : vwCl[ci]? = some (C, T, N)) (k : Nat) (hk : k < N) (hin : ∀ w ∈ u_ws C T N, w ∈ Ts) (hlink : Cond.fieldLink own index (T k).1 (T k).2.1 (T k).2.2.1 ∈ Ts) (ty0 : Nat → FieldType) (hty : ∀ k, k < N → parseFieldDescriptor (T k).2.2.1 = some (ty0 k)) (hnm : ∀ a, a < N → ∀ b, b < N → a ≠ b → (T a).2.1 ≠ (T b).2.1) (hfin : (T k).2.2.2 = false) {v : Value} (hn : narrow (ty0 k) v = v) (hfit : fits (ty0 k) v = true) (hl : k < fs.length) (hd : decode cc pc = .ok (.putfield index, 3))
    (kk : ∀ (H1 : Heap) (locs1 : List Loc), va_P (gD G) vwCl ((a, .inr (ci, fs.set k v)) :: wr) H1 → va_D A ((a, .inr (ci, fs.set k v)) :: wr) → va_S A H0 H1 locs1 → W p l e R s m args below meth c H1 locs1 cells slots Q (F0 m (pc + 3) ls rest)) : W p l e R s m args below meth c H locs cells slots Q (F0 m pc ls (v :: .ref a :: rest)) := by
  obtain ⟨hx, hb, hr, hts, hown, hml, hlk⟩ := C0
  exact va_put hx hb hts hin ty0 hty hnm hown hG.1 hP hD hS 0 rfl hc k hk (hts _ hlink) (fun _ h => h) hfin (hty k hk) hn hfit hl hd kk
theorem n_ret {S : Type} (C0 : Cx p s m args meth c cc own nL none Ts) {w1 : S → va_W} {w0 : va_W} {tys : List (ClassId × FieldType)} (u : S) (hP : va_P (gD G) vwCl (w1 u) H) (hD : va_D (va_A w0 s.heap.size) (w1 u)) (hS : va_S (va_A w0 s.heap.size) s.heap H locs) (hK : va_K (gD G) vwCl tys s) (hd : decode cc pc = .ok (.return_, 1)) : W p l e R s m args below meth c H locs cells slots (MQ below (NQv G w1 tys w0 s.heap.size) args s cells slots (va_A w0 s.heap.size)) (F0 m pc ls []) := by
  obtain ⟨hx, hb, hr, hts, hown, hml, hlk⟩ := C0
  exact W.vret hx hb hr (fun t ht hW => ⟨⟨u, rfl, trivial, by rw [ht]; exact hP, hD, va_K.moved hW.alike hK⟩, hS.F ht⟩) hS.2.2 hd hlk
end NRows
theorem va_K.two {D : va_G} {cl : List vw_C} {t1 t2 : List (ClassId × FieldType)} {U : State} (h1 : va_K D cl t1 U) (h2 : va_K D cl t2 U) : va_K D cl (t1 ++ t2) U := h1.app h2

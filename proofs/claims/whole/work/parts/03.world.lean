/-! ===== the world of one system: its cells by number, all its numbers in two maps ===== -/
abbrev GT : Type := (Nat → Nat) × (Nat → ClassId) × (Nat → Nat → Nat) × ClassId × ClassId × ClassId × ClassId
abbrev ST : Type := (Nat → Nat → Int32) × (Nat → Nat → Int64)
def aD (G : GT) (k : Nat) : Nat := G.1 k
def gD (G : GT) : va_G := (G.2.1, G.2.2.1)
def gI (G : GT) : ClassId := G.2.2.2.1
def gL (G : GT) : ClassId := G.2.2.2.2.1
def gZ (G : GT) : ClassId := G.2.2.2.2.2.1
def gO (G : GT) : ClassId := G.2.2.2.2.2.2
def gT (G : GT) : List (ClassId × FieldType) := [(gI G, .int), (gL G, .long), (gZ G, .boolean), (gO G, .object "GoneOverboard$Scene")]
abbrev CT : Type := GT → (Nat → Int32) → (Nat → Int64) → Nat → va_E
def wsG (cell : CT) (K : Nat) (G : GT) (σ : ST) : va_W := (List.range K).map (fun k => (aD G k, cell G (σ.1 k) (σ.2 k) k))
def gA (K : Nat) (G : GT) : Nat → Prop := fun q => ∃ k, k < K ∧ q = aD G k
def gJ (K : Nat) (G : GT) : Prop := ∀ i j, i < K → j < K → aD G i = aD G j → i = j
def nwF : List (String × Nat × String × String × String) := [("GoneOverboard$Scene", 75, "GoneOverboard$Told", "on", "I"), ("GoneOverboard", 240, "GoneOverboard$Told", "on", "I"), ("GoneOverboard$Scene", 78, "GoneOverboard$Told", "back", "I"), ("GoneOverboard", 243, "GoneOverboard$Told", "back", "I"), ("GoneOverboard$Ahead", 100, "GoneOverboard$Told", "sees", "I"), ("GoneOverboard", 246, "GoneOverboard$Told", "sees", "I"), ("GoneOverboard", 249, "GoneOverboard$Told", "finds", "I"), ("GoneOverboard$Scene", 28, "GoneOverboard$Told", "begin", "I"), ("GoneOverboard", 265, "GoneOverboard$Told", "begin", "I"), ("GoneOverboard", 99, "GoneOverboard$Told", "lasts", "I"), ("GoneOverboard$Scene", 81, "GoneOverboard$Told", "lasts", "I"), ("GoneOverboard$Ahead", 78, "GoneOverboard$Told", "secondCell", "I"), ("GoneOverboard", 188, "GoneOverboard$Told", "secondCell", "I"), ("GoneOverboard$Ahead", 90, "GoneOverboard$Told", "secondStep", "I"), ("GoneOverboard", 109, "GoneOverboard$Scene", "ship", "I"), ("GoneOverboard", 96, "GoneOverboard$Scene", "step", "I"), ("GoneOverboard$Ahead", 87, "GoneOverboard$Scene", "step", "I"), ("GoneOverboard", 115, "GoneOverboard$Scene", "heard", "I"), ("GoneOverboard$Ahead", 48, "GoneOverboard$Best", "found", "J"), ("GoneOverboard", 170, "GoneOverboard$Best", "found", "J"), ("GoneOverboard", 176, "GoneOverboard$Best", "row", "I"), ("GoneOverboard", 185, "GoneOverboard$Ahead", "sea", "LGoneOverboard$Best;"), ("GoneOverboard", 181, "GoneOverboard$Ahead", "aboard", "LGoneOverboard$Best;"), ("GoneOverboard", 194, "GoneOverboard$Ahead", "both", "LGoneOverboard$Best;"), ("GoneOverboard", 228, "GoneOverboard$Draws", "state", "J")]
def nwM : List (String × Nat × MethodName) := [("GoneOverboard$Ahead", 22, yX1_init), ("GoneOverboard", 54, yX2_init), ("GoneOverboard$Told", 61, yX8_isWithin), ("GoneOverboard$Scene", 51, yX8_moved), ("GoneOverboard$Scene", 86, yX8_isWithin), ("GoneOverboard$Ahead", 93, yX8_moved), ("GoneOverboard$Told", 72, yX8_moved)]
/-- the words on nest mates, which a method's own words can't hold -/
def nwOK (U : State) : Prop := (∀ q ∈ nwF, va_Nw (.fieldLinkNest q.1 q.2.1 q.2.2.1 q.2.2.2.1 q.2.2.2.2 "GoneOverboard") U) ∧ ∀ q ∈ nwM, va_Nw (.methodLinkNest q.1 q.2.1 q.2.2 "GoneOverboard") U
theorem nwOK.warm {s U : State} (hW : s.WarmedH U.vm) (h : nwOK s) : nwOK U := ⟨fun q hq => va_Nw.warmF hW (h.1 q hq), fun q hq => va_Nw.warmM hW (h.2 q hq)⟩
theorem nwOK.same {u U : State} (hv : u.vm = U.vm) (h : nwOK u) : nwOK U := ⟨fun q hq => va_Nw.same rfl hv (h.1 q hq), fun q hq => va_Nw.same rfl hv (h.2 q hq)⟩
def Gx (G : GT) (U : State) : Prop := va_K (gD G) vwCl (gT G) U ∧ nwOK U
theorem Gx.warm {G : GT} {s U : State} (hW : s.WarmedH U.vm) (h : Gx G s) : Gx G U := ⟨va_K.moved hW.alike h.1, h.2.warm hW⟩
theorem Gx.same {G : GT} {u U : State} (hv : u.vm = U.vm) (h : Gx G u) : Gx G U := ⟨va_K.moved (by rw [← hv]; exact Vm.Alike.refl u.vm) h.1, h.2.same hv⟩
def Wd (cell : CT) (K : Nat) (G : GT) (H0 : Heap) (σ : ST) (H : Heap) (locs : List Loc) : Prop := va_P (gD G) vwCl (wsG cell K G σ) H ∧ va_S (gA K G) H0 H locs
def pI (σ : ST) (k j : Nat) (v : Int32) : ST := (fun k' => if k' = k then upd (σ.1 k) j v else σ.1 k', σ.2)
def pL (σ : ST) (k j : Nat) (v : Int64) : ST := (σ.1, fun k' => if k' = k then vp_updL (σ.2 k) j v else σ.2 k')
theorem pI_1 {σ : ST} {k j : Nat} {v : Int32} : (pI σ k j v).1 k = upd (σ.1 k) j v := by simp [pI]
theorem pI_2 {σ : ST} {k j : Nat} {v : Int32} : (pI σ k j v).2 = σ.2 := rfl
theorem pI_n {σ : ST} {k j : Nat} {v : Int32} {k' : Nat} (h : k' ≠ k) : (pI σ k j v).1 k' = σ.1 k' := by simp [pI, h]
theorem pL_1 {σ : ST} {k j : Nat} {v : Int64} : (pL σ k j v).2 k = vp_updL (σ.2 k) j v := by simp [pL]
theorem pL_2 {σ : ST} {k j : Nat} {v : Int64} : (pL σ k j v).1 = σ.1 := rfl
theorem pL_n {σ : ST} {k j : Nat} {v : Int64} {k' : Nat} (h : k' ≠ k) : (pL σ k j v).2 k' = σ.2 k' := by simp [pL, h]
theorem wsG_at {cell : CT} {K : Nat} {G : GT} {σ : ST} {k : Nat} (h : k < K) : (wsG cell K G σ)[k]? = some (aD G k, cell G (σ.1 k) (σ.2 k) k) := by
  simp [wsG, List.getElem?_map, List.getElem?_range h]
theorem wsG_in {cell : CT} {K : Nat} {G : GT} {σ : ST} {k : Nat} {q : Nat × va_E} (h : (wsG cell K G σ)[k]? = some q) : k < K ∧ q = (aD G k, cell G (σ.1 k) (σ.2 k) k) := by
  have hk : k < K := by
    have := (List.getElem?_eq_some_iff.mp h).1
    simpa [wsG] using this
  rw [wsG_at hk] at h
  exact ⟨hk, (Option.some.inj h).symm⟩
theorem wsG_set {cell : CT} {K : Nat} {G : GT} {σ σ' : ST} {k : Nat} {x : va_E} (hk : k < K) (h1 : ∀ k', k' ≠ k → σ'.1 k' = σ.1 k' ∧ σ'.2 k' = σ.2 k') (he : cell G (σ'.1 k) (σ'.2 k) k = x) : (wsG cell K G σ).set k (aD G k, x) = wsG cell K G σ' := by
  apply List.ext_getElem?
  intro i
  by_cases hi : i < K
  · by_cases hik : k = i
    · subst hik
      rw [wsG_at hk, List.getElem?_set_self (by simpa [wsG] using hk), he]
    · rw [List.getElem?_set_ne hik, wsG_at hi, wsG_at hi, (h1 i (Ne.symm hik)).1, (h1 i (Ne.symm hik)).2]
  · rw [List.getElem?_eq_none (by simpa [wsG] using hi), List.getElem?_eq_none (by simpa [wsG] using hi)]
theorem wsG_D {cell : CT} {K : Nat} {G : GT} (hJ : gJ K G) (σ : ST) : va_D (gA K G) (wsG cell K G σ) := by
  refine ⟨fun i j p q hp hq h => ?_, fun k q hq => ?_⟩
  · obtain ⟨h1, rfl⟩ := wsG_in hp
    obtain ⟨h2, rfl⟩ := wsG_in hq
    exact hJ i j h1 h2 h
  · obtain ⟨h1, rfl⟩ := wsG_in hq
    exact ⟨k, h1, rfl⟩
/-! what a method may take for granted while it runs -/
def Cx (p : Program) (s : State) (m : MethodId) (args : Array Value) (meth : Method) (c : Code) (cc : ByteArray) (own : String) (nL : Nat) (ret : Option FieldType) (Ts : List Cond) : Prop :=
  p.tables.exec = Jvm.exec ∧ c.code = cc ∧ meth.sig.returnType = ret ∧ (∀ w ∈ Ts, w.before args s = true) ∧ s.vm.findClass own = some m.cls ∧ c.maxLocals = nL ∧ meth.locks = false
def XPc (cell : CT) (K : Nat) (G : GT) (σ : ST) (av : List Value) : Array Value → State → Prop := va_Pc av (fun U => va_P (gD G) vwCl (wsG cell K G σ) U.heap ∧ Gx G U)
theorem XPc.blind {cell : CT} {K : Nat} {G : GT} {σ : ST} {av : List Value} : FrameBlind (XPc cell K G σ av) := fun _ U g mk q => ⟨q.1, q.2.1, Gx.same (u := U) rfl q.2.2⟩
def XQi (cell : CT) (K : Nat) (G : GT) (r : Int32) (σ : ST) : Array Value → State → Outcome → State → Prop := va_Qi (S := Unit) (fun x _ => x = r) (fun _ t => va_P (gD G) vwCl (wsG cell K G σ) t.heap) (gA K G)
def XQl (cell : CT) (K : Nat) (G : GT) (r : Int64) (σ : ST) : Array Value → State → Outcome → State → Prop := va_Ql (S := Unit) (fun x _ => x = r) (fun _ t => va_P (gD G) vwCl (wsG cell K G σ) t.heap) (gA K G)
def XQv (cell : CT) (K : Nat) (G : GT) (σ : ST) : Array Value → State → Outcome → State → Prop := va_Qv (S := Unit) (fun _ => True) (fun _ t => va_P (gD G) vwCl (wsG cell K G σ) t.heap) (gA K G)
def XQr (cell : CT) (K : Nat) (G : GT) (r : Option Nat) (σ : ST) : Array Value → State → Outcome → State → Prop := va_Qq (S := Unit) (fun x _ => x = r.map (aD G)) (fun _ t => va_P (gD G) vwCl (wsG cell K G σ) t.heap) (gA K G)
/-! the words of the pure picture -/
def gd {α : Type} (b : Bool) (x : Option α) : Option α := if b = true then x else none
def bd {α β : Type} (x : Option α) (f : α → Option β) : Option β := match x with
  | none => none
  | some a => f a
theorem gd_some {α : Type} {b : Bool} {x : Option α} {r : α} (h : gd b x = some r) : b = true ∧ x = some r := by
  unfold gd at h
  by_cases hb : b = true
  · rw [if_pos hb] at h; exact ⟨hb, h⟩
  · rw [if_neg hb] at h; cases h
theorem bd_some {α β : Type} {x : Option α} {f : α → Option β} {r : β} (h : bd x f = some r) : ∃ a, x = some a ∧ f a = some r := by
  cases x with
  | none => cases h
  | some a => exact ⟨a, rfl, h⟩
def inb (i : Int32) (n : Nat) : Bool := !(decide (i < 0)) && decide (i.toNatClampNeg < n)
theorem inb_vp {i : Int32} {n : Nat} (h : inb i n = true) : vp_in i n := by
  simp [inb] at h
  intro q
  rcases q with q | q
  · exact absurd h.1 (Int32.not_le.mpr q)
  · omega
def nz (y : Int32) : Bool := !(decide (y = 0))
def nzL (y : Int64) : Bool := !(decide (y = 0))
theorem nz_of {y : Int32} (h : nz y = true) : ¬ y = 0 := by simpa [nz] using h
theorem nzL_of {y : Int64} (h : nzL y = true) : ¬ y = 0 := by simpa [nzL] using h
def zok (x : Int32) : Bool := decide (x = 0 ∨ x = 1)
theorem zok_n {x : Int32} (h : zok x = true) : narrow .boolean (.int x) = .int x := by
  rcases (of_decide_eq_true h : x = 0 ∨ x = 1) with rfl | rfl <;> rfl
theorem zok_f {x : Int32} (h : zok x = true) : fits .boolean (.int x) = true := by
  rcases (of_decide_eq_true h : x = 0 ∨ x = 1) with rfl | rfl <;> rfl
section XRows
variable {p : Program} {l : Launch} {e : Env} {R : Room} {s : State} {m : MethodId} {args : Array Value} {below : List Frame} {meth : Method} {c : Code} {H : Heap} {locs : List Loc} {cells slots : Nat} {Q : State → Prop}
variable {cell : CT} {K : Nat} {G : GT} {σ σ' : ST} {cc : ByteArray} {own : String} {nL : Nat} {ret : Option FieldType} {Ts : List Cond} {pc : Nat} {ls : Array Slot} {rest : List Value}
/-- a field is read -/
theorem x_get (C0 : Cx p s m args meth c cc own nL ret Ts) (G0 : Gx G s) (hW : Wd cell K G s.heap σ H locs) {C : String} {T : u_T} {N ci index k : Nat} {fs : List Value} (hcell : cell G (σ.1 k) (σ.2 k) k = .inr (ci, fs)) (hk : k < K) (hc : vwCl[ci]? = some (C, T, N)) (j : Nat) (hj : j < N) (hin : ∀ w ∈ u_ws C T N, w ∈ Ts) (hlink : Cond.fieldLink own index (T j).1 (T j).2.1 (T j).2.2.1 ∈ Ts) {v : Value} (hv : fs[j]? = some v) (hd : decode cc pc = .ok (.getfield index, 3)) (kk : W p l e R s m args below meth c H locs cells slots Q (F0 m (pc + 3) ls (v :: rest))) : W p l e R s m args below meth c H locs cells slots Q (F0 m pc ls (.ref (aD G k) :: rest)) := by
  obtain ⟨hx, hb, -, hts, hown, -, -⟩ := C0
  exact va_get hx hb hts hin hown G0.1 hW.1 k (by rw [wsG_at hk, hcell]) hc j hj (hts _ hlink) (fun _ h => h) hv hd kk
/-- a nest mate's private field is read -/
theorem x_getN (C0 : Cx p s m args meth c cc own nL ret Ts) (G0 : Gx G s) (hW : Wd cell K G s.heap σ H locs) {C : String} {T : u_T} {N ci index k : Nat} {fs : List Value} (hcell : cell G (σ.1 k) (σ.2 k) k = .inr (ci, fs)) (hk : k < K) (hc : vwCl[ci]? = some (C, T, N)) (j : Nat) (hj : j < N) (hin : ∀ w ∈ u_ws C T N, w ∈ Ts) (hlink : (own, index, (T j).1, (T j).2.1, (T j).2.2.1) ∈ nwF) {v : Value} (hv : fs[j]? = some v) (hd : decode cc pc = .ok (.getfield index, 3)) (kk : W p l e R s m args below meth c H locs cells slots Q (F0 m (pc + 3) ls (v :: rest))) : W p l e R s m args below meth c H locs cells slots Q (F0 m pc ls (.ref (aD G k) :: rest)) := by
  obtain ⟨hx, hb, -, hts, hown, -, -⟩ := C0
  exact va_getN hx hb hts hin hown G0.1 hW.1 k (by rw [wsG_at hk, hcell]) hc j hj (va_Nw.use rfl (G0.2.1 _ hlink)) (fun _ h => h) hv hd kk
/-- a field is written -/
theorem x_put (C0 : Cx p s m args meth c cc own nL ret Ts) (G0 : Gx G s) (hJ : gJ K G) (hW : Wd cell K G s.heap σ H locs) {C : String} {T : u_T} {N ci index k : Nat} {fs : List Value} (hcell : cell G (σ.1 k) (σ.2 k) k = .inr (ci, fs)) (hk : k < K) (hc : vwCl[ci]? = some (C, T, N)) (j : Nat) (hj : j < N) (hin : ∀ w ∈ u_ws C T N, w ∈ Ts) (hlink : Cond.fieldLink own index (T j).1 (T j).2.1 (T j).2.2.1 ∈ Ts) (ty0 : Nat → FieldType) (hty : ∀ k, k < N → parseFieldDescriptor (T k).2.2.1 = some (ty0 k)) (hnm : ∀ a, a < N → ∀ b, b < N → a ≠ b → (T a).2.1 ≠ (T b).2.1) (hfin : (T j).2.2.2 = false) {v : Value} (hn : narrow (ty0 j) v = v) (hfit : fits (ty0 j) v = true) (hl : j < fs.length)
    (h1 : ∀ k', k' ≠ k → σ'.1 k' = σ.1 k' ∧ σ'.2 k' = σ.2 k') (h2 : cell G (σ'.1 k) (σ'.2 k) k = .inr (ci, fs.set j v)) (hd : decode cc pc = .ok (.putfield index, 3)) (kk : ∀ (H : Heap) (locs : List Loc), Wd cell K G s.heap σ' H locs → W p l e R s m args below meth c H locs cells slots Q (F0 m (pc + 3) ls rest)) : W p l e R s m args below meth c H locs cells slots Q (F0 m pc ls (v :: .ref (aD G k) :: rest)) := by
  obtain ⟨hx, hb, -, hts, hown, -, -⟩ := C0
  refine va_put hx hb hts hin ty0 hty hnm hown G0.1 hW.1 (wsG_D hJ σ) hW.2 k (by rw [wsG_at hk, hcell]) hc j hj (hts _ hlink) (fun _ h => h) hfin (hty j hj) hn hfit hl hd (fun H1 locs1 hP _ hS => kk H1 locs1 ⟨?_, hS⟩)
  rw [wsG_set hk h1 h2] at hP
  exact hP
/-- a number of an int field, as a new map -/
theorem x_putI (C0 : Cx p s m args meth c cc own nL ret Ts) (G0 : Gx G s) (hJ : gJ K G) (hW : Wd cell K G s.heap σ H locs) {C : String} {T : u_T} {N ci index k : Nat} {fs : List Value} (hcell : cell G (σ.1 k) (σ.2 k) k = .inr (ci, fs)) (hk : k < K) (hc : vwCl[ci]? = some (C, T, N)) (j : Nat) (hj : j < N) (hin : ∀ w ∈ u_ws C T N, w ∈ Ts) (hlink : Cond.fieldLink own index (T j).1 (T j).2.1 (T j).2.2.1 ∈ Ts) (ty0 : Nat → FieldType) (hty : ∀ k, k < N → parseFieldDescriptor (T k).2.2.1 = some (ty0 k)) (hnm : ∀ a, a < N → ∀ b, b < N → a ≠ b → (T a).2.1 ≠ (T b).2.1) (hfin : (T j).2.2.2 = false) {v : Int32} (hn : narrow (ty0 j) (.int v) = .int v) (hfit : fits (ty0 j) (.int v) = true) (hl : j < fs.length)
    (h2 : cell G (upd (σ.1 k) j v) (σ.2 k) k = .inr (ci, fs.set j (.int v))) (hd : decode cc pc = .ok (.putfield index, 3)) (kk : ∀ (H : Heap) (locs : List Loc), Wd cell K G s.heap (pI σ k j v) H locs → W p l e R s m args below meth c H locs cells slots Q (F0 m (pc + 3) ls rest)) : W p l e R s m args below meth c H locs cells slots Q (F0 m pc ls (.int v :: .ref (aD G k) :: rest)) :=
  x_put (σ' := pI σ k j v) C0 G0 hJ hW hcell hk hc j hj hin hlink ty0 hty hnm hfin hn hfit hl (fun k' h => ⟨pI_n h, rfl⟩) (by rw [pI_1, pI_2]; exact h2) hd kk
theorem x_putL (C0 : Cx p s m args meth c cc own nL ret Ts) (G0 : Gx G s) (hJ : gJ K G) (hW : Wd cell K G s.heap σ H locs) {C : String} {T : u_T} {N ci index k : Nat} {fs : List Value} (hcell : cell G (σ.1 k) (σ.2 k) k = .inr (ci, fs)) (hk : k < K) (hc : vwCl[ci]? = some (C, T, N)) (j : Nat) (hj : j < N) (hin : ∀ w ∈ u_ws C T N, w ∈ Ts) (hlink : Cond.fieldLink own index (T j).1 (T j).2.1 (T j).2.2.1 ∈ Ts) (ty0 : Nat → FieldType) (hty : ∀ k, k < N → parseFieldDescriptor (T k).2.2.1 = some (ty0 k)) (hnm : ∀ a, a < N → ∀ b, b < N → a ≠ b → (T a).2.1 ≠ (T b).2.1) (hfin : (T j).2.2.2 = false) {v : Int64} (hn : narrow (ty0 j) (.long v) = .long v) (hfit : fits (ty0 j) (.long v) = true) (hl : j < fs.length)
    (h2 : cell G (σ.1 k) (vp_updL (σ.2 k) j v) k = .inr (ci, fs.set j (.long v))) (hd : decode cc pc = .ok (.putfield index, 3)) (kk : ∀ (H : Heap) (locs : List Loc), Wd cell K G s.heap (pL σ k j v) H locs → W p l e R s m args below meth c H locs cells slots Q (F0 m (pc + 3) ls rest)) : W p l e R s m args below meth c H locs cells slots Q (F0 m pc ls (.long v :: .ref (aD G k) :: rest)) :=
  x_put (σ' := pL σ k j v) C0 G0 hJ hW hcell hk hc j hj hin hlink ty0 hty hnm hfin hn hfit hl (fun k' h => ⟨rfl, pL_n h⟩) (by rw [pL_1, pL_2]; exact h2) hd kk
/-! arrays -/
theorem x_alen (C0 : Cx p s m args meth c cc own nL ret Ts) (G0 : Gx G s) (hW : Wd cell K G s.heap σ H locs) {k : Nat} {cA : ClassId} {x : vp_A} {ty : FieldType} (t0 : Nat) (hcell : cell G (σ.1 k) (σ.2 k) k = .inl (cA, x)) (hk : k < K) (ht : (gT G)[t0]? = some (cA, ty)) {v : Int32} (hv : Int32.ofNat x.1 = v) (hd : decode cc pc = .ok (.arraylength, 1)) (kk : W p l e R s m args below meth c H locs cells slots Q (F0 m (pc + 1) ls (.int v :: rest))) : W p l e R s m args below meth c H locs cells slots Q (F0 m pc ls (.ref (aD G k) :: rest)) :=
  va_alen C0.1 C0.2.1 G0.1 hW.1 k t0 (by rw [wsG_at hk, hcell]) ht hv hd kk
theorem x_iald (C0 : Cx p s m args meth c cc own nL ret Ts) (G0 : Gx G s) (hW : Wd cell K G s.heap σ H locs) {k n : Nat} (hcell : cell G (σ.1 k) (σ.2 k) k = .inl (gI G, n, .inl (σ.1 k))) (hk : k < K) {i : Int32} (hi : inb i n = true) (hd : decode cc pc = .ok (.iaload, 1)) (kk : W p l e R s m args below meth c H locs cells slots Q (F0 m (pc + 1) ls (.int (σ.1 k i.toNatClampNeg) :: rest))) : W p l e R s m args below meth c H locs cells slots Q (F0 m pc ls (.int i :: .ref (aD G k) :: rest)) :=
  va_iald C0.1 C0.2.1 G0.1 hW.1 k 0 (by rw [wsG_at hk, hcell]) rfl (inb_vp hi) hd kk
theorem x_lald (C0 : Cx p s m args meth c cc own nL ret Ts) (G0 : Gx G s) (hW : Wd cell K G s.heap σ H locs) {k n : Nat} (hcell : cell G (σ.1 k) (σ.2 k) k = .inl (gL G, n, .inr (.inl (σ.2 k)))) (hk : k < K) {i : Int32} (hi : inb i n = true) (hd : decode cc pc = .ok (.laload, 1)) (kk : W p l e R s m args below meth c H locs cells slots Q (F0 m (pc + 1) ls (.long (σ.2 k i.toNatClampNeg) :: rest))) : W p l e R s m args below meth c H locs cells slots Q (F0 m pc ls (.int i :: .ref (aD G k) :: rest)) :=
  va_lald C0.1 C0.2.1 G0.1 hW.1 k 1 (by rw [wsG_at hk, hcell]) rfl (inb_vp hi) hd kk
theorem x_zald (C0 : Cx p s m args meth c cc own nL ret Ts) (G0 : Gx G s) (hW : Wd cell K G s.heap σ H locs) {k n : Nat} (hcell : cell G (σ.1 k) (σ.2 k) k = .inl (gZ G, n, .inl (σ.1 k))) (hk : k < K) {i : Int32} (hi : inb i n = true) (hd : decode cc pc = .ok (.baload, 1)) (kk : W p l e R s m args below meth c H locs cells slots Q (F0 m (pc + 1) ls (.int (σ.1 k i.toNatClampNeg) :: rest))) : W p l e R s m args below meth c H locs cells slots Q (F0 m pc ls (.int i :: .ref (aD G k) :: rest)) :=
  va_zald C0.1 C0.2.1 G0.1 hW.1 k 2 (by rw [wsG_at hk, hcell]) rfl (inb_vp hi) hd kk
theorem x_rald (C0 : Cx p s m args meth c cc own nL ret Ts) (G0 : Gx G s) (hW : Wd cell K G s.heap σ H locs) {k n : Nat} {f : Nat → Option Nat} (hcell : cell G (σ.1 k) (σ.2 k) k = .inl (gO G, n, .inr (.inr (.inr (.inr f))))) (hk : k < K) {i : Int32} (hi : inb i n = true) (hd : decode cc pc = .ok (.aaload, 1)) {v : Value} (hv : va_rf (f i.toNatClampNeg) = v) (kk : W p l e R s m args below meth c H locs cells slots Q (F0 m (pc + 1) ls (v :: rest))) : W p l e R s m args below meth c H locs cells slots Q (F0 m pc ls (.int i :: .ref (aD G k) :: rest)) := by
  subst hv
  exact va_aldq C0.1 C0.2.1 G0.1 hW.1 k 3 (by rw [wsG_at hk, hcell]) rfl (inb_vp hi) hd kk
theorem x_iast (C0 : Cx p s m args meth c cc own nL ret Ts) (G0 : Gx G s) (hJ : gJ K G) (hW : Wd cell K G s.heap σ H locs) {k n : Nat} (hcell : ∀ f g, cell G f g k = .inl (gI G, n, .inl f)) (hk : k < K) {i x : Int32} (hi : inb i n = true) (hd : decode cc pc = .ok (.iastore, 1)) (kk : ∀ (H : Heap) (locs : List Loc), Wd cell K G s.heap (pI σ k i.toNatClampNeg x) H locs → W p l e R s m args below meth c H locs cells slots Q (F0 m (pc + 1) ls rest)) : W p l e R s m args below meth c H locs cells slots Q (F0 m pc ls (.int x :: .int i :: .ref (aD G k) :: rest)) := by
  refine va_iast C0.1 C0.2.1 G0.1 hW.1 (wsG_D hJ σ) hW.2 k 0 (by rw [wsG_at hk, hcell]) rfl (inb_vp hi) hd (fun H1 locs1 hP _ hS => kk H1 locs1 ⟨?_, hS⟩)
  rw [wsG_set (σ := σ) (σ' := pI σ k i.toNatClampNeg x) hk (fun k' h => ⟨pI_n h, rfl⟩) (by rw [hcell, pI_1])] at hP
  exact hP
theorem x_last (C0 : Cx p s m args meth c cc own nL ret Ts) (G0 : Gx G s) (hJ : gJ K G) (hW : Wd cell K G s.heap σ H locs) {k n : Nat} (hcell : ∀ f g, cell G f g k = .inl (gL G, n, .inr (.inl g))) (hk : k < K) {i : Int32} {x : Int64} (hi : inb i n = true) (hd : decode cc pc = .ok (.lastore, 1)) (kk : ∀ (H : Heap) (locs : List Loc), Wd cell K G s.heap (pL σ k i.toNatClampNeg x) H locs → W p l e R s m args below meth c H locs cells slots Q (F0 m (pc + 1) ls rest)) : W p l e R s m args below meth c H locs cells slots Q (F0 m pc ls (.long x :: .int i :: .ref (aD G k) :: rest)) := by
  refine va_last C0.1 C0.2.1 G0.1 hW.1 (wsG_D hJ σ) hW.2 k 1 (by rw [wsG_at hk, hcell]) rfl (inb_vp hi) hd (fun H1 locs1 hP _ hS => kk H1 locs1 ⟨?_, hS⟩)
  rw [wsG_set (σ := σ) (σ' := pL σ k i.toNatClampNeg x) hk (fun k' h => ⟨rfl, pL_n h⟩) (by rw [hcell, pL_1])] at hP
  exact hP
theorem x_zast (C0 : Cx p s m args meth c cc own nL ret Ts) (G0 : Gx G s) (hJ : gJ K G) (hW : Wd cell K G s.heap σ H locs) {k n : Nat} (hcell : ∀ f g, cell G f g k = .inl (gZ G, n, .inl f)) (hk : k < K) {i x : Int32} (hi : inb i n = true) (hx : zok x = true) (hd : decode cc pc = .ok (.bastore, 1)) (kk : ∀ (H : Heap) (locs : List Loc), Wd cell K G s.heap (pI σ k i.toNatClampNeg x) H locs → W p l e R s m args below meth c H locs cells slots Q (F0 m (pc + 1) ls rest)) : W p l e R s m args below meth c H locs cells slots Q (F0 m pc ls (.int x :: .int i :: .ref (aD G k) :: rest)) := by
  refine va_zast C0.1 C0.2.1 G0.1 hW.1 (wsG_D hJ σ) hW.2 k 2 (by rw [wsG_at hk, hcell]) rfl (inb_vp hi) hd (fun H1 locs1 hP _ hS => kk H1 locs1 ⟨?_, hS⟩)
  have hx2 : vp_nar .boolean x = x := by unfold vp_nar; rw [zok_n hx]
  rw [hx2] at hP
  rw [wsG_set (σ := σ) (σ' := pI σ k i.toNatClampNeg x) hk (fun k' h => ⟨pI_n h, rfl⟩) (by rw [hcell, pI_1])] at hP
  exact hP
/-! calls: the run, and what comes behind it -/
theorem x_runV (C0 : Cx p s m args meth c cc own nL ret Ts) (G0 : Gx G s) (hW : Wd cell K G s.heap σ H locs) {y : MethodName} {ws : List Cond} {rm : Room} {Qc : Array Value → State → Outcome → State → Prop} {As st0 : List Value} {k ci index maxL n N : Nat} {C : String} {T : u_T} {fs : List Value} {bytes : ByteArray} {ret2 : Option FieldType} {lv : List (Nat × Value)} (hM : Met l y ws rm (XPc cell K G σ (.ref (aD G k) :: As)) Qc 0 0 (gA K G)) (cw : CallW R s args own C index y bytes maxL ret2 ws rm 0 0 n) (hcell : cell G (σ.1 k) (σ.2 k) k = .inr (ci, fs)) (hk : k < K) (hc : vwCl[ci]? = some (C, T, N)) (hn : As.length = n) (hst : st0 = As.reverse ++ .ref (aD G k) :: rest) (hl : lv_has ls nL lv) (hroom : (rest.map fun v => v.category).sum ≤ 8) (hd : decode cc pc = .ok (.invokevirtual index, 3)) (hR : cells + 0 ≤ R.cells ∧ slots + 0 ≤ R.slots) : va_Run p l e R s m args below meth c H locs cells slots 0 0 (F0 m pc ls st0) rest (Qc (Value.ref (aD G k) :: As).toArray) (gA K G) := by
  obtain ⟨hx, hb, hr, hts, hown, hml, hlk⟩ := C0
  exact va_runV (g := F0 m pc ls st0) (nL := nL) (cc := cc) ⟨hx, hb, hml, hown, hts⟩ hM cw ⟨XPc.blind, va_recv G0.1 hW.1 hc (by rw [wsG_at hk, hcell]), fun U hU hw => ⟨rfl, by rw [hU]; exact hW.1, G0.warm hw⟩⟩ rfl hn hl.1 hst (lv_room (m := m) (pc := pc) (ls := ls) (rest := st0) hroom) hd hR
theorem x_runS (C0 : Cx p s m args meth c cc own nL ret Ts) (G0 : Gx G s) (hW : Wd cell K G s.heap σ H locs) {y : MethodName} {ws : List Cond} {rm : Room} {Qc : Array Value → State → Outcome → State → Prop} {As st0 : List Value} {index maxL n : Nat} {bytes : ByteArray} {ret2 : Option FieldType} {lv : List (Nat × Value)} (hM : Met l y ws rm (XPc cell K G σ As) Qc 0 0 (gA K G)) (cw : CallB R s args own index y bytes maxL ret2 ws rm 0 0 n ∧ (Cond.static y).before args s = true) (hn : As.length = n) (hst : st0 = As.reverse ++ rest) (hl : lv_has ls nL lv) (hroom : (rest.map fun v => v.category).sum ≤ 8) (hd : decode cc pc = .ok (.invokestatic index, 3)) (hR : cells + 0 ≤ R.cells ∧ slots + 0 ≤ R.slots) : va_Run p l e R s m args below meth c H locs cells slots 0 0 (F0 m pc ls st0) rest (Qc As.toArray) (gA K G) := by
  obtain ⟨hx, hb, hr, hts, hown, hml, hlk⟩ := C0
  exact va_runS (g := F0 m pc ls st0) (nL := nL) (cc := cc) ⟨hx, hb, hml, hown, hts⟩ hM cw ⟨XPc.blind, fun U hU hw => ⟨rfl, by rw [hU]; exact hW.1, G0.warm hw⟩⟩ rfl hn hl.1 hst (lv_room (m := m) (pc := pc) (ls := ls) (rest := st0) hroom) hd hR
theorem x_runSN (C0 : Cx p s m args meth c cc own nL ret Ts) (G0 : Gx G s) (hW : Wd cell K G s.heap σ H locs) {y : MethodName} {ws ws' : List Cond} {rm : Room} {Qc : Array Value → State → Outcome → State → Prop} {As st0 : List Value} {index maxL n : Nat} {bytes : ByteArray} {ret2 : Option FieldType} {lv : List (Nat × Value)} (hM : Met l y ws rm (XPc cell K G σ As) Qc 0 0 (gA K G)) (hG : GoodIn Ts ws) (hw : ws = Cond.code y bytes maxL ret2 :: ws') (hrc : rm.cells = 0) (hrs : rm.slots = 0) (hnw : (own, index, y) ∈ nwM) (hini : Cond.initialized y.cls ∈ Ts) (hstat : Cond.static y ∈ Ts)
    (hd2 : y.cls ≠ "java/lang/invoke/MethodHandle" ∧ y.cls ≠ "java/lang/invoke/VarHandle" ∧ (parseMethodDescriptor y.desc).map (fun d => d.parameters.length) = some n) (hR2 : rm.frames + 1 ≤ R.frames ∧ 8 + (maxL + 11) + rm.locals ≤ R.locals) (hn : As.length = n) (hst : st0 = As.reverse ++ rest) (hl : lv_has ls nL lv) (hroom : (rest.map fun v => v.category).sum ≤ 8) (hd : decode cc pc = .ok (.invokestatic index, 3)) (hR : cells + 0 ≤ R.cells ∧ slots + 0 ≤ R.slots) : va_Run p l e R s m args below meth c H locs cells slots 0 0 (F0 m pc ls st0) rest (Qc As.toArray) (gA K G) := by
  obtain ⟨hx, hb, hr, hts, hown, hml, hlk⟩ := C0
  exact va_runSN (g := F0 m pc ls st0) (nL := nL) (cc := cc) ⟨hx, hb, hml, hown, hts⟩ hM ⟨va_cnB n hts hG hw hrc hrs (G0.2.2 _ hnw) (hts _ hini) hd2 hR2, hts _ hstat, trivial⟩ ⟨XPc.blind, fun U hU hw => ⟨rfl, by rw [hU]; exact hW.1, G0.warm hw⟩⟩ rfl hn hl.1 hst (lv_room (m := m) (pc := pc) (ls := ls) (rest := st0) hroom) hd hR
theorem x_ki {st0 : List Value} {r : Int32} {a : Array Value} (hr : va_Run p l e R s m args below meth c H locs cells slots 0 0 (F0 m pc ls st0) rest (XQi cell K G r σ' a) (gA K G)) (hW : Wd cell K G s.heap σ H locs) (kk : ∀ (H : Heap) (locs : List Loc), Wd cell K G s.heap σ' H locs → W p l e R s m args below meth c H locs cells slots Q (F0 m (pc + 3) ls (.int r :: rest))) : W p l e R s m args below meth c H locs cells slots Q (F0 m pc ls st0) := by
  refine va_calli hr hW.2 (fun _ _ h => h) (fun _ h => h) (fun r' _ t H1 locs1 ht _ hp hB _ _ hS => ?_)
  subst hp; subst ht
  exact kk _ _ ⟨hB, hS⟩
theorem x_kl {st0 : List Value} {r : Int64} {a : Array Value} (hr : va_Run p l e R s m args below meth c H locs cells slots 0 0 (F0 m pc ls st0) rest (XQl cell K G r σ' a) (gA K G)) (hW : Wd cell K G s.heap σ H locs) (kk : ∀ (H : Heap) (locs : List Loc), Wd cell K G s.heap σ' H locs → W p l e R s m args below meth c H locs cells slots Q (F0 m (pc + 3) ls (.long r :: rest))) : W p l e R s m args below meth c H locs cells slots Q (F0 m pc ls st0) := by
  refine va_calll hr hW.2 (fun _ _ h => h) (fun _ h => h) (fun r' _ t H1 locs1 ht _ hp hB _ _ hS => ?_)
  subst hp; subst ht
  exact kk _ _ ⟨hB, hS⟩
theorem x_kv {st0 : List Value} {a : Array Value} (hr : va_Run p l e R s m args below meth c H locs cells slots 0 0 (F0 m pc ls st0) rest (XQv cell K G σ' a) (gA K G)) (hW : Wd cell K G s.heap σ H locs) (kk : ∀ (H : Heap) (locs : List Loc), Wd cell K G s.heap σ' H locs → W p l e R s m args below meth c H locs cells slots Q (F0 m (pc + 3) ls rest)) : W p l e R s m args below meth c H locs cells slots Q (F0 m pc ls st0) := by
  refine va_callv hr hW.2 (fun _ _ h => h) (fun _ h => h) (fun _ t H1 locs1 ht _ _ hB _ _ hS => ?_)
  subst ht
  exact kk _ _ ⟨hB, hS⟩
theorem x_kr {st0 : List Value} {r : Option Nat} {a : Array Value} (hr : va_Run p l e R s m args below meth c H locs cells slots 0 0 (F0 m pc ls st0) rest (XQr cell K G r σ' a) (gA K G)) (hW : Wd cell K G s.heap σ H locs) (kk : ∀ (H : Heap) (locs : List Loc), Wd cell K G s.heap σ' H locs → W p l e R s m args below meth c H locs cells slots Q (F0 m (pc + 3) ls (va_rf (r.map (aD G)) :: rest))) : W p l e R s m args below meth c H locs cells slots Q (F0 m pc ls st0) := by
  refine va_callq hr hW.2 (fun _ _ h => h) (fun _ h => h) (fun r' _ t H1 locs1 ht _ hp hB _ _ hS => ?_)
  subst hp; subst ht
  exact kk _ _ ⟨hB, hS⟩
/-! ends -/
theorem x_iret (C0 : Cx p s m args meth c cc own nL (some .int) Ts) (hW : Wd cell K G s.heap σ H locs) {v : Int32} (hd : decode cc pc = .ok (.ireturn, 1)) : W p l e R s m args below meth c H locs cells slots (MQ below (XQi cell K G v σ) args s cells slots (gA K G)) (F0 m pc ls [.int v]) := by
  obtain ⟨hx, hb, hr, hts, hown, hml, hlk⟩ := C0
  exact W.iret (v := v) hx hb hr (fun t ht _ => ⟨⟨v, (), rfl, rfl, by show va_P _ _ _ t.heap; rw [ht]; exact hW.1⟩, hW.2.F ht⟩) hW.2.2.2 hd hlk
theorem x_zret (C0 : Cx p s m args meth c cc own nL (some .boolean) Ts) (hW : Wd cell K G s.heap σ H locs) {v : Int32} (hz : zok v = true) (hd : decode cc pc = .ok (.ireturn, 1)) : W p l e R s m args below meth c H locs cells slots (MQ below (XQi cell K G v σ) args s cells slots (gA K G)) (F0 m pc ls [.int v]) := by
  obtain ⟨hx, hb, hr, hts, hown, hml, hlk⟩ := C0
  exact W.zret (v := v) hx hb hr (zok_n hz) (fun t ht _ => ⟨⟨v, (), rfl, rfl, by show va_P _ _ _ t.heap; rw [ht]; exact hW.1⟩, hW.2.F ht⟩) hW.2.2.2 hd hlk
theorem x_lret (C0 : Cx p s m args meth c cc own nL (some .long) Ts) (hW : Wd cell K G s.heap σ H locs) {v : Int64} (hd : decode cc pc = .ok (.lreturn, 1)) : W p l e R s m args below meth c H locs cells slots (MQ below (XQl cell K G v σ) args s cells slots (gA K G)) (F0 m pc ls [.long v]) := by
  obtain ⟨hx, hb, hr, hts, hown, hml, hlk⟩ := C0
  exact W.lret (v := v) hx hb hr (fun t ht _ => ⟨⟨v, (), rfl, rfl, by show va_P _ _ _ t.heap; rw [ht]; exact hW.1⟩, hW.2.F ht⟩) hW.2.2.2 hd hlk
theorem x_vret (C0 : Cx p s m args meth c cc own nL none Ts) (hW : Wd cell K G s.heap σ H locs) (hd : decode cc pc = .ok (.return_, 1)) : W p l e R s m args below meth c H locs cells slots (MQ below (XQv cell K G σ) args s cells slots (gA K G)) (F0 m pc ls []) := by
  obtain ⟨hx, hb, hr, hts, hown, hml, hlk⟩ := C0
  exact W.vret hx hb hr (fun t ht _ => ⟨⟨(), rfl, trivial, by show va_P _ _ _ t.heap; rw [ht]; exact hW.1⟩, hW.2.F ht⟩) hW.2.2.2 hd hlk
theorem x_rret {o : String} (C0 : Cx p s m args meth c cc own nL (some (.object o)) Ts) (hW : Wd cell K G s.heap σ H locs) {r : Option Nat} {v : Value} (hv : va_rf (r.map (aD G)) = v) (hd : decode cc pc = .ok (.areturn, 1)) : W p l e R s m args below meth c H locs cells slots (MQ below (XQr cell K G r σ) args s cells slots (gA K G)) (F0 m pc ls [v]) := by
  obtain ⟨hx, hb, hr, hts, hown, hml, hlk⟩ := C0
  subst hv
  refine W.aret (v := va_rf (r.map (aD G))) (rt := .object o) hx hb hr (Or.inl ⟨o, rfl⟩) ?_ (fun t ht _ => ⟨⟨r.map (aD G), (), rfl, rfl, by show va_P _ _ _ t.heap; rw [ht]; exact hW.1⟩, hW.2.F ht⟩) hW.2.2.2 hd hlk
  cases r with
  | none => exact Or.inl rfl
  | some a => exact Or.inr ⟨_, rfl⟩
/-- a reference that may be null is looked at -/
theorem x_ifnull (C0 : Cx p s m args meth c cc own nL ret Ts) {r : Option Nat} {off : Int} {tgt : Nat} (hd : decode cc pc = .ok (.ifnull off, 3)) (ht : (pc : Int) + off = (tgt : Int)) (kn : r = none → W p l e R s m args below meth c H locs cells slots Q (F0 m tgt ls rest)) (ks : ∀ k, r = some k → W p l e R s m args below meth c H locs cells slots Q (F0 m (pc + 3) ls rest)) : W p l e R s m args below meth c H locs cells slots Q (F0 m pc ls (va_rf (r.map (aD G)) :: rest)) := by
  cases r with
  | none => exact lv_ifnullN C0.1 C0.2.1 hd ht (kn rfl)
  | some k => exact lv_ifnull C0.1 C0.2.1 hd (ks k rfl)
theorem x_ifnonnull (C0 : Cx p s m args meth c cc own nL ret Ts) {r : Option Nat} {off : Int} {tgt : Nat} (hd : decode cc pc = .ok (.ifnonnull off, 3)) (ht : (pc : Int) + off = (tgt : Int)) (kn : r = none → W p l e R s m args below meth c H locs cells slots Q (F0 m (pc + 3) ls rest)) (ks : ∀ k, r = some k → W p l e R s m args below meth c H locs cells slots Q (F0 m tgt ls rest)) : W p l e R s m args below meth c H locs cells slots Q (F0 m pc ls (va_rf (r.map (aD G)) :: rest)) := by
  cases r with
  | none => exact lv_ifnonnullN C0.1 C0.2.1 hd (kn rfl)
  | some k => exact lv_ifnonnull C0.1 C0.2.1 hd ht (ks k rfl)
end XRows
/-- a contract, out of the walk from the entry -/
theorem x_met {cell : CT} {K : Nat} {G : GT} {σ : ST} {l : Launch} {y : MethodName} {ws ws' : List Cond} {rm : Room} {Qc : Array Value → State → Outcome → State → Prop} {cc : ByteArray} {maxL : Nat} {ret : Option FieldType} {av : List Value} (hy : plainName y.cls = true) (hw : ws = Cond.code y cc maxL ret :: ws') (hlen : (lg_sl av).length ≤ maxL)
    (body : ∀ (p : Program) (e : Env) (s : State) (m : MethodId) (args : Array Value) (below : List Frame) (meth : Method) (c : Code) (H : Heap) (locs : List Loc) (ls : Array Slot), Cx p s m args meth c cc y.cls maxL ret ws → Gx G s → Wd cell K G s.heap σ H locs → lv_has ls maxL (lv_args 0 av) → W p l e rm s m args below meth c H locs 0 0 (MQ below Qc args s 0 0 (gA K G)) (F0 m 0 ls [])) : Met l y ws rm (XPc cell K G σ av) Qc 0 0 (gA K G) := by
  refine Met.ofW (cc := cc) (maxL := maxL) (ret := ret) hy hw ?_
  intro p e s m args below meth c s₁ B hml hv
  obtain ⟨rfl, hP, hG⟩ := hv
  have hts := atoms_spec (ws := ws) B.pre
  have hown : s.vm.findClass y.cls = some m.cls := findClass_of_methodNamed B.named
  have hl := lv_entry av hlen
  rw [lg_entry_eq]
  generalize (lg_sl av ++ List.replicate (maxL - (lg_sl av).length) Slot.unset).toArray = ls at hl ⊢
  exact body p e s m _ below meth c s.heap [] ls ⟨B.exec, B.bytes, B.returns, hts, hown, hml, B.notSynchronized⟩ hG ⟨hP, va_S.rf⟩ hl
section XNest
variable {p : Program} {l : Launch} {e : Env} {R : Room} {s : State} {m : MethodId} {args : Array Value} {below : List Frame} {meth : Method} {c : Code} {H : Heap} {locs : List Loc} {cells slots : Nat} {Q : State → Prop}
variable {cell : CT} {K : Nat} {G : GT} {σ σ' : ST} {cc : ByteArray} {own : String} {nL : Nat} {ret : Option FieldType} {Ts : List Cond} {pc : Nat} {ls : Array Slot} {rest : List Value}
/-- a nest mate's private long field is written -/
theorem x_putLN (C0 : Cx p s m args meth c cc own nL ret Ts) (G0 : Gx G s) (hJ : gJ K G) (hW : Wd cell K G s.heap σ H locs) {C : String} {T : u_T} {N ci index k : Nat} {fs : List Value} (hcell : cell G (σ.1 k) (σ.2 k) k = .inr (ci, fs)) (hk : k < K) (hc : vwCl[ci]? = some (C, T, N)) (j : Nat) (hj : j < N) (hin : ∀ w ∈ u_ws C T N, w ∈ Ts) (hlink : (own, index, (T j).1, (T j).2.1, (T j).2.2.1) ∈ nwF) (ty0 : Nat → FieldType) (hty : ∀ k, k < N → parseFieldDescriptor (T k).2.2.1 = some (ty0 k)) (hnm : ∀ a, a < N → ∀ b, b < N → a ≠ b → (T a).2.1 ≠ (T b).2.1) (hfin : (T j).2.2.2 = false) {v : Int64} (hn : narrow (ty0 j) (.long v) = .long v) (hfit : fits (ty0 j) (.long v) = true) (hl : j < fs.length)
    (h2 : cell G (σ.1 k) (vp_updL (σ.2 k) j v) k = .inr (ci, fs.set j (.long v))) (hd : decode cc pc = .ok (.putfield index, 3)) (kk : ∀ (H : Heap) (locs : List Loc), Wd cell K G s.heap (pL σ k j v) H locs → W p l e R s m args below meth c H locs cells slots Q (F0 m (pc + 3) ls rest)) : W p l e R s m args below meth c H locs cells slots Q (F0 m pc ls (.long v :: .ref (aD G k) :: rest)) := by
  obtain ⟨hx, hb, -, hts, hown, -, -⟩ := C0
  refine va_putN hx hb hts hin ty0 hty hnm hown G0.1 hW.1 (wsG_D hJ σ) hW.2 k (by rw [wsG_at hk, hcell]) hc j hj (va_Nw.use rfl (G0.2.1 _ hlink)) (fun _ h => h) hfin (hty j hj) hn hfit hl hd (fun H1 locs1 hP _ hS => kk H1 locs1 ⟨?_, hS⟩)
  rw [wsG_set (σ := σ) (σ' := pL σ k j v) hk (fun k' h => ⟨rfl, pL_n h⟩) (by rw [pL_1, pL_2]; exact h2)] at hP
  exact hP
end XNest

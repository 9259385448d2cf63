/-! ===== the words on nest mates ===== -/
theorem mem_r {big : List Cond} (ws : List Cond) (ps : List Nat) (hp : ws = ps.filterMap (fun i => big[i]?)) : ∀ w ∈ ws, w ∈ big := fun w hw => by
  rw [hp] at hw
  obtain ⟨i, -, hi⟩ := List.mem_filterMap.mp hw
  exact List.mem_of_getElem? hi
theorem nwF_in : ∀ w ∈ nwF.map (fun q => Cond.fieldLinkNest q.1 q.2.1 q.2.2.1 q.2.2.2.1 q.2.2.2.2 "GoneOverboard"), w ∈ lw_tbl := mem_r _ [85, 86, 88, 89, 91, 92, 94, 95, 97, 99, 100, 102, 103, 105, 136, 138, 139, 141, 187, 188, 190, 198, 200, 202, 222] (by decide +kernel)
theorem nwM_in : ∀ w ∈ nwM.map (fun q => Cond.methodLinkNest q.1 q.2.1 q.2.2 "GoneOverboard"), w ∈ lw_tbl := mem_r _ [182, 217, 350, 396, 432, 553, 608] (by decide +kernel)
theorem nwOK_law {A : Array Value} {s : State} (hts : ∀ w ∈ lw_tbl, w.before A s = true) : nwOK s := ⟨fun q hq => va_Nw.of rfl (hts _ (nwF_in _ (List.mem_map.mpr ⟨q, hq, rfl⟩))), fun q hq => va_Nw.of rfl (hts _ (nwM_in _ (List.mem_map.mpr ⟨q, hq, rfl⟩)))⟩
theorem over_in : Cond.arrayOver (.object "GoneOverboard$Scene") ∈ lw_tbl := List.mem_of_getElem? (i := 166) (by decide +kernel)

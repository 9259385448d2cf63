section
-- ===== PART A: goes FIRST, ahead of the names: the tables' words, and 'selects' of the private methods out of them =====
/-- a private method of a class that the tables say can be made, by its rows of tables_1 -/
def lw_okq (q : MethodName × Nat) : Prop := (q.1.cls ≠ "java/lang/invoke/MethodHandle" ∧ q.1.cls ≠ "java/lang/invoke/VarHandle") ∧ Cond.instantiable q.1.cls q.2 ∈ tables_1 ∧ Cond.privateMethod q.1 ∈ tables_1 ∧ Cond.instanceMethod q.1 ∈ tables_1
theorem lw_p0 : lw_okq (⟨"GoneOverboard$Text", "headFits", "(I)Z"⟩, 6) := ⟨⟨by decide +kernel, by decide +kernel⟩, List.mem_of_getElem? (i := 21) (by decide +kernel), List.mem_of_getElem? (i := 257) (by decide +kernel), List.mem_of_getElem? (i := 258) (by decide +kernel)⟩
theorem lw_p1 : lw_okq (⟨"GoneOverboard$Text", "partFits", "(I)Z"⟩, 6) := ⟨⟨by decide +kernel, by decide +kernel⟩, List.mem_of_getElem? (i := 21) (by decide +kernel), List.mem_of_getElem? (i := 269) (by decide +kernel), List.mem_of_getElem? (i := 270) (by decide +kernel)⟩
theorem lw_p2 : lw_okq (⟨"GoneOverboard$Text", "partBegins", "(I)Z"⟩, 6) := ⟨⟨by decide +kernel, by decide +kernel⟩, List.mem_of_getElem? (i := 21) (by decide +kernel), List.mem_of_getElem? (i := 273) (by decide +kernel), List.mem_of_getElem? (i := 274) (by decide +kernel)⟩
theorem lw_p3 : lw_okq (⟨"GoneOverboard$Text", "takeCell", "(I)Z"⟩, 6) := ⟨⟨by decide +kernel, by decide +kernel⟩, List.mem_of_getElem? (i := 21) (by decide +kernel), List.mem_of_getElem? (i := 277) (by decide +kernel), List.mem_of_getElem? (i := 278) (by decide +kernel)⟩
theorem lw_p4 : lw_okq (⟨"GoneOverboard$Told", "setPart", "(II)V"⟩, 9) := ⟨⟨by decide +kernel, by decide +kernel⟩, List.mem_of_getElem? (i := 47) (by decide +kernel), List.mem_of_getElem? (i := 290) (by decide +kernel), List.mem_of_getElem? (i := 291) (by decide +kernel)⟩
theorem lw_p5 : lw_okq (⟨"GoneOverboard$Told", "takePart", "(LGoneOverboard$Text;I)V"⟩, 9) := ⟨⟨by decide +kernel, by decide +kernel⟩, List.mem_of_getElem? (i := 47) (by decide +kernel), List.mem_of_getElem? (i := 298) (by decide +kernel), List.mem_of_getElem? (i := 299) (by decide +kernel)⟩
theorem lw_p6 : lw_okq (⟨"GoneOverboard", "remember", "()V"⟩, 10) := ⟨⟨by decide +kernel, by decide +kernel⟩, List.mem_of_getElem? (i := 13) (by decide +kernel), List.mem_of_getElem? (i := 325) (by decide +kernel), List.mem_of_getElem? (i := 326) (by decide +kernel)⟩
theorem lw_p7 : lw_okq (⟨"GoneOverboard", "isLeft", "(I)Z"⟩, 10) := ⟨⟨by decide +kernel, by decide +kernel⟩, List.mem_of_getElem? (i := 13) (by decide +kernel), List.mem_of_getElem? (i := 452) (by decide +kernel), List.mem_of_getElem? (i := 453) (by decide +kernel)⟩
theorem lw_p8 : lw_okq (⟨"GoneOverboard", "foundBy", "(II)J"⟩, 10) := ⟨⟨by decide +kernel, by decide +kernel⟩, List.mem_of_getElem? (i := 13) (by decide +kernel), List.mem_of_getElem? (i := 456) (by decide +kernel), List.mem_of_getElem? (i := 457) (by decide +kernel)⟩
theorem lw_p9 : lw_okq (⟨"GoneOverboard$Ahead", "tryLook", "(LGoneOverboard$Told;IIIJLGoneOverboard$Best;)V"⟩, 5) := ⟨⟨by decide +kernel, by decide +kernel⟩, List.mem_of_getElem? (i := 141) (by decide +kernel), List.mem_of_getElem? (i := 480) (by decide +kernel), List.mem_of_getElem? (i := 481) (by decide +kernel)⟩
theorem lw_p10 : lw_okq (⟨"GoneOverboard$Ahead", "tryBoth", "(LGoneOverboard$Told;IIJ)V"⟩, 5) := ⟨⟨by decide +kernel, by decide +kernel⟩, List.mem_of_getElem? (i := 141) (by decide +kernel), List.mem_of_getElem? (i := 518) (by decide +kernel), List.mem_of_getElem? (i := 519) (by decide +kernel)⟩
theorem lw_p11 : lw_okq (⟨"GoneOverboard", "isFound", "(II)Z"⟩, 10) := ⟨⟨by decide +kernel, by decide +kernel⟩, List.mem_of_getElem? (i := 13) (by decide +kernel), List.mem_of_getElem? (i := 557) (by decide +kernel), List.mem_of_getElem? (i := 558) (by decide +kernel)⟩
theorem lw_p12 : lw_okq (⟨"GoneOverboardModel", "readText", "()I"⟩, 29) := ⟨⟨by decide +kernel, by decide +kernel⟩, List.mem_of_getElem? (i := 595) (by decide +kernel), List.mem_of_getElem? (i := 706) (by decide +kernel), List.mem_of_getElem? (i := 707) (by decide +kernel)⟩
theorem lw_p13 : lw_okq (⟨"GoneOverboardModel", "figure", "(II)I"⟩, 29) := ⟨⟨by decide +kernel, by decide +kernel⟩, List.mem_of_getElem? (i := 595) (by decide +kernel), List.mem_of_getElem? (i := 710) (by decide +kernel), List.mem_of_getElem? (i := 711) (by decide +kernel)⟩
theorem lw_p14 : lw_okq (⟨"GoneOverboardModel", "readPart", "(I)V"⟩, 29) := ⟨⟨by decide +kernel, by decide +kernel⟩, List.mem_of_getElem? (i := 595) (by decide +kernel), List.mem_of_getElem? (i := 714) (by decide +kernel), List.mem_of_getElem? (i := 715) (by decide +kernel)⟩
theorem lw_p15 : lw_okq (⟨"GoneOverboardModel", "isCellLeft", "()Z"⟩, 29) := ⟨⟨by decide +kernel, by decide +kernel⟩, List.mem_of_getElem? (i := 595) (by decide +kernel), List.mem_of_getElem? (i := 718) (by decide +kernel), List.mem_of_getElem? (i := 719) (by decide +kernel)⟩
def lw_privs_1 : List (MethodName × Nat) := [(⟨"GoneOverboard$Text", "headFits", "(I)Z"⟩, 6), (⟨"GoneOverboard$Text", "partFits", "(I)Z"⟩, 6), (⟨"GoneOverboard$Text", "partBegins", "(I)Z"⟩, 6), (⟨"GoneOverboard$Text", "takeCell", "(I)Z"⟩, 6), (⟨"GoneOverboard$Told", "setPart", "(II)V"⟩, 9), (⟨"GoneOverboard$Told", "takePart", "(LGoneOverboard$Text;I)V"⟩, 9), (⟨"GoneOverboard", "remember", "()V"⟩, 10), (⟨"GoneOverboard", "isLeft", "(I)Z"⟩, 10), (⟨"GoneOverboard", "foundBy", "(II)J"⟩, 10), (⟨"GoneOverboard$Ahead", "tryLook", "(LGoneOverboard$Told;IIIJLGoneOverboard$Best;)V"⟩, 5), (⟨"GoneOverboard$Ahead", "tryBoth", "(LGoneOverboard$Told;IIJ)V"⟩, 5), (⟨"GoneOverboard", "isFound", "(II)Z"⟩, 10), (⟨"GoneOverboardModel", "readText", "()I"⟩, 29), (⟨"GoneOverboardModel", "figure", "(II)I"⟩, 29), (⟨"GoneOverboardModel", "readPart", "(I)V"⟩, 29), (⟨"GoneOverboardModel", "isCellLeft", "()Z"⟩, 29)]
theorem lw_r1 : ∀ q ∈ lw_privs_1, lw_okq q := List.forall_mem_cons.mpr ⟨lw_p0, List.forall_mem_cons.mpr ⟨lw_p1, List.forall_mem_cons.mpr ⟨lw_p2, List.forall_mem_cons.mpr ⟨lw_p3, List.forall_mem_cons.mpr ⟨lw_p4, List.forall_mem_cons.mpr ⟨lw_p5, List.forall_mem_cons.mpr ⟨lw_p6, List.forall_mem_cons.mpr ⟨lw_p7, List.forall_mem_cons.mpr ⟨lw_p8, List.forall_mem_cons.mpr ⟨lw_p9, List.forall_mem_cons.mpr ⟨lw_p10, List.forall_mem_cons.mpr ⟨lw_p11, List.forall_mem_cons.mpr ⟨lw_p12, List.forall_mem_cons.mpr ⟨lw_p13, List.forall_mem_cons.mpr ⟨lw_p14, List.forall_mem_cons.mpr ⟨lw_p15, fun _ h => absurd h List.not_mem_nil⟩⟩⟩⟩⟩⟩⟩⟩⟩⟩⟩⟩⟩⟩⟩⟩
theorem lw_p16 : lw_okq (⟨"GoneOverboardModel", "freshCell", "()I"⟩, 29) := ⟨⟨by decide +kernel, by decide +kernel⟩, List.mem_of_getElem? (i := 595) (by decide +kernel), List.mem_of_getElem? (i := 722) (by decide +kernel), List.mem_of_getElem? (i := 723) (by decide +kernel)⟩
theorem lw_p17 : lw_okq (⟨"GoneOverboardModel", "allParts", "()I"⟩, 29) := ⟨⟨by decide +kernel, by decide +kernel⟩, List.mem_of_getElem? (i := 595) (by decide +kernel), List.mem_of_getElem? (i := 731) (by decide +kernel), List.mem_of_getElem? (i := 732) (by decide +kernel)⟩
theorem lw_p18 : lw_okq (⟨"GoneOverboardModel", "keepAct", "()V"⟩, 29) := ⟨⟨by decide +kernel, by decide +kernel⟩, List.mem_of_getElem? (i := 595) (by decide +kernel), List.mem_of_getElem? (i := 740) (by decide +kernel), List.mem_of_getElem? (i := 741) (by decide +kernel)⟩
theorem lw_p19 : lw_okq (⟨"GoneOverboardModel", "lookAt", "(II)J"⟩, 29) := ⟨⟨by decide +kernel, by decide +kernel⟩, List.mem_of_getElem? (i := 595) (by decide +kernel), List.mem_of_getElem? (i := 747) (by decide +kernel), List.mem_of_getElem? (i := 748) (by decide +kernel)⟩
theorem lw_p20 : lw_okq (⟨"GoneOverboardModel", "drift", "(II)V"⟩, 29) := ⟨⟨by decide +kernel, by decide +kernel⟩, List.mem_of_getElem? (i := 595) (by decide +kernel), List.mem_of_getElem? (i := 751) (by decide +kernel), List.mem_of_getElem? (i := 752) (by decide +kernel)⟩
theorem lw_p21 : lw_okq (⟨"GoneOverboardModel", "sumOf", "(I)J"⟩, 29) := ⟨⟨by decide +kernel, by decide +kernel⟩, List.mem_of_getElem? (i := 595) (by decide +kernel), List.mem_of_getElem? (i := 781) (by decide +kernel), List.mem_of_getElem? (i := 782) (by decide +kernel)⟩
theorem lw_p22 : lw_okq (⟨"GoneOverboardModel", "canLook", "(I)Z"⟩, 29) := ⟨⟨by decide +kernel, by decide +kernel⟩, List.mem_of_getElem? (i := 595) (by decide +kernel), List.mem_of_getElem? (i := 804) (by decide +kernel), List.mem_of_getElem? (i := 805) (by decide +kernel)⟩
theorem lw_p23 : lw_okq (⟨"GoneOverboardModel", "foundBy", "(II)J"⟩, 29) := ⟨⟨by decide +kernel, by decide +kernel⟩, List.mem_of_getElem? (i := 595) (by decide +kernel), List.mem_of_getElem? (i := 808) (by decide +kernel), List.mem_of_getElem? (i := 809) (by decide +kernel)⟩
theorem lw_p24 : lw_okq (⟨"GoneOverboardModel", "lay", "(II)V"⟩, 29) := ⟨⟨by decide +kernel, by decide +kernel⟩, List.mem_of_getElem? (i := 595) (by decide +kernel), List.mem_of_getElem? (i := 812) (by decide +kernel), List.mem_of_getElem? (i := 813) (by decide +kernel)⟩
theorem lw_p25 : lw_okq (⟨"GoneOverboardModel", "allTimes", "(II)J"⟩, 29) := ⟨⟨by decide +kernel, by decide +kernel⟩, List.mem_of_getElem? (i := 595) (by decide +kernel), List.mem_of_getElem? (i := 817) (by decide +kernel), List.mem_of_getElem? (i := 818) (by decide +kernel)⟩
theorem lw_p26 : lw_okq (⟨"GoneOverboardModel", "bestBy", "(II)J"⟩, 29) := ⟨⟨by decide +kernel, by decide +kernel⟩, List.mem_of_getElem? (i := 595) (by decide +kernel), List.mem_of_getElem? (i := 828) (by decide +kernel), List.mem_of_getElem? (i := 829) (by decide +kernel)⟩
theorem lw_p27 : lw_okq (⟨"GoneOverboardModel", "foundByTwo", "(II)J"⟩, 29) := ⟨⟨by decide +kernel, by decide +kernel⟩, List.mem_of_getElem? (i := 595) (by decide +kernel), List.mem_of_getElem? (i := 849) (by decide +kernel), List.mem_of_getElem? (i := 850) (by decide +kernel)⟩
theorem lw_p28 : lw_okq (⟨"GoneOverboardModel", "lookTwice", "(III)J"⟩, 29) := ⟨⟨by decide +kernel, by decide +kernel⟩, List.mem_of_getElem? (i := 595) (by decide +kernel), List.mem_of_getElem? (i := 854) (by decide +kernel), List.mem_of_getElem? (i := 855) (by decide +kernel)⟩
theorem lw_p29 : lw_okq (⟨"GoneOverboardModel", "partsIn", "(II)I"⟩, 29) := ⟨⟨by decide +kernel, by decide +kernel⟩, List.mem_of_getElem? (i := 595) (by decide +kernel), List.mem_of_getElem? (i := 871) (by decide +kernel), List.mem_of_getElem? (i := 872) (by decide +kernel)⟩
theorem lw_p30 : lw_okq (⟨"GoneOverboardModel", "isFound", "(II)Z"⟩, 29) := ⟨⟨by decide +kernel, by decide +kernel⟩, List.mem_of_getElem? (i := 595) (by decide +kernel), List.mem_of_getElem? (i := 888) (by decide +kernel), List.mem_of_getElem? (i := 889) (by decide +kernel)⟩
theorem lw_p31 : lw_okq (⟨"GoneOverboardModel", "drawn", "(I)I"⟩, 29) := ⟨⟨by decide +kernel, by decide +kernel⟩, List.mem_of_getElem? (i := 595) (by decide +kernel), List.mem_of_getElem? (i := 892) (by decide +kernel), List.mem_of_getElem? (i := 893) (by decide +kernel)⟩
def lw_privs_2 : List (MethodName × Nat) := [(⟨"GoneOverboardModel", "freshCell", "()I"⟩, 29), (⟨"GoneOverboardModel", "allParts", "()I"⟩, 29), (⟨"GoneOverboardModel", "keepAct", "()V"⟩, 29), (⟨"GoneOverboardModel", "lookAt", "(II)J"⟩, 29), (⟨"GoneOverboardModel", "drift", "(II)V"⟩, 29), (⟨"GoneOverboardModel", "sumOf", "(I)J"⟩, 29), (⟨"GoneOverboardModel", "canLook", "(I)Z"⟩, 29), (⟨"GoneOverboardModel", "foundBy", "(II)J"⟩, 29), (⟨"GoneOverboardModel", "lay", "(II)V"⟩, 29), (⟨"GoneOverboardModel", "allTimes", "(II)J"⟩, 29), (⟨"GoneOverboardModel", "bestBy", "(II)J"⟩, 29), (⟨"GoneOverboardModel", "foundByTwo", "(II)J"⟩, 29), (⟨"GoneOverboardModel", "lookTwice", "(III)J"⟩, 29), (⟨"GoneOverboardModel", "partsIn", "(II)I"⟩, 29), (⟨"GoneOverboardModel", "isFound", "(II)Z"⟩, 29), (⟨"GoneOverboardModel", "drawn", "(I)I"⟩, 29)]
theorem lw_r2 : ∀ q ∈ lw_privs_2, lw_okq q := List.forall_mem_cons.mpr ⟨lw_p16, List.forall_mem_cons.mpr ⟨lw_p17, List.forall_mem_cons.mpr ⟨lw_p18, List.forall_mem_cons.mpr ⟨lw_p19, List.forall_mem_cons.mpr ⟨lw_p20, List.forall_mem_cons.mpr ⟨lw_p21, List.forall_mem_cons.mpr ⟨lw_p22, List.forall_mem_cons.mpr ⟨lw_p23, List.forall_mem_cons.mpr ⟨lw_p24, List.forall_mem_cons.mpr ⟨lw_p25, List.forall_mem_cons.mpr ⟨lw_p26, List.forall_mem_cons.mpr ⟨lw_p27, List.forall_mem_cons.mpr ⟨lw_p28, List.forall_mem_cons.mpr ⟨lw_p29, List.forall_mem_cons.mpr ⟨lw_p30, List.forall_mem_cons.mpr ⟨lw_p31, fun _ h => absurd h List.not_mem_nil⟩⟩⟩⟩⟩⟩⟩⟩⟩⟩⟩⟩⟩⟩⟩⟩
def lw_privs : List (MethodName × Nat) := lw_privs_1 ++ (lw_privs_2)
def lw_tbl : List Cond := k2_sels lw_privs ++ tables_1
theorem lw_privs_ok : ∀ q ∈ lw_privs, lw_okq q := by
  show ∀ q ∈ lw_privs_1 ++ (lw_privs_2), lw_okq q
  exact List.forall_mem_append.mpr ⟨lw_r1, lw_r2⟩
-- ===== end of PART A; then your names; then what follows =====
end
section
/-! ===== BEGIN words of one list among another's, by their places ===== -/
theorem goodIn_r {big : List Cond} (ws : List Cond) (ps : List Nat) (hp : ws = ps.filterMap (fun i => big[i]?)) (h : ws.all goodWord = true) : GoodIn big ws := by
  intro w hw
  have h1 := List.all_eq_true.mp h w hw
  rw [hp] at hw
  obtain ⟨i, -, hi⟩ := List.mem_filterMap.mp hw
  have hm : w ∈ big := by first | exact List.mem_of_getElem? hi | exact List.getElem?_mem hi
  exact ⟨hm, good_of_word h1⟩
theorem goodIn_app {big a b : List Cond} (ha : GoodIn big a) (hb : GoodIn big b) : GoodIn big (a ++ b) := fun w h => (List.mem_append.mp h).elim (ha w) (hb w)
theorem goodIn_ca {big a b : List Cond} {c : Cond} (ha : GoodIn big (c :: a)) (hb : GoodIn big b) : GoodIn big (c :: (a ++ b)) := fun w h => (List.mem_cons.mp h).elim (fun e => ha w (List.mem_cons.mpr (Or.inl e))) (fun h => (List.mem_append.mp h).elim (fun h => ha w (List.mem_cons.mpr (Or.inr h))) (hb w))
theorem goodIn_sub {big ws : List Cond} (hm : ∀ w ∈ ws, w ∈ big) (h : ws.all goodWord = true) : GoodIn big ws := fun w hw => ⟨hm w hw, good_of_word (List.all_eq_true.mp h w hw)⟩
/-! ===== END ===== -/

/-! ===== BEGIN printed: names, fields, word lists, decode rows ===== -/
def RX0 : String := "GoneOverboard$Ahead"
def TX0 : u_T := fun k => match k with
  | 0 => ("GoneOverboard$Ahead", "depths", "LGoneOverboard$Scenes;", true)
  | 1 => ("GoneOverboard$Ahead", "sea", "LGoneOverboard$Best;", true)
  | 2 => ("GoneOverboard$Ahead", "aboard", "LGoneOverboard$Best;", true)
  | 3 => ("GoneOverboard$Ahead", "both", "LGoneOverboard$Best;", true)
  | _ => ("GoneOverboard$Ahead", "looks", "I", false)
def tyX0 : Nat → FieldType := fun k => match k with
  | 0 => .object "GoneOverboard$Scenes"
  | 1 => .object "GoneOverboard$Best"
  | 2 => .object "GoneOverboard$Best"
  | 3 => .object "GoneOverboard$Best"
  | _ => .int
abbrev wsX00 : List Cond := u_ws RX0 TX0 5
theorem nmX0 : ∀ a, a < 5 → ∀ b, b < 5 → a ≠ b → (TX0 a).2.1 ≠ (TX0 b).2.1 := by decide +kernel
theorem tyX0_ok : ∀ k, k < 5 → parseFieldDescriptor (TX0 k).2.2.1 = some (tyX0 k) := by decide +kernel
abbrev cX0_init : ByteArray := prog_2_method_1_code
def yX0_init : MethodName := ⟨RX0, "<init>", "()V"⟩
abbrev cX0_tryAll : ByteArray := prog_2_method_2_code
def yX0_tryAll : MethodName := ⟨RX0, "tryAll", "(LGoneOverboard$Told;LGoneOverboard$Scene;I)V"⟩
abbrev cX0_likelier : ByteArray := prog_2_method_3_code
def yX0_likelier : MethodName := ⟨RX0, "likelier", "()LGoneOverboard$Best;"⟩
abbrev cX0_tryLook : ByteArray := prog_2_method_4_code
def yX0_tryLook : MethodName := ⟨RX0, "tryLook", "(LGoneOverboard$Told;IIIJLGoneOverboard$Best;)V"⟩
abbrev cX0_tryTogether : ByteArray := prog_2_method_5_code
def yX0_tryTogether : MethodName := ⟨RX0, "tryTogether", "(LGoneOverboard$Told;LGoneOverboard$Scene;I)V"⟩
abbrev cX0_tryBoth : ByteArray := prog_2_method_6_code
def yX0_tryBoth : MethodName := ⟨RX0, "tryBoth", "(LGoneOverboard$Told;IIJ)V"⟩
def RX1 : String := "GoneOverboard$Best"
def TX1 : u_T := fun k => match k with
  | 0 => ("GoneOverboard$Best", "found", "J", false)
  | _ => ("GoneOverboard$Best", "row", "I", false)
def tyX1 : Nat → FieldType := fun k => match k with
  | 0 => .long
  | _ => .int
abbrev wsX10 : List Cond := u_ws RX1 TX1 2
theorem nmX1 : ∀ a, a < 2 → ∀ b, b < 2 → a ≠ b → (TX1 a).2.1 ≠ (TX1 b).2.1 := by decide +kernel
theorem tyX1_ok : ∀ k, k < 2 → parseFieldDescriptor (TX1 k).2.2.1 = some (tyX1 k) := by decide +kernel
abbrev cX1_init : ByteArray := prog_3_method_1_code
def yX1_init : MethodName := ⟨RX1, "<init>", "()V"⟩
abbrev cX1_clear : ByteArray := prog_3_method_2_code
def yX1_clear : MethodName := ⟨RX1, "clear", "()V"⟩
abbrev cX1_offer : ByteArray := prog_3_method_3_code
def yX1_offer : MethodName := ⟨RX1, "offer", "(JI)V"⟩
def RX2 : String := "GoneOverboard$Draws"
def TX2 : u_T := fun k => match k with
  | _ => ("GoneOverboard$Draws", "state", "J", false)
def tyX2 : Nat → FieldType := fun k => match k with
  | _ => .long
abbrev wsX20 : List Cond := u_ws RX2 TX2 1
theorem nmX2 : ∀ a, a < 1 → ∀ b, b < 1 → a ≠ b → (TX2 a).2.1 ≠ (TX2 b).2.1 := by decide +kernel
theorem tyX2_ok : ∀ k, k < 1 → parseFieldDescriptor (TX2 k).2.2.1 = some (tyX2 k) := by decide +kernel
abbrev cX2_init : ByteArray := prog_4_method_1_code
def yX2_init : MethodName := ⟨RX2, "<init>", "()V"⟩
abbrev cX2_below : ByteArray := prog_4_method_2_code
def yX2_below : MethodName := ⟨RX2, "below", "(I)I"⟩
def RX3 : String := "GoneOverboard$Fraction"
def TX3 : u_T := fun k => match k with
  | _ => ("", "", "", false)
def tyX3 : Nat → FieldType := fun k => match k with
  | _ => .int
abbrev wsX30 : List Cond := u_ws RX3 TX3 0
theorem nmX3 : ∀ a, a < 0 → ∀ b, b < 0 → a ≠ b → (TX3 a).2.1 ≠ (TX3 b).2.1 := by decide +kernel
theorem tyX3_ok : ∀ k, k < 0 → parseFieldDescriptor (TX3 k).2.2.1 = some (tyX3 k) := by decide +kernel
abbrev cX3_part : ByteArray := prog_5_method_2_code
def yX3_part : MethodName := ⟨RX3, "part", "(JJZ)J"⟩
abbrev cX3_commonOf : ByteArray := prog_5_method_3_code
def yX3_commonOf : MethodName := ⟨RX3, "commonOf", "(JJ)J"⟩
def RX4 : String := "GoneOverboard$Scene"
def TX4 : u_T := fun k => match k with
  | 0 => ("GoneOverboard$Scene", "weights", "[J", true)
  | 1 => ("GoneOverboard$Scene", "lows", "[I", true)
  | 2 => ("GoneOverboard$Scene", "highs", "[I", true)
  | 3 => ("GoneOverboard$Scene", "ship", "I", false)
  | 4 => ("GoneOverboard$Scene", "step", "I", false)
  | _ => ("GoneOverboard$Scene", "heard", "I", false)
def tyX4 : Nat → FieldType := fun k => match k with
  | 0 => .array .long
  | 1 => .array .int
  | 2 => .array .int
  | 3 => .int
  | 4 => .int
  | _ => .int
abbrev wsX40 : List Cond := u_ws RX4 TX4 6
theorem nmX4 : ∀ a, a < 6 → ∀ b, b < 6 → a ≠ b → (TX4 a).2.1 ≠ (TX4 b).2.1 := by decide +kernel
theorem tyX4_ok : ∀ k, k < 6 → parseFieldDescriptor (TX4 k).2.2.1 = some (tyX4 k) := by decide +kernel
abbrev cX4_init : ByteArray := prog_6_method_1_code
def yX4_init : MethodName := ⟨RX4, "<init>", "()V"⟩
abbrev cX4_begin : ByteArray := prog_6_method_2_code
def yX4_begin : MethodName := ⟨RX4, "begin", "(LGoneOverboard$Told;)V"⟩
abbrev cX4_copy : ByteArray := prog_6_method_3_code
def yX4_copy : MethodName := ⟨RX4, "copy", "(LGoneOverboard$Scene;)V"⟩
abbrev cX4_of : ByteArray := prog_6_method_4_code
def yX4_of : MethodName := ⟨RX4, "of", "(I)J"⟩
abbrev cX4_lowOf : ByteArray := prog_6_method_5_code
def yX4_lowOf : MethodName := ⟨RX4, "lowOf", "(I)I"⟩
abbrev cX4_highOf : ByteArray := prog_6_method_6_code
def yX4_highOf : MethodName := ⟨RX4, "highOf", "(I)I"⟩
abbrev cX4_together : ByteArray := prog_6_method_7_code
def yX4_together : MethodName := ⟨RX4, "together", "()J"⟩
abbrev cX4_cellBits : ByteArray := prog_6_method_8_code
def yX4_cellBits : MethodName := ⟨RX4, "cellBits", "()I"⟩
abbrev cX4_placeBy : ByteArray := prog_6_method_9_code
def yX4_placeBy : MethodName := ⟨RX4, "placeBy", "(I)I"⟩
abbrev cX4_foundNow : ByteArray := prog_6_method_10_code
def yX4_foundNow : MethodName := ⟨RX4, "foundNow", "(LGoneOverboard$Told;I)J"⟩
abbrev cX4_act : ByteArray := prog_6_method_11_code
def yX4_act : MethodName := ⟨RX4, "act", "(LGoneOverboard$Told;I)V"⟩
abbrev cX4_lookBy : ByteArray := prog_6_method_12_code
def yX4_lookBy : MethodName := ⟨RX4, "lookBy", "(LGoneOverboard$Told;I)V"⟩
abbrev cX4_lessen : ByteArray := prog_6_method_13_code
def yX4_lessen : MethodName := ⟨RX4, "lessen", "(II)V"⟩
abbrev cX4_pass : ByteArray := prog_6_method_14_code
def yX4_pass : MethodName := ⟨RX4, "pass", "(LGoneOverboard$Told;)V"⟩
abbrev cX4_believe : ByteArray := prog_6_method_15_code
def yX4_believe : MethodName := ⟨RX4, "believe", "(III)V"⟩
def RX5 : String := "GoneOverboard$Scenes"
def TX5 : u_T := fun k => match k with
  | _ => ("GoneOverboard$Scenes", "row", "[LGoneOverboard$Scene;", true)
def tyX5 : Nat → FieldType := fun k => match k with
  | _ => .array (.object "GoneOverboard$Scene")
abbrev wsX50 : List Cond := u_ws RX5 TX5 1
theorem nmX5 : ∀ a, a < 1 → ∀ b, b < 1 → a ≠ b → (TX5 a).2.1 ≠ (TX5 b).2.1 := by decide +kernel
theorem tyX5_ok : ∀ k, k < 1 → parseFieldDescriptor (TX5 k).2.2.1 = some (tyX5 k) := by decide +kernel
abbrev cX5_init : ByteArray := prog_7_method_1_code
def yX5_init : MethodName := ⟨RX5, "<init>", "(I)V"⟩
abbrev cX5_at : ByteArray := prog_7_method_2_code
def yX5_at : MethodName := ⟨RX5, "at", "(I)LGoneOverboard$Scene;"⟩
abbrev cX5_put : ByteArray := prog_7_method_3_code
def yX5_put : MethodName := ⟨RX5, "put", "(ILGoneOverboard$Scene;)V"⟩
abbrev cX5_give : ByteArray := prog_7_method_4_code
def yX5_give : MethodName := ⟨RX5, "give", "(ILGoneOverboard$Scene;)V"⟩
def RX6 : String := "GoneOverboard$Text"
def TX6 : u_T := fun k => match k with
  | 0 => ("GoneOverboard$Text", "letters", "[I", true)
  | 1 => ("GoneOverboard$Text", "length", "I", false)
  | 2 => ("GoneOverboard$Text", "awaits", "I", false)
  | 3 => ("GoneOverboard$Text", "freeCells", "I", false)
  | 4 => ("GoneOverboard$Text", "freeAboard", "Z", false)
  | _ => ("GoneOverboard$Text", "freeSecond", "Z", false)
def tyX6 : Nat → FieldType := fun k => match k with
  | 0 => .array .int
  | 1 => .int
  | 2 => .int
  | 3 => .int
  | 4 => .boolean
  | _ => .boolean
abbrev wsX60 : List Cond := u_ws RX6 TX6 6
theorem nmX6 : ∀ a, a < 6 → ∀ b, b < 6 → a ≠ b → (TX6 a).2.1 ≠ (TX6 b).2.1 := by decide +kernel
theorem tyX6_ok : ∀ k, k < 6 → parseFieldDescriptor (TX6 k).2.2.1 = some (tyX6 k) := by decide +kernel
abbrev cX6_init : ByteArray := prog_8_method_1_code
def yX6_init : MethodName := ⟨RX6, "<init>", "()V"⟩
abbrev cX6_size : ByteArray := prog_8_method_2_code
def yX6_size : MethodName := ⟨RX6, "size", "()I"⟩
abbrev cX6_isFull : ByteArray := prog_8_method_3_code
def yX6_isFull : MethodName := ⟨RX6, "isFull", "()Z"⟩
abbrev cX6_add : ByteArray := prog_8_method_4_code
def yX6_add : MethodName := ⟨RX6, "add", "(I)I"⟩
abbrev cX6_clear : ByteArray := prog_8_method_5_code
def yX6_clear : MethodName := ⟨RX6, "clear", "()I"⟩
abbrev cX6_letterAt : ByteArray := prog_8_method_6_code
def yX6_letterAt : MethodName := ⟨RX6, "letterAt", "(I)I"⟩
abbrev cX6_digitAt : ByteArray := prog_8_method_7_code
def yX6_digitAt : MethodName := ⟨RX6, "digitAt", "(I)I"⟩
abbrev cX6_firstFault : ByteArray := prog_8_method_8_code
def yX6_firstFault : MethodName := ⟨RX6, "firstFault", "()I"⟩
abbrev cX6_headFits : ByteArray := prog_8_method_9_code
def yX6_headFits : MethodName := ⟨RX6, "headFits", "(I)Z"⟩
abbrev cX6_partFits : ByteArray := prog_8_method_10_code
def yX6_partFits : MethodName := ⟨RX6, "partFits", "(I)Z"⟩
abbrev cX6_partBegins : ByteArray := prog_8_method_11_code
def yX6_partBegins : MethodName := ⟨RX6, "partBegins", "(I)Z"⟩
abbrev cX6_takeCell : ByteArray := prog_8_method_12_code
def yX6_takeCell : MethodName := ⟨RX6, "takeCell", "(I)Z"⟩
def RX7 : String := "GoneOverboard$Told"
def TX7 : u_T := fun k => match k with
  | 0 => ("GoneOverboard$Told", "on", "I", false)
  | 1 => ("GoneOverboard$Told", "back", "I", false)
  | 2 => ("GoneOverboard$Told", "sees", "I", false)
  | 3 => ("GoneOverboard$Told", "finds", "I", false)
  | 4 => ("GoneOverboard$Told", "begin", "I", false)
  | 5 => ("GoneOverboard$Told", "lasts", "I", false)
  | 6 => ("GoneOverboard$Told", "secondCell", "I", false)
  | 7 => ("GoneOverboard$Told", "secondStep", "I", false)
  | _ => ("GoneOverboard$Told", "parts", "[I", true)
def tyX7 : Nat → FieldType := fun k => match k with
  | 0 => .int
  | 1 => .int
  | 2 => .int
  | 3 => .int
  | 4 => .int
  | 5 => .int
  | 6 => .int
  | 7 => .int
  | _ => .array .int
abbrev wsX70 : List Cond := u_ws RX7 TX7 9
theorem nmX7 : ∀ a, a < 9 → ∀ b, b < 9 → a ≠ b → (TX7 a).2.1 ≠ (TX7 b).2.1 := by decide +kernel
theorem tyX7_ok : ∀ k, k < 9 → parseFieldDescriptor (TX7 k).2.2.1 = some (tyX7 k) := by decide +kernel
abbrev cX7_init : ByteArray := prog_9_method_1_code
def yX7_init : MethodName := ⟨RX7, "<init>", "()V"⟩
abbrev cX7_take : ByteArray := prog_9_method_2_code
def yX7_take : MethodName := ⟨RX7, "take", "(LGoneOverboard$Text;)V"⟩
abbrev cX7_takePart : ByteArray := prog_9_method_3_code
def yX7_takePart : MethodName := ⟨RX7, "takePart", "(LGoneOverboard$Text;I)V"⟩
abbrev cX7_setPart : ByteArray := prog_9_method_4_code
def yX7_setPart : MethodName := ⟨RX7, "setPart", "(II)V"⟩
abbrev cX7_partAt : ByteArray := prog_9_method_5_code
def yX7_partAt : MethodName := ⟨RX7, "partAt", "(I)I"⟩
abbrev cX7_partsFrom : ByteArray := prog_9_method_6_code
def yX7_partsFrom : MethodName := ⟨RX7, "partsFrom", "(II)I"⟩
abbrev cX7_allParts : ByteArray := prog_9_method_7_code
def yX7_allParts : MethodName := ⟨RX7, "allParts", "()I"⟩
abbrev cX7_chanceAt : ByteArray := prog_9_method_8_code
def yX7_chanceAt : MethodName := ⟨RX7, "chanceAt", "(I)I"⟩
abbrev cX7_placeOfPart : ByteArray := prog_9_method_9_code
def yX7_placeOfPart : MethodName := ⟨RX7, "placeOfPart", "(I)I"⟩
abbrev cX7_drifted : ByteArray := prog_9_method_10_code
def yX7_drifted : MethodName := ⟨RX7, "drifted", "(II)I"⟩
def RX8 : String := "GoneOverboard"
def TX8 : u_T := fun k => match k with
  | 0 => ("GoneOverboard", "text", "LGoneOverboard$Text;", true)
  | 1 => ("GoneOverboard", "told", "LGoneOverboard$Told;", true)
  | 2 => ("GoneOverboard", "now", "LGoneOverboard$Scene;", true)
  | 3 => ("GoneOverboard", "spare", "LGoneOverboard$Scene;", true)
  | 4 => ("GoneOverboard", "acts", "LGoneOverboard$Scenes;", true)
  | 5 => ("GoneOverboard", "slots", "LGoneOverboard$Scenes;", true)
  | 6 => ("GoneOverboard", "ahead", "LGoneOverboard$Ahead;", true)
  | 7 => ("GoneOverboard", "draws", "LGoneOverboard$Draws;", true)
  | 8 => ("GoneOverboard", "keptBits", "I", false)
  | _ => ("GoneOverboard", "actsDone", "I", false)
def tyX8 : Nat → FieldType := fun k => match k with
  | 0 => .object "GoneOverboard$Text"
  | 1 => .object "GoneOverboard$Told"
  | 2 => .object "GoneOverboard$Scene"
  | 3 => .object "GoneOverboard$Scene"
  | 4 => .object "GoneOverboard$Scenes"
  | 5 => .object "GoneOverboard$Scenes"
  | 6 => .object "GoneOverboard$Ahead"
  | 7 => .object "GoneOverboard$Draws"
  | 8 => .int
  | _ => .int
abbrev wsX80 : List Cond := u_ws RX8 TX8 10
theorem nmX8 : ∀ a, a < 10 → ∀ b, b < 10 → a ≠ b → (TX8 a).2.1 ≠ (TX8 b).2.1 := by decide +kernel
theorem tyX8_ok : ∀ k, k < 10 → parseFieldDescriptor (TX8 k).2.2.1 = some (tyX8 k) := by decide +kernel
abbrev cX8_init : ByteArray := prog_1_method_1_code
def yX8_init : MethodName := ⟨RX8, "<init>", "()V"⟩
abbrev cX8_write : ByteArray := prog_1_method_2_code
def yX8_write : MethodName := ⟨RX8, "write", "(I)I"⟩
abbrev cX8_wipe : ByteArray := prog_1_method_3_code
def yX8_wipe : MethodName := ⟨RX8, "wipe", "()I"⟩
abbrev cX8_fault : ByteArray := prog_1_method_4_code
def yX8_fault : MethodName := ⟨RX8, "fault", "()I"⟩
abbrev cX8_search : ByteArray := prog_1_method_5_code
def yX8_search : MethodName := ⟨RX8, "search", "()I"⟩
abbrev cX8_look : ByteArray := prog_1_method_6_code
def yX8_look : MethodName := ⟨RX8, "look", "(I)I"⟩
abbrev cX8_lookAboard : ByteArray := prog_1_method_7_code
def yX8_lookAboard : MethodName := ⟨RX8, "lookAboard", "()I"⟩
abbrev cX8_hear : ByteArray := prog_1_method_8_code
def yX8_hear : MethodName := ⟨RX8, "hear", "(III)I"⟩
abbrev cX8_undo : ByteArray := prog_1_method_9_code
def yX8_undo : MethodName := ⟨RX8, "undo", "()I"⟩
abbrev cX8_weight : ByteArray := prog_1_method_10_code
def yX8_weight : MethodName := ⟨RX8, "weight", "(I)J"⟩
abbrev cX8_likely : ByteArray := prog_1_method_11_code
def yX8_likely : MethodName := ⟨RX8, "likely", "(IZ)J"⟩
abbrev cX8_likeliest : ByteArray := prog_1_method_12_code
def yX8_likeliest : MethodName := ⟨RX8, "likeliest", "()I"⟩
abbrev cX8_by : ByteArray := prog_1_method_13_code
def yX8_by : MethodName := ⟨RX8, "by", "(IIZ)J"⟩
abbrev cX8_best : ByteArray := prog_1_method_14_code
def yX8_best : MethodName := ⟨RX8, "best", "(IZ)J"⟩
abbrev cX8_bestRow : ByteArray := prog_1_method_15_code
def yX8_bestRow : MethodName := ⟨RX8, "bestRow", "(I)I"⟩
abbrev cX8_soon : ByteArray := prog_1_method_16_code
def yX8_soon : MethodName := ⟨RX8, "soon", "(I)I"⟩
abbrev cX8_first : ByteArray := prog_1_method_17_code
def yX8_first : MethodName := ⟨RX8, "first", "(IZ)J"⟩
abbrev cX8_withSecond : ByteArray := prog_1_method_18_code
def yX8_withSecond : MethodName := ⟨RX8, "withSecond", "(IZ)J"⟩
abbrev cX8_lanes : ByteArray := prog_1_method_19_code
def yX8_lanes : MethodName := ⟨RX8, "lanes", "()I"⟩
abbrev cX8_judge : ByteArray := prog_1_method_20_code
def yX8_judge : MethodName := ⟨RX8, "judge", "(II)I"⟩
abbrev cX8_said : ByteArray := prog_1_method_21_code
def yX8_said : MethodName := ⟨RX8, "said", "(I)I"⟩
abbrev cX8_trust : ByteArray := prog_1_method_22_code
def yX8_trust : MethodName := ⟨RX8, "trust", "(IIIZ)J"⟩
abbrev cX8_seed : ByteArray := prog_1_method_23_code
def yX8_seed : MethodName := ⟨RX8, "seed", "(J)J"⟩
abbrev cX8_trials : ByteArray := prog_1_method_24_code
def yX8_trials : MethodName := ⟨RX8, "trials", "(III)I"⟩
abbrev cX8_keep : ByteArray := prog_1_method_25_code
def yX8_keep : MethodName := ⟨RX8, "keep", "(I)I"⟩
abbrev cX8_again : ByteArray := prog_1_method_26_code
def yX8_again : MethodName := ⟨RX8, "again", "(I)I"⟩
abbrev cX8_count : ByteArray := prog_1_method_27_code
def yX8_count : MethodName := ⟨RX8, "count", "(I)I"⟩
abbrev cX8_remember : ByteArray := prog_1_method_28_code
def yX8_remember : MethodName := ⟨RX8, "remember", "()V"⟩
abbrev cX8_isLeft : ByteArray := prog_1_method_29_code
def yX8_isLeft : MethodName := ⟨RX8, "isLeft", "(I)Z"⟩
abbrev cX8_foundBy : ByteArray := prog_1_method_30_code
def yX8_foundBy : MethodName := ⟨RX8, "foundBy", "(II)J"⟩
abbrev cX8_isFound : ByteArray := prog_1_method_31_code
def yX8_isFound : MethodName := ⟨RX8, "isFound", "(II)Z"⟩
abbrev cX8_isWithin : ByteArray := prog_1_method_32_code
def yX8_isWithin : MethodName := ⟨RX8, "isWithin", "(III)Z"⟩
abbrev cX8_isSaying : ByteArray := prog_1_method_33_code
def yX8_isSaying : MethodName := ⟨RX8, "isSaying", "(III)Z"⟩
abbrev cX8_isRow : ByteArray := prog_1_method_34_code
def yX8_isRow : MethodName := ⟨RX8, "isRow", "(II)Z"⟩
abbrev cX8_figureOf : ByteArray := prog_1_method_35_code
def yX8_figureOf : MethodName := ⟨RX8, "figureOf", "(III)I"⟩
abbrev cX8_power : ByteArray := prog_1_method_36_code
def yX8_power : MethodName := ⟨RX8, "power", "(JI)J"⟩
abbrev cX8_moved : ByteArray := prog_1_method_37_code
def yX8_moved : MethodName := ⟨RX8, "moved", "(II)I"⟩
def RX9 : String := "GoneOverboardModel"
def TX9 : u_T := fun k => match k with
  | 0 => ("GoneOverboardModel", "on", "I", false)
  | 1 => ("GoneOverboardModel", "back", "I", false)
  | 2 => ("GoneOverboardModel", "sees", "I", false)
  | 3 => ("GoneOverboardModel", "finds", "I", false)
  | 4 => ("GoneOverboardModel", "begin", "I", false)
  | 5 => ("GoneOverboardModel", "lasts", "I", false)
  | 6 => ("GoneOverboardModel", "second", "I", false)
  | 7 => ("GoneOverboardModel", "secondFrom", "I", false)
  | 8 => ("GoneOverboardModel", "isSecond", "Z", false)
  | 9 => ("GoneOverboardModel", "parts", "[I", true)
  | 10 => ("GoneOverboardModel", "read", "[I", true)
  | 11 => ("GoneOverboardModel", "readParts", "[I", true)
  | 12 => ("GoneOverboardModel", "readSecond", "I", false)
  | 13 => ("GoneOverboardModel", "readFrom", "I", false)
  | 14 => ("GoneOverboardModel", "weights", "[J", true)
  | 15 => ("GoneOverboardModel", "now", "[I", true)
  | 16 => ("GoneOverboardModel", "text", "[I", true)
  | 17 => ("GoneOverboardModel", "length", "I", false)
  | 18 => ("GoneOverboardModel", "at", "I", false)
  | 19 => ("GoneOverboardModel", "faultAt", "I", false)
  | 20 => ("GoneOverboardModel", "then", "[J", true)
  | 21 => ("GoneOverboardModel", "acts", "I", false)
  | 22 => ("GoneOverboardModel", "rowWeights", "[J", true)
  | 23 => ("GoneOverboardModel", "row", "[I", true)
  | 24 => ("GoneOverboardModel", "foundRow", "I", false)
  | 25 => ("GoneOverboardModel", "seed", "J", false)
  | 26 => ("GoneOverboardModel", "isKept", "[Z", true)
  | 27 => ("GoneOverboardModel", "keptWeights", "[J", true)
  | _ => ("GoneOverboardModel", "kept", "[I", true)
def tyX9 : Nat → FieldType := fun k => match k with
  | 0 => .int
  | 1 => .int
  | 2 => .int
  | 3 => .int
  | 4 => .int
  | 5 => .int
  | 6 => .int
  | 7 => .int
  | 8 => .boolean
  | 9 => .array .int
  | 10 => .array .int
  | 11 => .array .int
  | 12 => .int
  | 13 => .int
  | 14 => .array .long
  | 15 => .array .int
  | 16 => .array .int
  | 17 => .int
  | 18 => .int
  | 19 => .int
  | 20 => .array .long
  | 21 => .int
  | 22 => .array .long
  | 23 => .array .int
  | 24 => .int
  | 25 => .long
  | 26 => .array .boolean
  | 27 => .array .long
  | _ => .array .int
abbrev wsX90 : List Cond := u_ws RX9 TX9 29
theorem nmX9 : ∀ a, a < 29 → ∀ b, b < 29 → a ≠ b → (TX9 a).2.1 ≠ (TX9 b).2.1 := by decide +kernel
theorem tyX9_ok : ∀ k, k < 29 → parseFieldDescriptor (TX9 k).2.2.1 = some (tyX9 k) := by decide +kernel
abbrev cX9_init : ByteArray := prog_11_method_1_code
def yX9_init : MethodName := ⟨RX9, "<init>", "()V"⟩
abbrev cX9_in : ByteArray := prog_11_method_3_code
def yX9_in : MethodName := ⟨RX9, "in", "(JJJ)Z"⟩
abbrev cX9_write : ByteArray := prog_11_method_4_code
def yX9_write : MethodName := ⟨RX9, "write", "(I)I"⟩
abbrev cX9_wipe : ByteArray := prog_11_method_5_code
def yX9_wipe : MethodName := ⟨RX9, "wipe", "()I"⟩
abbrev cX9_figure : ByteArray := prog_11_method_6_code
def yX9_figure : MethodName := ⟨RX9, "figure", "(II)I"⟩
abbrev cX9_freshCell : ByteArray := prog_11_method_7_code
def yX9_freshCell : MethodName := ⟨RX9, "freshCell", "()I"⟩
abbrev cX9_isCellLeft : ByteArray := prog_11_method_8_code
def yX9_isCellLeft : MethodName := ⟨RX9, "isCellLeft", "()Z"⟩
abbrev cX9_readText : ByteArray := prog_11_method_9_code
def yX9_readText : MethodName := ⟨RX9, "readText", "()I"⟩
abbrev cX9_readPart : ByteArray := prog_11_method_10_code
def yX9_readPart : MethodName := ⟨RX9, "readPart", "(I)V"⟩
abbrev cX9_fault : ByteArray := prog_11_method_11_code
def yX9_fault : MethodName := ⟨RX9, "fault", "()I"⟩
abbrev cX9_allParts : ByteArray := prog_11_method_12_code
def yX9_allParts : MethodName := ⟨RX9, "allParts", "()I"⟩
abbrev cX9_search : ByteArray := prog_11_method_13_code
def yX9_search : MethodName := ⟨RX9, "search", "()I"⟩
abbrev cX9_lay : ByteArray := prog_11_method_14_code
def yX9_lay : MethodName := ⟨RX9, "lay", "(II)V"⟩
abbrev cX9_sumOf : ByteArray := prog_11_method_15_code
def yX9_sumOf : MethodName := ⟨RX9, "sumOf", "(I)J"⟩
abbrev cX9_to : ByteArray := prog_11_method_16_code
def yX9_to : MethodName := ⟨RX9, "to", "(II)I"⟩
abbrev cX9_lookAt : ByteArray := prog_11_method_17_code
def yX9_lookAt : MethodName := ⟨RX9, "lookAt", "(II)J"⟩
abbrev cX9_drift : ByteArray := prog_11_method_18_code
def yX9_drift : MethodName := ⟨RX9, "drift", "(II)V"⟩
abbrev cX9_keepAct : ByteArray := prog_11_method_19_code
def yX9_keepAct : MethodName := ⟨RX9, "keepAct", "()V"⟩
abbrev cX9_look : ByteArray := prog_11_method_20_code
def yX9_look : MethodName := ⟨RX9, "look", "(I)I"⟩
abbrev cX9_lookAboard : ByteArray := prog_11_method_21_code
def yX9_lookAboard : MethodName := ⟨RX9, "lookAboard", "()I"⟩
abbrev cX9_isWitness : ByteArray := prog_11_method_22_code
def yX9_isWitness : MethodName := ⟨RX9, "isWitness", "(III)Z"⟩
abbrev cX9_hear : ByteArray := prog_11_method_23_code
def yX9_hear : MethodName := ⟨RX9, "hear", "(III)I"⟩
abbrev cX9_undo : ByteArray := prog_11_method_24_code
def yX9_undo : MethodName := ⟨RX9, "undo", "()I"⟩
abbrev cX9_weight : ByteArray := prog_11_method_25_code
def yX9_weight : MethodName := ⟨RX9, "weight", "(I)J"⟩
abbrev cX9_common : ByteArray := prog_11_method_26_code
def yX9_common : MethodName := ⟨RX9, "common", "(JJ)J"⟩
abbrev cX9_likely : ByteArray := prog_11_method_27_code
def yX9_likely : MethodName := ⟨RX9, "likely", "(IZ)J"⟩
abbrev cX9_likeliest : ByteArray := prog_11_method_28_code
def yX9_likeliest : MethodName := ⟨RX9, "likeliest", "()I"⟩
abbrev cX9_tenTo : ByteArray := prog_11_method_29_code
def yX9_tenTo : MethodName := ⟨RX9, "tenTo", "(I)I"⟩
abbrev cX9_isRow : ByteArray := prog_11_method_30_code
def yX9_isRow : MethodName := ⟨RX9, "isRow", "(II)Z"⟩
abbrev cX9_canLook : ByteArray := prog_11_method_31_code
def yX9_canLook : MethodName := ⟨RX9, "canLook", "(I)Z"⟩
abbrev cX9_foundBy : ByteArray := prog_11_method_32_code
def yX9_foundBy : MethodName := ⟨RX9, "foundBy", "(II)J"⟩
abbrev cX9_allTimes : ByteArray := prog_11_method_33_code
def yX9_allTimes : MethodName := ⟨RX9, "allTimes", "(II)J"⟩
abbrev cX9_part : ByteArray := prog_11_method_34_code
def yX9_part : MethodName := ⟨RX9, "part", "(JJZ)J"⟩
abbrev cX9_by : ByteArray := prog_11_method_35_code
def yX9_by : MethodName := ⟨RX9, "by", "(IIZ)J"⟩
abbrev cX9_bestBy : ByteArray := prog_11_method_36_code
def yX9_bestBy : MethodName := ⟨RX9, "bestBy", "(II)J"⟩
abbrev cX9_best : ByteArray := prog_11_method_37_code
def yX9_best : MethodName := ⟨RX9, "best", "(IZ)J"⟩
abbrev cX9_bestRow : ByteArray := prog_11_method_38_code
def yX9_bestRow : MethodName := ⟨RX9, "bestRow", "(I)I"⟩
abbrev cX9_soon : ByteArray := prog_11_method_39_code
def yX9_soon : MethodName := ⟨RX9, "soon", "(I)I"⟩
abbrev cX9_first : ByteArray := prog_11_method_40_code
def yX9_first : MethodName := ⟨RX9, "first", "(IZ)J"⟩
abbrev cX9_lookTwice : ByteArray := prog_11_method_41_code
def yX9_lookTwice : MethodName := ⟨RX9, "lookTwice", "(III)J"⟩
abbrev cX9_foundByTwo : ByteArray := prog_11_method_42_code
def yX9_foundByTwo : MethodName := ⟨RX9, "foundByTwo", "(II)J"⟩
abbrev cX9_withSecond : ByteArray := prog_11_method_43_code
def yX9_withSecond : MethodName := ⟨RX9, "withSecond", "(IZ)J"⟩
abbrev cX9_lanes : ByteArray := prog_11_method_44_code
def yX9_lanes : MethodName := ⟨RX9, "lanes", "()I"⟩
abbrev cX9_judge : ByteArray := prog_11_method_45_code
def yX9_judge : MethodName := ⟨RX9, "judge", "(II)I"⟩
abbrev cX9_partsIn : ByteArray := prog_11_method_46_code
def yX9_partsIn : MethodName := ⟨RX9, "partsIn", "(II)I"⟩
abbrev cX9_said : ByteArray := prog_11_method_47_code
def yX9_said : MethodName := ⟨RX9, "said", "(I)I"⟩
abbrev cX9_trust : ByteArray := prog_11_method_48_code
def yX9_trust : MethodName := ⟨RX9, "trust", "(IIIZ)J"⟩
abbrev cX9_seed : ByteArray := prog_11_method_49_code
def yX9_seed : MethodName := ⟨RX9, "seed", "(J)J"⟩
abbrev cX9_drawn : ByteArray := prog_11_method_50_code
def yX9_drawn : MethodName := ⟨RX9, "drawn", "(I)I"⟩
abbrev cX9_isFound : ByteArray := prog_11_method_51_code
def yX9_isFound : MethodName := ⟨RX9, "isFound", "(II)Z"⟩
abbrev cX9_trials : ByteArray := prog_11_method_52_code
def yX9_trials : MethodName := ⟨RX9, "trials", "(III)I"⟩
abbrev cX9_keep : ByteArray := prog_11_method_53_code
def yX9_keep : MethodName := ⟨RX9, "keep", "(I)I"⟩
abbrev cX9_again : ByteArray := prog_11_method_54_code
def yX9_again : MethodName := ⟨RX9, "again", "(I)I"⟩
abbrev cX9_count : ByteArray := prog_11_method_55_code
def yX9_count : MethodName := ⟨RX9, "count", "(I)I"⟩
def RJ9 : String := "java/lang/Math"
def TJ9 : u_T := fun k => match k with
  | _ => ("", "", "", false)
def tyJ9 : Nat → FieldType := fun k => match k with
  | _ => .int
abbrev wsJ90 : List Cond := u_ws RJ9 TJ9 0
theorem nmJ9 : ∀ a, a < 0 → ∀ b, b < 0 → a ≠ b → (TJ9 a).2.1 ≠ (TJ9 b).2.1 := by decide +kernel
theorem tyJ9_ok : ∀ k, k < 0 → parseFieldDescriptor (TJ9 k).2.2.1 = some (tyJ9 k) := by decide +kernel
abbrev cJ9_abs_067f4 : ByteArray := prog_12_method_61_code
def yJ9_abs_067f4 : MethodName := ⟨RJ9, "abs", "(J)J"⟩
abbrev cJ9_max_7cf53 : ByteArray := prog_12_method_65_code
def yJ9_max_7cf53 : MethodName := ⟨RJ9, "max", "(II)I"⟩
abbrev cJ9_min_7cf53 : ByteArray := prog_12_method_69_code
def yJ9_min_7cf53 : MethodName := ⟨RJ9, "min", "(II)I"⟩
def RL : String := "GoneOverboardLaw"
abbrev cL_law : ByteArray := code
def yL_law : MethodName := ⟨RL, "law", "([I)Z"⟩
def wsX4_init : List Cond := .code yX4_init cX4_init 1 none :: ([.methodLink RX4 3 objectInit, .instanceMethod objectInit, .code objectInit ⟨#[0xb1]⟩ 1 none, .arrayClass .long, .fieldLink RX4 9 "GoneOverboard$Scene" "weights" "[J", .arrayClass .int, .fieldLink RX4 15 "GoneOverboard$Scene" "lows" "[I", .fieldLink RX4 19 "GoneOverboard$Scene" "highs" "[I"] ++ wsX40)
def wsX5_init : List Cond := .code yX5_init cX5_init 3 none :: ([.methodLink RX5 1 objectInit, .instanceMethod objectInit, .code objectInit ⟨#[0xb1]⟩ 1 none, .methodLink RX5 7 Lib.Math.max.name, .static Lib.Math.max.name, .initialized "java/lang/Math", .code Lib.Math.max.name Lib.Math.max.code 2 (some .int), .classLink RX5 13 RX4, .fieldLink RX5 15 "GoneOverboard$Scenes" "row" "[LGoneOverboard$Scene;", .instantiable RX4 6, .initialized RX4, .methodLink RX5 21 yX4_init, .instanceMethod yX4_init, .code yX4_init cX4_init 1 none, .methodLink RX4 3 objectInit, .arrayClass .long, .fieldLink RX4 9 "GoneOverboard$Scene" "weights" "[J", .arrayClass .int, .fieldLink RX4 15 "GoneOverboard$Scene" "lows" "[I", .fieldLink RX4 19 "GoneOverboard$Scene" "highs" "[I"] ++ wsX50 ++ wsX40)
def wsX1_init : List Cond := .code yX1_init cX1_init 1 none :: ([.methodLink RX1 1 objectInit, .instanceMethod objectInit, .code objectInit ⟨#[0xb1]⟩ 1 none])
def wsX0_init_r1 : List Cond := [Cond.methodLink RX0 3 objectInit, Cond.instanceMethod objectInit, Cond.code objectInit ⟨#[0xb1]⟩ 1 none, Cond.classLink RX0 9 RX5, Cond.instantiable RX5 1, Cond.initialized RX5, Cond.fieldLink RX0 14 "GoneOverboard$Ahead" "depths" "LGoneOverboard$Scenes;", Cond.classLink RX0 20 RX1, Cond.instantiable RX1 2, Cond.initialized RX1, Cond.fieldLink RX0 23 "GoneOverboard$Ahead" "sea" "LGoneOverboard$Best;", Cond.fieldLink RX0 27 "GoneOverboard$Ahead" "aboard" "LGoneOverboard$Best;", Cond.fieldLink RX0 30 "GoneOverboard$Ahead" "both" "LGoneOverboard$Best;", Cond.methodLink RX0 11 yX5_init, Cond.instanceMethod yX5_init, Cond.code yX5_init cX5_init 3 none, Cond.methodLink RX5 1 objectInit, Cond.methodLink RX5 7 Lib.Math.max.name, Cond.static Lib.Math.max.name, Cond.initialized "java/lang/Math", Cond.code Lib.Math.max.name Lib.Math.max.code 2 (some .int), Cond.classLink RX5 13 RX4, Cond.fieldLink RX5 15 "GoneOverboard$Scenes" "row" "[LGoneOverboard$Scene;", Cond.instantiable RX4 6]
def wsX0_init_r2 : List Cond := [Cond.initialized RX4, Cond.methodLink RX5 21 yX4_init, Cond.instanceMethod yX4_init, Cond.code yX4_init cX4_init 1 none, Cond.methodLink RX4 3 objectInit, Cond.arrayClass .long, Cond.fieldLink RX4 9 "GoneOverboard$Scene" "weights" "[J", Cond.arrayClass .int, Cond.fieldLink RX4 15 "GoneOverboard$Scene" "lows" "[I", Cond.fieldLink RX4 19 "GoneOverboard$Scene" "highs" "[I", Cond.instanceMethod yX1_init, Cond.code yX1_init cX1_init 1 none, Cond.methodLink RX1 1 objectInit]
def wsX0_init : List Cond := .code yX0_init cX0_init 1 none :: ((wsX0_init_r1 ++ wsX0_init_r2) ++ wsX50 ++ wsX00 ++ wsX10 ++ wsX40)
def wsX1_clear : List Cond := .code yX1_clear cX1_clear 1 none :: ([.constantLong RX1 7 (-1), .fieldLink RX1 9 "GoneOverboard$Best" "found" "J", .fieldLink RX1 15 "GoneOverboard$Best" "row" "I"] ++ wsX10)
def wsX5_at : List Cond := .code yX5_at cX5_at 2 (some (.object "GoneOverboard$Scene")) :: ([.fieldLink RX5 15 "GoneOverboard$Scenes" "row" "[LGoneOverboard$Scene;"] ++ wsX50)
def wsX4_of : List Cond := .code yX4_of cX4_of 2 (some .long) :: ([.fieldLink RX4 9 "GoneOverboard$Scene" "weights" "[J"] ++ wsX40)
def wsX4_lowOf : List Cond := .code yX4_lowOf cX4_lowOf 2 (some .int) :: ([.fieldLink RX4 15 "GoneOverboard$Scene" "lows" "[I"] ++ wsX40)
def wsX4_highOf : List Cond := .code yX4_highOf cX4_highOf 2 (some .int) :: ([.fieldLink RX4 19 "GoneOverboard$Scene" "highs" "[I"] ++ wsX40)
def wsX4_copy : List Cond := .code yX4_copy cX4_copy 3 none :: ([.fieldLink RX4 9 "GoneOverboard$Scene" "weights" "[J", .fieldLink RX4 15 "GoneOverboard$Scene" "lows" "[I", .fieldLink RX4 19 "GoneOverboard$Scene" "highs" "[I", .fieldLink RX4 32 "GoneOverboard$Scene" "ship" "I", .fieldLink RX4 35 "GoneOverboard$Scene" "step" "I", .fieldLink RX4 38 "GoneOverboard$Scene" "heard" "I", .methodLink RX4 41 yX4_of, .instanceMethod yX4_of, .selects RX4 yX4_of yX4_of, .initialized RX4, .code yX4_of cX4_of 2 (some .long), .methodLink RX4 45 yX4_lowOf, .instanceMethod yX4_lowOf, .selects RX4 yX4_lowOf yX4_lowOf, .code yX4_lowOf cX4_lowOf 2 (some .int), .methodLink RX4 48 yX4_highOf, .instanceMethod yX4_highOf, .selects RX4 yX4_highOf yX4_highOf, .code yX4_highOf cX4_highOf 2 (some .int)] ++ wsX40)
def wsX5_put_r1 : List Cond := [Cond.methodLink RX5 22 yX5_at, Cond.instanceMethod yX5_at, Cond.selects RX5 yX5_at yX5_at, Cond.initialized RX5, Cond.code yX5_at cX5_at 2 (some (.object "GoneOverboard$Scene")), Cond.fieldLink RX5 15 "GoneOverboard$Scenes" "row" "[LGoneOverboard$Scene;", Cond.methodLink RX5 26 yX4_copy, Cond.instanceMethod yX4_copy, Cond.selects RX4 yX4_copy yX4_copy, Cond.initialized RX4, Cond.code yX4_copy cX4_copy 3 none, Cond.fieldLink RX4 9 "GoneOverboard$Scene" "weights" "[J", Cond.fieldLink RX4 15 "GoneOverboard$Scene" "lows" "[I", Cond.fieldLink RX4 19 "GoneOverboard$Scene" "highs" "[I", Cond.fieldLink RX4 32 "GoneOverboard$Scene" "ship" "I", Cond.fieldLink RX4 35 "GoneOverboard$Scene" "step" "I", Cond.fieldLink RX4 38 "GoneOverboard$Scene" "heard" "I", Cond.methodLink RX4 41 yX4_of, Cond.instanceMethod yX4_of, Cond.selects RX4 yX4_of yX4_of, Cond.code yX4_of cX4_of 2 (some .long), Cond.methodLink RX4 45 yX4_lowOf, Cond.instanceMethod yX4_lowOf, Cond.selects RX4 yX4_lowOf yX4_lowOf]
def wsX5_put_r2 : List Cond := [Cond.code yX4_lowOf cX4_lowOf 2 (some .int), Cond.methodLink RX4 48 yX4_highOf, Cond.instanceMethod yX4_highOf, Cond.selects RX4 yX4_highOf yX4_highOf, Cond.code yX4_highOf cX4_highOf 2 (some .int)]
def wsX5_put : List Cond := .code yX5_put cX5_put 4 none :: ((wsX5_put_r1 ++ wsX5_put_r2) ++ wsX50 ++ wsX40)
def wsX8_moved : List Cond := .code yX8_moved cX8_moved 2 (some .int) :: ([.methodLink RX8 205 Lib.Math.min.name, .static Lib.Math.min.name, .initialized "java/lang/Math", .code Lib.Math.min.name Lib.Math.min.code 2 (some .int), .methodLink RX8 199 Lib.Math.max.name, .static Lib.Math.max.name, .code Lib.Math.max.name Lib.Math.max.code 2 (some .int)])
def wsX4_placeBy : List Cond := .code yX4_placeBy cX4_placeBy 2 (some .int) :: ([.fieldLink RX4 32 "GoneOverboard$Scene" "ship" "I", .static yX8_moved, .initialized RX8, .code yX8_moved cX8_moved 2 (some .int), .methodLink RX8 205 Lib.Math.min.name, .static Lib.Math.min.name, .initialized "java/lang/Math", .code Lib.Math.min.name Lib.Math.min.code 2 (some .int), .methodLink RX8 199 Lib.Math.max.name, .static Lib.Math.max.name, .code Lib.Math.max.name Lib.Math.max.code 2 (some .int)] ++ wsX40)
def wsX7_chanceAt : List Cond := .code yX7_chanceAt cX7_chanceAt 2 (some .int) :: ([.fieldLink RX7 37 "GoneOverboard$Told" "finds" "I", .fieldLink RX7 34 "GoneOverboard$Told" "sees" "I"] ++ wsX70)
def wsX4_foundNow_r1 : List Cond := [Cond.methodLink RX4 55 yX4_placeBy, Cond.instanceMethod yX4_placeBy, Cond.selects RX4 yX4_placeBy yX4_placeBy, Cond.initialized RX4, Cond.code yX4_placeBy cX4_placeBy 2 (some .int), Cond.fieldLink RX4 32 "GoneOverboard$Scene" "ship" "I", Cond.static yX8_moved, Cond.initialized RX8, Cond.code yX8_moved cX8_moved 2 (some .int), Cond.methodLink RX8 205 Lib.Math.min.name, Cond.static Lib.Math.min.name, Cond.initialized "java/lang/Math", Cond.code Lib.Math.min.name Lib.Math.min.code 2 (some .int), Cond.methodLink RX8 199 Lib.Math.max.name, Cond.static Lib.Math.max.name, Cond.code Lib.Math.max.name Lib.Math.max.code 2 (some .int), Cond.methodLink RX4 41 yX4_of, Cond.instanceMethod yX4_of, Cond.selects RX4 yX4_of yX4_of, Cond.code yX4_of cX4_of 2 (some .long), Cond.fieldLink RX4 9 "GoneOverboard$Scene" "weights" "[J", Cond.methodLink RX4 58 yX7_chanceAt, Cond.instanceMethod yX7_chanceAt, Cond.selects RX7 yX7_chanceAt yX7_chanceAt]
def wsX4_foundNow_r2 : List Cond := [Cond.initialized RX7, Cond.code yX7_chanceAt cX7_chanceAt 2 (some .int), Cond.fieldLink RX7 37 "GoneOverboard$Told" "finds" "I", Cond.fieldLink RX7 34 "GoneOverboard$Told" "sees" "I"]
def wsX4_foundNow : List Cond := .code yX4_foundNow cX4_foundNow 4 (some .long) :: ((wsX4_foundNow_r1 ++ wsX4_foundNow_r2) ++ wsX40 ++ wsX70)
def wsX1_offer : List Cond := .code yX1_offer cX1_offer 4 none :: ([.fieldLink RX1 9 "GoneOverboard$Best" "found" "J", .fieldLink RX1 15 "GoneOverboard$Best" "row" "I"] ++ wsX10)
def wsX4_lessen : List Cond := .code yX4_lessen cX4_lessen 4 none :: ([.fieldLink RX4 9 "GoneOverboard$Scene" "weights" "[J", .constantLong RX4 73 (10)] ++ wsX40)
def wsX4_lookBy_r1 : List Cond := [Cond.fieldLink RX4 32 "GoneOverboard$Scene" "ship" "I", Cond.methodLink RX4 55 yX4_placeBy, Cond.instanceMethod yX4_placeBy, Cond.selects RX4 yX4_placeBy yX4_placeBy, Cond.initialized RX4, Cond.code yX4_placeBy cX4_placeBy 2 (some .int), Cond.static yX8_moved, Cond.initialized RX8, Cond.code yX8_moved cX8_moved 2 (some .int), Cond.methodLink RX8 205 Lib.Math.min.name, Cond.static Lib.Math.min.name, Cond.initialized "java/lang/Math", Cond.code Lib.Math.min.name Lib.Math.min.code 2 (some .int), Cond.methodLink RX8 199 Lib.Math.max.name, Cond.static Lib.Math.max.name, Cond.code Lib.Math.max.name Lib.Math.max.code 2 (some .int), Cond.methodLink RX4 58 yX7_chanceAt, Cond.instanceMethod yX7_chanceAt, Cond.selects RX7 yX7_chanceAt yX7_chanceAt, Cond.initialized RX7, Cond.code yX7_chanceAt cX7_chanceAt 2 (some .int), Cond.fieldLink RX7 37 "GoneOverboard$Told" "finds" "I", Cond.fieldLink RX7 34 "GoneOverboard$Told" "sees" "I", Cond.methodLink RX4 69 yX4_lessen]
def wsX4_lookBy_r2 : List Cond := [Cond.instanceMethod yX4_lessen, Cond.selects RX4 yX4_lessen yX4_lessen, Cond.code yX4_lessen cX4_lessen 4 none, Cond.fieldLink RX4 9 "GoneOverboard$Scene" "weights" "[J", Cond.constantLong RX4 73 (10)]
def wsX4_lookBy : List Cond := .code yX4_lookBy cX4_lookBy 4 none :: ((wsX4_lookBy_r1 ++ wsX4_lookBy_r2) ++ wsX40 ++ wsX70)
def wsX4_pass : List Cond := .code yX4_pass cX4_pass 10 none :: ([.fieldLink RX4 35 "GoneOverboard$Scene" "step" "I", .fieldLink RX4 9 "GoneOverboard$Scene" "weights" "[J", .constantLong RX4 73 (10), .methodLink RX4 41 yX4_of, .instanceMethod yX4_of, .selects RX4 yX4_of yX4_of, .initialized RX4, .code yX4_of cX4_of 2 (some .long)] ++ wsX40 ++ wsX70)
def wsX4_act_r1 : List Cond := [Cond.methodLink RX4 61 yX4_lookBy, Cond.instanceMethod yX4_lookBy, Cond.selects RX4 yX4_lookBy yX4_lookBy, Cond.initialized RX4, Cond.code yX4_lookBy cX4_lookBy 4 none, Cond.fieldLink RX4 32 "GoneOverboard$Scene" "ship" "I", Cond.methodLink RX4 55 yX4_placeBy, Cond.instanceMethod yX4_placeBy, Cond.selects RX4 yX4_placeBy yX4_placeBy, Cond.code yX4_placeBy cX4_placeBy 2 (some .int), Cond.static yX8_moved, Cond.initialized RX8, Cond.code yX8_moved cX8_moved 2 (some .int), Cond.methodLink RX8 205 Lib.Math.min.name, Cond.static Lib.Math.min.name, Cond.initialized "java/lang/Math", Cond.code Lib.Math.min.name Lib.Math.min.code 2 (some .int), Cond.methodLink RX8 199 Lib.Math.max.name, Cond.static Lib.Math.max.name, Cond.code Lib.Math.max.name Lib.Math.max.code 2 (some .int), Cond.methodLink RX4 58 yX7_chanceAt, Cond.instanceMethod yX7_chanceAt, Cond.selects RX7 yX7_chanceAt yX7_chanceAt, Cond.initialized RX7]
def wsX4_act_r2 : List Cond := [Cond.code yX7_chanceAt cX7_chanceAt 2 (some .int), Cond.fieldLink RX7 37 "GoneOverboard$Told" "finds" "I", Cond.fieldLink RX7 34 "GoneOverboard$Told" "sees" "I", Cond.methodLink RX4 69 yX4_lessen, Cond.instanceMethod yX4_lessen, Cond.selects RX4 yX4_lessen yX4_lessen, Cond.code yX4_lessen cX4_lessen 4 none, Cond.fieldLink RX4 9 "GoneOverboard$Scene" "weights" "[J", Cond.constantLong RX4 73 (10), Cond.methodLink RX4 65 yX4_pass, Cond.instanceMethod yX4_pass, Cond.selects RX4 yX4_pass yX4_pass, Cond.code yX4_pass cX4_pass 10 none, Cond.fieldLink RX4 35 "GoneOverboard$Scene" "step" "I", Cond.methodLink RX4 41 yX4_of, Cond.instanceMethod yX4_of, Cond.selects RX4 yX4_of yX4_of, Cond.code yX4_of cX4_of 2 (some .long)]
def wsX4_act : List Cond := .code yX4_act cX4_act 3 none :: ((wsX4_act_r1 ++ wsX4_act_r2) ++ wsX40 ++ wsX70)
def wsX0_tryLook_r1 : List Cond := [Cond.fieldLink RX0 14 "GoneOverboard$Ahead" "depths" "LGoneOverboard$Scenes;", Cond.fieldLink RX0 33 "GoneOverboard$Ahead" "looks" "I", Cond.constantLong RX0 56 (100), Cond.constantLong RX0 64 (10), Cond.methodLink RX0 52 yX5_at, Cond.instanceMethod yX5_at, Cond.selects RX5 yX5_at yX5_at, Cond.initialized RX5, Cond.code yX5_at cX5_at 2 (some (.object "GoneOverboard$Scene")), Cond.fieldLink RX5 15 "GoneOverboard$Scenes" "row" "[LGoneOverboard$Scene;", Cond.methodLink RX0 58 yX4_foundNow, Cond.instanceMethod yX4_foundNow, Cond.selects RX4 yX4_foundNow yX4_foundNow, Cond.initialized RX4, Cond.code yX4_foundNow cX4_foundNow 4 (some .long), Cond.methodLink RX4 55 yX4_placeBy, Cond.instanceMethod yX4_placeBy, Cond.selects RX4 yX4_placeBy yX4_placeBy, Cond.code yX4_placeBy cX4_placeBy 2 (some .int), Cond.fieldLink RX4 32 "GoneOverboard$Scene" "ship" "I", Cond.static yX8_moved, Cond.initialized RX8, Cond.code yX8_moved cX8_moved 2 (some .int), Cond.methodLink RX8 205 Lib.Math.min.name]
def wsX0_tryLook_r2 : List Cond := [Cond.static Lib.Math.min.name, Cond.initialized "java/lang/Math", Cond.code Lib.Math.min.name Lib.Math.min.code 2 (some .int), Cond.methodLink RX8 199 Lib.Math.max.name, Cond.static Lib.Math.max.name, Cond.code Lib.Math.max.name Lib.Math.max.code 2 (some .int), Cond.methodLink RX4 41 yX4_of, Cond.instanceMethod yX4_of, Cond.selects RX4 yX4_of yX4_of, Cond.code yX4_of cX4_of 2 (some .long), Cond.fieldLink RX4 9 "GoneOverboard$Scene" "weights" "[J", Cond.methodLink RX4 58 yX7_chanceAt, Cond.instanceMethod yX7_chanceAt, Cond.selects RX7 yX7_chanceAt yX7_chanceAt, Cond.initialized RX7, Cond.code yX7_chanceAt cX7_chanceAt 2 (some .int), Cond.fieldLink RX7 37 "GoneOverboard$Told" "finds" "I", Cond.fieldLink RX7 34 "GoneOverboard$Told" "sees" "I", Cond.methodLink RX0 66 yX1_offer, Cond.instanceMethod yX1_offer, Cond.selects RX1 yX1_offer yX1_offer, Cond.initialized RX1, Cond.code yX1_offer cX1_offer 4 none, Cond.fieldLink RX1 9 "GoneOverboard$Best" "found" "J"]
def wsX0_tryLook_r3 : List Cond := [Cond.fieldLink RX1 15 "GoneOverboard$Best" "row" "I", Cond.methodLink RX0 70 yX4_copy, Cond.instanceMethod yX4_copy, Cond.selects RX4 yX4_copy yX4_copy, Cond.code yX4_copy cX4_copy 3 none, Cond.fieldLink RX4 15 "GoneOverboard$Scene" "lows" "[I", Cond.fieldLink RX4 19 "GoneOverboard$Scene" "highs" "[I", Cond.fieldLink RX4 35 "GoneOverboard$Scene" "step" "I", Cond.fieldLink RX4 38 "GoneOverboard$Scene" "heard" "I", Cond.methodLink RX4 45 yX4_lowOf, Cond.instanceMethod yX4_lowOf, Cond.selects RX4 yX4_lowOf yX4_lowOf, Cond.code yX4_lowOf cX4_lowOf 2 (some .int), Cond.methodLink RX4 48 yX4_highOf, Cond.instanceMethod yX4_highOf, Cond.selects RX4 yX4_highOf yX4_highOf, Cond.code yX4_highOf cX4_highOf 2 (some .int), Cond.methodLink RX0 74 yX4_act, Cond.instanceMethod yX4_act, Cond.selects RX4 yX4_act yX4_act, Cond.code yX4_act cX4_act 3 none, Cond.methodLink RX4 61 yX4_lookBy, Cond.instanceMethod yX4_lookBy, Cond.selects RX4 yX4_lookBy yX4_lookBy]
def wsX0_tryLook_r4 : List Cond := [Cond.code yX4_lookBy cX4_lookBy 4 none, Cond.methodLink RX4 69 yX4_lessen, Cond.instanceMethod yX4_lessen, Cond.selects RX4 yX4_lessen yX4_lessen, Cond.code yX4_lessen cX4_lessen 4 none, Cond.constantLong RX4 73 (10), Cond.methodLink RX4 65 yX4_pass, Cond.instanceMethod yX4_pass, Cond.selects RX4 yX4_pass yX4_pass, Cond.code yX4_pass cX4_pass 10 none, Cond.methodLink RX0 44 yX0_tryLook, Cond.instanceMethod yX0_tryLook, Cond.selects RX0 yX0_tryLook yX0_tryLook, Cond.initialized RX0]
def wsX0_tryLook : List Cond := .code yX0_tryLook cX0_tryLook 14 none :: ((wsX0_tryLook_r1 ++ (wsX0_tryLook_r2 ++ (wsX0_tryLook_r3 ++ wsX0_tryLook_r4))) ++ wsX00 ++ wsX50 ++ wsX40 ++ wsX70 ++ wsX10)
def wsX0_tryAll_r1 : List Cond := [Cond.fieldLink RX0 33 "GoneOverboard$Ahead" "looks" "I", Cond.fieldLink RX0 23 "GoneOverboard$Ahead" "sea" "LGoneOverboard$Best;", Cond.fieldLink RX0 27 "GoneOverboard$Ahead" "aboard" "LGoneOverboard$Best;", Cond.fieldLink RX0 14 "GoneOverboard$Ahead" "depths" "LGoneOverboard$Scenes;", Cond.methodLink RX0 37 yX1_clear, Cond.instanceMethod yX1_clear, Cond.selects RX1 yX1_clear yX1_clear, Cond.initialized RX1, Cond.code yX1_clear cX1_clear 1 none, Cond.constantLong RX1 7 (-1), Cond.fieldLink RX1 9 "GoneOverboard$Best" "found" "J", Cond.fieldLink RX1 15 "GoneOverboard$Best" "row" "I", Cond.methodLink RX0 40 yX5_put, Cond.instanceMethod yX5_put, Cond.selects RX5 yX5_put yX5_put, Cond.initialized RX5, Cond.code yX5_put cX5_put 4 none, Cond.methodLink RX5 22 yX5_at, Cond.instanceMethod yX5_at, Cond.selects RX5 yX5_at yX5_at, Cond.code yX5_at cX5_at 2 (some (.object "GoneOverboard$Scene")), Cond.fieldLink RX5 15 "GoneOverboard$Scenes" "row" "[LGoneOverboard$Scene;", Cond.methodLink RX5 26 yX4_copy, Cond.instanceMethod yX4_copy]
def wsX0_tryAll_r2 : List Cond := [Cond.selects RX4 yX4_copy yX4_copy, Cond.initialized RX4, Cond.code yX4_copy cX4_copy 3 none, Cond.fieldLink RX4 9 "GoneOverboard$Scene" "weights" "[J", Cond.fieldLink RX4 15 "GoneOverboard$Scene" "lows" "[I", Cond.fieldLink RX4 19 "GoneOverboard$Scene" "highs" "[I", Cond.fieldLink RX4 32 "GoneOverboard$Scene" "ship" "I", Cond.fieldLink RX4 35 "GoneOverboard$Scene" "step" "I", Cond.fieldLink RX4 38 "GoneOverboard$Scene" "heard" "I", Cond.methodLink RX4 41 yX4_of, Cond.instanceMethod yX4_of, Cond.selects RX4 yX4_of yX4_of, Cond.code yX4_of cX4_of 2 (some .long), Cond.methodLink RX4 45 yX4_lowOf, Cond.instanceMethod yX4_lowOf, Cond.selects RX4 yX4_lowOf yX4_lowOf, Cond.code yX4_lowOf cX4_lowOf 2 (some .int), Cond.methodLink RX4 48 yX4_highOf, Cond.instanceMethod yX4_highOf, Cond.selects RX4 yX4_highOf yX4_highOf, Cond.code yX4_highOf cX4_highOf 2 (some .int), Cond.methodLink RX0 44 yX0_tryLook, Cond.instanceMethod yX0_tryLook, Cond.selects RX0 yX0_tryLook yX0_tryLook]
def wsX0_tryAll_r3 : List Cond := [Cond.initialized RX0, Cond.code yX0_tryLook cX0_tryLook 14 none, Cond.constantLong RX0 56 (100), Cond.constantLong RX0 64 (10), Cond.methodLink RX0 52 yX5_at, Cond.methodLink RX0 58 yX4_foundNow, Cond.instanceMethod yX4_foundNow, Cond.selects RX4 yX4_foundNow yX4_foundNow, Cond.code yX4_foundNow cX4_foundNow 4 (some .long), Cond.methodLink RX4 55 yX4_placeBy, Cond.instanceMethod yX4_placeBy, Cond.selects RX4 yX4_placeBy yX4_placeBy, Cond.code yX4_placeBy cX4_placeBy 2 (some .int), Cond.static yX8_moved, Cond.initialized RX8, Cond.code yX8_moved cX8_moved 2 (some .int), Cond.methodLink RX8 205 Lib.Math.min.name, Cond.static Lib.Math.min.name, Cond.initialized "java/lang/Math", Cond.code Lib.Math.min.name Lib.Math.min.code 2 (some .int), Cond.methodLink RX8 199 Lib.Math.max.name, Cond.static Lib.Math.max.name, Cond.code Lib.Math.max.name Lib.Math.max.code 2 (some .int), Cond.methodLink RX4 58 yX7_chanceAt]
def wsX0_tryAll_r4 : List Cond := [Cond.instanceMethod yX7_chanceAt, Cond.selects RX7 yX7_chanceAt yX7_chanceAt, Cond.initialized RX7, Cond.code yX7_chanceAt cX7_chanceAt 2 (some .int), Cond.fieldLink RX7 37 "GoneOverboard$Told" "finds" "I", Cond.fieldLink RX7 34 "GoneOverboard$Told" "sees" "I", Cond.methodLink RX0 66 yX1_offer, Cond.instanceMethod yX1_offer, Cond.selects RX1 yX1_offer yX1_offer, Cond.code yX1_offer cX1_offer 4 none, Cond.methodLink RX0 70 yX4_copy, Cond.methodLink RX0 74 yX4_act, Cond.instanceMethod yX4_act, Cond.selects RX4 yX4_act yX4_act, Cond.code yX4_act cX4_act 3 none, Cond.methodLink RX4 61 yX4_lookBy, Cond.instanceMethod yX4_lookBy, Cond.selects RX4 yX4_lookBy yX4_lookBy, Cond.code yX4_lookBy cX4_lookBy 4 none, Cond.methodLink RX4 69 yX4_lessen, Cond.instanceMethod yX4_lessen, Cond.selects RX4 yX4_lessen yX4_lessen, Cond.code yX4_lessen cX4_lessen 4 none, Cond.constantLong RX4 73 (10)]
def wsX0_tryAll_r5 : List Cond := [Cond.methodLink RX4 65 yX4_pass, Cond.instanceMethod yX4_pass, Cond.selects RX4 yX4_pass yX4_pass, Cond.code yX4_pass cX4_pass 10 none]
def wsX0_tryAll : List Cond := .code yX0_tryAll cX0_tryAll 5 none :: ((wsX0_tryAll_r1 ++ (wsX0_tryAll_r2 ++ (wsX0_tryAll_r3 ++ (wsX0_tryAll_r4 ++ wsX0_tryAll_r5)))) ++ wsX00 ++ wsX10 ++ wsX50 ++ wsX40 ++ wsX70)
def wsX0_likelier : List Cond := .code yX0_likelier cX0_likelier 1 (some (.object "GoneOverboard$Best")) :: ([.fieldLink RX0 27 "GoneOverboard$Ahead" "aboard" "LGoneOverboard$Best;", .fieldLink RX0 23 "GoneOverboard$Ahead" "sea" "LGoneOverboard$Best;"] ++ wsX00 ++ wsX10)
def wsX4_together : List Cond := .code yX4_together cX4_together 4 (some .long) :: ([.fieldLink RX4 9 "GoneOverboard$Scene" "weights" "[J"] ++ wsX40)
def wsX0_tryBoth_r1 : List Cond := [Cond.fieldLink RX0 14 "GoneOverboard$Ahead" "depths" "LGoneOverboard$Scenes;", Cond.fieldLink RX0 33 "GoneOverboard$Ahead" "looks" "I", Cond.constantLong RX0 107 (1000), Cond.constantLong RX0 56 (100), Cond.constantLong RX0 64 (10), Cond.fieldLink RX0 30 "GoneOverboard$Ahead" "both" "LGoneOverboard$Best;", Cond.methodLink RX0 52 yX5_at, Cond.instanceMethod yX5_at, Cond.selects RX5 yX5_at yX5_at, Cond.initialized RX5, Cond.code yX5_at cX5_at 2 (some (.object "GoneOverboard$Scene")), Cond.fieldLink RX5 15 "GoneOverboard$Scenes" "row" "[LGoneOverboard$Scene;", Cond.static yX8_moved, Cond.initialized RX8, Cond.code yX8_moved cX8_moved 2 (some .int), Cond.methodLink RX8 205 Lib.Math.min.name, Cond.static Lib.Math.min.name, Cond.initialized "java/lang/Math", Cond.code Lib.Math.min.name Lib.Math.min.code 2 (some .int), Cond.methodLink RX8 199 Lib.Math.max.name, Cond.static Lib.Math.max.name, Cond.code Lib.Math.max.name Lib.Math.max.code 2 (some .int), Cond.methodLink RX0 70 yX4_copy, Cond.instanceMethod yX4_copy]
def wsX0_tryBoth_r2 : List Cond := [Cond.selects RX4 yX4_copy yX4_copy, Cond.initialized RX4, Cond.code yX4_copy cX4_copy 3 none, Cond.fieldLink RX4 9 "GoneOverboard$Scene" "weights" "[J", Cond.fieldLink RX4 15 "GoneOverboard$Scene" "lows" "[I", Cond.fieldLink RX4 19 "GoneOverboard$Scene" "highs" "[I", Cond.fieldLink RX4 32 "GoneOverboard$Scene" "ship" "I", Cond.fieldLink RX4 35 "GoneOverboard$Scene" "step" "I", Cond.fieldLink RX4 38 "GoneOverboard$Scene" "heard" "I", Cond.methodLink RX4 41 yX4_of, Cond.instanceMethod yX4_of, Cond.selects RX4 yX4_of yX4_of, Cond.code yX4_of cX4_of 2 (some .long), Cond.methodLink RX4 45 yX4_lowOf, Cond.instanceMethod yX4_lowOf, Cond.selects RX4 yX4_lowOf yX4_lowOf, Cond.code yX4_lowOf cX4_lowOf 2 (some .int), Cond.methodLink RX4 48 yX4_highOf, Cond.instanceMethod yX4_highOf, Cond.selects RX4 yX4_highOf yX4_highOf, Cond.code yX4_highOf cX4_highOf 2 (some .int), Cond.methodLink RX0 97 yX4_lookBy, Cond.instanceMethod yX4_lookBy, Cond.selects RX4 yX4_lookBy yX4_lookBy]
def wsX0_tryBoth_r3 : List Cond := [Cond.code yX4_lookBy cX4_lookBy 4 none, Cond.methodLink RX4 55 yX4_placeBy, Cond.instanceMethod yX4_placeBy, Cond.selects RX4 yX4_placeBy yX4_placeBy, Cond.code yX4_placeBy cX4_placeBy 2 (some .int), Cond.methodLink RX4 58 yX7_chanceAt, Cond.instanceMethod yX7_chanceAt, Cond.selects RX7 yX7_chanceAt yX7_chanceAt, Cond.initialized RX7, Cond.code yX7_chanceAt cX7_chanceAt 2 (some .int), Cond.fieldLink RX7 37 "GoneOverboard$Told" "finds" "I", Cond.fieldLink RX7 34 "GoneOverboard$Told" "sees" "I", Cond.methodLink RX4 69 yX4_lessen, Cond.instanceMethod yX4_lessen, Cond.selects RX4 yX4_lessen yX4_lessen, Cond.code yX4_lessen cX4_lessen 4 none, Cond.constantLong RX4 73 (10), Cond.methodLink RX0 103 yX4_lessen, Cond.methodLink RX0 109 yX4_together, Cond.instanceMethod yX4_together, Cond.selects RX4 yX4_together yX4_together, Cond.code yX4_together cX4_together 4 (some .long), Cond.methodLink RX0 66 yX1_offer, Cond.instanceMethod yX1_offer]
def wsX0_tryBoth_r4 : List Cond := [Cond.selects RX1 yX1_offer yX1_offer, Cond.initialized RX1, Cond.code yX1_offer cX1_offer 4 none, Cond.fieldLink RX1 9 "GoneOverboard$Best" "found" "J", Cond.fieldLink RX1 15 "GoneOverboard$Best" "row" "I", Cond.methodLink RX0 113 yX4_pass, Cond.instanceMethod yX4_pass, Cond.selects RX4 yX4_pass yX4_pass, Cond.code yX4_pass cX4_pass 10 none, Cond.methodLink RX0 83 yX0_tryBoth, Cond.instanceMethod yX0_tryBoth, Cond.selects RX0 yX0_tryBoth yX0_tryBoth, Cond.initialized RX0]
def wsX0_tryBoth : List Cond := .code yX0_tryBoth cX0_tryBoth 14 none :: ((wsX0_tryBoth_r1 ++ (wsX0_tryBoth_r2 ++ (wsX0_tryBoth_r3 ++ wsX0_tryBoth_r4))) ++ wsX00 ++ wsX40 ++ wsX70 ++ wsX50 ++ wsX10)
def wsX0_tryTogether_r1 : List Cond := [Cond.fieldLink RX0 33 "GoneOverboard$Ahead" "looks" "I", Cond.fieldLink RX0 30 "GoneOverboard$Ahead" "both" "LGoneOverboard$Best;", Cond.fieldLink RX0 14 "GoneOverboard$Ahead" "depths" "LGoneOverboard$Scenes;", Cond.methodLink RX0 37 yX1_clear, Cond.instanceMethod yX1_clear, Cond.selects RX1 yX1_clear yX1_clear, Cond.initialized RX1, Cond.code yX1_clear cX1_clear 1 none, Cond.constantLong RX1 7 (-1), Cond.fieldLink RX1 9 "GoneOverboard$Best" "found" "J", Cond.fieldLink RX1 15 "GoneOverboard$Best" "row" "I", Cond.methodLink RX0 40 yX5_put, Cond.instanceMethod yX5_put, Cond.selects RX5 yX5_put yX5_put, Cond.initialized RX5, Cond.code yX5_put cX5_put 4 none, Cond.methodLink RX5 22 yX5_at, Cond.instanceMethod yX5_at, Cond.selects RX5 yX5_at yX5_at, Cond.code yX5_at cX5_at 2 (some (.object "GoneOverboard$Scene")), Cond.fieldLink RX5 15 "GoneOverboard$Scenes" "row" "[LGoneOverboard$Scene;", Cond.methodLink RX5 26 yX4_copy, Cond.instanceMethod yX4_copy, Cond.selects RX4 yX4_copy yX4_copy]
def wsX0_tryTogether_r2 : List Cond := [Cond.initialized RX4, Cond.code yX4_copy cX4_copy 3 none, Cond.fieldLink RX4 9 "GoneOverboard$Scene" "weights" "[J", Cond.fieldLink RX4 15 "GoneOverboard$Scene" "lows" "[I", Cond.fieldLink RX4 19 "GoneOverboard$Scene" "highs" "[I", Cond.fieldLink RX4 32 "GoneOverboard$Scene" "ship" "I", Cond.fieldLink RX4 35 "GoneOverboard$Scene" "step" "I", Cond.fieldLink RX4 38 "GoneOverboard$Scene" "heard" "I", Cond.methodLink RX4 41 yX4_of, Cond.instanceMethod yX4_of, Cond.selects RX4 yX4_of yX4_of, Cond.code yX4_of cX4_of 2 (some .long), Cond.methodLink RX4 45 yX4_lowOf, Cond.instanceMethod yX4_lowOf, Cond.selects RX4 yX4_lowOf yX4_lowOf, Cond.code yX4_lowOf cX4_lowOf 2 (some .int), Cond.methodLink RX4 48 yX4_highOf, Cond.instanceMethod yX4_highOf, Cond.selects RX4 yX4_highOf yX4_highOf, Cond.code yX4_highOf cX4_highOf 2 (some .int), Cond.methodLink RX0 83 yX0_tryBoth, Cond.instanceMethod yX0_tryBoth, Cond.selects RX0 yX0_tryBoth yX0_tryBoth, Cond.initialized RX0]
def wsX0_tryTogether_r3 : List Cond := [Cond.code yX0_tryBoth cX0_tryBoth 14 none, Cond.constantLong RX0 107 (1000), Cond.constantLong RX0 56 (100), Cond.constantLong RX0 64 (10), Cond.methodLink RX0 52 yX5_at, Cond.static yX8_moved, Cond.initialized RX8, Cond.code yX8_moved cX8_moved 2 (some .int), Cond.methodLink RX8 205 Lib.Math.min.name, Cond.static Lib.Math.min.name, Cond.initialized "java/lang/Math", Cond.code Lib.Math.min.name Lib.Math.min.code 2 (some .int), Cond.methodLink RX8 199 Lib.Math.max.name, Cond.static Lib.Math.max.name, Cond.code Lib.Math.max.name Lib.Math.max.code 2 (some .int), Cond.methodLink RX0 70 yX4_copy, Cond.methodLink RX0 97 yX4_lookBy, Cond.instanceMethod yX4_lookBy, Cond.selects RX4 yX4_lookBy yX4_lookBy, Cond.code yX4_lookBy cX4_lookBy 4 none, Cond.methodLink RX4 55 yX4_placeBy, Cond.instanceMethod yX4_placeBy, Cond.selects RX4 yX4_placeBy yX4_placeBy, Cond.code yX4_placeBy cX4_placeBy 2 (some .int)]
def wsX0_tryTogether_r4 : List Cond := [Cond.methodLink RX4 58 yX7_chanceAt, Cond.instanceMethod yX7_chanceAt, Cond.selects RX7 yX7_chanceAt yX7_chanceAt, Cond.initialized RX7, Cond.code yX7_chanceAt cX7_chanceAt 2 (some .int), Cond.fieldLink RX7 37 "GoneOverboard$Told" "finds" "I", Cond.fieldLink RX7 34 "GoneOverboard$Told" "sees" "I", Cond.methodLink RX4 69 yX4_lessen, Cond.instanceMethod yX4_lessen, Cond.selects RX4 yX4_lessen yX4_lessen, Cond.code yX4_lessen cX4_lessen 4 none, Cond.constantLong RX4 73 (10), Cond.methodLink RX0 103 yX4_lessen, Cond.methodLink RX0 109 yX4_together, Cond.instanceMethod yX4_together, Cond.selects RX4 yX4_together yX4_together, Cond.code yX4_together cX4_together 4 (some .long), Cond.methodLink RX0 66 yX1_offer, Cond.instanceMethod yX1_offer, Cond.selects RX1 yX1_offer yX1_offer, Cond.code yX1_offer cX1_offer 4 none, Cond.methodLink RX0 113 yX4_pass, Cond.instanceMethod yX4_pass, Cond.selects RX4 yX4_pass yX4_pass]
def wsX0_tryTogether_r5 : List Cond := [Cond.code yX4_pass cX4_pass 10 none]
def wsX0_tryTogether : List Cond := .code yX0_tryTogether cX0_tryTogether 4 none :: ((wsX0_tryTogether_r1 ++ (wsX0_tryTogether_r2 ++ (wsX0_tryTogether_r3 ++ (wsX0_tryTogether_r4 ++ wsX0_tryTogether_r5)))) ++ wsX00 ++ wsX70 ++ wsX10 ++ wsX50 ++ wsX40)
def wsX2_init : List Cond := .code yX2_init cX2_init 1 none :: ([.methodLink RX2 1 objectInit, .instanceMethod objectInit, .code objectInit ⟨#[0xb1]⟩ 1 none])
def wsX2_below : List Cond := .code yX2_below cX2_below 2 (some .int) :: ([.fieldLink RX2 7 "GoneOverboard$Draws" "state" "J", .constantLong RX2 13 (6364136223846793005), .constantLong RX2 15 (1442695040888963407)] ++ wsX20)
def wsX3_commonOf : List Cond := .code yX3_commonOf cX3_commonOf 11 (some .long) :: ([])
def wsX3_part : List Cond := .code yX3_part cX3_part 7 (some .long) :: ([.methodLink RX3 7 Lib.MathLoose.abs_long.x, .static Lib.MathLoose.abs_long.x, .initialized "java/lang/Math", .code Lib.MathLoose.abs_long.x Lib.MathLoose.abs_long.code 2 (some .long), .methodLink RX3 13 yX3_commonOf, .static yX3_commonOf, .initialized RX3, .code yX3_commonOf cX3_commonOf 11 (some .long)])
def wsX7_partAt : List Cond := .code yX7_partAt cX7_partAt 2 (some .int) :: ([.fieldLink RX7 9 "GoneOverboard$Told" "parts" "[I"] ++ wsX70)
def wsX4_begin : List Cond := .code yX4_begin cX4_begin 3 none :: ([.fieldLink RX4 9 "GoneOverboard$Scene" "weights" "[J", .fieldLink RX4 32 "GoneOverboard$Scene" "ship" "I", .fieldLink RX4 35 "GoneOverboard$Scene" "step" "I", .fieldLink RX4 38 "GoneOverboard$Scene" "heard" "I", .methodLink RX4 22 yX7_partAt, .instanceMethod yX7_partAt, .selects RX7 yX7_partAt yX7_partAt, .initialized RX7, .code yX7_partAt cX7_partAt 2 (some .int), .fieldLink RX7 9 "GoneOverboard$Told" "parts" "[I"] ++ wsX40 ++ wsX70)
def wsX4_cellBits : List Cond := .code yX4_cellBits cX4_cellBits 3 (some .int) :: ([.methodLink RX4 41 yX4_of, .instanceMethod yX4_of, .selects RX4 yX4_of yX4_of, .initialized RX4, .code yX4_of cX4_of 2 (some .long), .fieldLink RX4 9 "GoneOverboard$Scene" "weights" "[J"] ++ wsX40)
def wsX8_isWithin : List Cond := .code yX8_isWithin cX8_isWithin 3 (some .boolean) :: ([])
def wsX4_believe : List Cond := .code yX4_believe cX4_believe 5 none :: ([.fieldLink RX4 9 "GoneOverboard$Scene" "weights" "[J", .constantLong RX4 84 (5), .fieldLink RX4 38 "GoneOverboard$Scene" "heard" "I", .fieldLink RX4 15 "GoneOverboard$Scene" "lows" "[I", .fieldLink RX4 19 "GoneOverboard$Scene" "highs" "[I", .static yX8_isWithin, .initialized RX8, .code yX8_isWithin cX8_isWithin 3 (some .boolean)] ++ wsX40)
def wsX5_give_r1 : List Cond := [Cond.methodLink RX5 22 yX5_at, Cond.instanceMethod yX5_at, Cond.selects RX5 yX5_at yX5_at, Cond.initialized RX5, Cond.code yX5_at cX5_at 2 (some (.object "GoneOverboard$Scene")), Cond.fieldLink RX5 15 "GoneOverboard$Scenes" "row" "[LGoneOverboard$Scene;", Cond.methodLink RX5 26 yX4_copy, Cond.instanceMethod yX4_copy, Cond.selects RX4 yX4_copy yX4_copy, Cond.initialized RX4, Cond.code yX4_copy cX4_copy 3 none, Cond.fieldLink RX4 9 "GoneOverboard$Scene" "weights" "[J", Cond.fieldLink RX4 15 "GoneOverboard$Scene" "lows" "[I", Cond.fieldLink RX4 19 "GoneOverboard$Scene" "highs" "[I", Cond.fieldLink RX4 32 "GoneOverboard$Scene" "ship" "I", Cond.fieldLink RX4 35 "GoneOverboard$Scene" "step" "I", Cond.fieldLink RX4 38 "GoneOverboard$Scene" "heard" "I", Cond.methodLink RX4 41 yX4_of, Cond.instanceMethod yX4_of, Cond.selects RX4 yX4_of yX4_of, Cond.code yX4_of cX4_of 2 (some .long), Cond.methodLink RX4 45 yX4_lowOf, Cond.instanceMethod yX4_lowOf, Cond.selects RX4 yX4_lowOf yX4_lowOf]
def wsX5_give_r2 : List Cond := [Cond.code yX4_lowOf cX4_lowOf 2 (some .int), Cond.methodLink RX4 48 yX4_highOf, Cond.instanceMethod yX4_highOf, Cond.selects RX4 yX4_highOf yX4_highOf, Cond.code yX4_highOf cX4_highOf 2 (some .int)]
def wsX5_give : List Cond := .code yX5_give cX5_give 4 none :: ((wsX5_give_r1 ++ wsX5_give_r2) ++ wsX50 ++ wsX40)
def wsX6_init : List Cond := .code yX6_init cX6_init 1 none :: ([.methodLink RX6 3 objectInit, .instanceMethod objectInit, .code objectInit ⟨#[0xb1]⟩ 1 none, .arrayClass .int, .fieldLink RX6 11 "GoneOverboard$Text" "letters" "[I"] ++ wsX60)
def wsX6_size : List Cond := .code yX6_size cX6_size 1 (some .int) :: ([.fieldLink RX6 15 "GoneOverboard$Text" "length" "I"] ++ wsX60)
def wsX6_isFull : List Cond := .code yX6_isFull cX6_isFull 1 (some .boolean) :: ([.fieldLink RX6 15 "GoneOverboard$Text" "length" "I", .fieldLink RX6 11 "GoneOverboard$Text" "letters" "[I"] ++ wsX60)
def wsX6_add : List Cond := .code yX6_add cX6_add 2 (some .int) :: ([.fieldLink RX6 15 "GoneOverboard$Text" "length" "I", .fieldLink RX6 11 "GoneOverboard$Text" "letters" "[I"] ++ wsX60)
def wsX6_clear : List Cond := .code yX6_clear cX6_clear 2 (some .int) :: ([.fieldLink RX6 15 "GoneOverboard$Text" "length" "I"] ++ wsX60)
def wsX6_letterAt : List Cond := .code yX6_letterAt cX6_letterAt 2 (some .int) :: ([.fieldLink RX6 15 "GoneOverboard$Text" "length" "I", .fieldLink RX6 11 "GoneOverboard$Text" "letters" "[I"] ++ wsX60)
def wsX6_digitAt : List Cond := .code yX6_digitAt cX6_digitAt 3 (some .int) :: ([.methodLink RX6 19 yX6_letterAt, .instanceMethod yX6_letterAt, .selects RX6 yX6_letterAt yX6_letterAt, .initialized RX6, .code yX6_letterAt cX6_letterAt 2 (some .int), .fieldLink RX6 15 "GoneOverboard$Text" "length" "I", .fieldLink RX6 11 "GoneOverboard$Text" "letters" "[I"] ++ wsX60)
def wsX6_headFits : List Cond := .code yX6_headFits cX6_headFits 3 (some .boolean) :: ([.methodLink RX6 43 yX6_digitAt, .instanceMethod yX6_digitAt, .selects RX6 yX6_digitAt yX6_digitAt, .initialized RX6, .code yX6_digitAt cX6_digitAt 3 (some .int), .methodLink RX6 19 yX6_letterAt, .instanceMethod yX6_letterAt, .selects RX6 yX6_letterAt yX6_letterAt, .code yX6_letterAt cX6_letterAt 2 (some .int), .fieldLink RX6 15 "GoneOverboard$Text" "length" "I", .fieldLink RX6 11 "GoneOverboard$Text" "letters" "[I"] ++ wsX60)
def wsX6_partBegins : List Cond := .code yX6_partBegins cX6_partBegins 3 (some .boolean) :: ([.fieldLink RX6 26 "GoneOverboard$Text" "freeCells" "I", .fieldLink RX6 23 "GoneOverboard$Text" "awaits" "I", .fieldLink RX6 29 "GoneOverboard$Text" "freeAboard" "Z", .fieldLink RX6 33 "GoneOverboard$Text" "freeSecond" "Z"] ++ wsX60)
def wsX6_takeCell : List Cond := .code yX6_takeCell cX6_takeCell 3 (some .boolean) :: ([.fieldLink RX6 26 "GoneOverboard$Text" "freeCells" "I"] ++ wsX60)
def wsX6_partFits : List Cond := .code yX6_partFits cX6_partFits 3 (some .boolean) :: ([.fieldLink RX6 23 "GoneOverboard$Text" "awaits" "I", .methodLink RX6 43 yX6_digitAt, .instanceMethod yX6_digitAt, .selects RX6 yX6_digitAt yX6_digitAt, .initialized RX6, .code yX6_digitAt cX6_digitAt 3 (some .int), .methodLink RX6 19 yX6_letterAt, .instanceMethod yX6_letterAt, .selects RX6 yX6_letterAt yX6_letterAt, .code yX6_letterAt cX6_letterAt 2 (some .int), .fieldLink RX6 15 "GoneOverboard$Text" "length" "I", .fieldLink RX6 11 "GoneOverboard$Text" "letters" "[I", .methodLink RX6 46 yX6_partBegins, .instanceMethod yX6_partBegins, .selects RX6 yX6_partBegins yX6_partBegins, .code yX6_partBegins cX6_partBegins 3 (some .boolean), .fieldLink RX6 26 "GoneOverboard$Text" "freeCells" "I", .fieldLink RX6 29 "GoneOverboard$Text" "freeAboard" "Z", .fieldLink RX6 33 "GoneOverboard$Text" "freeSecond" "Z", .methodLink RX6 49 yX6_takeCell, .instanceMethod yX6_takeCell, .selects RX6 yX6_takeCell yX6_takeCell, .code yX6_takeCell cX6_takeCell 3 (some .boolean)] ++ wsX60)
def wsX6_firstFault_r1 : List Cond := [Cond.fieldLink RX6 23 "GoneOverboard$Text" "awaits" "I", Cond.fieldLink RX6 26 "GoneOverboard$Text" "freeCells" "I", Cond.fieldLink RX6 29 "GoneOverboard$Text" "freeAboard" "Z", Cond.fieldLink RX6 33 "GoneOverboard$Text" "freeSecond" "Z", Cond.fieldLink RX6 15 "GoneOverboard$Text" "length" "I", Cond.methodLink RX6 36 yX6_headFits, Cond.instanceMethod yX6_headFits, Cond.selects RX6 yX6_headFits yX6_headFits, Cond.initialized RX6, Cond.code yX6_headFits cX6_headFits 3 (some .boolean), Cond.methodLink RX6 43 yX6_digitAt, Cond.instanceMethod yX6_digitAt, Cond.selects RX6 yX6_digitAt yX6_digitAt, Cond.code yX6_digitAt cX6_digitAt 3 (some .int), Cond.methodLink RX6 19 yX6_letterAt, Cond.instanceMethod yX6_letterAt, Cond.selects RX6 yX6_letterAt yX6_letterAt, Cond.code yX6_letterAt cX6_letterAt 2 (some .int), Cond.fieldLink RX6 11 "GoneOverboard$Text" "letters" "[I", Cond.methodLink RX6 40 yX6_partFits, Cond.instanceMethod yX6_partFits, Cond.selects RX6 yX6_partFits yX6_partFits, Cond.code yX6_partFits cX6_partFits 3 (some .boolean), Cond.methodLink RX6 46 yX6_partBegins]
def wsX6_firstFault_r2 : List Cond := [Cond.instanceMethod yX6_partBegins, Cond.selects RX6 yX6_partBegins yX6_partBegins, Cond.code yX6_partBegins cX6_partBegins 3 (some .boolean), Cond.methodLink RX6 49 yX6_takeCell, Cond.instanceMethod yX6_takeCell, Cond.selects RX6 yX6_takeCell yX6_takeCell, Cond.code yX6_takeCell cX6_takeCell 3 (some .boolean)]
def wsX6_firstFault : List Cond := .code yX6_firstFault cX6_firstFault 3 (some .int) :: ((wsX6_firstFault_r1 ++ wsX6_firstFault_r2) ++ wsX60)
def wsX7_init : List Cond := .code yX7_init cX7_init 1 none :: ([.methodLink RX7 3 objectInit, .instanceMethod objectInit, .code objectInit ⟨#[0xb1]⟩ 1 none, .arrayClass .int, .fieldLink RX7 9 "GoneOverboard$Told" "parts" "[I", .fieldLink RX7 15 "GoneOverboard$Told" "lasts" "I", .fieldLink RX7 19 "GoneOverboard$Told" "secondCell" "I"] ++ wsX70)
def wsX7_setPart : List Cond := .code yX7_setPart cX7_setPart 3 none :: ([.fieldLink RX7 9 "GoneOverboard$Told" "parts" "[I"] ++ wsX70)
def wsX7_takePart : List Cond := .code yX7_takePart cX7_takePart 3 none :: ([.fieldLink RX7 19 "GoneOverboard$Told" "secondCell" "I", .fieldLink RX7 43 "GoneOverboard$Told" "secondStep" "I", .methodLink RX7 58 yX6_letterAt, .instanceMethod yX6_letterAt, .selects RX6 yX6_letterAt yX6_letterAt, .initialized RX6, .code yX6_letterAt cX6_letterAt 2 (some .int), .fieldLink RX6 15 "GoneOverboard$Text" "length" "I", .fieldLink RX6 11 "GoneOverboard$Text" "letters" "[I", .methodLink RX7 22 yX6_digitAt, .instanceMethod yX6_digitAt, .selects RX6 yX6_digitAt yX6_digitAt, .code yX6_digitAt cX6_digitAt 3 (some .int), .methodLink RX6 19 yX6_letterAt, .methodLink RX7 46 yX7_setPart, .instanceMethod yX7_setPart, .selects RX7 yX7_setPart yX7_setPart, .initialized RX7, .code yX7_setPart cX7_setPart 3 none, .fieldLink RX7 9 "GoneOverboard$Told" "parts" "[I"] ++ wsX70 ++ wsX60)
def wsX7_take_r1 : List Cond := [Cond.fieldLink RX7 28 "GoneOverboard$Told" "on" "I", Cond.fieldLink RX7 31 "GoneOverboard$Told" "back" "I", Cond.fieldLink RX7 34 "GoneOverboard$Told" "sees" "I", Cond.fieldLink RX7 37 "GoneOverboard$Told" "finds" "I", Cond.fieldLink RX7 40 "GoneOverboard$Told" "begin" "I", Cond.fieldLink RX7 15 "GoneOverboard$Told" "lasts" "I", Cond.fieldLink RX7 19 "GoneOverboard$Told" "secondCell" "I", Cond.fieldLink RX7 43 "GoneOverboard$Told" "secondStep" "I", Cond.methodLink RX7 22 yX6_digitAt, Cond.instanceMethod yX6_digitAt, Cond.selects RX6 yX6_digitAt yX6_digitAt, Cond.initialized RX6, Cond.code yX6_digitAt cX6_digitAt 3 (some .int), Cond.methodLink RX6 19 yX6_letterAt, Cond.instanceMethod yX6_letterAt, Cond.selects RX6 yX6_letterAt yX6_letterAt, Cond.code yX6_letterAt cX6_letterAt 2 (some .int), Cond.fieldLink RX6 15 "GoneOverboard$Text" "length" "I", Cond.fieldLink RX6 11 "GoneOverboard$Text" "letters" "[I", Cond.methodLink RX7 46 yX7_setPart, Cond.instanceMethod yX7_setPart, Cond.selects RX7 yX7_setPart yX7_setPart, Cond.initialized RX7, Cond.code yX7_setPart cX7_setPart 3 none]
def wsX7_take_r2 : List Cond := [Cond.fieldLink RX7 9 "GoneOverboard$Told" "parts" "[I", Cond.methodLink RX7 50 yX6_size, Cond.instanceMethod yX6_size, Cond.selects RX6 yX6_size yX6_size, Cond.code yX6_size cX6_size 1 (some .int), Cond.methodLink RX7 54 yX7_takePart, Cond.instanceMethod yX7_takePart, Cond.selects RX7 yX7_takePart yX7_takePart, Cond.code yX7_takePart cX7_takePart 3 none, Cond.methodLink RX7 58 yX6_letterAt]
def wsX7_take : List Cond := .code yX7_take cX7_take 3 none :: ((wsX7_take_r1 ++ wsX7_take_r2) ++ wsX70 ++ wsX60)
def wsX7_partsFrom : List Cond := .code yX7_partsFrom cX7_partsFrom 5 (some .int) :: ([.static yX8_isWithin, .initialized RX8, .code yX8_isWithin cX8_isWithin 3 (some .boolean), .methodLink RX7 65 yX7_partAt, .instanceMethod yX7_partAt, .selects RX7 yX7_partAt yX7_partAt, .initialized RX7, .code yX7_partAt cX7_partAt 2 (some .int), .fieldLink RX7 9 "GoneOverboard$Told" "parts" "[I"] ++ wsX70)
def wsX7_allParts : List Cond := .code yX7_allParts cX7_allParts 1 (some .int) :: ([.methodLink RX7 68 yX7_partsFrom, .instanceMethod yX7_partsFrom, .selects RX7 yX7_partsFrom yX7_partsFrom, .initialized RX7, .code yX7_partsFrom cX7_partsFrom 5 (some .int), .static yX8_isWithin, .initialized RX8, .code yX8_isWithin cX8_isWithin 3 (some .boolean), .methodLink RX7 65 yX7_partAt, .instanceMethod yX7_partAt, .selects RX7 yX7_partAt yX7_partAt, .code yX7_partAt cX7_partAt 2 (some .int), .fieldLink RX7 9 "GoneOverboard$Told" "parts" "[I"] ++ wsX70)
def wsX7_placeOfPart : List Cond := .code yX7_placeOfPart cX7_placeOfPart 4 (some .int) :: ([.methodLink RX7 65 yX7_partAt, .instanceMethod yX7_partAt, .selects RX7 yX7_partAt yX7_partAt, .initialized RX7, .code yX7_partAt cX7_partAt 2 (some .int), .fieldLink RX7 9 "GoneOverboard$Told" "parts" "[I"] ++ wsX70)
def wsX7_drifted : List Cond := .code yX7_drifted cX7_drifted 3 (some .int) :: ([.fieldLink RX7 28 "GoneOverboard$Told" "on" "I", .fieldLink RX7 31 "GoneOverboard$Told" "back" "I", .static yX8_moved, .initialized RX8, .code yX8_moved cX8_moved 2 (some .int), .methodLink RX8 205 Lib.Math.min.name, .static Lib.Math.min.name, .initialized "java/lang/Math", .code Lib.Math.min.name Lib.Math.min.code 2 (some .int), .methodLink RX8 199 Lib.Math.max.name, .static Lib.Math.max.name, .code Lib.Math.max.name Lib.Math.max.code 2 (some .int)] ++ wsX70)
def wsX8_init_r1 : List Cond := [Cond.methodLink RX8 1 objectInit, Cond.instanceMethod objectInit, Cond.code objectInit ⟨#[0xb1]⟩ 1 none, Cond.classLink RX8 7 RX6, Cond.instantiable RX6 6, Cond.initialized RX6, Cond.fieldLink RX8 10 "GoneOverboard" "text" "LGoneOverboard$Text;", Cond.classLink RX8 16 RX7, Cond.instantiable RX7 9, Cond.initialized RX7, Cond.fieldLink RX8 19 "GoneOverboard" "told" "LGoneOverboard$Told;", Cond.classLink RX8 23 RX4, Cond.instantiable RX4 6, Cond.initialized RX4, Cond.fieldLink RX8 26 "GoneOverboard" "now" "LGoneOverboard$Scene;", Cond.fieldLink RX8 30 "GoneOverboard" "spare" "LGoneOverboard$Scene;", Cond.classLink RX8 33 RX5, Cond.instantiable RX5 1, Cond.initialized RX5, Cond.fieldLink RX8 38 "GoneOverboard" "acts" "LGoneOverboard$Scenes;", Cond.fieldLink RX8 42 "GoneOverboard" "slots" "LGoneOverboard$Scenes;", Cond.classLink RX8 45 RX0, Cond.instantiable RX0 5, Cond.initialized RX0]
def wsX8_init_r2 : List Cond := [Cond.fieldLink RX8 48 "GoneOverboard" "ahead" "LGoneOverboard$Ahead;", Cond.classLink RX8 52 RX2, Cond.instantiable RX2 1, Cond.initialized RX2, Cond.fieldLink RX8 55 "GoneOverboard" "draws" "LGoneOverboard$Draws;", Cond.methodLink RX8 9 yX6_init, Cond.instanceMethod yX6_init, Cond.code yX6_init cX6_init 1 none, Cond.methodLink RX6 3 objectInit, Cond.arrayClass .int, Cond.fieldLink RX6 11 "GoneOverboard$Text" "letters" "[I", Cond.methodLink RX8 18 yX7_init, Cond.instanceMethod yX7_init, Cond.code yX7_init cX7_init 1 none, Cond.methodLink RX7 3 objectInit, Cond.fieldLink RX7 9 "GoneOverboard$Told" "parts" "[I", Cond.fieldLink RX7 15 "GoneOverboard$Told" "lasts" "I", Cond.fieldLink RX7 19 "GoneOverboard$Told" "secondCell" "I", Cond.methodLink RX8 25 yX4_init, Cond.instanceMethod yX4_init, Cond.code yX4_init cX4_init 1 none, Cond.methodLink RX4 3 objectInit, Cond.arrayClass .long, Cond.fieldLink RX4 9 "GoneOverboard$Scene" "weights" "[J"]
def wsX8_init_r3 : List Cond := [Cond.fieldLink RX4 15 "GoneOverboard$Scene" "lows" "[I", Cond.fieldLink RX4 19 "GoneOverboard$Scene" "highs" "[I", Cond.methodLink RX8 35 yX5_init, Cond.instanceMethod yX5_init, Cond.code yX5_init cX5_init 3 none, Cond.methodLink RX5 1 objectInit, Cond.methodLink RX5 7 Lib.Math.max.name, Cond.static Lib.Math.max.name, Cond.initialized "java/lang/Math", Cond.code Lib.Math.max.name Lib.Math.max.code 2 (some .int), Cond.classLink RX5 13 RX4, Cond.fieldLink RX5 15 "GoneOverboard$Scenes" "row" "[LGoneOverboard$Scene;", Cond.methodLink RX5 21 yX4_init, Cond.methodLink RX8 47 yX0_init, Cond.instanceMethod yX0_init, Cond.code yX0_init cX0_init 1 none, Cond.methodLink RX0 3 objectInit, Cond.classLink RX0 9 RX5, Cond.fieldLink RX0 14 "GoneOverboard$Ahead" "depths" "LGoneOverboard$Scenes;", Cond.classLink RX0 20 RX1, Cond.instantiable RX1 2, Cond.initialized RX1, Cond.fieldLink RX0 23 "GoneOverboard$Ahead" "sea" "LGoneOverboard$Best;", Cond.fieldLink RX0 27 "GoneOverboard$Ahead" "aboard" "LGoneOverboard$Best;"]
def wsX8_init_r4 : List Cond := [Cond.fieldLink RX0 30 "GoneOverboard$Ahead" "both" "LGoneOverboard$Best;", Cond.methodLink RX0 11 yX5_init, Cond.instanceMethod yX1_init, Cond.code yX1_init cX1_init 1 none, Cond.methodLink RX1 1 objectInit, Cond.instanceMethod yX2_init, Cond.code yX2_init cX2_init 1 none, Cond.methodLink RX2 1 objectInit]
def wsX8_init : List Cond := .code yX8_init cX8_init 1 none :: ((wsX8_init_r1 ++ (wsX8_init_r2 ++ (wsX8_init_r3 ++ wsX8_init_r4))) ++ wsX60 ++ wsX80 ++ wsX70 ++ wsX40 ++ wsX50 ++ wsX00 ++ wsX20 ++ wsX10)
def wsX8_write : List Cond := .code yX8_write cX8_write 2 (some .int) :: ([.fieldLink RX8 10 "GoneOverboard" "text" "LGoneOverboard$Text;", .methodLink RX8 59 yX8_isWithin, .static yX8_isWithin, .initialized RX8, .code yX8_isWithin cX8_isWithin 3 (some .boolean), .methodLink RX8 63 yX6_isFull, .instanceMethod yX6_isFull, .selects RX6 yX6_isFull yX6_isFull, .initialized RX6, .code yX6_isFull cX6_isFull 1 (some .boolean), .fieldLink RX6 15 "GoneOverboard$Text" "length" "I", .fieldLink RX6 11 "GoneOverboard$Text" "letters" "[I", .methodLink RX8 67 yX6_add, .instanceMethod yX6_add, .selects RX6 yX6_add yX6_add, .code yX6_add cX6_add 2 (some .int)] ++ wsX80 ++ wsX60)
def wsX8_wipe : List Cond := .code yX8_wipe cX8_wipe 1 (some .int) :: ([.fieldLink RX8 10 "GoneOverboard" "text" "LGoneOverboard$Text;", .methodLink RX8 71 yX6_clear, .instanceMethod yX6_clear, .selects RX6 yX6_clear yX6_clear, .initialized RX6, .code yX6_clear cX6_clear 2 (some .int), .fieldLink RX6 15 "GoneOverboard$Text" "length" "I"] ++ wsX80 ++ wsX60)
def wsX8_fault_r1 : List Cond := [Cond.fieldLink RX8 10 "GoneOverboard" "text" "LGoneOverboard$Text;", Cond.methodLink RX8 75 yX6_firstFault, Cond.instanceMethod yX6_firstFault, Cond.selects RX6 yX6_firstFault yX6_firstFault, Cond.initialized RX6, Cond.code yX6_firstFault cX6_firstFault 3 (some .int), Cond.fieldLink RX6 23 "GoneOverboard$Text" "awaits" "I", Cond.fieldLink RX6 26 "GoneOverboard$Text" "freeCells" "I", Cond.fieldLink RX6 29 "GoneOverboard$Text" "freeAboard" "Z", Cond.fieldLink RX6 33 "GoneOverboard$Text" "freeSecond" "Z", Cond.fieldLink RX6 15 "GoneOverboard$Text" "length" "I", Cond.methodLink RX6 36 yX6_headFits, Cond.instanceMethod yX6_headFits, Cond.selects RX6 yX6_headFits yX6_headFits, Cond.code yX6_headFits cX6_headFits 3 (some .boolean), Cond.methodLink RX6 43 yX6_digitAt, Cond.instanceMethod yX6_digitAt, Cond.selects RX6 yX6_digitAt yX6_digitAt, Cond.code yX6_digitAt cX6_digitAt 3 (some .int), Cond.methodLink RX6 19 yX6_letterAt, Cond.instanceMethod yX6_letterAt, Cond.selects RX6 yX6_letterAt yX6_letterAt, Cond.code yX6_letterAt cX6_letterAt 2 (some .int), Cond.fieldLink RX6 11 "GoneOverboard$Text" "letters" "[I"]
def wsX8_fault_r2 : List Cond := [Cond.methodLink RX6 40 yX6_partFits, Cond.instanceMethod yX6_partFits, Cond.selects RX6 yX6_partFits yX6_partFits, Cond.code yX6_partFits cX6_partFits 3 (some .boolean), Cond.methodLink RX6 46 yX6_partBegins, Cond.instanceMethod yX6_partBegins, Cond.selects RX6 yX6_partBegins yX6_partBegins, Cond.code yX6_partBegins cX6_partBegins 3 (some .boolean), Cond.methodLink RX6 49 yX6_takeCell, Cond.instanceMethod yX6_takeCell, Cond.selects RX6 yX6_takeCell yX6_takeCell, Cond.code yX6_takeCell cX6_takeCell 3 (some .boolean)]
def wsX8_fault : List Cond := .code yX8_fault cX8_fault 1 (some .int) :: ((wsX8_fault_r1 ++ wsX8_fault_r2) ++ wsX80 ++ wsX60)
def wsX8_search_r1 : List Cond := [Cond.fieldLink RX8 10 "GoneOverboard" "text" "LGoneOverboard$Text;", Cond.fieldLink RX8 19 "GoneOverboard" "told" "LGoneOverboard$Told;", Cond.fieldLink RX8 26 "GoneOverboard" "now" "LGoneOverboard$Scene;", Cond.fieldLink RX8 86 "GoneOverboard" "actsDone" "I", Cond.fieldLink RX8 90 "GoneOverboard" "keptBits" "I", Cond.methodLink RX8 75 yX6_firstFault, Cond.instanceMethod yX6_firstFault, Cond.selects RX6 yX6_firstFault yX6_firstFault, Cond.initialized RX6, Cond.code yX6_firstFault cX6_firstFault 3 (some .int), Cond.fieldLink RX6 23 "GoneOverboard$Text" "awaits" "I", Cond.fieldLink RX6 26 "GoneOverboard$Text" "freeCells" "I", Cond.fieldLink RX6 29 "GoneOverboard$Text" "freeAboard" "Z", Cond.fieldLink RX6 33 "GoneOverboard$Text" "freeSecond" "Z", Cond.fieldLink RX6 15 "GoneOverboard$Text" "length" "I", Cond.methodLink RX6 36 yX6_headFits, Cond.instanceMethod yX6_headFits, Cond.selects RX6 yX6_headFits yX6_headFits, Cond.code yX6_headFits cX6_headFits 3 (some .boolean), Cond.methodLink RX6 43 yX6_digitAt, Cond.instanceMethod yX6_digitAt, Cond.selects RX6 yX6_digitAt yX6_digitAt, Cond.code yX6_digitAt cX6_digitAt 3 (some .int), Cond.methodLink RX6 19 yX6_letterAt]
def wsX8_search_r2 : List Cond := [Cond.instanceMethod yX6_letterAt, Cond.selects RX6 yX6_letterAt yX6_letterAt, Cond.code yX6_letterAt cX6_letterAt 2 (some .int), Cond.fieldLink RX6 11 "GoneOverboard$Text" "letters" "[I", Cond.methodLink RX6 40 yX6_partFits, Cond.instanceMethod yX6_partFits, Cond.selects RX6 yX6_partFits yX6_partFits, Cond.code yX6_partFits cX6_partFits 3 (some .boolean), Cond.methodLink RX6 46 yX6_partBegins, Cond.instanceMethod yX6_partBegins, Cond.selects RX6 yX6_partBegins yX6_partBegins, Cond.code yX6_partBegins cX6_partBegins 3 (some .boolean), Cond.methodLink RX6 49 yX6_takeCell, Cond.instanceMethod yX6_takeCell, Cond.selects RX6 yX6_takeCell yX6_takeCell, Cond.code yX6_takeCell cX6_takeCell 3 (some .boolean), Cond.methodLink RX8 78 yX7_take, Cond.instanceMethod yX7_take, Cond.selects RX7 yX7_take yX7_take, Cond.initialized RX7, Cond.code yX7_take cX7_take 3 none, Cond.fieldLink RX7 28 "GoneOverboard$Told" "on" "I", Cond.fieldLink RX7 31 "GoneOverboard$Told" "back" "I", Cond.fieldLink RX7 34 "GoneOverboard$Told" "sees" "I"]
def wsX8_search_r3 : List Cond := [Cond.fieldLink RX7 37 "GoneOverboard$Told" "finds" "I", Cond.fieldLink RX7 40 "GoneOverboard$Told" "begin" "I", Cond.fieldLink RX7 15 "GoneOverboard$Told" "lasts" "I", Cond.fieldLink RX7 19 "GoneOverboard$Told" "secondCell" "I", Cond.fieldLink RX7 43 "GoneOverboard$Told" "secondStep" "I", Cond.methodLink RX7 22 yX6_digitAt, Cond.methodLink RX7 46 yX7_setPart, Cond.instanceMethod yX7_setPart, Cond.selects RX7 yX7_setPart yX7_setPart, Cond.code yX7_setPart cX7_setPart 3 none, Cond.fieldLink RX7 9 "GoneOverboard$Told" "parts" "[I", Cond.methodLink RX7 50 yX6_size, Cond.instanceMethod yX6_size, Cond.selects RX6 yX6_size yX6_size, Cond.code yX6_size cX6_size 1 (some .int), Cond.methodLink RX7 54 yX7_takePart, Cond.instanceMethod yX7_takePart, Cond.selects RX7 yX7_takePart yX7_takePart, Cond.code yX7_takePart cX7_takePart 3 none, Cond.methodLink RX7 58 yX6_letterAt, Cond.methodLink RX8 82 yX4_begin, Cond.instanceMethod yX4_begin, Cond.selects RX4 yX4_begin yX4_begin, Cond.initialized RX4]
def wsX8_search_r4 : List Cond := [Cond.code yX4_begin cX4_begin 3 none, Cond.fieldLink RX4 9 "GoneOverboard$Scene" "weights" "[J", Cond.fieldLink RX4 32 "GoneOverboard$Scene" "ship" "I", Cond.fieldLink RX4 35 "GoneOverboard$Scene" "step" "I", Cond.fieldLink RX4 38 "GoneOverboard$Scene" "heard" "I", Cond.methodLink RX4 22 yX7_partAt, Cond.instanceMethod yX7_partAt, Cond.selects RX7 yX7_partAt yX7_partAt, Cond.code yX7_partAt cX7_partAt 2 (some .int), Cond.methodLink RX8 93 yX7_allParts, Cond.instanceMethod yX7_allParts, Cond.selects RX7 yX7_allParts yX7_allParts, Cond.code yX7_allParts cX7_allParts 1 (some .int), Cond.methodLink RX7 68 yX7_partsFrom, Cond.instanceMethod yX7_partsFrom, Cond.selects RX7 yX7_partsFrom yX7_partsFrom, Cond.code yX7_partsFrom cX7_partsFrom 5 (some .int), Cond.static yX8_isWithin, Cond.initialized RX8, Cond.code yX8_isWithin cX8_isWithin 3 (some .boolean), Cond.methodLink RX7 65 yX7_partAt]
def wsX8_search : List Cond := .code yX8_search cX8_search 1 (some .int) :: ((wsX8_search_r1 ++ (wsX8_search_r2 ++ (wsX8_search_r3 ++ wsX8_search_r4))) ++ wsX80 ++ wsX60 ++ wsX70 ++ wsX40)
def wsX8_remember_r1 : List Cond := [Cond.fieldLink RX8 38 "GoneOverboard" "acts" "LGoneOverboard$Scenes;", Cond.fieldLink RX8 86 "GoneOverboard" "actsDone" "I", Cond.fieldLink RX8 26 "GoneOverboard" "now" "LGoneOverboard$Scene;", Cond.methodLink RX8 234 yX5_put, Cond.instanceMethod yX5_put, Cond.selects RX5 yX5_put yX5_put, Cond.initialized RX5, Cond.code yX5_put cX5_put 4 none, Cond.methodLink RX5 22 yX5_at, Cond.instanceMethod yX5_at, Cond.selects RX5 yX5_at yX5_at, Cond.code yX5_at cX5_at 2 (some (.object "GoneOverboard$Scene")), Cond.fieldLink RX5 15 "GoneOverboard$Scenes" "row" "[LGoneOverboard$Scene;", Cond.methodLink RX5 26 yX4_copy, Cond.instanceMethod yX4_copy, Cond.selects RX4 yX4_copy yX4_copy, Cond.initialized RX4, Cond.code yX4_copy cX4_copy 3 none, Cond.fieldLink RX4 9 "GoneOverboard$Scene" "weights" "[J", Cond.fieldLink RX4 15 "GoneOverboard$Scene" "lows" "[I", Cond.fieldLink RX4 19 "GoneOverboard$Scene" "highs" "[I", Cond.fieldLink RX4 32 "GoneOverboard$Scene" "ship" "I", Cond.fieldLink RX4 35 "GoneOverboard$Scene" "step" "I", Cond.fieldLink RX4 38 "GoneOverboard$Scene" "heard" "I"]
def wsX8_remember_r2 : List Cond := [Cond.methodLink RX4 41 yX4_of, Cond.instanceMethod yX4_of, Cond.selects RX4 yX4_of yX4_of, Cond.code yX4_of cX4_of 2 (some .long), Cond.methodLink RX4 45 yX4_lowOf, Cond.instanceMethod yX4_lowOf, Cond.selects RX4 yX4_lowOf yX4_lowOf, Cond.code yX4_lowOf cX4_lowOf 2 (some .int), Cond.methodLink RX4 48 yX4_highOf, Cond.instanceMethod yX4_highOf, Cond.selects RX4 yX4_highOf yX4_highOf, Cond.code yX4_highOf cX4_highOf 2 (some .int)]
def wsX8_remember : List Cond := .code yX8_remember cX8_remember 1 none :: ((wsX8_remember_r1 ++ wsX8_remember_r2) ++ wsX80 ++ wsX50 ++ wsX40)
def wsX8_look_r1 : List Cond := [Cond.fieldLink RX8 26 "GoneOverboard" "now" "LGoneOverboard$Scene;", Cond.fieldLink RX8 19 "GoneOverboard" "told" "LGoneOverboard$Told;", Cond.methodLink RX8 59 yX8_isWithin, Cond.static yX8_isWithin, Cond.initialized RX8, Cond.code yX8_isWithin cX8_isWithin 3 (some .boolean), Cond.methodLink RX8 102 yX8_remember, Cond.instanceMethod yX8_remember, Cond.selects RX8 yX8_remember yX8_remember, Cond.code yX8_remember cX8_remember 1 none, Cond.fieldLink RX8 38 "GoneOverboard" "acts" "LGoneOverboard$Scenes;", Cond.fieldLink RX8 86 "GoneOverboard" "actsDone" "I", Cond.methodLink RX8 234 yX5_put, Cond.instanceMethod yX5_put, Cond.selects RX5 yX5_put yX5_put, Cond.initialized RX5, Cond.code yX5_put cX5_put 4 none, Cond.methodLink RX5 22 yX5_at, Cond.instanceMethod yX5_at, Cond.selects RX5 yX5_at yX5_at, Cond.code yX5_at cX5_at 2 (some (.object "GoneOverboard$Scene")), Cond.fieldLink RX5 15 "GoneOverboard$Scenes" "row" "[LGoneOverboard$Scene;", Cond.methodLink RX5 26 yX4_copy, Cond.instanceMethod yX4_copy]
def wsX8_look_r2 : List Cond := [Cond.selects RX4 yX4_copy yX4_copy, Cond.initialized RX4, Cond.code yX4_copy cX4_copy 3 none, Cond.fieldLink RX4 9 "GoneOverboard$Scene" "weights" "[J", Cond.fieldLink RX4 15 "GoneOverboard$Scene" "lows" "[I", Cond.fieldLink RX4 19 "GoneOverboard$Scene" "highs" "[I", Cond.fieldLink RX4 32 "GoneOverboard$Scene" "ship" "I", Cond.fieldLink RX4 35 "GoneOverboard$Scene" "step" "I", Cond.fieldLink RX4 38 "GoneOverboard$Scene" "heard" "I", Cond.methodLink RX4 41 yX4_of, Cond.instanceMethod yX4_of, Cond.selects RX4 yX4_of yX4_of, Cond.code yX4_of cX4_of 2 (some .long), Cond.methodLink RX4 45 yX4_lowOf, Cond.instanceMethod yX4_lowOf, Cond.selects RX4 yX4_lowOf yX4_lowOf, Cond.code yX4_lowOf cX4_lowOf 2 (some .int), Cond.methodLink RX4 48 yX4_highOf, Cond.instanceMethod yX4_highOf, Cond.selects RX4 yX4_highOf yX4_highOf, Cond.code yX4_highOf cX4_highOf 2 (some .int), Cond.methodLink RX8 105 yX4_act, Cond.instanceMethod yX4_act, Cond.selects RX4 yX4_act yX4_act]
def wsX8_look_r3 : List Cond := [Cond.code yX4_act cX4_act 3 none, Cond.methodLink RX4 61 yX4_lookBy, Cond.instanceMethod yX4_lookBy, Cond.selects RX4 yX4_lookBy yX4_lookBy, Cond.code yX4_lookBy cX4_lookBy 4 none, Cond.methodLink RX4 55 yX4_placeBy, Cond.instanceMethod yX4_placeBy, Cond.selects RX4 yX4_placeBy yX4_placeBy, Cond.code yX4_placeBy cX4_placeBy 2 (some .int), Cond.static yX8_moved, Cond.code yX8_moved cX8_moved 2 (some .int), Cond.methodLink RX8 205 Lib.Math.min.name, Cond.static Lib.Math.min.name, Cond.initialized "java/lang/Math", Cond.code Lib.Math.min.name Lib.Math.min.code 2 (some .int), Cond.methodLink RX8 199 Lib.Math.max.name, Cond.static Lib.Math.max.name, Cond.code Lib.Math.max.name Lib.Math.max.code 2 (some .int), Cond.methodLink RX4 58 yX7_chanceAt, Cond.instanceMethod yX7_chanceAt, Cond.selects RX7 yX7_chanceAt yX7_chanceAt, Cond.initialized RX7, Cond.code yX7_chanceAt cX7_chanceAt 2 (some .int), Cond.fieldLink RX7 37 "GoneOverboard$Told" "finds" "I"]
def wsX8_look_r4 : List Cond := [Cond.fieldLink RX7 34 "GoneOverboard$Told" "sees" "I", Cond.methodLink RX4 69 yX4_lessen, Cond.instanceMethod yX4_lessen, Cond.selects RX4 yX4_lessen yX4_lessen, Cond.code yX4_lessen cX4_lessen 4 none, Cond.constantLong RX4 73 (10), Cond.methodLink RX4 65 yX4_pass, Cond.instanceMethod yX4_pass, Cond.selects RX4 yX4_pass yX4_pass, Cond.code yX4_pass cX4_pass 10 none]
def wsX8_look : List Cond := .code yX8_look cX8_look 2 (some .int) :: ((wsX8_look_r1 ++ (wsX8_look_r2 ++ (wsX8_look_r3 ++ wsX8_look_r4))) ++ wsX80 ++ wsX40 ++ wsX70 ++ wsX50)
def wsX8_lookAboard_r1 : List Cond := [Cond.fieldLink RX8 26 "GoneOverboard" "now" "LGoneOverboard$Scene;", Cond.fieldLink RX8 19 "GoneOverboard" "told" "LGoneOverboard$Told;", Cond.methodLink RX8 102 yX8_remember, Cond.instanceMethod yX8_remember, Cond.selects RX8 yX8_remember yX8_remember, Cond.initialized RX8, Cond.code yX8_remember cX8_remember 1 none, Cond.fieldLink RX8 38 "GoneOverboard" "acts" "LGoneOverboard$Scenes;", Cond.fieldLink RX8 86 "GoneOverboard" "actsDone" "I", Cond.methodLink RX8 234 yX5_put, Cond.instanceMethod yX5_put, Cond.selects RX5 yX5_put yX5_put, Cond.initialized RX5, Cond.code yX5_put cX5_put 4 none, Cond.methodLink RX5 22 yX5_at, Cond.instanceMethod yX5_at, Cond.selects RX5 yX5_at yX5_at, Cond.code yX5_at cX5_at 2 (some (.object "GoneOverboard$Scene")), Cond.fieldLink RX5 15 "GoneOverboard$Scenes" "row" "[LGoneOverboard$Scene;", Cond.methodLink RX5 26 yX4_copy, Cond.instanceMethod yX4_copy, Cond.selects RX4 yX4_copy yX4_copy, Cond.initialized RX4, Cond.code yX4_copy cX4_copy 3 none]
def wsX8_lookAboard_r2 : List Cond := [Cond.fieldLink RX4 9 "GoneOverboard$Scene" "weights" "[J", Cond.fieldLink RX4 15 "GoneOverboard$Scene" "lows" "[I", Cond.fieldLink RX4 19 "GoneOverboard$Scene" "highs" "[I", Cond.fieldLink RX4 32 "GoneOverboard$Scene" "ship" "I", Cond.fieldLink RX4 35 "GoneOverboard$Scene" "step" "I", Cond.fieldLink RX4 38 "GoneOverboard$Scene" "heard" "I", Cond.methodLink RX4 41 yX4_of, Cond.instanceMethod yX4_of, Cond.selects RX4 yX4_of yX4_of, Cond.code yX4_of cX4_of 2 (some .long), Cond.methodLink RX4 45 yX4_lowOf, Cond.instanceMethod yX4_lowOf, Cond.selects RX4 yX4_lowOf yX4_lowOf, Cond.code yX4_lowOf cX4_lowOf 2 (some .int), Cond.methodLink RX4 48 yX4_highOf, Cond.instanceMethod yX4_highOf, Cond.selects RX4 yX4_highOf yX4_highOf, Cond.code yX4_highOf cX4_highOf 2 (some .int), Cond.methodLink RX8 105 yX4_act, Cond.instanceMethod yX4_act, Cond.selects RX4 yX4_act yX4_act, Cond.code yX4_act cX4_act 3 none, Cond.methodLink RX4 61 yX4_lookBy, Cond.instanceMethod yX4_lookBy]
def wsX8_lookAboard_r3 : List Cond := [Cond.selects RX4 yX4_lookBy yX4_lookBy, Cond.code yX4_lookBy cX4_lookBy 4 none, Cond.methodLink RX4 55 yX4_placeBy, Cond.instanceMethod yX4_placeBy, Cond.selects RX4 yX4_placeBy yX4_placeBy, Cond.code yX4_placeBy cX4_placeBy 2 (some .int), Cond.static yX8_moved, Cond.code yX8_moved cX8_moved 2 (some .int), Cond.methodLink RX8 205 Lib.Math.min.name, Cond.static Lib.Math.min.name, Cond.initialized "java/lang/Math", Cond.code Lib.Math.min.name Lib.Math.min.code 2 (some .int), Cond.methodLink RX8 199 Lib.Math.max.name, Cond.static Lib.Math.max.name, Cond.code Lib.Math.max.name Lib.Math.max.code 2 (some .int), Cond.methodLink RX4 58 yX7_chanceAt, Cond.instanceMethod yX7_chanceAt, Cond.selects RX7 yX7_chanceAt yX7_chanceAt, Cond.initialized RX7, Cond.code yX7_chanceAt cX7_chanceAt 2 (some .int), Cond.fieldLink RX7 37 "GoneOverboard$Told" "finds" "I", Cond.fieldLink RX7 34 "GoneOverboard$Told" "sees" "I", Cond.methodLink RX4 69 yX4_lessen, Cond.instanceMethod yX4_lessen]
def wsX8_lookAboard_r4 : List Cond := [Cond.selects RX4 yX4_lessen yX4_lessen, Cond.code yX4_lessen cX4_lessen 4 none, Cond.constantLong RX4 73 (10), Cond.methodLink RX4 65 yX4_pass, Cond.instanceMethod yX4_pass, Cond.selects RX4 yX4_pass yX4_pass, Cond.code yX4_pass cX4_pass 10 none]
def wsX8_lookAboard : List Cond := .code yX8_lookAboard cX8_lookAboard 1 (some .int) :: ((wsX8_lookAboard_r1 ++ (wsX8_lookAboard_r2 ++ (wsX8_lookAboard_r3 ++ wsX8_lookAboard_r4))) ++ wsX80 ++ wsX40 ++ wsX70 ++ wsX50)
def wsX8_isSaying : List Cond := .code yX8_isSaying cX8_isSaying 3 (some .boolean) :: ([.methodLink RX8 59 yX8_isWithin, .static yX8_isWithin, .initialized RX8, .code yX8_isWithin cX8_isWithin 3 (some .boolean)])
def wsX8_hear_r1 : List Cond := [Cond.fieldLink RX8 26 "GoneOverboard" "now" "LGoneOverboard$Scene;", Cond.methodLink RX8 112 yX8_isSaying, Cond.static yX8_isSaying, Cond.initialized RX8, Cond.code yX8_isSaying cX8_isSaying 3 (some .boolean), Cond.methodLink RX8 59 yX8_isWithin, Cond.static yX8_isWithin, Cond.code yX8_isWithin cX8_isWithin 3 (some .boolean), Cond.methodLink RX8 102 yX8_remember, Cond.instanceMethod yX8_remember, Cond.selects RX8 yX8_remember yX8_remember, Cond.code yX8_remember cX8_remember 1 none, Cond.fieldLink RX8 38 "GoneOverboard" "acts" "LGoneOverboard$Scenes;", Cond.fieldLink RX8 86 "GoneOverboard" "actsDone" "I", Cond.methodLink RX8 234 yX5_put, Cond.instanceMethod yX5_put, Cond.selects RX5 yX5_put yX5_put, Cond.initialized RX5, Cond.code yX5_put cX5_put 4 none, Cond.methodLink RX5 22 yX5_at, Cond.instanceMethod yX5_at, Cond.selects RX5 yX5_at yX5_at, Cond.code yX5_at cX5_at 2 (some (.object "GoneOverboard$Scene")), Cond.fieldLink RX5 15 "GoneOverboard$Scenes" "row" "[LGoneOverboard$Scene;"]
def wsX8_hear_r2 : List Cond := [Cond.methodLink RX5 26 yX4_copy, Cond.instanceMethod yX4_copy, Cond.selects RX4 yX4_copy yX4_copy, Cond.initialized RX4, Cond.code yX4_copy cX4_copy 3 none, Cond.fieldLink RX4 9 "GoneOverboard$Scene" "weights" "[J", Cond.fieldLink RX4 15 "GoneOverboard$Scene" "lows" "[I", Cond.fieldLink RX4 19 "GoneOverboard$Scene" "highs" "[I", Cond.fieldLink RX4 32 "GoneOverboard$Scene" "ship" "I", Cond.fieldLink RX4 35 "GoneOverboard$Scene" "step" "I", Cond.fieldLink RX4 38 "GoneOverboard$Scene" "heard" "I", Cond.methodLink RX4 41 yX4_of, Cond.instanceMethod yX4_of, Cond.selects RX4 yX4_of yX4_of, Cond.code yX4_of cX4_of 2 (some .long), Cond.methodLink RX4 45 yX4_lowOf, Cond.instanceMethod yX4_lowOf, Cond.selects RX4 yX4_lowOf yX4_lowOf, Cond.code yX4_lowOf cX4_lowOf 2 (some .int), Cond.methodLink RX4 48 yX4_highOf, Cond.instanceMethod yX4_highOf, Cond.selects RX4 yX4_highOf yX4_highOf, Cond.code yX4_highOf cX4_highOf 2 (some .int), Cond.methodLink RX8 118 yX4_believe]
def wsX8_hear_r3 : List Cond := [Cond.instanceMethod yX4_believe, Cond.selects RX4 yX4_believe yX4_believe, Cond.code yX4_believe cX4_believe 5 none, Cond.constantLong RX4 84 (5)]
def wsX8_hear : List Cond := .code yX8_hear cX8_hear 4 (some .int) :: ((wsX8_hear_r1 ++ (wsX8_hear_r2 ++ wsX8_hear_r3)) ++ wsX80 ++ wsX40 ++ wsX50)
def wsX8_undo_r1 : List Cond := [Cond.fieldLink RX8 86 "GoneOverboard" "actsDone" "I", Cond.fieldLink RX8 38 "GoneOverboard" "acts" "LGoneOverboard$Scenes;", Cond.fieldLink RX8 26 "GoneOverboard" "now" "LGoneOverboard$Scene;", Cond.methodLink RX8 122 yX5_give, Cond.instanceMethod yX5_give, Cond.selects RX5 yX5_give yX5_give, Cond.initialized RX5, Cond.code yX5_give cX5_give 4 none, Cond.methodLink RX5 22 yX5_at, Cond.instanceMethod yX5_at, Cond.selects RX5 yX5_at yX5_at, Cond.code yX5_at cX5_at 2 (some (.object "GoneOverboard$Scene")), Cond.fieldLink RX5 15 "GoneOverboard$Scenes" "row" "[LGoneOverboard$Scene;", Cond.methodLink RX5 26 yX4_copy, Cond.instanceMethod yX4_copy, Cond.selects RX4 yX4_copy yX4_copy, Cond.initialized RX4, Cond.code yX4_copy cX4_copy 3 none, Cond.fieldLink RX4 9 "GoneOverboard$Scene" "weights" "[J", Cond.fieldLink RX4 15 "GoneOverboard$Scene" "lows" "[I", Cond.fieldLink RX4 19 "GoneOverboard$Scene" "highs" "[I", Cond.fieldLink RX4 32 "GoneOverboard$Scene" "ship" "I", Cond.fieldLink RX4 35 "GoneOverboard$Scene" "step" "I", Cond.fieldLink RX4 38 "GoneOverboard$Scene" "heard" "I"]
def wsX8_undo_r2 : List Cond := [Cond.methodLink RX4 41 yX4_of, Cond.instanceMethod yX4_of, Cond.selects RX4 yX4_of yX4_of, Cond.code yX4_of cX4_of 2 (some .long), Cond.methodLink RX4 45 yX4_lowOf, Cond.instanceMethod yX4_lowOf, Cond.selects RX4 yX4_lowOf yX4_lowOf, Cond.code yX4_lowOf cX4_lowOf 2 (some .int), Cond.methodLink RX4 48 yX4_highOf, Cond.instanceMethod yX4_highOf, Cond.selects RX4 yX4_highOf yX4_highOf, Cond.code yX4_highOf cX4_highOf 2 (some .int)]
def wsX8_undo : List Cond := .code yX8_undo cX8_undo 1 (some .int) :: ((wsX8_undo_r1 ++ wsX8_undo_r2) ++ wsX80 ++ wsX50 ++ wsX40)
def wsX8_weight : List Cond := .code yX8_weight cX8_weight 2 (some .long) :: ([.fieldLink RX8 26 "GoneOverboard" "now" "LGoneOverboard$Scene;", .constantLong RX8 130 (-2), .methodLink RX8 59 yX8_isWithin, .static yX8_isWithin, .initialized RX8, .code yX8_isWithin cX8_isWithin 3 (some .boolean), .methodLink RX8 126 yX4_of, .instanceMethod yX4_of, .selects RX4 yX4_of yX4_of, .initialized RX4, .code yX4_of cX4_of 2 (some .long), .fieldLink RX4 9 "GoneOverboard$Scene" "weights" "[J"] ++ wsX80 ++ wsX40)
def wsX8_likely_r1 : List Cond := [Cond.constantLong RX8 130 (-2), Cond.fieldLink RX8 26 "GoneOverboard" "now" "LGoneOverboard$Scene;", Cond.constantLong RX8 136 (-3), Cond.methodLink RX8 59 yX8_isWithin, Cond.static yX8_isWithin, Cond.initialized RX8, Cond.code yX8_isWithin cX8_isWithin 3 (some .boolean), Cond.methodLink RX8 132 yX4_together, Cond.instanceMethod yX4_together, Cond.selects RX4 yX4_together yX4_together, Cond.initialized RX4, Cond.code yX4_together cX4_together 4 (some .long), Cond.fieldLink RX4 9 "GoneOverboard$Scene" "weights" "[J", Cond.methodLink RX8 126 yX4_of, Cond.instanceMethod yX4_of, Cond.selects RX4 yX4_of yX4_of, Cond.code yX4_of cX4_of 2 (some .long), Cond.methodLink RX8 138 yX3_part, Cond.static yX3_part, Cond.initialized RX3, Cond.code yX3_part cX3_part 7 (some .long), Cond.methodLink RX3 7 Lib.MathLoose.abs_long.x, Cond.static Lib.MathLoose.abs_long.x, Cond.initialized "java/lang/Math"]
def wsX8_likely_r2 : List Cond := [Cond.code Lib.MathLoose.abs_long.x Lib.MathLoose.abs_long.code 2 (some .long), Cond.methodLink RX3 13 yX3_commonOf, Cond.static yX3_commonOf, Cond.code yX3_commonOf cX3_commonOf 11 (some .long)]
def wsX8_likely : List Cond := .code yX8_likely cX8_likely 5 (some .long) :: ((wsX8_likely_r1 ++ wsX8_likely_r2) ++ wsX80 ++ wsX40)
def wsX8_likeliest : List Cond := .code yX8_likeliest cX8_likeliest 5 (some .int) :: ([.fieldLink RX8 26 "GoneOverboard" "now" "LGoneOverboard$Scene;", .methodLink RX8 126 yX4_of, .instanceMethod yX4_of, .selects RX4 yX4_of yX4_of, .initialized RX4, .code yX4_of cX4_of 2 (some .long), .fieldLink RX4 9 "GoneOverboard$Scene" "weights" "[J"] ++ wsX80 ++ wsX40)
def wsX8_power : List Cond := .code yX8_power cX8_power 6 (some .long) :: ([])
def wsX8_figureOf : List Cond := .code yX8_figureOf cX8_figureOf 5 (some .int) :: ([.constantLong RX8 179 (10), .methodLink RX8 158 yX8_power, .static yX8_power, .initialized RX8, .code yX8_power cX8_power 6 (some .long)])
def wsX8_isRow : List Cond := .code yX8_isRow cX8_isRow 3 (some .boolean) :: ([.constantLong RX8 179 (10), .methodLink RX8 158 yX8_power, .static yX8_power, .initialized RX8, .code yX8_power cX8_power 6 (some .long), .methodLink RX8 212 yX8_figureOf, .static yX8_figureOf, .code yX8_figureOf cX8_figureOf 5 (some .int)])
def wsX8_isLeft : List Cond := .code yX8_isLeft cX8_isLeft 2 (some .boolean) :: ([.fieldLink RX8 26 "GoneOverboard" "now" "LGoneOverboard$Scene;", .fieldLink RX8 19 "GoneOverboard" "told" "LGoneOverboard$Told;", .methodLink RX8 132 yX4_together, .instanceMethod yX4_together, .selects RX4 yX4_together yX4_together, .initialized RX4, .code yX4_together cX4_together 4 (some .long), .fieldLink RX4 9 "GoneOverboard$Scene" "weights" "[J"] ++ wsX80 ++ wsX40 ++ wsX70)
def wsX8_foundBy_r1 : List Cond := [Cond.fieldLink RX8 30 "GoneOverboard" "spare" "LGoneOverboard$Scene;", Cond.fieldLink RX8 26 "GoneOverboard" "now" "LGoneOverboard$Scene;", Cond.constantLong RX8 156 (100), Cond.fieldLink RX8 19 "GoneOverboard" "told" "LGoneOverboard$Told;", Cond.constantLong RX8 179 (10), Cond.methodLink RX8 208 yX4_copy, Cond.instanceMethod yX4_copy, Cond.selects RX4 yX4_copy yX4_copy, Cond.initialized RX4, Cond.code yX4_copy cX4_copy 3 none, Cond.fieldLink RX4 9 "GoneOverboard$Scene" "weights" "[J", Cond.fieldLink RX4 15 "GoneOverboard$Scene" "lows" "[I", Cond.fieldLink RX4 19 "GoneOverboard$Scene" "highs" "[I", Cond.fieldLink RX4 32 "GoneOverboard$Scene" "ship" "I", Cond.fieldLink RX4 35 "GoneOverboard$Scene" "step" "I", Cond.fieldLink RX4 38 "GoneOverboard$Scene" "heard" "I", Cond.methodLink RX4 41 yX4_of, Cond.instanceMethod yX4_of, Cond.selects RX4 yX4_of yX4_of, Cond.code yX4_of cX4_of 2 (some .long), Cond.methodLink RX4 45 yX4_lowOf, Cond.instanceMethod yX4_lowOf, Cond.selects RX4 yX4_lowOf yX4_lowOf, Cond.code yX4_lowOf cX4_lowOf 2 (some .int)]
def wsX8_foundBy_r2 : List Cond := [Cond.methodLink RX4 48 yX4_highOf, Cond.instanceMethod yX4_highOf, Cond.selects RX4 yX4_highOf yX4_highOf, Cond.code yX4_highOf cX4_highOf 2 (some .int), Cond.methodLink RX8 212 yX8_figureOf, Cond.static yX8_figureOf, Cond.initialized RX8, Cond.code yX8_figureOf cX8_figureOf 5 (some .int), Cond.methodLink RX8 158 yX8_power, Cond.static yX8_power, Cond.code yX8_power cX8_power 6 (some .long), Cond.methodLink RX8 255 yX4_foundNow, Cond.instanceMethod yX4_foundNow, Cond.selects RX4 yX4_foundNow yX4_foundNow, Cond.code yX4_foundNow cX4_foundNow 4 (some .long), Cond.methodLink RX4 55 yX4_placeBy, Cond.instanceMethod yX4_placeBy, Cond.selects RX4 yX4_placeBy yX4_placeBy, Cond.code yX4_placeBy cX4_placeBy 2 (some .int), Cond.static yX8_moved, Cond.code yX8_moved cX8_moved 2 (some .int), Cond.methodLink RX8 205 Lib.Math.min.name, Cond.static Lib.Math.min.name, Cond.initialized "java/lang/Math"]
def wsX8_foundBy_r3 : List Cond := [Cond.code Lib.Math.min.name Lib.Math.min.code 2 (some .int), Cond.methodLink RX8 199 Lib.Math.max.name, Cond.static Lib.Math.max.name, Cond.code Lib.Math.max.name Lib.Math.max.code 2 (some .int), Cond.methodLink RX4 58 yX7_chanceAt, Cond.instanceMethod yX7_chanceAt, Cond.selects RX7 yX7_chanceAt yX7_chanceAt, Cond.initialized RX7, Cond.code yX7_chanceAt cX7_chanceAt 2 (some .int), Cond.fieldLink RX7 37 "GoneOverboard$Told" "finds" "I", Cond.fieldLink RX7 34 "GoneOverboard$Told" "sees" "I", Cond.methodLink RX8 105 yX4_act, Cond.instanceMethod yX4_act, Cond.selects RX4 yX4_act yX4_act, Cond.code yX4_act cX4_act 3 none, Cond.methodLink RX4 61 yX4_lookBy, Cond.instanceMethod yX4_lookBy, Cond.selects RX4 yX4_lookBy yX4_lookBy, Cond.code yX4_lookBy cX4_lookBy 4 none, Cond.methodLink RX4 69 yX4_lessen, Cond.instanceMethod yX4_lessen, Cond.selects RX4 yX4_lessen yX4_lessen, Cond.code yX4_lessen cX4_lessen 4 none, Cond.constantLong RX4 73 (10)]
def wsX8_foundBy_r4 : List Cond := [Cond.methodLink RX4 65 yX4_pass, Cond.instanceMethod yX4_pass, Cond.selects RX4 yX4_pass yX4_pass, Cond.code yX4_pass cX4_pass 10 none]
def wsX8_foundBy : List Cond := .code yX8_foundBy cX8_foundBy 7 (some .long) :: ((wsX8_foundBy_r1 ++ (wsX8_foundBy_r2 ++ (wsX8_foundBy_r3 ++ wsX8_foundBy_r4))) ++ wsX80 ++ wsX40 ++ wsX70)
def wsX8_by_r1 : List Cond := [Cond.constantLong RX8 130 (-2), Cond.constantLong RX8 136 (-3), Cond.fieldLink RX8 26 "GoneOverboard" "now" "LGoneOverboard$Scene;", Cond.constantLong RX8 156 (100), Cond.methodLink RX8 59 yX8_isWithin, Cond.static yX8_isWithin, Cond.initialized RX8, Cond.code yX8_isWithin cX8_isWithin 3 (some .boolean), Cond.methodLink RX8 144 yX8_isRow, Cond.static yX8_isRow, Cond.code yX8_isRow cX8_isRow 3 (some .boolean), Cond.constantLong RX8 179 (10), Cond.methodLink RX8 158 yX8_power, Cond.static yX8_power, Cond.code yX8_power cX8_power 6 (some .long), Cond.methodLink RX8 212 yX8_figureOf, Cond.static yX8_figureOf, Cond.code yX8_figureOf cX8_figureOf 5 (some .int), Cond.methodLink RX8 148 yX8_isLeft, Cond.instanceMethod yX8_isLeft, Cond.selects RX8 yX8_isLeft yX8_isLeft, Cond.code yX8_isLeft cX8_isLeft 2 (some .boolean), Cond.fieldLink RX8 19 "GoneOverboard" "told" "LGoneOverboard$Told;", Cond.methodLink RX8 132 yX4_together]
def wsX8_by_r2 : List Cond := [Cond.instanceMethod yX4_together, Cond.selects RX4 yX4_together yX4_together, Cond.initialized RX4, Cond.code yX4_together cX4_together 4 (some .long), Cond.fieldLink RX4 9 "GoneOverboard$Scene" "weights" "[J", Cond.methodLink RX8 152 yX8_foundBy, Cond.instanceMethod yX8_foundBy, Cond.selects RX8 yX8_foundBy yX8_foundBy, Cond.code yX8_foundBy cX8_foundBy 7 (some .long), Cond.fieldLink RX8 30 "GoneOverboard" "spare" "LGoneOverboard$Scene;", Cond.methodLink RX8 208 yX4_copy, Cond.instanceMethod yX4_copy, Cond.selects RX4 yX4_copy yX4_copy, Cond.code yX4_copy cX4_copy 3 none, Cond.fieldLink RX4 15 "GoneOverboard$Scene" "lows" "[I", Cond.fieldLink RX4 19 "GoneOverboard$Scene" "highs" "[I", Cond.fieldLink RX4 32 "GoneOverboard$Scene" "ship" "I", Cond.fieldLink RX4 35 "GoneOverboard$Scene" "step" "I", Cond.fieldLink RX4 38 "GoneOverboard$Scene" "heard" "I", Cond.methodLink RX4 41 yX4_of, Cond.instanceMethod yX4_of, Cond.selects RX4 yX4_of yX4_of, Cond.code yX4_of cX4_of 2 (some .long), Cond.methodLink RX4 45 yX4_lowOf]
def wsX8_by_r3 : List Cond := [Cond.instanceMethod yX4_lowOf, Cond.selects RX4 yX4_lowOf yX4_lowOf, Cond.code yX4_lowOf cX4_lowOf 2 (some .int), Cond.methodLink RX4 48 yX4_highOf, Cond.instanceMethod yX4_highOf, Cond.selects RX4 yX4_highOf yX4_highOf, Cond.code yX4_highOf cX4_highOf 2 (some .int), Cond.methodLink RX8 255 yX4_foundNow, Cond.instanceMethod yX4_foundNow, Cond.selects RX4 yX4_foundNow yX4_foundNow, Cond.code yX4_foundNow cX4_foundNow 4 (some .long), Cond.methodLink RX4 55 yX4_placeBy, Cond.instanceMethod yX4_placeBy, Cond.selects RX4 yX4_placeBy yX4_placeBy, Cond.code yX4_placeBy cX4_placeBy 2 (some .int), Cond.static yX8_moved, Cond.code yX8_moved cX8_moved 2 (some .int), Cond.methodLink RX8 205 Lib.Math.min.name, Cond.static Lib.Math.min.name, Cond.initialized "java/lang/Math", Cond.code Lib.Math.min.name Lib.Math.min.code 2 (some .int), Cond.methodLink RX8 199 Lib.Math.max.name, Cond.static Lib.Math.max.name, Cond.code Lib.Math.max.name Lib.Math.max.code 2 (some .int)]
def wsX8_by_r4 : List Cond := [Cond.methodLink RX4 58 yX7_chanceAt, Cond.instanceMethod yX7_chanceAt, Cond.selects RX7 yX7_chanceAt yX7_chanceAt, Cond.initialized RX7, Cond.code yX7_chanceAt cX7_chanceAt 2 (some .int), Cond.fieldLink RX7 37 "GoneOverboard$Told" "finds" "I", Cond.fieldLink RX7 34 "GoneOverboard$Told" "sees" "I", Cond.methodLink RX8 105 yX4_act, Cond.instanceMethod yX4_act, Cond.selects RX4 yX4_act yX4_act, Cond.code yX4_act cX4_act 3 none, Cond.methodLink RX4 61 yX4_lookBy, Cond.instanceMethod yX4_lookBy, Cond.selects RX4 yX4_lookBy yX4_lookBy, Cond.code yX4_lookBy cX4_lookBy 4 none, Cond.methodLink RX4 69 yX4_lessen, Cond.instanceMethod yX4_lessen, Cond.selects RX4 yX4_lessen yX4_lessen, Cond.code yX4_lessen cX4_lessen 4 none, Cond.constantLong RX4 73 (10), Cond.methodLink RX4 65 yX4_pass, Cond.instanceMethod yX4_pass, Cond.selects RX4 yX4_pass yX4_pass, Cond.code yX4_pass cX4_pass 10 none]
def wsX8_by_r5 : List Cond := [Cond.methodLink RX8 138 yX3_part, Cond.static yX3_part, Cond.initialized RX3, Cond.code yX3_part cX3_part 7 (some .long), Cond.methodLink RX3 7 Lib.MathLoose.abs_long.x, Cond.static Lib.MathLoose.abs_long.x, Cond.code Lib.MathLoose.abs_long.x Lib.MathLoose.abs_long.code 2 (some .long), Cond.methodLink RX3 13 yX3_commonOf, Cond.static yX3_commonOf, Cond.code yX3_commonOf cX3_commonOf 11 (some .long)]
def wsX8_by : List Cond := .code yX8_by cX8_by 4 (some .long) :: ((wsX8_by_r1 ++ (wsX8_by_r2 ++ (wsX8_by_r3 ++ (wsX8_by_r4 ++ wsX8_by_r5)))) ++ wsX80 ++ wsX40 ++ wsX70)
def wsX8_best_r1 : List Cond := [Cond.constantLong RX8 130 (-2), Cond.constantLong RX8 136 (-3), Cond.fieldLink RX8 48 "GoneOverboard" "ahead" "LGoneOverboard$Ahead;", Cond.fieldLink RX8 19 "GoneOverboard" "told" "LGoneOverboard$Told;", Cond.fieldLink RX8 26 "GoneOverboard" "now" "LGoneOverboard$Scene;", Cond.constantLong RX8 156 (100), Cond.methodLink RX8 59 yX8_isWithin, Cond.static yX8_isWithin, Cond.initialized RX8, Cond.code yX8_isWithin cX8_isWithin 3 (some .boolean), Cond.methodLink RX8 148 yX8_isLeft, Cond.instanceMethod yX8_isLeft, Cond.selects RX8 yX8_isLeft yX8_isLeft, Cond.code yX8_isLeft cX8_isLeft 2 (some .boolean), Cond.methodLink RX8 132 yX4_together, Cond.instanceMethod yX4_together, Cond.selects RX4 yX4_together yX4_together, Cond.initialized RX4, Cond.code yX4_together cX4_together 4 (some .long), Cond.fieldLink RX4 9 "GoneOverboard$Scene" "weights" "[J", Cond.methodLink RX8 162 yX0_tryAll, Cond.instanceMethod yX0_tryAll, Cond.selects RX0 yX0_tryAll yX0_tryAll, Cond.initialized RX0]
def wsX8_best_r2 : List Cond := [Cond.code yX0_tryAll cX0_tryAll 5 none, Cond.fieldLink RX0 33 "GoneOverboard$Ahead" "looks" "I", Cond.fieldLink RX0 23 "GoneOverboard$Ahead" "sea" "LGoneOverboard$Best;", Cond.fieldLink RX0 27 "GoneOverboard$Ahead" "aboard" "LGoneOverboard$Best;", Cond.fieldLink RX0 14 "GoneOverboard$Ahead" "depths" "LGoneOverboard$Scenes;", Cond.methodLink RX0 37 yX1_clear, Cond.instanceMethod yX1_clear, Cond.selects RX1 yX1_clear yX1_clear, Cond.initialized RX1, Cond.code yX1_clear cX1_clear 1 none, Cond.constantLong RX1 7 (-1), Cond.fieldLink RX1 9 "GoneOverboard$Best" "found" "J", Cond.fieldLink RX1 15 "GoneOverboard$Best" "row" "I", Cond.methodLink RX0 40 yX5_put, Cond.instanceMethod yX5_put, Cond.selects RX5 yX5_put yX5_put, Cond.initialized RX5, Cond.code yX5_put cX5_put 4 none, Cond.methodLink RX5 22 yX5_at, Cond.instanceMethod yX5_at, Cond.selects RX5 yX5_at yX5_at, Cond.code yX5_at cX5_at 2 (some (.object "GoneOverboard$Scene")), Cond.fieldLink RX5 15 "GoneOverboard$Scenes" "row" "[LGoneOverboard$Scene;", Cond.methodLink RX5 26 yX4_copy]
def wsX8_best_r3 : List Cond := [Cond.instanceMethod yX4_copy, Cond.selects RX4 yX4_copy yX4_copy, Cond.code yX4_copy cX4_copy 3 none, Cond.fieldLink RX4 15 "GoneOverboard$Scene" "lows" "[I", Cond.fieldLink RX4 19 "GoneOverboard$Scene" "highs" "[I", Cond.fieldLink RX4 32 "GoneOverboard$Scene" "ship" "I", Cond.fieldLink RX4 35 "GoneOverboard$Scene" "step" "I", Cond.fieldLink RX4 38 "GoneOverboard$Scene" "heard" "I", Cond.methodLink RX4 41 yX4_of, Cond.instanceMethod yX4_of, Cond.selects RX4 yX4_of yX4_of, Cond.code yX4_of cX4_of 2 (some .long), Cond.methodLink RX4 45 yX4_lowOf, Cond.instanceMethod yX4_lowOf, Cond.selects RX4 yX4_lowOf yX4_lowOf, Cond.code yX4_lowOf cX4_lowOf 2 (some .int), Cond.methodLink RX4 48 yX4_highOf, Cond.instanceMethod yX4_highOf, Cond.selects RX4 yX4_highOf yX4_highOf, Cond.code yX4_highOf cX4_highOf 2 (some .int), Cond.methodLink RX0 44 yX0_tryLook, Cond.instanceMethod yX0_tryLook, Cond.selects RX0 yX0_tryLook yX0_tryLook, Cond.code yX0_tryLook cX0_tryLook 14 none]
def wsX8_best_r4 : List Cond := [Cond.constantLong RX0 56 (100), Cond.constantLong RX0 64 (10), Cond.methodLink RX0 52 yX5_at, Cond.methodLink RX0 58 yX4_foundNow, Cond.instanceMethod yX4_foundNow, Cond.selects RX4 yX4_foundNow yX4_foundNow, Cond.code yX4_foundNow cX4_foundNow 4 (some .long), Cond.methodLink RX4 55 yX4_placeBy, Cond.instanceMethod yX4_placeBy, Cond.selects RX4 yX4_placeBy yX4_placeBy, Cond.code yX4_placeBy cX4_placeBy 2 (some .int), Cond.static yX8_moved, Cond.code yX8_moved cX8_moved 2 (some .int), Cond.methodLink RX8 205 Lib.Math.min.name, Cond.static Lib.Math.min.name, Cond.initialized "java/lang/Math", Cond.code Lib.Math.min.name Lib.Math.min.code 2 (some .int), Cond.methodLink RX8 199 Lib.Math.max.name, Cond.static Lib.Math.max.name, Cond.code Lib.Math.max.name Lib.Math.max.code 2 (some .int), Cond.methodLink RX4 58 yX7_chanceAt, Cond.instanceMethod yX7_chanceAt, Cond.selects RX7 yX7_chanceAt yX7_chanceAt, Cond.initialized RX7]
def wsX8_best_r5 : List Cond := [Cond.code yX7_chanceAt cX7_chanceAt 2 (some .int), Cond.fieldLink RX7 37 "GoneOverboard$Told" "finds" "I", Cond.fieldLink RX7 34 "GoneOverboard$Told" "sees" "I", Cond.methodLink RX0 66 yX1_offer, Cond.instanceMethod yX1_offer, Cond.selects RX1 yX1_offer yX1_offer, Cond.code yX1_offer cX1_offer 4 none, Cond.methodLink RX0 70 yX4_copy, Cond.methodLink RX0 74 yX4_act, Cond.instanceMethod yX4_act, Cond.selects RX4 yX4_act yX4_act, Cond.code yX4_act cX4_act 3 none, Cond.methodLink RX4 61 yX4_lookBy, Cond.instanceMethod yX4_lookBy, Cond.selects RX4 yX4_lookBy yX4_lookBy, Cond.code yX4_lookBy cX4_lookBy 4 none, Cond.methodLink RX4 69 yX4_lessen, Cond.instanceMethod yX4_lessen, Cond.selects RX4 yX4_lessen yX4_lessen, Cond.code yX4_lessen cX4_lessen 4 none, Cond.constantLong RX4 73 (10), Cond.methodLink RX4 65 yX4_pass, Cond.instanceMethod yX4_pass, Cond.selects RX4 yX4_pass yX4_pass]
def wsX8_best_r6 : List Cond := [Cond.code yX4_pass cX4_pass 10 none, Cond.methodLink RX8 166 yX0_likelier, Cond.instanceMethod yX0_likelier, Cond.selects RX0 yX0_likelier yX0_likelier, Cond.code yX0_likelier cX0_likelier 1 (some (.object "GoneOverboard$Best")), Cond.methodLink RX8 158 yX8_power, Cond.static yX8_power, Cond.code yX8_power cX8_power 6 (some .long), Cond.methodLink RX8 138 yX3_part, Cond.static yX3_part, Cond.initialized RX3, Cond.code yX3_part cX3_part 7 (some .long), Cond.methodLink RX3 7 Lib.MathLoose.abs_long.x, Cond.static Lib.MathLoose.abs_long.x, Cond.code Lib.MathLoose.abs_long.x Lib.MathLoose.abs_long.code 2 (some .long), Cond.methodLink RX3 13 yX3_commonOf, Cond.static yX3_commonOf, Cond.code yX3_commonOf cX3_commonOf 11 (some .long)]
def wsX8_best : List Cond := .code yX8_best cX8_best 3 (some .long) :: ((wsX8_best_r1 ++ (wsX8_best_r2 ++ (wsX8_best_r3 ++ (wsX8_best_r4 ++ (wsX8_best_r5 ++ wsX8_best_r6))))) ++ wsX80 ++ wsX10 ++ wsX40 ++ wsX70 ++ wsX00 ++ wsX50)
def wsX8_bestRow_r1 : List Cond := [Cond.fieldLink RX8 48 "GoneOverboard" "ahead" "LGoneOverboard$Ahead;", Cond.fieldLink RX8 19 "GoneOverboard" "told" "LGoneOverboard$Told;", Cond.fieldLink RX8 26 "GoneOverboard" "now" "LGoneOverboard$Scene;", Cond.methodLink RX8 59 yX8_isWithin, Cond.static yX8_isWithin, Cond.initialized RX8, Cond.code yX8_isWithin cX8_isWithin 3 (some .boolean), Cond.methodLink RX8 148 yX8_isLeft, Cond.instanceMethod yX8_isLeft, Cond.selects RX8 yX8_isLeft yX8_isLeft, Cond.code yX8_isLeft cX8_isLeft 2 (some .boolean), Cond.methodLink RX8 132 yX4_together, Cond.instanceMethod yX4_together, Cond.selects RX4 yX4_together yX4_together, Cond.initialized RX4, Cond.code yX4_together cX4_together 4 (some .long), Cond.fieldLink RX4 9 "GoneOverboard$Scene" "weights" "[J", Cond.methodLink RX8 162 yX0_tryAll, Cond.instanceMethod yX0_tryAll, Cond.selects RX0 yX0_tryAll yX0_tryAll, Cond.initialized RX0, Cond.code yX0_tryAll cX0_tryAll 5 none, Cond.fieldLink RX0 33 "GoneOverboard$Ahead" "looks" "I", Cond.fieldLink RX0 23 "GoneOverboard$Ahead" "sea" "LGoneOverboard$Best;"]
def wsX8_bestRow_r2 : List Cond := [Cond.fieldLink RX0 27 "GoneOverboard$Ahead" "aboard" "LGoneOverboard$Best;", Cond.fieldLink RX0 14 "GoneOverboard$Ahead" "depths" "LGoneOverboard$Scenes;", Cond.methodLink RX0 37 yX1_clear, Cond.instanceMethod yX1_clear, Cond.selects RX1 yX1_clear yX1_clear, Cond.initialized RX1, Cond.code yX1_clear cX1_clear 1 none, Cond.constantLong RX1 7 (-1), Cond.fieldLink RX1 9 "GoneOverboard$Best" "found" "J", Cond.fieldLink RX1 15 "GoneOverboard$Best" "row" "I", Cond.methodLink RX0 40 yX5_put, Cond.instanceMethod yX5_put, Cond.selects RX5 yX5_put yX5_put, Cond.initialized RX5, Cond.code yX5_put cX5_put 4 none, Cond.methodLink RX5 22 yX5_at, Cond.instanceMethod yX5_at, Cond.selects RX5 yX5_at yX5_at, Cond.code yX5_at cX5_at 2 (some (.object "GoneOverboard$Scene")), Cond.fieldLink RX5 15 "GoneOverboard$Scenes" "row" "[LGoneOverboard$Scene;", Cond.methodLink RX5 26 yX4_copy, Cond.instanceMethod yX4_copy, Cond.selects RX4 yX4_copy yX4_copy, Cond.code yX4_copy cX4_copy 3 none]
def wsX8_bestRow_r3 : List Cond := [Cond.fieldLink RX4 15 "GoneOverboard$Scene" "lows" "[I", Cond.fieldLink RX4 19 "GoneOverboard$Scene" "highs" "[I", Cond.fieldLink RX4 32 "GoneOverboard$Scene" "ship" "I", Cond.fieldLink RX4 35 "GoneOverboard$Scene" "step" "I", Cond.fieldLink RX4 38 "GoneOverboard$Scene" "heard" "I", Cond.methodLink RX4 41 yX4_of, Cond.instanceMethod yX4_of, Cond.selects RX4 yX4_of yX4_of, Cond.code yX4_of cX4_of 2 (some .long), Cond.methodLink RX4 45 yX4_lowOf, Cond.instanceMethod yX4_lowOf, Cond.selects RX4 yX4_lowOf yX4_lowOf, Cond.code yX4_lowOf cX4_lowOf 2 (some .int), Cond.methodLink RX4 48 yX4_highOf, Cond.instanceMethod yX4_highOf, Cond.selects RX4 yX4_highOf yX4_highOf, Cond.code yX4_highOf cX4_highOf 2 (some .int), Cond.methodLink RX0 44 yX0_tryLook, Cond.instanceMethod yX0_tryLook, Cond.selects RX0 yX0_tryLook yX0_tryLook, Cond.code yX0_tryLook cX0_tryLook 14 none, Cond.constantLong RX0 56 (100), Cond.constantLong RX0 64 (10), Cond.methodLink RX0 52 yX5_at]
def wsX8_bestRow_r4 : List Cond := [Cond.methodLink RX0 58 yX4_foundNow, Cond.instanceMethod yX4_foundNow, Cond.selects RX4 yX4_foundNow yX4_foundNow, Cond.code yX4_foundNow cX4_foundNow 4 (some .long), Cond.methodLink RX4 55 yX4_placeBy, Cond.instanceMethod yX4_placeBy, Cond.selects RX4 yX4_placeBy yX4_placeBy, Cond.code yX4_placeBy cX4_placeBy 2 (some .int), Cond.static yX8_moved, Cond.code yX8_moved cX8_moved 2 (some .int), Cond.methodLink RX8 205 Lib.Math.min.name, Cond.static Lib.Math.min.name, Cond.initialized "java/lang/Math", Cond.code Lib.Math.min.name Lib.Math.min.code 2 (some .int), Cond.methodLink RX8 199 Lib.Math.max.name, Cond.static Lib.Math.max.name, Cond.code Lib.Math.max.name Lib.Math.max.code 2 (some .int), Cond.methodLink RX4 58 yX7_chanceAt, Cond.instanceMethod yX7_chanceAt, Cond.selects RX7 yX7_chanceAt yX7_chanceAt, Cond.initialized RX7, Cond.code yX7_chanceAt cX7_chanceAt 2 (some .int), Cond.fieldLink RX7 37 "GoneOverboard$Told" "finds" "I", Cond.fieldLink RX7 34 "GoneOverboard$Told" "sees" "I"]
def wsX8_bestRow_r5 : List Cond := [Cond.methodLink RX0 66 yX1_offer, Cond.instanceMethod yX1_offer, Cond.selects RX1 yX1_offer yX1_offer, Cond.code yX1_offer cX1_offer 4 none, Cond.methodLink RX0 70 yX4_copy, Cond.methodLink RX0 74 yX4_act, Cond.instanceMethod yX4_act, Cond.selects RX4 yX4_act yX4_act, Cond.code yX4_act cX4_act 3 none, Cond.methodLink RX4 61 yX4_lookBy, Cond.instanceMethod yX4_lookBy, Cond.selects RX4 yX4_lookBy yX4_lookBy, Cond.code yX4_lookBy cX4_lookBy 4 none, Cond.methodLink RX4 69 yX4_lessen, Cond.instanceMethod yX4_lessen, Cond.selects RX4 yX4_lessen yX4_lessen, Cond.code yX4_lessen cX4_lessen 4 none, Cond.constantLong RX4 73 (10), Cond.methodLink RX4 65 yX4_pass, Cond.instanceMethod yX4_pass, Cond.selects RX4 yX4_pass yX4_pass, Cond.code yX4_pass cX4_pass 10 none, Cond.methodLink RX8 166 yX0_likelier, Cond.instanceMethod yX0_likelier]
def wsX8_bestRow_r6 : List Cond := [Cond.selects RX0 yX0_likelier yX0_likelier, Cond.code yX0_likelier cX0_likelier 1 (some (.object "GoneOverboard$Best"))]
def wsX8_bestRow : List Cond := .code yX8_bestRow cX8_bestRow 2 (some .int) :: ((wsX8_bestRow_r1 ++ (wsX8_bestRow_r2 ++ (wsX8_bestRow_r3 ++ (wsX8_bestRow_r4 ++ (wsX8_bestRow_r5 ++ wsX8_bestRow_r6))))) ++ wsX80 ++ wsX10 ++ wsX40 ++ wsX70 ++ wsX00 ++ wsX50)
def wsX8_soon_r1 : List Cond := [Cond.fieldLink RX8 26 "GoneOverboard" "now" "LGoneOverboard$Scene;", Cond.fieldLink RX8 48 "GoneOverboard" "ahead" "LGoneOverboard$Ahead;", Cond.fieldLink RX8 19 "GoneOverboard" "told" "LGoneOverboard$Told;", Cond.constantLong RX8 179 (10), Cond.constantLong RX8 156 (100), Cond.methodLink RX8 59 yX8_isWithin, Cond.static yX8_isWithin, Cond.initialized RX8, Cond.code yX8_isWithin cX8_isWithin 3 (some .boolean), Cond.methodLink RX8 132 yX4_together, Cond.instanceMethod yX4_together, Cond.selects RX4 yX4_together yX4_together, Cond.initialized RX4, Cond.code yX4_together cX4_together 4 (some .long), Cond.fieldLink RX4 9 "GoneOverboard$Scene" "weights" "[J", Cond.methodLink RX8 148 yX8_isLeft, Cond.instanceMethod yX8_isLeft, Cond.selects RX8 yX8_isLeft yX8_isLeft, Cond.code yX8_isLeft cX8_isLeft 2 (some .boolean), Cond.methodLink RX8 162 yX0_tryAll, Cond.instanceMethod yX0_tryAll, Cond.selects RX0 yX0_tryAll yX0_tryAll, Cond.initialized RX0, Cond.code yX0_tryAll cX0_tryAll 5 none]
def wsX8_soon_r2 : List Cond := [Cond.fieldLink RX0 33 "GoneOverboard$Ahead" "looks" "I", Cond.fieldLink RX0 23 "GoneOverboard$Ahead" "sea" "LGoneOverboard$Best;", Cond.fieldLink RX0 27 "GoneOverboard$Ahead" "aboard" "LGoneOverboard$Best;", Cond.fieldLink RX0 14 "GoneOverboard$Ahead" "depths" "LGoneOverboard$Scenes;", Cond.methodLink RX0 37 yX1_clear, Cond.instanceMethod yX1_clear, Cond.selects RX1 yX1_clear yX1_clear, Cond.initialized RX1, Cond.code yX1_clear cX1_clear 1 none, Cond.constantLong RX1 7 (-1), Cond.fieldLink RX1 9 "GoneOverboard$Best" "found" "J", Cond.fieldLink RX1 15 "GoneOverboard$Best" "row" "I", Cond.methodLink RX0 40 yX5_put, Cond.instanceMethod yX5_put, Cond.selects RX5 yX5_put yX5_put, Cond.initialized RX5, Cond.code yX5_put cX5_put 4 none, Cond.methodLink RX5 22 yX5_at, Cond.instanceMethod yX5_at, Cond.selects RX5 yX5_at yX5_at, Cond.code yX5_at cX5_at 2 (some (.object "GoneOverboard$Scene")), Cond.fieldLink RX5 15 "GoneOverboard$Scenes" "row" "[LGoneOverboard$Scene;", Cond.methodLink RX5 26 yX4_copy, Cond.instanceMethod yX4_copy]
def wsX8_soon_r3 : List Cond := [Cond.selects RX4 yX4_copy yX4_copy, Cond.code yX4_copy cX4_copy 3 none, Cond.fieldLink RX4 15 "GoneOverboard$Scene" "lows" "[I", Cond.fieldLink RX4 19 "GoneOverboard$Scene" "highs" "[I", Cond.fieldLink RX4 32 "GoneOverboard$Scene" "ship" "I", Cond.fieldLink RX4 35 "GoneOverboard$Scene" "step" "I", Cond.fieldLink RX4 38 "GoneOverboard$Scene" "heard" "I", Cond.methodLink RX4 41 yX4_of, Cond.instanceMethod yX4_of, Cond.selects RX4 yX4_of yX4_of, Cond.code yX4_of cX4_of 2 (some .long), Cond.methodLink RX4 45 yX4_lowOf, Cond.instanceMethod yX4_lowOf, Cond.selects RX4 yX4_lowOf yX4_lowOf, Cond.code yX4_lowOf cX4_lowOf 2 (some .int), Cond.methodLink RX4 48 yX4_highOf, Cond.instanceMethod yX4_highOf, Cond.selects RX4 yX4_highOf yX4_highOf, Cond.code yX4_highOf cX4_highOf 2 (some .int), Cond.methodLink RX0 44 yX0_tryLook, Cond.instanceMethod yX0_tryLook, Cond.selects RX0 yX0_tryLook yX0_tryLook, Cond.code yX0_tryLook cX0_tryLook 14 none, Cond.constantLong RX0 56 (100)]
def wsX8_soon_r4 : List Cond := [Cond.constantLong RX0 64 (10), Cond.methodLink RX0 52 yX5_at, Cond.methodLink RX0 58 yX4_foundNow, Cond.instanceMethod yX4_foundNow, Cond.selects RX4 yX4_foundNow yX4_foundNow, Cond.code yX4_foundNow cX4_foundNow 4 (some .long), Cond.methodLink RX4 55 yX4_placeBy, Cond.instanceMethod yX4_placeBy, Cond.selects RX4 yX4_placeBy yX4_placeBy, Cond.code yX4_placeBy cX4_placeBy 2 (some .int), Cond.static yX8_moved, Cond.code yX8_moved cX8_moved 2 (some .int), Cond.methodLink RX8 205 Lib.Math.min.name, Cond.static Lib.Math.min.name, Cond.initialized "java/lang/Math", Cond.code Lib.Math.min.name Lib.Math.min.code 2 (some .int), Cond.methodLink RX8 199 Lib.Math.max.name, Cond.static Lib.Math.max.name, Cond.code Lib.Math.max.name Lib.Math.max.code 2 (some .int), Cond.methodLink RX4 58 yX7_chanceAt, Cond.instanceMethod yX7_chanceAt, Cond.selects RX7 yX7_chanceAt yX7_chanceAt, Cond.initialized RX7, Cond.code yX7_chanceAt cX7_chanceAt 2 (some .int)]
def wsX8_soon_r5 : List Cond := [Cond.fieldLink RX7 37 "GoneOverboard$Told" "finds" "I", Cond.fieldLink RX7 34 "GoneOverboard$Told" "sees" "I", Cond.methodLink RX0 66 yX1_offer, Cond.instanceMethod yX1_offer, Cond.selects RX1 yX1_offer yX1_offer, Cond.code yX1_offer cX1_offer 4 none, Cond.methodLink RX0 70 yX4_copy, Cond.methodLink RX0 74 yX4_act, Cond.instanceMethod yX4_act, Cond.selects RX4 yX4_act yX4_act, Cond.code yX4_act cX4_act 3 none, Cond.methodLink RX4 61 yX4_lookBy, Cond.instanceMethod yX4_lookBy, Cond.selects RX4 yX4_lookBy yX4_lookBy, Cond.code yX4_lookBy cX4_lookBy 4 none, Cond.methodLink RX4 69 yX4_lessen, Cond.instanceMethod yX4_lessen, Cond.selects RX4 yX4_lessen yX4_lessen, Cond.code yX4_lessen cX4_lessen 4 none, Cond.constantLong RX4 73 (10), Cond.methodLink RX4 65 yX4_pass, Cond.instanceMethod yX4_pass, Cond.selects RX4 yX4_pass yX4_pass, Cond.code yX4_pass cX4_pass 10 none]
def wsX8_soon_r6 : List Cond := [Cond.methodLink RX8 166 yX0_likelier, Cond.instanceMethod yX0_likelier, Cond.selects RX0 yX0_likelier yX0_likelier, Cond.code yX0_likelier cX0_likelier 1 (some (.object "GoneOverboard$Best")), Cond.methodLink RX8 158 yX8_power, Cond.static yX8_power, Cond.code yX8_power cX8_power 6 (some .long)]
def wsX8_soon : List Cond := .code yX8_soon cX8_soon 3 (some .int) :: ((wsX8_soon_r1 ++ (wsX8_soon_r2 ++ (wsX8_soon_r3 ++ (wsX8_soon_r4 ++ (wsX8_soon_r5 ++ wsX8_soon_r6))))) ++ wsX80 ++ wsX10 ++ wsX40 ++ wsX70 ++ wsX00 ++ wsX50)
def wsX8_first_r1 : List Cond := [Cond.constantLong RX8 130 (-2), Cond.constantLong RX8 136 (-3), Cond.fieldLink RX8 48 "GoneOverboard" "ahead" "LGoneOverboard$Ahead;", Cond.fieldLink RX8 19 "GoneOverboard" "told" "LGoneOverboard$Told;", Cond.fieldLink RX8 26 "GoneOverboard" "now" "LGoneOverboard$Scene;", Cond.constantLong RX8 156 (100), Cond.methodLink RX8 59 yX8_isWithin, Cond.static yX8_isWithin, Cond.initialized RX8, Cond.code yX8_isWithin cX8_isWithin 3 (some .boolean), Cond.methodLink RX8 148 yX8_isLeft, Cond.instanceMethod yX8_isLeft, Cond.selects RX8 yX8_isLeft yX8_isLeft, Cond.code yX8_isLeft cX8_isLeft 2 (some .boolean), Cond.methodLink RX8 132 yX4_together, Cond.instanceMethod yX4_together, Cond.selects RX4 yX4_together yX4_together, Cond.initialized RX4, Cond.code yX4_together cX4_together 4 (some .long), Cond.fieldLink RX4 9 "GoneOverboard$Scene" "weights" "[J", Cond.methodLink RX8 162 yX0_tryAll, Cond.instanceMethod yX0_tryAll, Cond.selects RX0 yX0_tryAll yX0_tryAll, Cond.initialized RX0]
def wsX8_first_r2 : List Cond := [Cond.code yX0_tryAll cX0_tryAll 5 none, Cond.fieldLink RX0 33 "GoneOverboard$Ahead" "looks" "I", Cond.fieldLink RX0 23 "GoneOverboard$Ahead" "sea" "LGoneOverboard$Best;", Cond.fieldLink RX0 27 "GoneOverboard$Ahead" "aboard" "LGoneOverboard$Best;", Cond.fieldLink RX0 14 "GoneOverboard$Ahead" "depths" "LGoneOverboard$Scenes;", Cond.methodLink RX0 37 yX1_clear, Cond.instanceMethod yX1_clear, Cond.selects RX1 yX1_clear yX1_clear, Cond.initialized RX1, Cond.code yX1_clear cX1_clear 1 none, Cond.constantLong RX1 7 (-1), Cond.fieldLink RX1 9 "GoneOverboard$Best" "found" "J", Cond.fieldLink RX1 15 "GoneOverboard$Best" "row" "I", Cond.methodLink RX0 40 yX5_put, Cond.instanceMethod yX5_put, Cond.selects RX5 yX5_put yX5_put, Cond.initialized RX5, Cond.code yX5_put cX5_put 4 none, Cond.methodLink RX5 22 yX5_at, Cond.instanceMethod yX5_at, Cond.selects RX5 yX5_at yX5_at, Cond.code yX5_at cX5_at 2 (some (.object "GoneOverboard$Scene")), Cond.fieldLink RX5 15 "GoneOverboard$Scenes" "row" "[LGoneOverboard$Scene;", Cond.methodLink RX5 26 yX4_copy]
def wsX8_first_r3 : List Cond := [Cond.instanceMethod yX4_copy, Cond.selects RX4 yX4_copy yX4_copy, Cond.code yX4_copy cX4_copy 3 none, Cond.fieldLink RX4 15 "GoneOverboard$Scene" "lows" "[I", Cond.fieldLink RX4 19 "GoneOverboard$Scene" "highs" "[I", Cond.fieldLink RX4 32 "GoneOverboard$Scene" "ship" "I", Cond.fieldLink RX4 35 "GoneOverboard$Scene" "step" "I", Cond.fieldLink RX4 38 "GoneOverboard$Scene" "heard" "I", Cond.methodLink RX4 41 yX4_of, Cond.instanceMethod yX4_of, Cond.selects RX4 yX4_of yX4_of, Cond.code yX4_of cX4_of 2 (some .long), Cond.methodLink RX4 45 yX4_lowOf, Cond.instanceMethod yX4_lowOf, Cond.selects RX4 yX4_lowOf yX4_lowOf, Cond.code yX4_lowOf cX4_lowOf 2 (some .int), Cond.methodLink RX4 48 yX4_highOf, Cond.instanceMethod yX4_highOf, Cond.selects RX4 yX4_highOf yX4_highOf, Cond.code yX4_highOf cX4_highOf 2 (some .int), Cond.methodLink RX0 44 yX0_tryLook, Cond.instanceMethod yX0_tryLook, Cond.selects RX0 yX0_tryLook yX0_tryLook, Cond.code yX0_tryLook cX0_tryLook 14 none]
def wsX8_first_r4 : List Cond := [Cond.constantLong RX0 56 (100), Cond.constantLong RX0 64 (10), Cond.methodLink RX0 52 yX5_at, Cond.methodLink RX0 58 yX4_foundNow, Cond.instanceMethod yX4_foundNow, Cond.selects RX4 yX4_foundNow yX4_foundNow, Cond.code yX4_foundNow cX4_foundNow 4 (some .long), Cond.methodLink RX4 55 yX4_placeBy, Cond.instanceMethod yX4_placeBy, Cond.selects RX4 yX4_placeBy yX4_placeBy, Cond.code yX4_placeBy cX4_placeBy 2 (some .int), Cond.static yX8_moved, Cond.code yX8_moved cX8_moved 2 (some .int), Cond.methodLink RX8 205 Lib.Math.min.name, Cond.static Lib.Math.min.name, Cond.initialized "java/lang/Math", Cond.code Lib.Math.min.name Lib.Math.min.code 2 (some .int), Cond.methodLink RX8 199 Lib.Math.max.name, Cond.static Lib.Math.max.name, Cond.code Lib.Math.max.name Lib.Math.max.code 2 (some .int), Cond.methodLink RX4 58 yX7_chanceAt, Cond.instanceMethod yX7_chanceAt, Cond.selects RX7 yX7_chanceAt yX7_chanceAt, Cond.initialized RX7]
def wsX8_first_r5 : List Cond := [Cond.code yX7_chanceAt cX7_chanceAt 2 (some .int), Cond.fieldLink RX7 37 "GoneOverboard$Told" "finds" "I", Cond.fieldLink RX7 34 "GoneOverboard$Told" "sees" "I", Cond.methodLink RX0 66 yX1_offer, Cond.instanceMethod yX1_offer, Cond.selects RX1 yX1_offer yX1_offer, Cond.code yX1_offer cX1_offer 4 none, Cond.methodLink RX0 70 yX4_copy, Cond.methodLink RX0 74 yX4_act, Cond.instanceMethod yX4_act, Cond.selects RX4 yX4_act yX4_act, Cond.code yX4_act cX4_act 3 none, Cond.methodLink RX4 61 yX4_lookBy, Cond.instanceMethod yX4_lookBy, Cond.selects RX4 yX4_lookBy yX4_lookBy, Cond.code yX4_lookBy cX4_lookBy 4 none, Cond.methodLink RX4 69 yX4_lessen, Cond.instanceMethod yX4_lessen, Cond.selects RX4 yX4_lessen yX4_lessen, Cond.code yX4_lessen cX4_lessen 4 none, Cond.constantLong RX4 73 (10), Cond.methodLink RX4 65 yX4_pass, Cond.instanceMethod yX4_pass, Cond.selects RX4 yX4_pass yX4_pass]
def wsX8_first_r6 : List Cond := [Cond.code yX4_pass cX4_pass 10 none, Cond.methodLink RX8 158 yX8_power, Cond.static yX8_power, Cond.code yX8_power cX8_power 6 (some .long), Cond.methodLink RX8 138 yX3_part, Cond.static yX3_part, Cond.initialized RX3, Cond.code yX3_part cX3_part 7 (some .long), Cond.methodLink RX3 7 Lib.MathLoose.abs_long.x, Cond.static Lib.MathLoose.abs_long.x, Cond.code Lib.MathLoose.abs_long.x Lib.MathLoose.abs_long.code 2 (some .long), Cond.methodLink RX3 13 yX3_commonOf, Cond.static yX3_commonOf, Cond.code yX3_commonOf cX3_commonOf 11 (some .long)]
def wsX8_first : List Cond := .code yX8_first cX8_first 3 (some .long) :: ((wsX8_first_r1 ++ (wsX8_first_r2 ++ (wsX8_first_r3 ++ (wsX8_first_r4 ++ (wsX8_first_r5 ++ wsX8_first_r6))))) ++ wsX80 ++ wsX00 ++ wsX10 ++ wsX40 ++ wsX70 ++ wsX50)
def wsX8_withSecond_r1 : List Cond := [Cond.constantLong RX8 130 (-2), Cond.fieldLink RX8 19 "GoneOverboard" "told" "LGoneOverboard$Told;", Cond.constantLong RX8 136 (-3), Cond.fieldLink RX8 48 "GoneOverboard" "ahead" "LGoneOverboard$Ahead;", Cond.fieldLink RX8 26 "GoneOverboard" "now" "LGoneOverboard$Scene;", Cond.constantLong RX8 197 (1000), Cond.methodLink RX8 59 yX8_isWithin, Cond.static yX8_isWithin, Cond.initialized RX8, Cond.code yX8_isWithin cX8_isWithin 3 (some .boolean), Cond.methodLink RX8 148 yX8_isLeft, Cond.instanceMethod yX8_isLeft, Cond.selects RX8 yX8_isLeft yX8_isLeft, Cond.code yX8_isLeft cX8_isLeft 2 (some .boolean), Cond.methodLink RX8 132 yX4_together, Cond.instanceMethod yX4_together, Cond.selects RX4 yX4_together yX4_together, Cond.initialized RX4, Cond.code yX4_together cX4_together 4 (some .long), Cond.fieldLink RX4 9 "GoneOverboard$Scene" "weights" "[J", Cond.methodLink RX8 191 yX0_tryTogether, Cond.instanceMethod yX0_tryTogether, Cond.selects RX0 yX0_tryTogether yX0_tryTogether, Cond.initialized RX0]
def wsX8_withSecond_r2 : List Cond := [Cond.code yX0_tryTogether cX0_tryTogether 4 none, Cond.fieldLink RX0 33 "GoneOverboard$Ahead" "looks" "I", Cond.fieldLink RX0 30 "GoneOverboard$Ahead" "both" "LGoneOverboard$Best;", Cond.fieldLink RX0 14 "GoneOverboard$Ahead" "depths" "LGoneOverboard$Scenes;", Cond.methodLink RX0 37 yX1_clear, Cond.instanceMethod yX1_clear, Cond.selects RX1 yX1_clear yX1_clear, Cond.initialized RX1, Cond.code yX1_clear cX1_clear 1 none, Cond.constantLong RX1 7 (-1), Cond.fieldLink RX1 9 "GoneOverboard$Best" "found" "J", Cond.fieldLink RX1 15 "GoneOverboard$Best" "row" "I", Cond.methodLink RX0 40 yX5_put, Cond.instanceMethod yX5_put, Cond.selects RX5 yX5_put yX5_put, Cond.initialized RX5, Cond.code yX5_put cX5_put 4 none, Cond.methodLink RX5 22 yX5_at, Cond.instanceMethod yX5_at, Cond.selects RX5 yX5_at yX5_at, Cond.code yX5_at cX5_at 2 (some (.object "GoneOverboard$Scene")), Cond.fieldLink RX5 15 "GoneOverboard$Scenes" "row" "[LGoneOverboard$Scene;", Cond.methodLink RX5 26 yX4_copy, Cond.instanceMethod yX4_copy]
def wsX8_withSecond_r3 : List Cond := [Cond.selects RX4 yX4_copy yX4_copy, Cond.code yX4_copy cX4_copy 3 none, Cond.fieldLink RX4 15 "GoneOverboard$Scene" "lows" "[I", Cond.fieldLink RX4 19 "GoneOverboard$Scene" "highs" "[I", Cond.fieldLink RX4 32 "GoneOverboard$Scene" "ship" "I", Cond.fieldLink RX4 35 "GoneOverboard$Scene" "step" "I", Cond.fieldLink RX4 38 "GoneOverboard$Scene" "heard" "I", Cond.methodLink RX4 41 yX4_of, Cond.instanceMethod yX4_of, Cond.selects RX4 yX4_of yX4_of, Cond.code yX4_of cX4_of 2 (some .long), Cond.methodLink RX4 45 yX4_lowOf, Cond.instanceMethod yX4_lowOf, Cond.selects RX4 yX4_lowOf yX4_lowOf, Cond.code yX4_lowOf cX4_lowOf 2 (some .int), Cond.methodLink RX4 48 yX4_highOf, Cond.instanceMethod yX4_highOf, Cond.selects RX4 yX4_highOf yX4_highOf, Cond.code yX4_highOf cX4_highOf 2 (some .int), Cond.methodLink RX0 83 yX0_tryBoth, Cond.instanceMethod yX0_tryBoth, Cond.selects RX0 yX0_tryBoth yX0_tryBoth, Cond.code yX0_tryBoth cX0_tryBoth 14 none, Cond.constantLong RX0 107 (1000)]
def wsX8_withSecond_r4 : List Cond := [Cond.constantLong RX0 56 (100), Cond.constantLong RX0 64 (10), Cond.methodLink RX0 52 yX5_at, Cond.static yX8_moved, Cond.code yX8_moved cX8_moved 2 (some .int), Cond.methodLink RX8 205 Lib.Math.min.name, Cond.static Lib.Math.min.name, Cond.initialized "java/lang/Math", Cond.code Lib.Math.min.name Lib.Math.min.code 2 (some .int), Cond.methodLink RX8 199 Lib.Math.max.name, Cond.static Lib.Math.max.name, Cond.code Lib.Math.max.name Lib.Math.max.code 2 (some .int), Cond.methodLink RX0 70 yX4_copy, Cond.methodLink RX0 97 yX4_lookBy, Cond.instanceMethod yX4_lookBy, Cond.selects RX4 yX4_lookBy yX4_lookBy, Cond.code yX4_lookBy cX4_lookBy 4 none, Cond.methodLink RX4 55 yX4_placeBy, Cond.instanceMethod yX4_placeBy, Cond.selects RX4 yX4_placeBy yX4_placeBy, Cond.code yX4_placeBy cX4_placeBy 2 (some .int), Cond.methodLink RX4 58 yX7_chanceAt, Cond.instanceMethod yX7_chanceAt, Cond.selects RX7 yX7_chanceAt yX7_chanceAt]
def wsX8_withSecond_r5 : List Cond := [Cond.initialized RX7, Cond.code yX7_chanceAt cX7_chanceAt 2 (some .int), Cond.fieldLink RX7 37 "GoneOverboard$Told" "finds" "I", Cond.fieldLink RX7 34 "GoneOverboard$Told" "sees" "I", Cond.methodLink RX4 69 yX4_lessen, Cond.instanceMethod yX4_lessen, Cond.selects RX4 yX4_lessen yX4_lessen, Cond.code yX4_lessen cX4_lessen 4 none, Cond.constantLong RX4 73 (10), Cond.methodLink RX0 103 yX4_lessen, Cond.methodLink RX0 109 yX4_together, Cond.methodLink RX0 66 yX1_offer, Cond.instanceMethod yX1_offer, Cond.selects RX1 yX1_offer yX1_offer, Cond.code yX1_offer cX1_offer 4 none, Cond.methodLink RX0 113 yX4_pass, Cond.instanceMethod yX4_pass, Cond.selects RX4 yX4_pass yX4_pass, Cond.code yX4_pass cX4_pass 10 none, Cond.methodLink RX8 158 yX8_power, Cond.static yX8_power, Cond.code yX8_power cX8_power 6 (some .long), Cond.methodLink RX8 138 yX3_part, Cond.static yX3_part]
def wsX8_withSecond_r6 : List Cond := [Cond.initialized RX3, Cond.code yX3_part cX3_part 7 (some .long), Cond.methodLink RX3 7 Lib.MathLoose.abs_long.x, Cond.static Lib.MathLoose.abs_long.x, Cond.code Lib.MathLoose.abs_long.x Lib.MathLoose.abs_long.code 2 (some .long), Cond.methodLink RX3 13 yX3_commonOf, Cond.static yX3_commonOf, Cond.code yX3_commonOf cX3_commonOf 11 (some .long)]
def wsX8_withSecond : List Cond := .code yX8_withSecond cX8_withSecond 3 (some .long) :: ((wsX8_withSecond_r1 ++ (wsX8_withSecond_r2 ++ (wsX8_withSecond_r3 ++ (wsX8_withSecond_r4 ++ (wsX8_withSecond_r5 ++ wsX8_withSecond_r6))))) ++ wsX80 ++ wsX70 ++ wsX00 ++ wsX10 ++ wsX40 ++ wsX50)
def wsX8_lanes : List Cond := .code yX8_lanes cX8_lanes 4 (some .int) :: ([.fieldLink RX8 26 "GoneOverboard" "now" "LGoneOverboard$Scene;", .methodLink RX8 199 Lib.Math.max.name, .static Lib.Math.max.name, .initialized "java/lang/Math", .code Lib.Math.max.name Lib.Math.max.code 2 (some .int), .methodLink RX8 205 Lib.Math.min.name, .static Lib.Math.min.name, .code Lib.Math.min.name Lib.Math.min.code 2 (some .int), .methodLink RX8 126 yX4_of, .instanceMethod yX4_of, .selects RX4 yX4_of yX4_of, .initialized RX4, .code yX4_of cX4_of 2 (some .long), .fieldLink RX4 9 "GoneOverboard$Scene" "weights" "[J"] ++ wsX80 ++ wsX40)
def wsX8_judge_r1 : List Cond := [Cond.constantLong RX8 179 (10), Cond.fieldLink RX8 30 "GoneOverboard" "spare" "LGoneOverboard$Scene;", Cond.fieldLink RX8 26 "GoneOverboard" "now" "LGoneOverboard$Scene;", Cond.fieldLink RX8 19 "GoneOverboard" "told" "LGoneOverboard$Told;", Cond.methodLink RX8 59 yX8_isWithin, Cond.static yX8_isWithin, Cond.initialized RX8, Cond.code yX8_isWithin cX8_isWithin 3 (some .boolean), Cond.methodLink RX8 158 yX8_power, Cond.static yX8_power, Cond.code yX8_power cX8_power 6 (some .long), Cond.methodLink RX8 208 yX4_copy, Cond.instanceMethod yX4_copy, Cond.selects RX4 yX4_copy yX4_copy, Cond.initialized RX4, Cond.code yX4_copy cX4_copy 3 none, Cond.fieldLink RX4 9 "GoneOverboard$Scene" "weights" "[J", Cond.fieldLink RX4 15 "GoneOverboard$Scene" "lows" "[I", Cond.fieldLink RX4 19 "GoneOverboard$Scene" "highs" "[I", Cond.fieldLink RX4 32 "GoneOverboard$Scene" "ship" "I", Cond.fieldLink RX4 35 "GoneOverboard$Scene" "step" "I", Cond.fieldLink RX4 38 "GoneOverboard$Scene" "heard" "I", Cond.methodLink RX4 41 yX4_of, Cond.instanceMethod yX4_of]
def wsX8_judge_r2 : List Cond := [Cond.selects RX4 yX4_of yX4_of, Cond.code yX4_of cX4_of 2 (some .long), Cond.methodLink RX4 45 yX4_lowOf, Cond.instanceMethod yX4_lowOf, Cond.selects RX4 yX4_lowOf yX4_lowOf, Cond.code yX4_lowOf cX4_lowOf 2 (some .int), Cond.methodLink RX4 48 yX4_highOf, Cond.instanceMethod yX4_highOf, Cond.selects RX4 yX4_highOf yX4_highOf, Cond.code yX4_highOf cX4_highOf 2 (some .int), Cond.methodLink RX8 212 yX8_figureOf, Cond.static yX8_figureOf, Cond.code yX8_figureOf cX8_figureOf 5 (some .int), Cond.methodLink RX8 216 yX4_placeBy, Cond.instanceMethod yX4_placeBy, Cond.selects RX4 yX4_placeBy yX4_placeBy, Cond.code yX4_placeBy cX4_placeBy 2 (some .int), Cond.static yX8_moved, Cond.code yX8_moved cX8_moved 2 (some .int), Cond.methodLink RX8 205 Lib.Math.min.name, Cond.static Lib.Math.min.name, Cond.initialized "java/lang/Math", Cond.code Lib.Math.min.name Lib.Math.min.code 2 (some .int), Cond.methodLink RX8 199 Lib.Math.max.name]
def wsX8_judge_r3 : List Cond := [Cond.static Lib.Math.max.name, Cond.code Lib.Math.max.name Lib.Math.max.code 2 (some .int), Cond.methodLink RX8 126 yX4_of, Cond.methodLink RX8 105 yX4_act, Cond.instanceMethod yX4_act, Cond.selects RX4 yX4_act yX4_act, Cond.code yX4_act cX4_act 3 none, Cond.methodLink RX4 61 yX4_lookBy, Cond.instanceMethod yX4_lookBy, Cond.selects RX4 yX4_lookBy yX4_lookBy, Cond.code yX4_lookBy cX4_lookBy 4 none, Cond.methodLink RX4 55 yX4_placeBy, Cond.methodLink RX4 58 yX7_chanceAt, Cond.instanceMethod yX7_chanceAt, Cond.selects RX7 yX7_chanceAt yX7_chanceAt, Cond.initialized RX7, Cond.code yX7_chanceAt cX7_chanceAt 2 (some .int), Cond.fieldLink RX7 37 "GoneOverboard$Told" "finds" "I", Cond.fieldLink RX7 34 "GoneOverboard$Told" "sees" "I", Cond.methodLink RX4 69 yX4_lessen, Cond.instanceMethod yX4_lessen, Cond.selects RX4 yX4_lessen yX4_lessen, Cond.code yX4_lessen cX4_lessen 4 none, Cond.constantLong RX4 73 (10)]
def wsX8_judge_r4 : List Cond := [Cond.methodLink RX4 65 yX4_pass, Cond.instanceMethod yX4_pass, Cond.selects RX4 yX4_pass yX4_pass, Cond.code yX4_pass cX4_pass 10 none]
def wsX8_judge : List Cond := .code yX8_judge cX8_judge 5 (some .int) :: ((wsX8_judge_r1 ++ (wsX8_judge_r2 ++ (wsX8_judge_r3 ++ wsX8_judge_r4))) ++ wsX80 ++ wsX40 ++ wsX70)
def wsX8_said_r1 : List Cond := [Cond.fieldLink RX8 26 "GoneOverboard" "now" "LGoneOverboard$Scene;", Cond.fieldLink RX8 19 "GoneOverboard" "told" "LGoneOverboard$Told;", Cond.methodLink RX8 59 yX8_isWithin, Cond.static yX8_isWithin, Cond.initialized RX8, Cond.code yX8_isWithin cX8_isWithin 3 (some .boolean), Cond.methodLink RX8 219 yX4_lowOf, Cond.instanceMethod yX4_lowOf, Cond.selects RX4 yX4_lowOf yX4_lowOf, Cond.initialized RX4, Cond.code yX4_lowOf cX4_lowOf 2 (some .int), Cond.fieldLink RX4 15 "GoneOverboard$Scene" "lows" "[I", Cond.methodLink RX8 222 yX4_highOf, Cond.instanceMethod yX4_highOf, Cond.selects RX4 yX4_highOf yX4_highOf, Cond.code yX4_highOf cX4_highOf 2 (some .int), Cond.fieldLink RX4 19 "GoneOverboard$Scene" "highs" "[I", Cond.methodLink RX8 225 yX7_partsFrom, Cond.instanceMethod yX7_partsFrom, Cond.selects RX7 yX7_partsFrom yX7_partsFrom, Cond.initialized RX7, Cond.code yX7_partsFrom cX7_partsFrom 5 (some .int), Cond.methodLink RX7 65 yX7_partAt, Cond.instanceMethod yX7_partAt]
def wsX8_said_r2 : List Cond := [Cond.selects RX7 yX7_partAt yX7_partAt, Cond.code yX7_partAt cX7_partAt 2 (some .int), Cond.fieldLink RX7 9 "GoneOverboard$Told" "parts" "[I"]
def wsX8_said : List Cond := .code yX8_said cX8_said 3 (some .int) :: ((wsX8_said_r1 ++ wsX8_said_r2) ++ wsX80 ++ wsX40 ++ wsX70)
def wsX8_trust_r1 : List Cond := [Cond.constantLong RX8 130 (-2), Cond.fieldLink RX8 19 "GoneOverboard" "told" "LGoneOverboard$Told;", Cond.constantLong RX8 136 (-3), Cond.fieldLink RX8 30 "GoneOverboard" "spare" "LGoneOverboard$Scene;", Cond.methodLink RX8 112 yX8_isSaying, Cond.static yX8_isSaying, Cond.initialized RX8, Cond.code yX8_isSaying cX8_isSaying 3 (some .boolean), Cond.methodLink RX8 59 yX8_isWithin, Cond.static yX8_isWithin, Cond.code yX8_isWithin cX8_isWithin 3 (some .boolean), Cond.methodLink RX8 93 yX7_allParts, Cond.instanceMethod yX7_allParts, Cond.selects RX7 yX7_allParts yX7_allParts, Cond.initialized RX7, Cond.code yX7_allParts cX7_allParts 1 (some .int), Cond.methodLink RX7 68 yX7_partsFrom, Cond.instanceMethod yX7_partsFrom, Cond.selects RX7 yX7_partsFrom yX7_partsFrom, Cond.code yX7_partsFrom cX7_partsFrom 5 (some .int), Cond.methodLink RX7 65 yX7_partAt, Cond.instanceMethod yX7_partAt, Cond.selects RX7 yX7_partAt yX7_partAt, Cond.code yX7_partAt cX7_partAt 2 (some .int)]
def wsX8_trust_r2 : List Cond := [Cond.fieldLink RX7 9 "GoneOverboard$Told" "parts" "[I", Cond.methodLink RX8 82 yX4_begin, Cond.instanceMethod yX4_begin, Cond.selects RX4 yX4_begin yX4_begin, Cond.initialized RX4, Cond.code yX4_begin cX4_begin 3 none, Cond.fieldLink RX4 9 "GoneOverboard$Scene" "weights" "[J", Cond.fieldLink RX4 32 "GoneOverboard$Scene" "ship" "I", Cond.fieldLink RX4 35 "GoneOverboard$Scene" "step" "I", Cond.fieldLink RX4 38 "GoneOverboard$Scene" "heard" "I", Cond.methodLink RX4 22 yX7_partAt, Cond.methodLink RX8 118 yX4_believe, Cond.instanceMethod yX4_believe, Cond.selects RX4 yX4_believe yX4_believe, Cond.code yX4_believe cX4_believe 5 none, Cond.constantLong RX4 84 (5), Cond.fieldLink RX4 15 "GoneOverboard$Scene" "lows" "[I", Cond.fieldLink RX4 19 "GoneOverboard$Scene" "highs" "[I", Cond.methodLink RX8 126 yX4_of, Cond.instanceMethod yX4_of, Cond.selects RX4 yX4_of yX4_of, Cond.code yX4_of cX4_of 2 (some .long), Cond.methodLink RX8 132 yX4_together, Cond.instanceMethod yX4_together]
def wsX8_trust_r3 : List Cond := [Cond.selects RX4 yX4_together yX4_together, Cond.code yX4_together cX4_together 4 (some .long), Cond.methodLink RX8 138 yX3_part, Cond.static yX3_part, Cond.initialized RX3, Cond.code yX3_part cX3_part 7 (some .long), Cond.methodLink RX3 7 Lib.MathLoose.abs_long.x, Cond.static Lib.MathLoose.abs_long.x, Cond.initialized "java/lang/Math", Cond.code Lib.MathLoose.abs_long.x Lib.MathLoose.abs_long.code 2 (some .long), Cond.methodLink RX3 13 yX3_commonOf, Cond.static yX3_commonOf, Cond.code yX3_commonOf cX3_commonOf 11 (some .long)]
def wsX8_trust : List Cond := .code yX8_trust cX8_trust 8 (some .long) :: ((wsX8_trust_r1 ++ (wsX8_trust_r2 ++ wsX8_trust_r3)) ++ wsX80 ++ wsX70 ++ wsX40)
def wsX8_seed : List Cond := .code yX8_seed cX8_seed 5 (some .long) :: ([.fieldLink RX8 55 "GoneOverboard" "draws" "LGoneOverboard$Draws;"] ++ wsX80 ++ wsX20)
def wsX8_isFound_r1 : List Cond := [Cond.fieldLink RX8 19 "GoneOverboard" "told" "LGoneOverboard$Told;", Cond.fieldLink RX8 55 "GoneOverboard" "draws" "LGoneOverboard$Draws;", Cond.methodLink RX8 93 yX7_allParts, Cond.instanceMethod yX7_allParts, Cond.selects RX7 yX7_allParts yX7_allParts, Cond.initialized RX7, Cond.code yX7_allParts cX7_allParts 1 (some .int), Cond.methodLink RX7 68 yX7_partsFrom, Cond.instanceMethod yX7_partsFrom, Cond.selects RX7 yX7_partsFrom yX7_partsFrom, Cond.code yX7_partsFrom cX7_partsFrom 5 (some .int), Cond.static yX8_isWithin, Cond.initialized RX8, Cond.code yX8_isWithin cX8_isWithin 3 (some .boolean), Cond.methodLink RX7 65 yX7_partAt, Cond.instanceMethod yX7_partAt, Cond.selects RX7 yX7_partAt yX7_partAt, Cond.code yX7_partAt cX7_partAt 2 (some .int), Cond.fieldLink RX7 9 "GoneOverboard$Told" "parts" "[I", Cond.methodLink RX8 259 yX2_below, Cond.instanceMethod yX2_below, Cond.selects RX2 yX2_below yX2_below, Cond.initialized RX2, Cond.code yX2_below cX2_below 2 (some .int)]
def wsX8_isFound_r2 : List Cond := [Cond.fieldLink RX2 7 "GoneOverboard$Draws" "state" "J", Cond.constantLong RX2 13 (6364136223846793005), Cond.constantLong RX2 15 (1442695040888963407), Cond.methodLink RX8 262 yX7_placeOfPart, Cond.instanceMethod yX7_placeOfPart, Cond.selects RX7 yX7_placeOfPart yX7_placeOfPart, Cond.code yX7_placeOfPart cX7_placeOfPart 4 (some .int), Cond.methodLink RX8 212 yX8_figureOf, Cond.static yX8_figureOf, Cond.code yX8_figureOf cX8_figureOf 5 (some .int), Cond.constantLong RX8 179 (10), Cond.methodLink RX8 158 yX8_power, Cond.static yX8_power, Cond.code yX8_power cX8_power 6 (some .long), Cond.methodLink RX8 267 yX8_moved, Cond.static yX8_moved, Cond.code yX8_moved cX8_moved 2 (some .int), Cond.methodLink RX8 205 Lib.Math.min.name, Cond.static Lib.Math.min.name, Cond.initialized "java/lang/Math", Cond.code Lib.Math.min.name Lib.Math.min.code 2 (some .int), Cond.methodLink RX8 199 Lib.Math.max.name, Cond.static Lib.Math.max.name, Cond.code Lib.Math.max.name Lib.Math.max.code 2 (some .int)]
def wsX8_isFound_r3 : List Cond := [Cond.methodLink RX8 270 yX7_chanceAt, Cond.instanceMethod yX7_chanceAt, Cond.selects RX7 yX7_chanceAt yX7_chanceAt, Cond.code yX7_chanceAt cX7_chanceAt 2 (some .int), Cond.fieldLink RX7 37 "GoneOverboard$Told" "finds" "I", Cond.fieldLink RX7 34 "GoneOverboard$Told" "sees" "I", Cond.methodLink RX8 273 yX7_drifted, Cond.instanceMethod yX7_drifted, Cond.selects RX7 yX7_drifted yX7_drifted, Cond.code yX7_drifted cX7_drifted 3 (some .int), Cond.fieldLink RX7 28 "GoneOverboard$Told" "on" "I", Cond.fieldLink RX7 31 "GoneOverboard$Told" "back" "I"]
def wsX8_isFound : List Cond := .code yX8_isFound cX8_isFound 9 (some .boolean) :: ((wsX8_isFound_r1 ++ (wsX8_isFound_r2 ++ wsX8_isFound_r3)) ++ wsX80 ++ wsX70 ++ wsX20)
def wsX8_trials_r1 : List Cond := [Cond.fieldLink RX8 19 "GoneOverboard" "told" "LGoneOverboard$Told;", Cond.methodLink RX8 59 yX8_isWithin, Cond.static yX8_isWithin, Cond.initialized RX8, Cond.code yX8_isWithin cX8_isWithin 3 (some .boolean), Cond.methodLink RX8 144 yX8_isRow, Cond.static yX8_isRow, Cond.code yX8_isRow cX8_isRow 3 (some .boolean), Cond.constantLong RX8 179 (10), Cond.methodLink RX8 158 yX8_power, Cond.static yX8_power, Cond.code yX8_power cX8_power 6 (some .long), Cond.methodLink RX8 212 yX8_figureOf, Cond.static yX8_figureOf, Cond.code yX8_figureOf cX8_figureOf 5 (some .int), Cond.methodLink RX8 93 yX7_allParts, Cond.instanceMethod yX7_allParts, Cond.selects RX7 yX7_allParts yX7_allParts, Cond.initialized RX7, Cond.code yX7_allParts cX7_allParts 1 (some .int), Cond.methodLink RX7 68 yX7_partsFrom, Cond.instanceMethod yX7_partsFrom, Cond.selects RX7 yX7_partsFrom yX7_partsFrom, Cond.code yX7_partsFrom cX7_partsFrom 5 (some .int)]
def wsX8_trials_r2 : List Cond := [Cond.methodLink RX7 65 yX7_partAt, Cond.instanceMethod yX7_partAt, Cond.selects RX7 yX7_partAt yX7_partAt, Cond.code yX7_partAt cX7_partAt 2 (some .int), Cond.fieldLink RX7 9 "GoneOverboard$Told" "parts" "[I", Cond.methodLink RX8 231 yX8_isFound, Cond.instanceMethod yX8_isFound, Cond.selects RX8 yX8_isFound yX8_isFound, Cond.code yX8_isFound cX8_isFound 9 (some .boolean), Cond.fieldLink RX8 55 "GoneOverboard" "draws" "LGoneOverboard$Draws;", Cond.methodLink RX8 259 yX2_below, Cond.instanceMethod yX2_below, Cond.selects RX2 yX2_below yX2_below, Cond.initialized RX2, Cond.code yX2_below cX2_below 2 (some .int), Cond.fieldLink RX2 7 "GoneOverboard$Draws" "state" "J", Cond.constantLong RX2 13 (6364136223846793005), Cond.constantLong RX2 15 (1442695040888963407), Cond.methodLink RX8 262 yX7_placeOfPart, Cond.instanceMethod yX7_placeOfPart, Cond.selects RX7 yX7_placeOfPart yX7_placeOfPart, Cond.code yX7_placeOfPart cX7_placeOfPart 4 (some .int), Cond.methodLink RX8 267 yX8_moved, Cond.static yX8_moved]
def wsX8_trials_r3 : List Cond := [Cond.code yX8_moved cX8_moved 2 (some .int), Cond.methodLink RX8 205 Lib.Math.min.name, Cond.static Lib.Math.min.name, Cond.initialized "java/lang/Math", Cond.code Lib.Math.min.name Lib.Math.min.code 2 (some .int), Cond.methodLink RX8 199 Lib.Math.max.name, Cond.static Lib.Math.max.name, Cond.code Lib.Math.max.name Lib.Math.max.code 2 (some .int), Cond.methodLink RX8 270 yX7_chanceAt, Cond.instanceMethod yX7_chanceAt, Cond.selects RX7 yX7_chanceAt yX7_chanceAt, Cond.code yX7_chanceAt cX7_chanceAt 2 (some .int), Cond.fieldLink RX7 37 "GoneOverboard$Told" "finds" "I", Cond.fieldLink RX7 34 "GoneOverboard$Told" "sees" "I", Cond.methodLink RX8 273 yX7_drifted, Cond.instanceMethod yX7_drifted, Cond.selects RX7 yX7_drifted yX7_drifted, Cond.code yX7_drifted cX7_drifted 3 (some .int), Cond.fieldLink RX7 28 "GoneOverboard$Told" "on" "I", Cond.fieldLink RX7 31 "GoneOverboard$Told" "back" "I"]
def wsX8_trials : List Cond := .code yX8_trials cX8_trials 6 (some .int) :: ((wsX8_trials_r1 ++ (wsX8_trials_r2 ++ wsX8_trials_r3)) ++ wsX80 ++ wsX70 ++ wsX20)
def wsX8_keep_r1 : List Cond := [Cond.fieldLink RX8 42 "GoneOverboard" "slots" "LGoneOverboard$Scenes;", Cond.fieldLink RX8 26 "GoneOverboard" "now" "LGoneOverboard$Scene;", Cond.fieldLink RX8 90 "GoneOverboard" "keptBits" "I", Cond.methodLink RX8 59 yX8_isWithin, Cond.static yX8_isWithin, Cond.initialized RX8, Cond.code yX8_isWithin cX8_isWithin 3 (some .boolean), Cond.methodLink RX8 234 yX5_put, Cond.instanceMethod yX5_put, Cond.selects RX5 yX5_put yX5_put, Cond.initialized RX5, Cond.code yX5_put cX5_put 4 none, Cond.methodLink RX5 22 yX5_at, Cond.instanceMethod yX5_at, Cond.selects RX5 yX5_at yX5_at, Cond.code yX5_at cX5_at 2 (some (.object "GoneOverboard$Scene")), Cond.fieldLink RX5 15 "GoneOverboard$Scenes" "row" "[LGoneOverboard$Scene;", Cond.methodLink RX5 26 yX4_copy, Cond.instanceMethod yX4_copy, Cond.selects RX4 yX4_copy yX4_copy, Cond.initialized RX4, Cond.code yX4_copy cX4_copy 3 none, Cond.fieldLink RX4 9 "GoneOverboard$Scene" "weights" "[J", Cond.fieldLink RX4 15 "GoneOverboard$Scene" "lows" "[I"]
def wsX8_keep_r2 : List Cond := [Cond.fieldLink RX4 19 "GoneOverboard$Scene" "highs" "[I", Cond.fieldLink RX4 32 "GoneOverboard$Scene" "ship" "I", Cond.fieldLink RX4 35 "GoneOverboard$Scene" "step" "I", Cond.fieldLink RX4 38 "GoneOverboard$Scene" "heard" "I", Cond.methodLink RX4 41 yX4_of, Cond.instanceMethod yX4_of, Cond.selects RX4 yX4_of yX4_of, Cond.code yX4_of cX4_of 2 (some .long), Cond.methodLink RX4 45 yX4_lowOf, Cond.instanceMethod yX4_lowOf, Cond.selects RX4 yX4_lowOf yX4_lowOf, Cond.code yX4_lowOf cX4_lowOf 2 (some .int), Cond.methodLink RX4 48 yX4_highOf, Cond.instanceMethod yX4_highOf, Cond.selects RX4 yX4_highOf yX4_highOf, Cond.code yX4_highOf cX4_highOf 2 (some .int)]
def wsX8_keep : List Cond := .code yX8_keep cX8_keep 2 (some .int) :: ((wsX8_keep_r1 ++ wsX8_keep_r2) ++ wsX80 ++ wsX40 ++ wsX50)
def wsX8_again_r1 : List Cond := [Cond.fieldLink RX8 90 "GoneOverboard" "keptBits" "I", Cond.fieldLink RX8 42 "GoneOverboard" "slots" "LGoneOverboard$Scenes;", Cond.fieldLink RX8 26 "GoneOverboard" "now" "LGoneOverboard$Scene;", Cond.fieldLink RX8 86 "GoneOverboard" "actsDone" "I", Cond.methodLink RX8 59 yX8_isWithin, Cond.static yX8_isWithin, Cond.initialized RX8, Cond.code yX8_isWithin cX8_isWithin 3 (some .boolean), Cond.methodLink RX8 122 yX5_give, Cond.instanceMethod yX5_give, Cond.selects RX5 yX5_give yX5_give, Cond.initialized RX5, Cond.code yX5_give cX5_give 4 none, Cond.methodLink RX5 22 yX5_at, Cond.instanceMethod yX5_at, Cond.selects RX5 yX5_at yX5_at, Cond.code yX5_at cX5_at 2 (some (.object "GoneOverboard$Scene")), Cond.fieldLink RX5 15 "GoneOverboard$Scenes" "row" "[LGoneOverboard$Scene;", Cond.methodLink RX5 26 yX4_copy, Cond.instanceMethod yX4_copy, Cond.selects RX4 yX4_copy yX4_copy, Cond.initialized RX4, Cond.code yX4_copy cX4_copy 3 none, Cond.fieldLink RX4 9 "GoneOverboard$Scene" "weights" "[J"]
def wsX8_again_r2 : List Cond := [Cond.fieldLink RX4 15 "GoneOverboard$Scene" "lows" "[I", Cond.fieldLink RX4 19 "GoneOverboard$Scene" "highs" "[I", Cond.fieldLink RX4 32 "GoneOverboard$Scene" "ship" "I", Cond.fieldLink RX4 35 "GoneOverboard$Scene" "step" "I", Cond.fieldLink RX4 38 "GoneOverboard$Scene" "heard" "I", Cond.methodLink RX4 41 yX4_of, Cond.instanceMethod yX4_of, Cond.selects RX4 yX4_of yX4_of, Cond.code yX4_of cX4_of 2 (some .long), Cond.methodLink RX4 45 yX4_lowOf, Cond.instanceMethod yX4_lowOf, Cond.selects RX4 yX4_lowOf yX4_lowOf, Cond.code yX4_lowOf cX4_lowOf 2 (some .int), Cond.methodLink RX4 48 yX4_highOf, Cond.instanceMethod yX4_highOf, Cond.selects RX4 yX4_highOf yX4_highOf, Cond.code yX4_highOf cX4_highOf 2 (some .int)]
def wsX8_again : List Cond := .code yX8_again cX8_again 2 (some .int) :: ((wsX8_again_r1 ++ wsX8_again_r2) ++ wsX80 ++ wsX40 ++ wsX50)
def wsX8_count : List Cond := .code yX8_count cX8_count 2 (some .int) :: ([.fieldLink RX8 10 "GoneOverboard" "text" "LGoneOverboard$Text;", .fieldLink RX8 19 "GoneOverboard" "told" "LGoneOverboard$Told;", .fieldLink RX8 26 "GoneOverboard" "now" "LGoneOverboard$Scene;", .fieldLink RX8 86 "GoneOverboard" "actsDone" "I", .methodLink RX8 237 yX6_size, .instanceMethod yX6_size, .selects RX6 yX6_size yX6_size, .initialized RX6, .code yX6_size cX6_size 1 (some .int), .fieldLink RX6 15 "GoneOverboard$Text" "length" "I", .methodLink RX8 252 yX4_cellBits, .instanceMethod yX4_cellBits, .selects RX4 yX4_cellBits yX4_cellBits, .initialized RX4, .code yX4_cellBits cX4_cellBits 3 (some .int), .methodLink RX4 41 yX4_of, .instanceMethod yX4_of, .selects RX4 yX4_of yX4_of, .code yX4_of cX4_of 2 (some .long), .fieldLink RX4 9 "GoneOverboard$Scene" "weights" "[J"] ++ wsX80 ++ wsX70 ++ wsX40 ++ wsX60)
def wsX9_init : List Cond := .code yX9_init cX9_init 1 none :: ([.methodLink RX9 1 objectInit, .instanceMethod objectInit, .code objectInit ⟨#[0xb1]⟩ 1 none, .arrayClass .int, .fieldLink RX9 7 "GoneOverboardModel" "parts" "[I", .fieldLink RX9 13 "GoneOverboardModel" "read" "[I", .fieldLink RX9 16 "GoneOverboardModel" "readParts" "[I", .arrayClass .long, .fieldLink RX9 19 "GoneOverboardModel" "weights" "[J", .fieldLink RX9 23 "GoneOverboardModel" "now" "[I", .fieldLink RX9 26 "GoneOverboardModel" "text" "[I", .fieldLink RX9 29 "GoneOverboardModel" "then" "[J", .fieldLink RX9 32 "GoneOverboardModel" "rowWeights" "[J", .fieldLink RX9 35 "GoneOverboardModel" "row" "[I", .arrayClass .boolean, .fieldLink RX9 38 "GoneOverboardModel" "isKept" "[Z", .fieldLink RX9 42 "GoneOverboardModel" "keptWeights" "[J", .fieldLink RX9 45 "GoneOverboardModel" "kept" "[I", .fieldLink RX9 48 "GoneOverboardModel" "lasts" "I"] ++ wsX90)
def wsX9_in : List Cond := .code yX9_in cX9_in 6 (some .boolean) :: ([])
def wsX9_write : List Cond := .code yX9_write cX9_write 2 (some .int) :: ([.constantLong RX9 52 (255), .fieldLink RX9 58 "GoneOverboardModel" "length" "I", .fieldLink RX9 26 "GoneOverboardModel" "text" "[I", .methodLink RX9 54 yX9_in, .static yX9_in, .initialized RX9, .code yX9_in cX9_in 6 (some .boolean)] ++ wsX90)
def wsX9_wipe : List Cond := .code yX9_wipe cX9_wipe 2 (some .int) :: ([.fieldLink RX9 58 "GoneOverboardModel" "length" "I"] ++ wsX90)
def wsX9_figure : List Cond := .code yX9_figure cX9_figure 4 (some .int) :: ([.fieldLink RX9 61 "GoneOverboardModel" "faultAt" "I", .fieldLink RX9 64 "GoneOverboardModel" "at" "I", .fieldLink RX9 58 "GoneOverboardModel" "length" "I", .fieldLink RX9 26 "GoneOverboardModel" "text" "[I", .methodLink RX9 54 yX9_in, .static yX9_in, .initialized RX9, .code yX9_in cX9_in 6 (some .boolean)] ++ wsX90)
def wsX9_freshCell : List Cond := .code yX9_freshCell cX9_freshCell 2 (some .int) :: ([.fieldLink RX9 61 "GoneOverboardModel" "faultAt" "I", .fieldLink RX9 64 "GoneOverboardModel" "at" "I", .fieldLink RX9 58 "GoneOverboardModel" "length" "I", .fieldLink RX9 26 "GoneOverboardModel" "text" "[I", .constantLong RX9 67 (9), .fieldLink RX9 16 "GoneOverboardModel" "readParts" "[I", .methodLink RX9 54 yX9_in, .static yX9_in, .initialized RX9, .code yX9_in cX9_in 6 (some .boolean)] ++ wsX90)
def wsX9_isCellLeft : List Cond := .code yX9_isCellLeft cX9_isCellLeft 3 (some .boolean) :: ([.fieldLink RX9 16 "GoneOverboardModel" "readParts" "[I"] ++ wsX90)
def wsX9_readPart : List Cond := .code yX9_readPart cX9_readPart 4 none :: ([.fieldLink RX9 64 "GoneOverboardModel" "at" "I", .fieldLink RX9 16 "GoneOverboardModel" "readParts" "[I", .fieldLink RX9 61 "GoneOverboardModel" "faultAt" "I", .fieldLink RX9 69 "GoneOverboardModel" "readSecond" "I", .fieldLink RX9 88 "GoneOverboardModel" "readFrom" "I", .methodLink RX9 80 yX9_isCellLeft, .instanceMethod yX9_isCellLeft, .selects RX9 yX9_isCellLeft yX9_isCellLeft, .initialized RX9, .code yX9_isCellLeft cX9_isCellLeft 3 (some .boolean), .methodLink RX9 84 yX9_freshCell, .instanceMethod yX9_freshCell, .selects RX9 yX9_freshCell yX9_freshCell, .code yX9_freshCell cX9_freshCell 2 (some .int), .fieldLink RX9 58 "GoneOverboardModel" "length" "I", .fieldLink RX9 26 "GoneOverboardModel" "text" "[I", .constantLong RX9 67 (9), .methodLink RX9 54 yX9_in, .static yX9_in, .code yX9_in cX9_in 6 (some .boolean), .methodLink RX9 72 yX9_figure, .instanceMethod yX9_figure, .selects RX9 yX9_figure yX9_figure, .code yX9_figure cX9_figure 4 (some .int)] ++ wsX90)
def wsX9_readText_r1 : List Cond := [Cond.fieldLink RX9 64 "GoneOverboardModel" "at" "I", Cond.fieldLink RX9 61 "GoneOverboardModel" "faultAt" "I", Cond.fieldLink RX9 69 "GoneOverboardModel" "readSecond" "I", Cond.fieldLink RX9 16 "GoneOverboardModel" "readParts" "[I", Cond.fieldLink RX9 58 "GoneOverboardModel" "length" "I", Cond.fieldLink RX9 26 "GoneOverboardModel" "text" "[I", Cond.fieldLink RX9 13 "GoneOverboardModel" "read" "[I", Cond.methodLink RX9 72 yX9_figure, Cond.instanceMethod yX9_figure, Cond.selects RX9 yX9_figure yX9_figure, Cond.initialized RX9, Cond.code yX9_figure cX9_figure 4 (some .int), Cond.methodLink RX9 54 yX9_in, Cond.static yX9_in, Cond.code yX9_in cX9_in 6 (some .boolean), Cond.methodLink RX9 76 yX9_readPart, Cond.instanceMethod yX9_readPart, Cond.selects RX9 yX9_readPart yX9_readPart, Cond.code yX9_readPart cX9_readPart 4 none, Cond.fieldLink RX9 88 "GoneOverboardModel" "readFrom" "I", Cond.methodLink RX9 80 yX9_isCellLeft, Cond.instanceMethod yX9_isCellLeft, Cond.selects RX9 yX9_isCellLeft yX9_isCellLeft, Cond.code yX9_isCellLeft cX9_isCellLeft 3 (some .boolean)]
def wsX9_readText_r2 : List Cond := [Cond.methodLink RX9 84 yX9_freshCell, Cond.instanceMethod yX9_freshCell, Cond.selects RX9 yX9_freshCell yX9_freshCell, Cond.code yX9_freshCell cX9_freshCell 2 (some .int), Cond.constantLong RX9 67 (9)]
def wsX9_readText : List Cond := .code yX9_readText cX9_readText 2 (some .int) :: ((wsX9_readText_r1 ++ wsX9_readText_r2) ++ wsX90)
def wsX9_fault_r1 : List Cond := [Cond.methodLink RX9 91 yX9_readText, Cond.instanceMethod yX9_readText, Cond.selects RX9 yX9_readText yX9_readText, Cond.initialized RX9, Cond.code yX9_readText cX9_readText 2 (some .int), Cond.fieldLink RX9 64 "GoneOverboardModel" "at" "I", Cond.fieldLink RX9 61 "GoneOverboardModel" "faultAt" "I", Cond.fieldLink RX9 69 "GoneOverboardModel" "readSecond" "I", Cond.fieldLink RX9 16 "GoneOverboardModel" "readParts" "[I", Cond.fieldLink RX9 58 "GoneOverboardModel" "length" "I", Cond.fieldLink RX9 26 "GoneOverboardModel" "text" "[I", Cond.fieldLink RX9 13 "GoneOverboardModel" "read" "[I", Cond.methodLink RX9 72 yX9_figure, Cond.instanceMethod yX9_figure, Cond.selects RX9 yX9_figure yX9_figure, Cond.code yX9_figure cX9_figure 4 (some .int), Cond.methodLink RX9 54 yX9_in, Cond.static yX9_in, Cond.code yX9_in cX9_in 6 (some .boolean), Cond.methodLink RX9 76 yX9_readPart, Cond.instanceMethod yX9_readPart, Cond.selects RX9 yX9_readPart yX9_readPart, Cond.code yX9_readPart cX9_readPart 4 none, Cond.fieldLink RX9 88 "GoneOverboardModel" "readFrom" "I"]
def wsX9_fault_r2 : List Cond := [Cond.methodLink RX9 80 yX9_isCellLeft, Cond.instanceMethod yX9_isCellLeft, Cond.selects RX9 yX9_isCellLeft yX9_isCellLeft, Cond.code yX9_isCellLeft cX9_isCellLeft 3 (some .boolean), Cond.methodLink RX9 84 yX9_freshCell, Cond.instanceMethod yX9_freshCell, Cond.selects RX9 yX9_freshCell yX9_freshCell, Cond.code yX9_freshCell cX9_freshCell 2 (some .int), Cond.constantLong RX9 67 (9)]
def wsX9_fault : List Cond := .code yX9_fault cX9_fault 1 (some .int) :: ((wsX9_fault_r1 ++ wsX9_fault_r2) ++ wsX90)
def wsX9_allParts : List Cond := .code yX9_allParts cX9_allParts 3 (some .int) :: ([.fieldLink RX9 7 "GoneOverboardModel" "parts" "[I"] ++ wsX90)
def wsX9_search_r1 : List Cond := [Cond.fieldLink RX9 13 "GoneOverboardModel" "read" "[I", Cond.fieldLink RX9 94 "GoneOverboardModel" "on" "I", Cond.fieldLink RX9 97 "GoneOverboardModel" "back" "I", Cond.fieldLink RX9 100 "GoneOverboardModel" "sees" "I", Cond.fieldLink RX9 103 "GoneOverboardModel" "finds" "I", Cond.fieldLink RX9 106 "GoneOverboardModel" "begin" "I", Cond.fieldLink RX9 48 "GoneOverboardModel" "lasts" "I", Cond.fieldLink RX9 69 "GoneOverboardModel" "readSecond" "I", Cond.fieldLink RX9 109 "GoneOverboardModel" "second" "I", Cond.fieldLink RX9 112 "GoneOverboardModel" "isSecond" "Z", Cond.fieldLink RX9 88 "GoneOverboardModel" "readFrom" "I", Cond.fieldLink RX9 116 "GoneOverboardModel" "secondFrom" "I", Cond.fieldLink RX9 7 "GoneOverboardModel" "parts" "[I", Cond.fieldLink RX9 16 "GoneOverboardModel" "readParts" "[I", Cond.fieldLink RX9 19 "GoneOverboardModel" "weights" "[J", Cond.fieldLink RX9 23 "GoneOverboardModel" "now" "[I", Cond.fieldLink RX9 119 "GoneOverboardModel" "acts" "I", Cond.fieldLink RX9 38 "GoneOverboardModel" "isKept" "[Z", Cond.methodLink RX9 91 yX9_readText, Cond.instanceMethod yX9_readText, Cond.selects RX9 yX9_readText yX9_readText, Cond.initialized RX9, Cond.code yX9_readText cX9_readText 2 (some .int), Cond.fieldLink RX9 64 "GoneOverboardModel" "at" "I"]
def wsX9_search_r2 : List Cond := [Cond.fieldLink RX9 61 "GoneOverboardModel" "faultAt" "I", Cond.fieldLink RX9 58 "GoneOverboardModel" "length" "I", Cond.fieldLink RX9 26 "GoneOverboardModel" "text" "[I", Cond.methodLink RX9 72 yX9_figure, Cond.instanceMethod yX9_figure, Cond.selects RX9 yX9_figure yX9_figure, Cond.code yX9_figure cX9_figure 4 (some .int), Cond.methodLink RX9 54 yX9_in, Cond.static yX9_in, Cond.code yX9_in cX9_in 6 (some .boolean), Cond.methodLink RX9 76 yX9_readPart, Cond.instanceMethod yX9_readPart, Cond.selects RX9 yX9_readPart yX9_readPart, Cond.code yX9_readPart cX9_readPart 4 none, Cond.methodLink RX9 80 yX9_isCellLeft, Cond.instanceMethod yX9_isCellLeft, Cond.selects RX9 yX9_isCellLeft yX9_isCellLeft, Cond.code yX9_isCellLeft cX9_isCellLeft 3 (some .boolean), Cond.methodLink RX9 84 yX9_freshCell, Cond.instanceMethod yX9_freshCell, Cond.selects RX9 yX9_freshCell yX9_freshCell, Cond.code yX9_freshCell cX9_freshCell 2 (some .int), Cond.constantLong RX9 67 (9), Cond.methodLink RX9 122 yX9_allParts]
def wsX9_search_r3 : List Cond := [Cond.instanceMethod yX9_allParts, Cond.selects RX9 yX9_allParts yX9_allParts, Cond.code yX9_allParts cX9_allParts 3 (some .int)]
def wsX9_search : List Cond := .code yX9_search cX9_search 2 (some .int) :: ((wsX9_search_r1 ++ (wsX9_search_r2 ++ wsX9_search_r3)) ++ wsX90)
def wsX9_lay : List Cond := .code yX9_lay cX9_lay 4 none :: ([.fieldLink RX9 19 "GoneOverboardModel" "weights" "[J"] ++ wsX90)
def wsX9_sumOf : List Cond := .code yX9_sumOf cX9_sumOf 5 (some .long) :: ([.fieldLink RX9 19 "GoneOverboardModel" "weights" "[J"] ++ wsX90)
def wsX9_to : List Cond := .code yX9_to cX9_to 3 (some .int) :: ([])
def wsX9_lookAt : List Cond := .code yX9_lookAt cX9_lookAt 7 (some .long) :: ([.fieldLink RX9 103 "GoneOverboardModel" "finds" "I", .fieldLink RX9 100 "GoneOverboardModel" "sees" "I", .fieldLink RX9 19 "GoneOverboardModel" "weights" "[J"] ++ wsX90)
def wsX9_drift : List Cond := .code yX9_drift cX9_drift 5 none :: ([.fieldLink RX9 29 "GoneOverboardModel" "then" "[J", .fieldLink RX9 19 "GoneOverboardModel" "weights" "[J", .fieldLink RX9 94 "GoneOverboardModel" "on" "I", .fieldLink RX9 97 "GoneOverboardModel" "back" "I", .fieldLink RX9 48 "GoneOverboardModel" "lasts" "I", .constantLong RX9 128 (10), .methodLink RX9 125 yX9_to, .static yX9_to, .initialized RX9, .code yX9_to cX9_to 3 (some .int)] ++ wsX90)
def wsX9_keepAct : List Cond := .code yX9_keepAct cX9_keepAct 2 none :: ([.fieldLink RX9 32 "GoneOverboardModel" "rowWeights" "[J", .fieldLink RX9 119 "GoneOverboardModel" "acts" "I", .fieldLink RX9 19 "GoneOverboardModel" "weights" "[J", .fieldLink RX9 35 "GoneOverboardModel" "row" "[I", .fieldLink RX9 23 "GoneOverboardModel" "now" "[I"] ++ wsX90)
def wsX9_look_r1 : List Cond := [Cond.constantLong RX9 130 (2), Cond.fieldLink RX9 23 "GoneOverboardModel" "now" "[I", Cond.fieldLink RX9 48 "GoneOverboardModel" "lasts" "I", Cond.methodLink RX9 54 yX9_in, Cond.static yX9_in, Cond.initialized RX9, Cond.code yX9_in cX9_in 6 (some .boolean), Cond.methodLink RX9 132 yX9_keepAct, Cond.instanceMethod yX9_keepAct, Cond.selects RX9 yX9_keepAct yX9_keepAct, Cond.code yX9_keepAct cX9_keepAct 2 none, Cond.fieldLink RX9 32 "GoneOverboardModel" "rowWeights" "[J", Cond.fieldLink RX9 119 "GoneOverboardModel" "acts" "I", Cond.fieldLink RX9 19 "GoneOverboardModel" "weights" "[J", Cond.fieldLink RX9 35 "GoneOverboardModel" "row" "[I", Cond.methodLink RX9 125 yX9_to, Cond.static yX9_to, Cond.code yX9_to cX9_to 3 (some .int), Cond.methodLink RX9 135 yX9_lookAt, Cond.instanceMethod yX9_lookAt, Cond.selects RX9 yX9_lookAt yX9_lookAt, Cond.code yX9_lookAt cX9_lookAt 7 (some .long), Cond.fieldLink RX9 103 "GoneOverboardModel" "finds" "I", Cond.fieldLink RX9 100 "GoneOverboardModel" "sees" "I"]
def wsX9_look_r2 : List Cond := [Cond.methodLink RX9 139 yX9_drift, Cond.instanceMethod yX9_drift, Cond.selects RX9 yX9_drift yX9_drift, Cond.code yX9_drift cX9_drift 5 none, Cond.fieldLink RX9 29 "GoneOverboardModel" "then" "[J", Cond.fieldLink RX9 94 "GoneOverboardModel" "on" "I", Cond.fieldLink RX9 97 "GoneOverboardModel" "back" "I", Cond.constantLong RX9 128 (10)]
def wsX9_look : List Cond := .code yX9_look cX9_look 2 (some .int) :: ((wsX9_look_r1 ++ wsX9_look_r2) ++ wsX90)
def wsX9_lookAboard_r1 : List Cond := [Cond.fieldLink RX9 23 "GoneOverboardModel" "now" "[I", Cond.fieldLink RX9 48 "GoneOverboardModel" "lasts" "I", Cond.methodLink RX9 132 yX9_keepAct, Cond.instanceMethod yX9_keepAct, Cond.selects RX9 yX9_keepAct yX9_keepAct, Cond.initialized RX9, Cond.code yX9_keepAct cX9_keepAct 2 none, Cond.fieldLink RX9 32 "GoneOverboardModel" "rowWeights" "[J", Cond.fieldLink RX9 119 "GoneOverboardModel" "acts" "I", Cond.fieldLink RX9 19 "GoneOverboardModel" "weights" "[J", Cond.fieldLink RX9 35 "GoneOverboardModel" "row" "[I", Cond.methodLink RX9 135 yX9_lookAt, Cond.instanceMethod yX9_lookAt, Cond.selects RX9 yX9_lookAt yX9_lookAt, Cond.code yX9_lookAt cX9_lookAt 7 (some .long), Cond.fieldLink RX9 103 "GoneOverboardModel" "finds" "I", Cond.fieldLink RX9 100 "GoneOverboardModel" "sees" "I", Cond.methodLink RX9 139 yX9_drift, Cond.instanceMethod yX9_drift, Cond.selects RX9 yX9_drift yX9_drift, Cond.code yX9_drift cX9_drift 5 none, Cond.fieldLink RX9 29 "GoneOverboardModel" "then" "[J", Cond.fieldLink RX9 94 "GoneOverboardModel" "on" "I", Cond.fieldLink RX9 97 "GoneOverboardModel" "back" "I"]
def wsX9_lookAboard_r2 : List Cond := [Cond.constantLong RX9 128 (10), Cond.methodLink RX9 125 yX9_to, Cond.static yX9_to, Cond.code yX9_to cX9_to 3 (some .int)]
def wsX9_lookAboard : List Cond := .code yX9_lookAboard cX9_lookAboard 1 (some .int) :: ((wsX9_lookAboard_r1 ++ wsX9_lookAboard_r2) ++ wsX90)
def wsX9_isWitness : List Cond := .code yX9_isWitness cX9_isWitness 3 (some .boolean) :: ([.constantLong RX9 67 (9), .methodLink RX9 54 yX9_in, .static yX9_in, .initialized RX9, .code yX9_in cX9_in 6 (some .boolean)])
def wsX9_hear : List Cond := .code yX9_hear cX9_hear 5 (some .int) :: ([.fieldLink RX9 23 "GoneOverboardModel" "now" "[I", .fieldLink RX9 19 "GoneOverboardModel" "weights" "[J", .constantLong RX9 147 (5), .methodLink RX9 143 yX9_isWitness, .static yX9_isWitness, .initialized RX9, .code yX9_isWitness cX9_isWitness 3 (some .boolean), .constantLong RX9 67 (9), .methodLink RX9 54 yX9_in, .static yX9_in, .code yX9_in cX9_in 6 (some .boolean), .methodLink RX9 132 yX9_keepAct, .instanceMethod yX9_keepAct, .selects RX9 yX9_keepAct yX9_keepAct, .code yX9_keepAct cX9_keepAct 2 none, .fieldLink RX9 32 "GoneOverboardModel" "rowWeights" "[J", .fieldLink RX9 119 "GoneOverboardModel" "acts" "I", .fieldLink RX9 35 "GoneOverboardModel" "row" "[I"] ++ wsX90)
def wsX9_undo : List Cond := .code yX9_undo cX9_undo 2 (some .int) :: ([.fieldLink RX9 119 "GoneOverboardModel" "acts" "I", .fieldLink RX9 19 "GoneOverboardModel" "weights" "[J", .fieldLink RX9 32 "GoneOverboardModel" "rowWeights" "[J", .fieldLink RX9 23 "GoneOverboardModel" "now" "[I", .fieldLink RX9 35 "GoneOverboardModel" "row" "[I"] ++ wsX90)
def wsX9_weight : List Cond := .code yX9_weight cX9_weight 2 (some .long) :: ([.constantLong RX9 128 (10), .fieldLink RX9 19 "GoneOverboardModel" "weights" "[J", .constantLong RX9 149 (-2), .methodLink RX9 54 yX9_in, .static yX9_in, .initialized RX9, .code yX9_in cX9_in 6 (some .boolean)] ++ wsX90)
def wsX9_common : List Cond := .code yX9_common cX9_common 10 (some .long) :: ([])
def wsX9_likely : List Cond := .code yX9_likely cX9_likely 7 (some .long) :: ([.constantLong RX9 128 (10), .constantLong RX9 149 (-2), .constantLong RX9 155 (-3), .fieldLink RX9 19 "GoneOverboardModel" "weights" "[J", .methodLink RX9 54 yX9_in, .static yX9_in, .initialized RX9, .code yX9_in cX9_in 6 (some .boolean), .methodLink RX9 151 yX9_sumOf, .instanceMethod yX9_sumOf, .selects RX9 yX9_sumOf yX9_sumOf, .code yX9_sumOf cX9_sumOf 5 (some .long), .methodLink RX9 157 yX9_common, .static yX9_common, .code yX9_common cX9_common 10 (some .long)] ++ wsX90)
def wsX9_likeliest : List Cond := .code yX9_likeliest cX9_likeliest 3 (some .int) :: ([.fieldLink RX9 19 "GoneOverboardModel" "weights" "[J"] ++ wsX90)
def wsX9_tenTo : List Cond := .code yX9_tenTo cX9_tenTo 3 (some .int) :: ([])
def wsX9_isRow : List Cond := .code yX9_isRow cX9_isRow 4 (some .boolean) :: ([.constantLong RX9 161 (4), .methodLink RX9 54 yX9_in, .static yX9_in, .initialized RX9, .code yX9_in cX9_in 6 (some .boolean), .methodLink RX9 163 yX9_tenTo, .static yX9_tenTo, .code yX9_tenTo cX9_tenTo 3 (some .int)])
def wsX9_canLook : List Cond := .code yX9_canLook cX9_canLook 2 (some .boolean) :: ([.fieldLink RX9 23 "GoneOverboardModel" "now" "[I", .fieldLink RX9 48 "GoneOverboardModel" "lasts" "I", .methodLink RX9 151 yX9_sumOf, .instanceMethod yX9_sumOf, .selects RX9 yX9_sumOf yX9_sumOf, .initialized RX9, .code yX9_sumOf cX9_sumOf 5 (some .long), .fieldLink RX9 19 "GoneOverboardModel" "weights" "[J"] ++ wsX90)
def wsX9_foundBy_r1 : List Cond := [Cond.fieldLink RX9 23 "GoneOverboardModel" "now" "[I", Cond.constantLong RX9 170 (100), Cond.constantLong RX9 128 (10), Cond.methodLink RX9 167 yX9_lay, Cond.instanceMethod yX9_lay, Cond.selects RX9 yX9_lay yX9_lay, Cond.initialized RX9, Cond.code yX9_lay cX9_lay 4 none, Cond.fieldLink RX9 19 "GoneOverboardModel" "weights" "[J", Cond.methodLink RX9 163 yX9_tenTo, Cond.static yX9_tenTo, Cond.code yX9_tenTo cX9_tenTo 3 (some .int), Cond.methodLink RX9 125 yX9_to, Cond.static yX9_to, Cond.code yX9_to cX9_to 3 (some .int), Cond.methodLink RX9 135 yX9_lookAt, Cond.instanceMethod yX9_lookAt, Cond.selects RX9 yX9_lookAt yX9_lookAt, Cond.code yX9_lookAt cX9_lookAt 7 (some .long), Cond.fieldLink RX9 103 "GoneOverboardModel" "finds" "I", Cond.fieldLink RX9 100 "GoneOverboardModel" "sees" "I", Cond.methodLink RX9 139 yX9_drift, Cond.instanceMethod yX9_drift, Cond.selects RX9 yX9_drift yX9_drift]
def wsX9_foundBy_r2 : List Cond := [Cond.code yX9_drift cX9_drift 5 none, Cond.fieldLink RX9 29 "GoneOverboardModel" "then" "[J", Cond.fieldLink RX9 94 "GoneOverboardModel" "on" "I", Cond.fieldLink RX9 97 "GoneOverboardModel" "back" "I", Cond.fieldLink RX9 48 "GoneOverboardModel" "lasts" "I"]
def wsX9_foundBy : List Cond := .code yX9_foundBy cX9_foundBy 8 (some .long) :: ((wsX9_foundBy_r1 ++ wsX9_foundBy_r2) ++ wsX90)
def wsX9_allTimes : List Cond := .code yX9_allTimes cX9_allTimes 6 (some .long) :: ([.methodLink RX9 151 yX9_sumOf, .instanceMethod yX9_sumOf, .selects RX9 yX9_sumOf yX9_sumOf, .initialized RX9, .code yX9_sumOf cX9_sumOf 5 (some .long), .fieldLink RX9 19 "GoneOverboardModel" "weights" "[J"] ++ wsX90)
def wsX9_part : List Cond := .code yX9_part cX9_part 7 (some .long) :: ([.methodLink RX9 157 yX9_common, .static yX9_common, .initialized RX9, .code yX9_common cX9_common 10 (some .long)])
def wsX9_by_r1 : List Cond := [Cond.constantLong RX9 149 (-2), Cond.constantLong RX9 155 (-3), Cond.methodLink RX9 172 yX9_isRow, Cond.static yX9_isRow, Cond.initialized RX9, Cond.code yX9_isRow cX9_isRow 4 (some .boolean), Cond.constantLong RX9 161 (4), Cond.methodLink RX9 54 yX9_in, Cond.static yX9_in, Cond.code yX9_in cX9_in 6 (some .boolean), Cond.methodLink RX9 163 yX9_tenTo, Cond.static yX9_tenTo, Cond.code yX9_tenTo cX9_tenTo 3 (some .int), Cond.methodLink RX9 176 yX9_canLook, Cond.instanceMethod yX9_canLook, Cond.selects RX9 yX9_canLook yX9_canLook, Cond.code yX9_canLook cX9_canLook 2 (some .boolean), Cond.fieldLink RX9 23 "GoneOverboardModel" "now" "[I", Cond.fieldLink RX9 48 "GoneOverboardModel" "lasts" "I", Cond.methodLink RX9 151 yX9_sumOf, Cond.instanceMethod yX9_sumOf, Cond.selects RX9 yX9_sumOf yX9_sumOf, Cond.code yX9_sumOf cX9_sumOf 5 (some .long), Cond.fieldLink RX9 19 "GoneOverboardModel" "weights" "[J"]
def wsX9_by_r2 : List Cond := [Cond.methodLink RX9 180 yX9_foundBy, Cond.instanceMethod yX9_foundBy, Cond.selects RX9 yX9_foundBy yX9_foundBy, Cond.code yX9_foundBy cX9_foundBy 8 (some .long), Cond.constantLong RX9 170 (100), Cond.constantLong RX9 128 (10), Cond.methodLink RX9 167 yX9_lay, Cond.instanceMethod yX9_lay, Cond.selects RX9 yX9_lay yX9_lay, Cond.code yX9_lay cX9_lay 4 none, Cond.methodLink RX9 125 yX9_to, Cond.static yX9_to, Cond.code yX9_to cX9_to 3 (some .int), Cond.methodLink RX9 135 yX9_lookAt, Cond.instanceMethod yX9_lookAt, Cond.selects RX9 yX9_lookAt yX9_lookAt, Cond.code yX9_lookAt cX9_lookAt 7 (some .long), Cond.fieldLink RX9 103 "GoneOverboardModel" "finds" "I", Cond.fieldLink RX9 100 "GoneOverboardModel" "sees" "I", Cond.methodLink RX9 139 yX9_drift, Cond.instanceMethod yX9_drift, Cond.selects RX9 yX9_drift yX9_drift, Cond.code yX9_drift cX9_drift 5 none, Cond.fieldLink RX9 29 "GoneOverboardModel" "then" "[J"]
def wsX9_by_r3 : List Cond := [Cond.fieldLink RX9 94 "GoneOverboardModel" "on" "I", Cond.fieldLink RX9 97 "GoneOverboardModel" "back" "I", Cond.methodLink RX9 183 yX9_allTimes, Cond.instanceMethod yX9_allTimes, Cond.selects RX9 yX9_allTimes yX9_allTimes, Cond.code yX9_allTimes cX9_allTimes 6 (some .long), Cond.methodLink RX9 186 yX9_part, Cond.static yX9_part, Cond.code yX9_part cX9_part 7 (some .long), Cond.methodLink RX9 157 yX9_common, Cond.static yX9_common, Cond.code yX9_common cX9_common 10 (some .long)]
def wsX9_by : List Cond := .code yX9_by cX9_by 4 (some .long) :: ((wsX9_by_r1 ++ (wsX9_by_r2 ++ wsX9_by_r3)) ++ wsX90)
def wsX9_bestBy_r1 : List Cond := [Cond.constantLong RX9 190 (-1), Cond.fieldLink RX9 192 "GoneOverboardModel" "foundRow" "I", Cond.methodLink RX9 163 yX9_tenTo, Cond.static yX9_tenTo, Cond.initialized RX9, Cond.code yX9_tenTo cX9_tenTo 3 (some .int), Cond.methodLink RX9 172 yX9_isRow, Cond.static yX9_isRow, Cond.code yX9_isRow cX9_isRow 4 (some .boolean), Cond.constantLong RX9 161 (4), Cond.methodLink RX9 54 yX9_in, Cond.static yX9_in, Cond.code yX9_in cX9_in 6 (some .boolean), Cond.methodLink RX9 180 yX9_foundBy, Cond.instanceMethod yX9_foundBy, Cond.selects RX9 yX9_foundBy yX9_foundBy, Cond.code yX9_foundBy cX9_foundBy 8 (some .long), Cond.fieldLink RX9 23 "GoneOverboardModel" "now" "[I", Cond.constantLong RX9 170 (100), Cond.constantLong RX9 128 (10), Cond.methodLink RX9 167 yX9_lay, Cond.instanceMethod yX9_lay, Cond.selects RX9 yX9_lay yX9_lay, Cond.code yX9_lay cX9_lay 4 none]
def wsX9_bestBy_r2 : List Cond := [Cond.fieldLink RX9 19 "GoneOverboardModel" "weights" "[J", Cond.methodLink RX9 125 yX9_to, Cond.static yX9_to, Cond.code yX9_to cX9_to 3 (some .int), Cond.methodLink RX9 135 yX9_lookAt, Cond.instanceMethod yX9_lookAt, Cond.selects RX9 yX9_lookAt yX9_lookAt, Cond.code yX9_lookAt cX9_lookAt 7 (some .long), Cond.fieldLink RX9 103 "GoneOverboardModel" "finds" "I", Cond.fieldLink RX9 100 "GoneOverboardModel" "sees" "I", Cond.methodLink RX9 139 yX9_drift, Cond.instanceMethod yX9_drift, Cond.selects RX9 yX9_drift yX9_drift, Cond.code yX9_drift cX9_drift 5 none, Cond.fieldLink RX9 29 "GoneOverboardModel" "then" "[J", Cond.fieldLink RX9 94 "GoneOverboardModel" "on" "I", Cond.fieldLink RX9 97 "GoneOverboardModel" "back" "I", Cond.fieldLink RX9 48 "GoneOverboardModel" "lasts" "I"]
def wsX9_bestBy : List Cond := .code yX9_bestBy cX9_bestBy 10 (some .long) :: ((wsX9_bestBy_r1 ++ wsX9_bestBy_r2) ++ wsX90)
def wsX9_best_r1 : List Cond := [Cond.constantLong RX9 161 (4), Cond.constantLong RX9 149 (-2), Cond.constantLong RX9 155 (-3), Cond.methodLink RX9 54 yX9_in, Cond.static yX9_in, Cond.initialized RX9, Cond.code yX9_in cX9_in 6 (some .boolean), Cond.methodLink RX9 176 yX9_canLook, Cond.instanceMethod yX9_canLook, Cond.selects RX9 yX9_canLook yX9_canLook, Cond.code yX9_canLook cX9_canLook 2 (some .boolean), Cond.fieldLink RX9 23 "GoneOverboardModel" "now" "[I", Cond.fieldLink RX9 48 "GoneOverboardModel" "lasts" "I", Cond.methodLink RX9 151 yX9_sumOf, Cond.instanceMethod yX9_sumOf, Cond.selects RX9 yX9_sumOf yX9_sumOf, Cond.code yX9_sumOf cX9_sumOf 5 (some .long), Cond.fieldLink RX9 19 "GoneOverboardModel" "weights" "[J", Cond.methodLink RX9 195 yX9_bestBy, Cond.instanceMethod yX9_bestBy, Cond.selects RX9 yX9_bestBy yX9_bestBy, Cond.code yX9_bestBy cX9_bestBy 10 (some .long), Cond.constantLong RX9 190 (-1), Cond.fieldLink RX9 192 "GoneOverboardModel" "foundRow" "I"]
def wsX9_best_r2 : List Cond := [Cond.methodLink RX9 163 yX9_tenTo, Cond.static yX9_tenTo, Cond.code yX9_tenTo cX9_tenTo 3 (some .int), Cond.methodLink RX9 172 yX9_isRow, Cond.static yX9_isRow, Cond.code yX9_isRow cX9_isRow 4 (some .boolean), Cond.methodLink RX9 180 yX9_foundBy, Cond.instanceMethod yX9_foundBy, Cond.selects RX9 yX9_foundBy yX9_foundBy, Cond.code yX9_foundBy cX9_foundBy 8 (some .long), Cond.constantLong RX9 170 (100), Cond.constantLong RX9 128 (10), Cond.methodLink RX9 167 yX9_lay, Cond.instanceMethod yX9_lay, Cond.selects RX9 yX9_lay yX9_lay, Cond.code yX9_lay cX9_lay 4 none, Cond.methodLink RX9 125 yX9_to, Cond.static yX9_to, Cond.code yX9_to cX9_to 3 (some .int), Cond.methodLink RX9 135 yX9_lookAt, Cond.instanceMethod yX9_lookAt, Cond.selects RX9 yX9_lookAt yX9_lookAt, Cond.code yX9_lookAt cX9_lookAt 7 (some .long), Cond.fieldLink RX9 103 "GoneOverboardModel" "finds" "I"]
def wsX9_best_r3 : List Cond := [Cond.fieldLink RX9 100 "GoneOverboardModel" "sees" "I", Cond.methodLink RX9 139 yX9_drift, Cond.instanceMethod yX9_drift, Cond.selects RX9 yX9_drift yX9_drift, Cond.code yX9_drift cX9_drift 5 none, Cond.fieldLink RX9 29 "GoneOverboardModel" "then" "[J", Cond.fieldLink RX9 94 "GoneOverboardModel" "on" "I", Cond.fieldLink RX9 97 "GoneOverboardModel" "back" "I", Cond.methodLink RX9 183 yX9_allTimes, Cond.instanceMethod yX9_allTimes, Cond.selects RX9 yX9_allTimes yX9_allTimes, Cond.code yX9_allTimes cX9_allTimes 6 (some .long), Cond.methodLink RX9 186 yX9_part, Cond.static yX9_part, Cond.code yX9_part cX9_part 7 (some .long), Cond.methodLink RX9 157 yX9_common, Cond.static yX9_common, Cond.code yX9_common cX9_common 10 (some .long)]
def wsX9_best : List Cond := .code yX9_best cX9_best 3 (some .long) :: ((wsX9_best_r1 ++ (wsX9_best_r2 ++ wsX9_best_r3)) ++ wsX90)
def wsX9_bestRow_r1 : List Cond := [Cond.constantLong RX9 161 (4), Cond.fieldLink RX9 192 "GoneOverboardModel" "foundRow" "I", Cond.methodLink RX9 54 yX9_in, Cond.static yX9_in, Cond.initialized RX9, Cond.code yX9_in cX9_in 6 (some .boolean), Cond.methodLink RX9 176 yX9_canLook, Cond.instanceMethod yX9_canLook, Cond.selects RX9 yX9_canLook yX9_canLook, Cond.code yX9_canLook cX9_canLook 2 (some .boolean), Cond.fieldLink RX9 23 "GoneOverboardModel" "now" "[I", Cond.fieldLink RX9 48 "GoneOverboardModel" "lasts" "I", Cond.methodLink RX9 151 yX9_sumOf, Cond.instanceMethod yX9_sumOf, Cond.selects RX9 yX9_sumOf yX9_sumOf, Cond.code yX9_sumOf cX9_sumOf 5 (some .long), Cond.fieldLink RX9 19 "GoneOverboardModel" "weights" "[J", Cond.methodLink RX9 195 yX9_bestBy, Cond.instanceMethod yX9_bestBy, Cond.selects RX9 yX9_bestBy yX9_bestBy, Cond.code yX9_bestBy cX9_bestBy 10 (some .long), Cond.constantLong RX9 190 (-1), Cond.methodLink RX9 163 yX9_tenTo, Cond.static yX9_tenTo]
def wsX9_bestRow_r2 : List Cond := [Cond.code yX9_tenTo cX9_tenTo 3 (some .int), Cond.methodLink RX9 172 yX9_isRow, Cond.static yX9_isRow, Cond.code yX9_isRow cX9_isRow 4 (some .boolean), Cond.methodLink RX9 180 yX9_foundBy, Cond.instanceMethod yX9_foundBy, Cond.selects RX9 yX9_foundBy yX9_foundBy, Cond.code yX9_foundBy cX9_foundBy 8 (some .long), Cond.constantLong RX9 170 (100), Cond.constantLong RX9 128 (10), Cond.methodLink RX9 167 yX9_lay, Cond.instanceMethod yX9_lay, Cond.selects RX9 yX9_lay yX9_lay, Cond.code yX9_lay cX9_lay 4 none, Cond.methodLink RX9 125 yX9_to, Cond.static yX9_to, Cond.code yX9_to cX9_to 3 (some .int), Cond.methodLink RX9 135 yX9_lookAt, Cond.instanceMethod yX9_lookAt, Cond.selects RX9 yX9_lookAt yX9_lookAt, Cond.code yX9_lookAt cX9_lookAt 7 (some .long), Cond.fieldLink RX9 103 "GoneOverboardModel" "finds" "I", Cond.fieldLink RX9 100 "GoneOverboardModel" "sees" "I", Cond.methodLink RX9 139 yX9_drift]
def wsX9_bestRow_r3 : List Cond := [Cond.instanceMethod yX9_drift, Cond.selects RX9 yX9_drift yX9_drift, Cond.code yX9_drift cX9_drift 5 none, Cond.fieldLink RX9 29 "GoneOverboardModel" "then" "[J", Cond.fieldLink RX9 94 "GoneOverboardModel" "on" "I", Cond.fieldLink RX9 97 "GoneOverboardModel" "back" "I"]
def wsX9_bestRow : List Cond := .code yX9_bestRow cX9_bestRow 2 (some .int) :: ((wsX9_bestRow_r1 ++ (wsX9_bestRow_r2 ++ wsX9_bestRow_r3)) ++ wsX90)
def wsX9_soon_r1 : List Cond := [Cond.constantLong RX9 128 (10), Cond.methodLink RX9 54 yX9_in, Cond.static yX9_in, Cond.initialized RX9, Cond.code yX9_in cX9_in 6 (some .boolean), Cond.methodLink RX9 151 yX9_sumOf, Cond.instanceMethod yX9_sumOf, Cond.selects RX9 yX9_sumOf yX9_sumOf, Cond.code yX9_sumOf cX9_sumOf 5 (some .long), Cond.fieldLink RX9 19 "GoneOverboardModel" "weights" "[J", Cond.methodLink RX9 176 yX9_canLook, Cond.instanceMethod yX9_canLook, Cond.selects RX9 yX9_canLook yX9_canLook, Cond.code yX9_canLook cX9_canLook 2 (some .boolean), Cond.fieldLink RX9 23 "GoneOverboardModel" "now" "[I", Cond.fieldLink RX9 48 "GoneOverboardModel" "lasts" "I", Cond.methodLink RX9 195 yX9_bestBy, Cond.instanceMethod yX9_bestBy, Cond.selects RX9 yX9_bestBy yX9_bestBy, Cond.code yX9_bestBy cX9_bestBy 10 (some .long), Cond.constantLong RX9 190 (-1), Cond.fieldLink RX9 192 "GoneOverboardModel" "foundRow" "I", Cond.methodLink RX9 163 yX9_tenTo, Cond.static yX9_tenTo]
def wsX9_soon_r2 : List Cond := [Cond.code yX9_tenTo cX9_tenTo 3 (some .int), Cond.methodLink RX9 172 yX9_isRow, Cond.static yX9_isRow, Cond.code yX9_isRow cX9_isRow 4 (some .boolean), Cond.constantLong RX9 161 (4), Cond.methodLink RX9 180 yX9_foundBy, Cond.instanceMethod yX9_foundBy, Cond.selects RX9 yX9_foundBy yX9_foundBy, Cond.code yX9_foundBy cX9_foundBy 8 (some .long), Cond.constantLong RX9 170 (100), Cond.methodLink RX9 167 yX9_lay, Cond.instanceMethod yX9_lay, Cond.selects RX9 yX9_lay yX9_lay, Cond.code yX9_lay cX9_lay 4 none, Cond.methodLink RX9 125 yX9_to, Cond.static yX9_to, Cond.code yX9_to cX9_to 3 (some .int), Cond.methodLink RX9 135 yX9_lookAt, Cond.instanceMethod yX9_lookAt, Cond.selects RX9 yX9_lookAt yX9_lookAt, Cond.code yX9_lookAt cX9_lookAt 7 (some .long), Cond.fieldLink RX9 103 "GoneOverboardModel" "finds" "I", Cond.fieldLink RX9 100 "GoneOverboardModel" "sees" "I", Cond.methodLink RX9 139 yX9_drift]
def wsX9_soon_r3 : List Cond := [Cond.instanceMethod yX9_drift, Cond.selects RX9 yX9_drift yX9_drift, Cond.code yX9_drift cX9_drift 5 none, Cond.fieldLink RX9 29 "GoneOverboardModel" "then" "[J", Cond.fieldLink RX9 94 "GoneOverboardModel" "on" "I", Cond.fieldLink RX9 97 "GoneOverboardModel" "back" "I", Cond.methodLink RX9 183 yX9_allTimes, Cond.instanceMethod yX9_allTimes, Cond.selects RX9 yX9_allTimes yX9_allTimes, Cond.code yX9_allTimes cX9_allTimes 6 (some .long)]
def wsX9_soon : List Cond := .code yX9_soon cX9_soon 3 (some .int) :: ((wsX9_soon_r1 ++ (wsX9_soon_r2 ++ wsX9_soon_r3)) ++ wsX90)
def wsX9_first_r1 : List Cond := [Cond.constantLong RX9 161 (4), Cond.constantLong RX9 149 (-2), Cond.constantLong RX9 155 (-3), Cond.methodLink RX9 54 yX9_in, Cond.static yX9_in, Cond.initialized RX9, Cond.code yX9_in cX9_in 6 (some .boolean), Cond.methodLink RX9 176 yX9_canLook, Cond.instanceMethod yX9_canLook, Cond.selects RX9 yX9_canLook yX9_canLook, Cond.code yX9_canLook cX9_canLook 2 (some .boolean), Cond.fieldLink RX9 23 "GoneOverboardModel" "now" "[I", Cond.fieldLink RX9 48 "GoneOverboardModel" "lasts" "I", Cond.methodLink RX9 151 yX9_sumOf, Cond.instanceMethod yX9_sumOf, Cond.selects RX9 yX9_sumOf yX9_sumOf, Cond.code yX9_sumOf cX9_sumOf 5 (some .long), Cond.fieldLink RX9 19 "GoneOverboardModel" "weights" "[J", Cond.methodLink RX9 195 yX9_bestBy, Cond.instanceMethod yX9_bestBy, Cond.selects RX9 yX9_bestBy yX9_bestBy, Cond.code yX9_bestBy cX9_bestBy 10 (some .long), Cond.constantLong RX9 190 (-1), Cond.fieldLink RX9 192 "GoneOverboardModel" "foundRow" "I"]
def wsX9_first_r2 : List Cond := [Cond.methodLink RX9 163 yX9_tenTo, Cond.static yX9_tenTo, Cond.code yX9_tenTo cX9_tenTo 3 (some .int), Cond.methodLink RX9 172 yX9_isRow, Cond.static yX9_isRow, Cond.code yX9_isRow cX9_isRow 4 (some .boolean), Cond.methodLink RX9 180 yX9_foundBy, Cond.instanceMethod yX9_foundBy, Cond.selects RX9 yX9_foundBy yX9_foundBy, Cond.code yX9_foundBy cX9_foundBy 8 (some .long), Cond.constantLong RX9 170 (100), Cond.constantLong RX9 128 (10), Cond.methodLink RX9 167 yX9_lay, Cond.instanceMethod yX9_lay, Cond.selects RX9 yX9_lay yX9_lay, Cond.code yX9_lay cX9_lay 4 none, Cond.methodLink RX9 125 yX9_to, Cond.static yX9_to, Cond.code yX9_to cX9_to 3 (some .int), Cond.methodLink RX9 135 yX9_lookAt, Cond.instanceMethod yX9_lookAt, Cond.selects RX9 yX9_lookAt yX9_lookAt, Cond.code yX9_lookAt cX9_lookAt 7 (some .long), Cond.fieldLink RX9 103 "GoneOverboardModel" "finds" "I"]
def wsX9_first_r3 : List Cond := [Cond.fieldLink RX9 100 "GoneOverboardModel" "sees" "I", Cond.methodLink RX9 139 yX9_drift, Cond.instanceMethod yX9_drift, Cond.selects RX9 yX9_drift yX9_drift, Cond.code yX9_drift cX9_drift 5 none, Cond.fieldLink RX9 29 "GoneOverboardModel" "then" "[J", Cond.fieldLink RX9 94 "GoneOverboardModel" "on" "I", Cond.fieldLink RX9 97 "GoneOverboardModel" "back" "I", Cond.methodLink RX9 183 yX9_allTimes, Cond.instanceMethod yX9_allTimes, Cond.selects RX9 yX9_allTimes yX9_allTimes, Cond.code yX9_allTimes cX9_allTimes 6 (some .long), Cond.methodLink RX9 186 yX9_part, Cond.static yX9_part, Cond.code yX9_part cX9_part 7 (some .long), Cond.methodLink RX9 157 yX9_common, Cond.static yX9_common, Cond.code yX9_common cX9_common 10 (some .long)]
def wsX9_first : List Cond := .code yX9_first cX9_first 3 (some .long) :: ((wsX9_first_r1 ++ (wsX9_first_r2 ++ wsX9_first_r3)) ++ wsX90)
def wsX9_lookTwice : List Cond := .code yX9_lookTwice cX9_lookTwice 6 (some .long) :: ([.constantLong RX9 128 (10), .methodLink RX9 135 yX9_lookAt, .instanceMethod yX9_lookAt, .selects RX9 yX9_lookAt yX9_lookAt, .initialized RX9, .code yX9_lookAt cX9_lookAt 7 (some .long), .fieldLink RX9 103 "GoneOverboardModel" "finds" "I", .fieldLink RX9 100 "GoneOverboardModel" "sees" "I", .fieldLink RX9 19 "GoneOverboardModel" "weights" "[J"] ++ wsX90)
def wsX9_foundByTwo_r1 : List Cond := [Cond.fieldLink RX9 23 "GoneOverboardModel" "now" "[I", Cond.fieldLink RX9 109 "GoneOverboardModel" "second" "I", Cond.fieldLink RX9 116 "GoneOverboardModel" "secondFrom" "I", Cond.constantLong RX9 198 (1000), Cond.constantLong RX9 128 (10), Cond.methodLink RX9 167 yX9_lay, Cond.instanceMethod yX9_lay, Cond.selects RX9 yX9_lay yX9_lay, Cond.initialized RX9, Cond.code yX9_lay cX9_lay 4 none, Cond.fieldLink RX9 19 "GoneOverboardModel" "weights" "[J", Cond.methodLink RX9 125 yX9_to, Cond.static yX9_to, Cond.code yX9_to cX9_to 3 (some .int), Cond.methodLink RX9 200 yX9_lookTwice, Cond.instanceMethod yX9_lookTwice, Cond.selects RX9 yX9_lookTwice yX9_lookTwice, Cond.code yX9_lookTwice cX9_lookTwice 6 (some .long), Cond.methodLink RX9 135 yX9_lookAt, Cond.instanceMethod yX9_lookAt, Cond.selects RX9 yX9_lookAt yX9_lookAt, Cond.code yX9_lookAt cX9_lookAt 7 (some .long), Cond.fieldLink RX9 103 "GoneOverboardModel" "finds" "I", Cond.fieldLink RX9 100 "GoneOverboardModel" "sees" "I"]
def wsX9_foundByTwo_r2 : List Cond := [Cond.methodLink RX9 139 yX9_drift, Cond.instanceMethod yX9_drift, Cond.selects RX9 yX9_drift yX9_drift, Cond.code yX9_drift cX9_drift 5 none, Cond.fieldLink RX9 29 "GoneOverboardModel" "then" "[J", Cond.fieldLink RX9 94 "GoneOverboardModel" "on" "I", Cond.fieldLink RX9 97 "GoneOverboardModel" "back" "I", Cond.fieldLink RX9 48 "GoneOverboardModel" "lasts" "I"]
def wsX9_foundByTwo : List Cond := .code yX9_foundByTwo cX9_foundByTwo 12 (some .long) :: ((wsX9_foundByTwo_r1 ++ wsX9_foundByTwo_r2) ++ wsX90)
def wsX9_withSecond_r1 : List Cond := [Cond.constantLong RX9 130 (2), Cond.constantLong RX9 149 (-2), Cond.fieldLink RX9 112 "GoneOverboardModel" "isSecond" "Z", Cond.constantLong RX9 155 (-3), Cond.methodLink RX9 54 yX9_in, Cond.static yX9_in, Cond.initialized RX9, Cond.code yX9_in cX9_in 6 (some .boolean), Cond.methodLink RX9 176 yX9_canLook, Cond.instanceMethod yX9_canLook, Cond.selects RX9 yX9_canLook yX9_canLook, Cond.code yX9_canLook cX9_canLook 2 (some .boolean), Cond.fieldLink RX9 23 "GoneOverboardModel" "now" "[I", Cond.fieldLink RX9 48 "GoneOverboardModel" "lasts" "I", Cond.methodLink RX9 151 yX9_sumOf, Cond.instanceMethod yX9_sumOf, Cond.selects RX9 yX9_sumOf yX9_sumOf, Cond.code yX9_sumOf cX9_sumOf 5 (some .long), Cond.fieldLink RX9 19 "GoneOverboardModel" "weights" "[J", Cond.methodLink RX9 204 yX9_foundByTwo, Cond.instanceMethod yX9_foundByTwo, Cond.selects RX9 yX9_foundByTwo yX9_foundByTwo, Cond.code yX9_foundByTwo cX9_foundByTwo 12 (some .long), Cond.fieldLink RX9 109 "GoneOverboardModel" "second" "I"]
def wsX9_withSecond_r2 : List Cond := [Cond.fieldLink RX9 116 "GoneOverboardModel" "secondFrom" "I", Cond.constantLong RX9 198 (1000), Cond.constantLong RX9 128 (10), Cond.methodLink RX9 167 yX9_lay, Cond.instanceMethod yX9_lay, Cond.selects RX9 yX9_lay yX9_lay, Cond.code yX9_lay cX9_lay 4 none, Cond.methodLink RX9 125 yX9_to, Cond.static yX9_to, Cond.code yX9_to cX9_to 3 (some .int), Cond.methodLink RX9 200 yX9_lookTwice, Cond.instanceMethod yX9_lookTwice, Cond.selects RX9 yX9_lookTwice yX9_lookTwice, Cond.code yX9_lookTwice cX9_lookTwice 6 (some .long), Cond.methodLink RX9 135 yX9_lookAt, Cond.instanceMethod yX9_lookAt, Cond.selects RX9 yX9_lookAt yX9_lookAt, Cond.code yX9_lookAt cX9_lookAt 7 (some .long), Cond.fieldLink RX9 103 "GoneOverboardModel" "finds" "I", Cond.fieldLink RX9 100 "GoneOverboardModel" "sees" "I", Cond.methodLink RX9 139 yX9_drift, Cond.instanceMethod yX9_drift, Cond.selects RX9 yX9_drift yX9_drift, Cond.code yX9_drift cX9_drift 5 none]
def wsX9_withSecond_r3 : List Cond := [Cond.fieldLink RX9 29 "GoneOverboardModel" "then" "[J", Cond.fieldLink RX9 94 "GoneOverboardModel" "on" "I", Cond.fieldLink RX9 97 "GoneOverboardModel" "back" "I", Cond.methodLink RX9 183 yX9_allTimes, Cond.instanceMethod yX9_allTimes, Cond.selects RX9 yX9_allTimes yX9_allTimes, Cond.code yX9_allTimes cX9_allTimes 6 (some .long), Cond.methodLink RX9 186 yX9_part, Cond.static yX9_part, Cond.code yX9_part cX9_part 7 (some .long), Cond.methodLink RX9 157 yX9_common, Cond.static yX9_common, Cond.code yX9_common cX9_common 10 (some .long)]
def wsX9_withSecond : List Cond := .code yX9_withSecond cX9_withSecond 8 (some .long) :: ((wsX9_withSecond_r1 ++ (wsX9_withSecond_r2 ++ wsX9_withSecond_r3)) ++ wsX90)
def wsX9_lanes : List Cond := .code yX9_lanes cX9_lanes 6 (some .int) :: ([.fieldLink RX9 19 "GoneOverboardModel" "weights" "[J", .fieldLink RX9 23 "GoneOverboardModel" "now" "[I"] ++ wsX90)
def wsX9_judge_r1 : List Cond := [Cond.constantLong RX9 207 (8), Cond.fieldLink RX9 23 "GoneOverboardModel" "now" "[I", Cond.fieldLink RX9 48 "GoneOverboardModel" "lasts" "I", Cond.fieldLink RX9 19 "GoneOverboardModel" "weights" "[J", Cond.methodLink RX9 54 yX9_in, Cond.static yX9_in, Cond.initialized RX9, Cond.code yX9_in cX9_in 6 (some .boolean), Cond.methodLink RX9 163 yX9_tenTo, Cond.static yX9_tenTo, Cond.code yX9_tenTo cX9_tenTo 3 (some .int), Cond.methodLink RX9 167 yX9_lay, Cond.instanceMethod yX9_lay, Cond.selects RX9 yX9_lay yX9_lay, Cond.code yX9_lay cX9_lay 4 none, Cond.methodLink RX9 125 yX9_to, Cond.static yX9_to, Cond.code yX9_to cX9_to 3 (some .int), Cond.methodLink RX9 135 yX9_lookAt, Cond.instanceMethod yX9_lookAt, Cond.selects RX9 yX9_lookAt yX9_lookAt, Cond.code yX9_lookAt cX9_lookAt 7 (some .long), Cond.fieldLink RX9 103 "GoneOverboardModel" "finds" "I", Cond.fieldLink RX9 100 "GoneOverboardModel" "sees" "I"]
def wsX9_judge_r2 : List Cond := [Cond.methodLink RX9 139 yX9_drift, Cond.instanceMethod yX9_drift, Cond.selects RX9 yX9_drift yX9_drift, Cond.code yX9_drift cX9_drift 5 none, Cond.fieldLink RX9 29 "GoneOverboardModel" "then" "[J", Cond.fieldLink RX9 94 "GoneOverboardModel" "on" "I", Cond.fieldLink RX9 97 "GoneOverboardModel" "back" "I", Cond.constantLong RX9 128 (10)]
def wsX9_judge : List Cond := .code yX9_judge cX9_judge 7 (some .int) :: ((wsX9_judge_r1 ++ wsX9_judge_r2) ++ wsX90)
def wsX9_partsIn : List Cond := .code yX9_partsIn cX9_partsIn 5 (some .int) :: ([.fieldLink RX9 7 "GoneOverboardModel" "parts" "[I"] ++ wsX90)
def wsX9_said : List Cond := .code yX9_said cX9_said 3 (some .int) :: ([.fieldLink RX9 23 "GoneOverboardModel" "now" "[I", .methodLink RX9 54 yX9_in, .static yX9_in, .initialized RX9, .code yX9_in cX9_in 6 (some .boolean), .methodLink RX9 209 yX9_partsIn, .instanceMethod yX9_partsIn, .selects RX9 yX9_partsIn yX9_partsIn, .code yX9_partsIn cX9_partsIn 5 (some .int), .fieldLink RX9 7 "GoneOverboardModel" "parts" "[I"] ++ wsX90)
def wsX9_trust_r1 : List Cond := [Cond.constantLong RX9 149 (-2), Cond.constantLong RX9 155 (-3), Cond.fieldLink RX9 7 "GoneOverboardModel" "parts" "[I", Cond.methodLink RX9 143 yX9_isWitness, Cond.static yX9_isWitness, Cond.initialized RX9, Cond.code yX9_isWitness cX9_isWitness 3 (some .boolean), Cond.constantLong RX9 67 (9), Cond.methodLink RX9 54 yX9_in, Cond.static yX9_in, Cond.code yX9_in cX9_in 6 (some .boolean), Cond.methodLink RX9 122 yX9_allParts, Cond.instanceMethod yX9_allParts, Cond.selects RX9 yX9_allParts yX9_allParts, Cond.code yX9_allParts cX9_allParts 3 (some .int), Cond.methodLink RX9 209 yX9_partsIn, Cond.instanceMethod yX9_partsIn, Cond.selects RX9 yX9_partsIn yX9_partsIn, Cond.code yX9_partsIn cX9_partsIn 5 (some .int), Cond.methodLink RX9 186 yX9_part, Cond.static yX9_part, Cond.code yX9_part cX9_part 7 (some .long), Cond.methodLink RX9 157 yX9_common, Cond.static yX9_common]
def wsX9_trust_r2 : List Cond := [Cond.code yX9_common cX9_common 10 (some .long)]
def wsX9_trust : List Cond := .code yX9_trust cX9_trust 7 (some .long) :: ((wsX9_trust_r1 ++ wsX9_trust_r2) ++ wsX90)
def wsX9_seed : List Cond := .code yX9_seed cX9_seed 5 (some .long) :: ([.fieldLink RX9 212 "GoneOverboardModel" "seed" "J"] ++ wsX90)
def wsX9_drawn : List Cond := .code yX9_drawn cX9_drawn 2 (some .int) :: ([.fieldLink RX9 212 "GoneOverboardModel" "seed" "J", .constantLong RX9 216 (6364136223846793005), .constantLong RX9 218 (1442695040888963407)] ++ wsX90)
def wsX9_isFound_r1 : List Cond := [Cond.fieldLink RX9 7 "GoneOverboardModel" "parts" "[I", Cond.fieldLink RX9 106 "GoneOverboardModel" "begin" "I", Cond.fieldLink RX9 48 "GoneOverboardModel" "lasts" "I", Cond.fieldLink RX9 103 "GoneOverboardModel" "finds" "I", Cond.fieldLink RX9 100 "GoneOverboardModel" "sees" "I", Cond.fieldLink RX9 94 "GoneOverboardModel" "on" "I", Cond.fieldLink RX9 97 "GoneOverboardModel" "back" "I", Cond.methodLink RX9 122 yX9_allParts, Cond.instanceMethod yX9_allParts, Cond.selects RX9 yX9_allParts yX9_allParts, Cond.initialized RX9, Cond.code yX9_allParts cX9_allParts 3 (some .int), Cond.methodLink RX9 220 yX9_drawn, Cond.instanceMethod yX9_drawn, Cond.selects RX9 yX9_drawn yX9_drawn, Cond.code yX9_drawn cX9_drawn 2 (some .int), Cond.fieldLink RX9 212 "GoneOverboardModel" "seed" "J", Cond.constantLong RX9 216 (6364136223846793005), Cond.constantLong RX9 218 (1442695040888963407), Cond.methodLink RX9 163 yX9_tenTo, Cond.static yX9_tenTo, Cond.code yX9_tenTo cX9_tenTo 3 (some .int), Cond.methodLink RX9 125 yX9_to, Cond.static yX9_to]
def wsX9_isFound_r2 : List Cond := [Cond.code yX9_to cX9_to 3 (some .int)]
def wsX9_isFound : List Cond := .code yX9_isFound cX9_isFound 10 (some .boolean) :: ((wsX9_isFound_r1 ++ wsX9_isFound_r2) ++ wsX90)
def wsX9_trials_r1 : List Cond := [Cond.constantLong RX9 223 (30), Cond.methodLink RX9 54 yX9_in, Cond.static yX9_in, Cond.initialized RX9, Cond.code yX9_in cX9_in 6 (some .boolean), Cond.methodLink RX9 172 yX9_isRow, Cond.static yX9_isRow, Cond.code yX9_isRow cX9_isRow 4 (some .boolean), Cond.constantLong RX9 161 (4), Cond.methodLink RX9 163 yX9_tenTo, Cond.static yX9_tenTo, Cond.code yX9_tenTo cX9_tenTo 3 (some .int), Cond.methodLink RX9 122 yX9_allParts, Cond.instanceMethod yX9_allParts, Cond.selects RX9 yX9_allParts yX9_allParts, Cond.code yX9_allParts cX9_allParts 3 (some .int), Cond.fieldLink RX9 7 "GoneOverboardModel" "parts" "[I", Cond.methodLink RX9 225 yX9_isFound, Cond.instanceMethod yX9_isFound, Cond.selects RX9 yX9_isFound yX9_isFound, Cond.code yX9_isFound cX9_isFound 10 (some .boolean), Cond.fieldLink RX9 106 "GoneOverboardModel" "begin" "I", Cond.fieldLink RX9 48 "GoneOverboardModel" "lasts" "I", Cond.fieldLink RX9 103 "GoneOverboardModel" "finds" "I"]
def wsX9_trials_r2 : List Cond := [Cond.fieldLink RX9 100 "GoneOverboardModel" "sees" "I", Cond.fieldLink RX9 94 "GoneOverboardModel" "on" "I", Cond.fieldLink RX9 97 "GoneOverboardModel" "back" "I", Cond.methodLink RX9 220 yX9_drawn, Cond.instanceMethod yX9_drawn, Cond.selects RX9 yX9_drawn yX9_drawn, Cond.code yX9_drawn cX9_drawn 2 (some .int), Cond.fieldLink RX9 212 "GoneOverboardModel" "seed" "J", Cond.constantLong RX9 216 (6364136223846793005), Cond.constantLong RX9 218 (1442695040888963407), Cond.methodLink RX9 125 yX9_to, Cond.static yX9_to, Cond.code yX9_to cX9_to 3 (some .int)]
def wsX9_trials : List Cond := .code yX9_trials cX9_trials 6 (some .int) :: ((wsX9_trials_r1 ++ wsX9_trials_r2) ++ wsX90)
def wsX9_keep : List Cond := .code yX9_keep cX9_keep 3 (some .int) :: ([.fieldLink RX9 38 "GoneOverboardModel" "isKept" "[Z", .fieldLink RX9 42 "GoneOverboardModel" "keptWeights" "[J", .fieldLink RX9 19 "GoneOverboardModel" "weights" "[J", .fieldLink RX9 45 "GoneOverboardModel" "kept" "[I", .fieldLink RX9 23 "GoneOverboardModel" "now" "[I", .methodLink RX9 54 yX9_in, .static yX9_in, .initialized RX9, .code yX9_in cX9_in 6 (some .boolean)] ++ wsX90)
def wsX9_again : List Cond := .code yX9_again cX9_again 3 (some .int) :: ([.fieldLink RX9 38 "GoneOverboardModel" "isKept" "[Z", .fieldLink RX9 19 "GoneOverboardModel" "weights" "[J", .fieldLink RX9 42 "GoneOverboardModel" "keptWeights" "[J", .fieldLink RX9 23 "GoneOverboardModel" "now" "[I", .fieldLink RX9 45 "GoneOverboardModel" "kept" "[I", .fieldLink RX9 119 "GoneOverboardModel" "acts" "I", .methodLink RX9 54 yX9_in, .static yX9_in, .initialized RX9, .code yX9_in cX9_in 6 (some .boolean)] ++ wsX90)
def wsX9_count : List Cond := .code yX9_count cX9_count 4 (some .int) :: ([.fieldLink RX9 19 "GoneOverboardModel" "weights" "[J", .fieldLink RX9 58 "GoneOverboardModel" "length" "I", .fieldLink RX9 94 "GoneOverboardModel" "on" "I", .fieldLink RX9 97 "GoneOverboardModel" "back" "I", .fieldLink RX9 100 "GoneOverboardModel" "sees" "I", .fieldLink RX9 103 "GoneOverboardModel" "finds" "I", .fieldLink RX9 48 "GoneOverboardModel" "lasts" "I", .fieldLink RX9 23 "GoneOverboardModel" "now" "[I", .fieldLink RX9 119 "GoneOverboardModel" "acts" "I", .fieldLink RX9 112 "GoneOverboardModel" "isSecond" "Z", .fieldLink RX9 109 "GoneOverboardModel" "second" "I"] ++ wsX90)
def wsJ9_abs_067f4 : List Cond := .code yJ9_abs_067f4 cJ9_abs_067f4 2 (some .long) :: ([])
def wsJ9_max_7cf53 : List Cond := .code yJ9_max_7cf53 cJ9_max_7cf53 2 (some .int) :: ([])
def wsJ9_min_7cf53 : List Cond := .code yJ9_min_7cf53 cJ9_min_7cf53 2 (some .int) :: ([])
def wsL_law_r1 : List Cond := [Cond.classLink RL 7 RX8, Cond.instantiable RX8 10, Cond.initialized RX8, Cond.classLink RL 10 RX9, Cond.instantiable RX9 29, Cond.initialized RX9, Cond.constantLong RL 105 (4294967295), Cond.methodLink RL 9 yX8_init, Cond.instanceMethod yX8_init, Cond.code yX8_init cX8_init 1 none, Cond.methodLink RX8 1 objectInit, Cond.instanceMethod objectInit, Cond.code objectInit ⟨#[0xb1]⟩ 1 none, Cond.classLink RX8 7 RX6, Cond.instantiable RX6 6, Cond.initialized RX6, Cond.fieldLink RX8 10 "GoneOverboard" "text" "LGoneOverboard$Text;", Cond.classLink RX8 16 RX7, Cond.instantiable RX7 9, Cond.initialized RX7, Cond.fieldLink RX8 19 "GoneOverboard" "told" "LGoneOverboard$Told;", Cond.classLink RX8 23 RX4, Cond.instantiable RX4 6, Cond.initialized RX4]
def wsL_law_r2 : List Cond := [Cond.fieldLink RX8 26 "GoneOverboard" "now" "LGoneOverboard$Scene;", Cond.fieldLink RX8 30 "GoneOverboard" "spare" "LGoneOverboard$Scene;", Cond.classLink RX8 33 RX5, Cond.instantiable RX5 1, Cond.initialized RX5, Cond.fieldLink RX8 38 "GoneOverboard" "acts" "LGoneOverboard$Scenes;", Cond.fieldLink RX8 42 "GoneOverboard" "slots" "LGoneOverboard$Scenes;", Cond.classLink RX8 45 RX0, Cond.instantiable RX0 5, Cond.initialized RX0, Cond.fieldLink RX8 48 "GoneOverboard" "ahead" "LGoneOverboard$Ahead;", Cond.classLink RX8 52 RX2, Cond.instantiable RX2 1, Cond.initialized RX2, Cond.fieldLink RX8 55 "GoneOverboard" "draws" "LGoneOverboard$Draws;", Cond.methodLink RX8 9 yX6_init, Cond.instanceMethod yX6_init, Cond.code yX6_init cX6_init 1 none, Cond.methodLink RX6 3 objectInit, Cond.arrayClass .int, Cond.fieldLink RX6 11 "GoneOverboard$Text" "letters" "[I", Cond.methodLink RX8 18 yX7_init, Cond.instanceMethod yX7_init, Cond.code yX7_init cX7_init 1 none]
def wsL_law_r3 : List Cond := [Cond.methodLink RX7 3 objectInit, Cond.fieldLink RX7 9 "GoneOverboard$Told" "parts" "[I", Cond.fieldLink RX7 15 "GoneOverboard$Told" "lasts" "I", Cond.fieldLink RX7 19 "GoneOverboard$Told" "secondCell" "I", Cond.methodLink RX8 25 yX4_init, Cond.instanceMethod yX4_init, Cond.code yX4_init cX4_init 1 none, Cond.methodLink RX4 3 objectInit, Cond.arrayClass .long, Cond.fieldLink RX4 9 "GoneOverboard$Scene" "weights" "[J", Cond.fieldLink RX4 15 "GoneOverboard$Scene" "lows" "[I", Cond.fieldLink RX4 19 "GoneOverboard$Scene" "highs" "[I", Cond.methodLink RX8 35 yX5_init, Cond.instanceMethod yX5_init, Cond.code yX5_init cX5_init 3 none, Cond.methodLink RX5 1 objectInit, Cond.methodLink RX5 7 Lib.Math.max.name, Cond.static Lib.Math.max.name, Cond.initialized "java/lang/Math", Cond.code Lib.Math.max.name Lib.Math.max.code 2 (some .int), Cond.classLink RX5 13 RX4, Cond.fieldLink RX5 15 "GoneOverboard$Scenes" "row" "[LGoneOverboard$Scene;", Cond.methodLink RX5 21 yX4_init, Cond.methodLink RX8 47 yX0_init]
def wsL_law_r4 : List Cond := [Cond.instanceMethod yX0_init, Cond.code yX0_init cX0_init 1 none, Cond.methodLink RX0 3 objectInit, Cond.classLink RX0 9 RX5, Cond.fieldLink RX0 14 "GoneOverboard$Ahead" "depths" "LGoneOverboard$Scenes;", Cond.classLink RX0 20 RX1, Cond.instantiable RX1 2, Cond.initialized RX1, Cond.fieldLink RX0 23 "GoneOverboard$Ahead" "sea" "LGoneOverboard$Best;", Cond.fieldLink RX0 27 "GoneOverboard$Ahead" "aboard" "LGoneOverboard$Best;", Cond.fieldLink RX0 30 "GoneOverboard$Ahead" "both" "LGoneOverboard$Best;", Cond.methodLink RX0 11 yX5_init, Cond.instanceMethod yX1_init, Cond.code yX1_init cX1_init 1 none, Cond.methodLink RX1 1 objectInit, Cond.instanceMethod yX2_init, Cond.code yX2_init cX2_init 1 none, Cond.methodLink RX2 1 objectInit, Cond.methodLink RL 12 yX9_init, Cond.instanceMethod yX9_init, Cond.code yX9_init cX9_init 1 none, Cond.methodLink RX9 1 objectInit, Cond.fieldLink RX9 7 "GoneOverboardModel" "parts" "[I", Cond.fieldLink RX9 13 "GoneOverboardModel" "read" "[I"]
def wsL_law_r5 : List Cond := [Cond.fieldLink RX9 16 "GoneOverboardModel" "readParts" "[I", Cond.fieldLink RX9 19 "GoneOverboardModel" "weights" "[J", Cond.fieldLink RX9 23 "GoneOverboardModel" "now" "[I", Cond.fieldLink RX9 26 "GoneOverboardModel" "text" "[I", Cond.fieldLink RX9 29 "GoneOverboardModel" "then" "[J", Cond.fieldLink RX9 32 "GoneOverboardModel" "rowWeights" "[J", Cond.fieldLink RX9 35 "GoneOverboardModel" "row" "[I", Cond.arrayClass .boolean, Cond.fieldLink RX9 38 "GoneOverboardModel" "isKept" "[Z", Cond.fieldLink RX9 42 "GoneOverboardModel" "keptWeights" "[J", Cond.fieldLink RX9 45 "GoneOverboardModel" "kept" "[I", Cond.fieldLink RX9 48 "GoneOverboardModel" "lasts" "I", Cond.methodLink RL 13 yX8_write, Cond.instanceMethod yX8_write, Cond.selects RX8 yX8_write yX8_write, Cond.code yX8_write cX8_write 2 (some .int), Cond.methodLink RX8 59 yX8_isWithin, Cond.static yX8_isWithin, Cond.code yX8_isWithin cX8_isWithin 3 (some .boolean), Cond.methodLink RX8 63 yX6_isFull, Cond.instanceMethod yX6_isFull, Cond.selects RX6 yX6_isFull yX6_isFull, Cond.code yX6_isFull cX6_isFull 1 (some .boolean), Cond.fieldLink RX6 15 "GoneOverboard$Text" "length" "I"]
def wsL_law_r6 : List Cond := [Cond.methodLink RX8 67 yX6_add, Cond.instanceMethod yX6_add, Cond.selects RX6 yX6_add yX6_add, Cond.code yX6_add cX6_add 2 (some .int), Cond.methodLink RL 17 yX9_write, Cond.instanceMethod yX9_write, Cond.selects RX9 yX9_write yX9_write, Cond.code yX9_write cX9_write 2 (some .int), Cond.constantLong RX9 52 (255), Cond.fieldLink RX9 58 "GoneOverboardModel" "length" "I", Cond.methodLink RX9 54 yX9_in, Cond.static yX9_in, Cond.code yX9_in cX9_in 6 (some .boolean), Cond.methodLink RL 18 yX8_wipe, Cond.instanceMethod yX8_wipe, Cond.selects RX8 yX8_wipe yX8_wipe, Cond.code yX8_wipe cX8_wipe 1 (some .int), Cond.methodLink RX8 71 yX6_clear, Cond.instanceMethod yX6_clear, Cond.selects RX6 yX6_clear yX6_clear, Cond.code yX6_clear cX6_clear 2 (some .int), Cond.methodLink RL 22 yX9_wipe, Cond.instanceMethod yX9_wipe, Cond.selects RX9 yX9_wipe yX9_wipe]
def wsL_law_r7 : List Cond := [Cond.code yX9_wipe cX9_wipe 2 (some .int), Cond.methodLink RL 23 yX8_fault, Cond.instanceMethod yX8_fault, Cond.selects RX8 yX8_fault yX8_fault, Cond.code yX8_fault cX8_fault 1 (some .int), Cond.methodLink RX8 75 yX6_firstFault, Cond.instanceMethod yX6_firstFault, Cond.selects RX6 yX6_firstFault yX6_firstFault, Cond.code yX6_firstFault cX6_firstFault 3 (some .int), Cond.fieldLink RX6 23 "GoneOverboard$Text" "awaits" "I", Cond.fieldLink RX6 26 "GoneOverboard$Text" "freeCells" "I", Cond.fieldLink RX6 29 "GoneOverboard$Text" "freeAboard" "Z", Cond.fieldLink RX6 33 "GoneOverboard$Text" "freeSecond" "Z", Cond.methodLink RX6 36 yX6_headFits, Cond.instanceMethod yX6_headFits, Cond.selects RX6 yX6_headFits yX6_headFits, Cond.code yX6_headFits cX6_headFits 3 (some .boolean), Cond.methodLink RX6 43 yX6_digitAt, Cond.instanceMethod yX6_digitAt, Cond.selects RX6 yX6_digitAt yX6_digitAt, Cond.code yX6_digitAt cX6_digitAt 3 (some .int), Cond.methodLink RX6 19 yX6_letterAt, Cond.instanceMethod yX6_letterAt, Cond.selects RX6 yX6_letterAt yX6_letterAt]
def wsL_law_r8 : List Cond := [Cond.code yX6_letterAt cX6_letterAt 2 (some .int), Cond.methodLink RX6 40 yX6_partFits, Cond.instanceMethod yX6_partFits, Cond.selects RX6 yX6_partFits yX6_partFits, Cond.code yX6_partFits cX6_partFits 3 (some .boolean), Cond.methodLink RX6 46 yX6_partBegins, Cond.instanceMethod yX6_partBegins, Cond.selects RX6 yX6_partBegins yX6_partBegins, Cond.code yX6_partBegins cX6_partBegins 3 (some .boolean), Cond.methodLink RX6 49 yX6_takeCell, Cond.instanceMethod yX6_takeCell, Cond.selects RX6 yX6_takeCell yX6_takeCell, Cond.code yX6_takeCell cX6_takeCell 3 (some .boolean), Cond.methodLink RL 26 yX9_fault, Cond.instanceMethod yX9_fault, Cond.selects RX9 yX9_fault yX9_fault, Cond.code yX9_fault cX9_fault 1 (some .int), Cond.methodLink RX9 91 yX9_readText, Cond.instanceMethod yX9_readText, Cond.selects RX9 yX9_readText yX9_readText, Cond.code yX9_readText cX9_readText 2 (some .int), Cond.fieldLink RX9 64 "GoneOverboardModel" "at" "I", Cond.fieldLink RX9 61 "GoneOverboardModel" "faultAt" "I", Cond.fieldLink RX9 69 "GoneOverboardModel" "readSecond" "I"]
def wsL_law_r9 : List Cond := [Cond.methodLink RX9 72 yX9_figure, Cond.instanceMethod yX9_figure, Cond.selects RX9 yX9_figure yX9_figure, Cond.code yX9_figure cX9_figure 4 (some .int), Cond.methodLink RX9 76 yX9_readPart, Cond.instanceMethod yX9_readPart, Cond.selects RX9 yX9_readPart yX9_readPart, Cond.code yX9_readPart cX9_readPart 4 none, Cond.fieldLink RX9 88 "GoneOverboardModel" "readFrom" "I", Cond.methodLink RX9 80 yX9_isCellLeft, Cond.instanceMethod yX9_isCellLeft, Cond.selects RX9 yX9_isCellLeft yX9_isCellLeft, Cond.code yX9_isCellLeft cX9_isCellLeft 3 (some .boolean), Cond.methodLink RX9 84 yX9_freshCell, Cond.instanceMethod yX9_freshCell, Cond.selects RX9 yX9_freshCell yX9_freshCell, Cond.code yX9_freshCell cX9_freshCell 2 (some .int), Cond.constantLong RX9 67 (9), Cond.methodLink RL 27 yX8_search, Cond.instanceMethod yX8_search, Cond.selects RX8 yX8_search yX8_search, Cond.code yX8_search cX8_search 1 (some .int), Cond.fieldLink RX8 86 "GoneOverboard" "actsDone" "I", Cond.fieldLink RX8 90 "GoneOverboard" "keptBits" "I"]
def wsL_law_r10 : List Cond := [Cond.methodLink RX8 78 yX7_take, Cond.instanceMethod yX7_take, Cond.selects RX7 yX7_take yX7_take, Cond.code yX7_take cX7_take 3 none, Cond.fieldLink RX7 28 "GoneOverboard$Told" "on" "I", Cond.fieldLink RX7 31 "GoneOverboard$Told" "back" "I", Cond.fieldLink RX7 34 "GoneOverboard$Told" "sees" "I", Cond.fieldLink RX7 37 "GoneOverboard$Told" "finds" "I", Cond.fieldLink RX7 40 "GoneOverboard$Told" "begin" "I", Cond.fieldLink RX7 43 "GoneOverboard$Told" "secondStep" "I", Cond.methodLink RX7 22 yX6_digitAt, Cond.methodLink RX7 46 yX7_setPart, Cond.instanceMethod yX7_setPart, Cond.selects RX7 yX7_setPart yX7_setPart, Cond.code yX7_setPart cX7_setPart 3 none, Cond.methodLink RX7 50 yX6_size, Cond.instanceMethod yX6_size, Cond.selects RX6 yX6_size yX6_size, Cond.code yX6_size cX6_size 1 (some .int), Cond.methodLink RX7 54 yX7_takePart, Cond.instanceMethod yX7_takePart, Cond.selects RX7 yX7_takePart yX7_takePart, Cond.code yX7_takePart cX7_takePart 3 none, Cond.methodLink RX7 58 yX6_letterAt]
def wsL_law_r11 : List Cond := [Cond.methodLink RX8 82 yX4_begin, Cond.instanceMethod yX4_begin, Cond.selects RX4 yX4_begin yX4_begin, Cond.code yX4_begin cX4_begin 3 none, Cond.fieldLink RX4 32 "GoneOverboard$Scene" "ship" "I", Cond.fieldLink RX4 35 "GoneOverboard$Scene" "step" "I", Cond.fieldLink RX4 38 "GoneOverboard$Scene" "heard" "I", Cond.methodLink RX4 22 yX7_partAt, Cond.instanceMethod yX7_partAt, Cond.selects RX7 yX7_partAt yX7_partAt, Cond.code yX7_partAt cX7_partAt 2 (some .int), Cond.methodLink RX8 93 yX7_allParts, Cond.instanceMethod yX7_allParts, Cond.selects RX7 yX7_allParts yX7_allParts, Cond.code yX7_allParts cX7_allParts 1 (some .int), Cond.methodLink RX7 68 yX7_partsFrom, Cond.instanceMethod yX7_partsFrom, Cond.selects RX7 yX7_partsFrom yX7_partsFrom, Cond.code yX7_partsFrom cX7_partsFrom 5 (some .int), Cond.methodLink RX7 65 yX7_partAt, Cond.methodLink RL 30 yX9_search, Cond.instanceMethod yX9_search, Cond.selects RX9 yX9_search yX9_search, Cond.code yX9_search cX9_search 2 (some .int)]
def wsL_law_r12 : List Cond := [Cond.fieldLink RX9 94 "GoneOverboardModel" "on" "I", Cond.fieldLink RX9 97 "GoneOverboardModel" "back" "I", Cond.fieldLink RX9 100 "GoneOverboardModel" "sees" "I", Cond.fieldLink RX9 103 "GoneOverboardModel" "finds" "I", Cond.fieldLink RX9 106 "GoneOverboardModel" "begin" "I", Cond.fieldLink RX9 109 "GoneOverboardModel" "second" "I", Cond.fieldLink RX9 112 "GoneOverboardModel" "isSecond" "Z", Cond.fieldLink RX9 116 "GoneOverboardModel" "secondFrom" "I", Cond.fieldLink RX9 119 "GoneOverboardModel" "acts" "I", Cond.methodLink RX9 122 yX9_allParts, Cond.instanceMethod yX9_allParts, Cond.selects RX9 yX9_allParts yX9_allParts, Cond.code yX9_allParts cX9_allParts 3 (some .int), Cond.methodLink RL 31 yX8_look, Cond.instanceMethod yX8_look, Cond.selects RX8 yX8_look yX8_look, Cond.code yX8_look cX8_look 2 (some .int), Cond.methodLink RX8 102 yX8_remember, Cond.instanceMethod yX8_remember, Cond.selects RX8 yX8_remember yX8_remember, Cond.code yX8_remember cX8_remember 1 none, Cond.methodLink RX8 234 yX5_put, Cond.instanceMethod yX5_put, Cond.selects RX5 yX5_put yX5_put]
def wsL_law_r13 : List Cond := [Cond.code yX5_put cX5_put 4 none, Cond.methodLink RX5 22 yX5_at, Cond.instanceMethod yX5_at, Cond.selects RX5 yX5_at yX5_at, Cond.code yX5_at cX5_at 2 (some (.object "GoneOverboard$Scene")), Cond.methodLink RX5 26 yX4_copy, Cond.instanceMethod yX4_copy, Cond.selects RX4 yX4_copy yX4_copy, Cond.code yX4_copy cX4_copy 3 none, Cond.methodLink RX4 41 yX4_of, Cond.instanceMethod yX4_of, Cond.selects RX4 yX4_of yX4_of, Cond.code yX4_of cX4_of 2 (some .long), Cond.methodLink RX4 45 yX4_lowOf, Cond.instanceMethod yX4_lowOf, Cond.selects RX4 yX4_lowOf yX4_lowOf, Cond.code yX4_lowOf cX4_lowOf 2 (some .int), Cond.methodLink RX4 48 yX4_highOf, Cond.instanceMethod yX4_highOf, Cond.selects RX4 yX4_highOf yX4_highOf, Cond.code yX4_highOf cX4_highOf 2 (some .int), Cond.methodLink RX8 105 yX4_act, Cond.instanceMethod yX4_act, Cond.selects RX4 yX4_act yX4_act]
def wsL_law_r14 : List Cond := [Cond.code yX4_act cX4_act 3 none, Cond.methodLink RX4 61 yX4_lookBy, Cond.instanceMethod yX4_lookBy, Cond.selects RX4 yX4_lookBy yX4_lookBy, Cond.code yX4_lookBy cX4_lookBy 4 none, Cond.methodLink RX4 55 yX4_placeBy, Cond.instanceMethod yX4_placeBy, Cond.selects RX4 yX4_placeBy yX4_placeBy, Cond.code yX4_placeBy cX4_placeBy 2 (some .int), Cond.static yX8_moved, Cond.code yX8_moved cX8_moved 2 (some .int), Cond.methodLink RX8 205 Lib.Math.min.name, Cond.static Lib.Math.min.name, Cond.code Lib.Math.min.name Lib.Math.min.code 2 (some .int), Cond.methodLink RX8 199 Lib.Math.max.name, Cond.methodLink RX4 58 yX7_chanceAt, Cond.instanceMethod yX7_chanceAt, Cond.selects RX7 yX7_chanceAt yX7_chanceAt, Cond.code yX7_chanceAt cX7_chanceAt 2 (some .int), Cond.methodLink RX4 69 yX4_lessen, Cond.instanceMethod yX4_lessen, Cond.selects RX4 yX4_lessen yX4_lessen, Cond.code yX4_lessen cX4_lessen 4 none, Cond.constantLong RX4 73 (10)]
def wsL_law_r15 : List Cond := [Cond.methodLink RX4 65 yX4_pass, Cond.instanceMethod yX4_pass, Cond.selects RX4 yX4_pass yX4_pass, Cond.code yX4_pass cX4_pass 10 none, Cond.methodLink RL 34 yX9_look, Cond.instanceMethod yX9_look, Cond.selects RX9 yX9_look yX9_look, Cond.code yX9_look cX9_look 2 (some .int), Cond.constantLong RX9 130 (2), Cond.methodLink RX9 132 yX9_keepAct, Cond.instanceMethod yX9_keepAct, Cond.selects RX9 yX9_keepAct yX9_keepAct, Cond.code yX9_keepAct cX9_keepAct 2 none, Cond.methodLink RX9 125 yX9_to, Cond.static yX9_to, Cond.code yX9_to cX9_to 3 (some .int), Cond.methodLink RX9 135 yX9_lookAt, Cond.instanceMethod yX9_lookAt, Cond.selects RX9 yX9_lookAt yX9_lookAt, Cond.code yX9_lookAt cX9_lookAt 7 (some .long), Cond.methodLink RX9 139 yX9_drift, Cond.instanceMethod yX9_drift, Cond.selects RX9 yX9_drift yX9_drift, Cond.code yX9_drift cX9_drift 5 none]
def wsL_law_r16 : List Cond := [Cond.constantLong RX9 128 (10), Cond.methodLink RL 35 yX8_lookAboard, Cond.instanceMethod yX8_lookAboard, Cond.selects RX8 yX8_lookAboard yX8_lookAboard, Cond.code yX8_lookAboard cX8_lookAboard 1 (some .int), Cond.methodLink RL 38 yX9_lookAboard, Cond.instanceMethod yX9_lookAboard, Cond.selects RX9 yX9_lookAboard yX9_lookAboard, Cond.code yX9_lookAboard cX9_lookAboard 1 (some .int), Cond.methodLink RL 39 yX8_hear, Cond.instanceMethod yX8_hear, Cond.selects RX8 yX8_hear yX8_hear, Cond.code yX8_hear cX8_hear 4 (some .int), Cond.methodLink RX8 112 yX8_isSaying, Cond.static yX8_isSaying, Cond.code yX8_isSaying cX8_isSaying 3 (some .boolean), Cond.methodLink RX8 118 yX4_believe, Cond.instanceMethod yX4_believe, Cond.selects RX4 yX4_believe yX4_believe, Cond.code yX4_believe cX4_believe 5 none, Cond.constantLong RX4 84 (5), Cond.methodLink RL 43 yX9_hear, Cond.instanceMethod yX9_hear, Cond.selects RX9 yX9_hear yX9_hear]
def wsL_law_r17 : List Cond := [Cond.code yX9_hear cX9_hear 5 (some .int), Cond.constantLong RX9 147 (5), Cond.methodLink RX9 143 yX9_isWitness, Cond.static yX9_isWitness, Cond.code yX9_isWitness cX9_isWitness 3 (some .boolean), Cond.methodLink RL 44 yX8_undo, Cond.instanceMethod yX8_undo, Cond.selects RX8 yX8_undo yX8_undo, Cond.code yX8_undo cX8_undo 1 (some .int), Cond.methodLink RX8 122 yX5_give, Cond.instanceMethod yX5_give, Cond.selects RX5 yX5_give yX5_give, Cond.code yX5_give cX5_give 4 none, Cond.methodLink RL 47 yX9_undo, Cond.instanceMethod yX9_undo, Cond.selects RX9 yX9_undo yX9_undo, Cond.code yX9_undo cX9_undo 2 (some .int), Cond.methodLink RL 48 yX8_weight, Cond.instanceMethod yX8_weight, Cond.selects RX8 yX8_weight yX8_weight, Cond.code yX8_weight cX8_weight 2 (some .long), Cond.constantLong RX8 130 (-2), Cond.methodLink RX8 126 yX4_of, Cond.methodLink RL 52 yX9_weight]
def wsL_law_r18 : List Cond := [Cond.instanceMethod yX9_weight, Cond.selects RX9 yX9_weight yX9_weight, Cond.code yX9_weight cX9_weight 2 (some .long), Cond.constantLong RX9 149 (-2), Cond.methodLink RL 53 yX8_likely, Cond.instanceMethod yX8_likely, Cond.selects RX8 yX8_likely yX8_likely, Cond.code yX8_likely cX8_likely 5 (some .long), Cond.constantLong RX8 136 (-3), Cond.methodLink RX8 132 yX4_together, Cond.instanceMethod yX4_together, Cond.selects RX4 yX4_together yX4_together, Cond.code yX4_together cX4_together 4 (some .long), Cond.methodLink RX8 138 yX3_part, Cond.static yX3_part, Cond.initialized RX3, Cond.code yX3_part cX3_part 7 (some .long), Cond.methodLink RX3 7 Lib.MathLoose.abs_long.x, Cond.static Lib.MathLoose.abs_long.x, Cond.code Lib.MathLoose.abs_long.x Lib.MathLoose.abs_long.code 2 (some .long), Cond.methodLink RX3 13 yX3_commonOf, Cond.static yX3_commonOf, Cond.code yX3_commonOf cX3_commonOf 11 (some .long), Cond.methodLink RL 57 yX9_likely]
def wsL_law_r19 : List Cond := [Cond.instanceMethod yX9_likely, Cond.selects RX9 yX9_likely yX9_likely, Cond.code yX9_likely cX9_likely 7 (some .long), Cond.constantLong RX9 155 (-3), Cond.methodLink RX9 151 yX9_sumOf, Cond.instanceMethod yX9_sumOf, Cond.selects RX9 yX9_sumOf yX9_sumOf, Cond.code yX9_sumOf cX9_sumOf 5 (some .long), Cond.methodLink RX9 157 yX9_common, Cond.static yX9_common, Cond.code yX9_common cX9_common 10 (some .long), Cond.methodLink RL 58 yX8_likeliest, Cond.instanceMethod yX8_likeliest, Cond.selects RX8 yX8_likeliest yX8_likeliest, Cond.code yX8_likeliest cX8_likeliest 5 (some .int), Cond.methodLink RL 61 yX9_likeliest, Cond.instanceMethod yX9_likeliest, Cond.selects RX9 yX9_likeliest yX9_likeliest, Cond.code yX9_likeliest cX9_likeliest 3 (some .int), Cond.methodLink RL 62 yX8_by, Cond.instanceMethod yX8_by, Cond.selects RX8 yX8_by yX8_by, Cond.code yX8_by cX8_by 4 (some .long), Cond.constantLong RX8 156 (100)]
def wsL_law_r20 : List Cond := [Cond.methodLink RX8 144 yX8_isRow, Cond.static yX8_isRow, Cond.code yX8_isRow cX8_isRow 3 (some .boolean), Cond.constantLong RX8 179 (10), Cond.methodLink RX8 158 yX8_power, Cond.static yX8_power, Cond.code yX8_power cX8_power 6 (some .long), Cond.methodLink RX8 212 yX8_figureOf, Cond.static yX8_figureOf, Cond.code yX8_figureOf cX8_figureOf 5 (some .int), Cond.methodLink RX8 148 yX8_isLeft, Cond.instanceMethod yX8_isLeft, Cond.selects RX8 yX8_isLeft yX8_isLeft, Cond.code yX8_isLeft cX8_isLeft 2 (some .boolean), Cond.methodLink RX8 152 yX8_foundBy, Cond.instanceMethod yX8_foundBy, Cond.selects RX8 yX8_foundBy yX8_foundBy, Cond.code yX8_foundBy cX8_foundBy 7 (some .long), Cond.methodLink RX8 208 yX4_copy, Cond.methodLink RX8 255 yX4_foundNow, Cond.instanceMethod yX4_foundNow, Cond.selects RX4 yX4_foundNow yX4_foundNow, Cond.code yX4_foundNow cX4_foundNow 4 (some .long), Cond.methodLink RL 66 yX9_by]
def wsL_law_r21 : List Cond := [Cond.instanceMethod yX9_by, Cond.selects RX9 yX9_by yX9_by, Cond.code yX9_by cX9_by 4 (some .long), Cond.methodLink RX9 172 yX9_isRow, Cond.static yX9_isRow, Cond.code yX9_isRow cX9_isRow 4 (some .boolean), Cond.constantLong RX9 161 (4), Cond.methodLink RX9 163 yX9_tenTo, Cond.static yX9_tenTo, Cond.code yX9_tenTo cX9_tenTo 3 (some .int), Cond.methodLink RX9 176 yX9_canLook, Cond.instanceMethod yX9_canLook, Cond.selects RX9 yX9_canLook yX9_canLook, Cond.code yX9_canLook cX9_canLook 2 (some .boolean), Cond.methodLink RX9 180 yX9_foundBy, Cond.instanceMethod yX9_foundBy, Cond.selects RX9 yX9_foundBy yX9_foundBy, Cond.code yX9_foundBy cX9_foundBy 8 (some .long), Cond.constantLong RX9 170 (100), Cond.methodLink RX9 167 yX9_lay, Cond.instanceMethod yX9_lay, Cond.selects RX9 yX9_lay yX9_lay, Cond.code yX9_lay cX9_lay 4 none, Cond.methodLink RX9 183 yX9_allTimes]
def wsL_law_r22 : List Cond := [Cond.instanceMethod yX9_allTimes, Cond.selects RX9 yX9_allTimes yX9_allTimes, Cond.code yX9_allTimes cX9_allTimes 6 (some .long), Cond.methodLink RX9 186 yX9_part, Cond.static yX9_part, Cond.code yX9_part cX9_part 7 (some .long), Cond.methodLink RL 67 yX8_best, Cond.instanceMethod yX8_best, Cond.selects RX8 yX8_best yX8_best, Cond.code yX8_best cX8_best 3 (some .long), Cond.methodLink RX8 162 yX0_tryAll, Cond.instanceMethod yX0_tryAll, Cond.selects RX0 yX0_tryAll yX0_tryAll, Cond.code yX0_tryAll cX0_tryAll 5 none, Cond.fieldLink RX0 33 "GoneOverboard$Ahead" "looks" "I", Cond.methodLink RX0 37 yX1_clear, Cond.instanceMethod yX1_clear, Cond.selects RX1 yX1_clear yX1_clear, Cond.code yX1_clear cX1_clear 1 none, Cond.constantLong RX1 7 (-1), Cond.fieldLink RX1 9 "GoneOverboard$Best" "found" "J", Cond.fieldLink RX1 15 "GoneOverboard$Best" "row" "I", Cond.methodLink RX0 40 yX5_put, Cond.methodLink RX0 44 yX0_tryLook]
def wsL_law_r23 : List Cond := [Cond.instanceMethod yX0_tryLook, Cond.selects RX0 yX0_tryLook yX0_tryLook, Cond.code yX0_tryLook cX0_tryLook 14 none, Cond.constantLong RX0 56 (100), Cond.constantLong RX0 64 (10), Cond.methodLink RX0 52 yX5_at, Cond.methodLink RX0 58 yX4_foundNow, Cond.methodLink RX0 66 yX1_offer, Cond.instanceMethod yX1_offer, Cond.selects RX1 yX1_offer yX1_offer, Cond.code yX1_offer cX1_offer 4 none, Cond.methodLink RX0 70 yX4_copy, Cond.methodLink RX0 74 yX4_act, Cond.methodLink RX8 166 yX0_likelier, Cond.instanceMethod yX0_likelier, Cond.selects RX0 yX0_likelier yX0_likelier, Cond.code yX0_likelier cX0_likelier 1 (some (.object "GoneOverboard$Best")), Cond.methodLink RL 70 yX9_best, Cond.instanceMethod yX9_best, Cond.selects RX9 yX9_best yX9_best, Cond.code yX9_best cX9_best 3 (some .long), Cond.methodLink RX9 195 yX9_bestBy, Cond.instanceMethod yX9_bestBy, Cond.selects RX9 yX9_bestBy yX9_bestBy]
def wsL_law_r24 : List Cond := [Cond.code yX9_bestBy cX9_bestBy 10 (some .long), Cond.constantLong RX9 190 (-1), Cond.fieldLink RX9 192 "GoneOverboardModel" "foundRow" "I", Cond.methodLink RL 71 yX8_bestRow, Cond.instanceMethod yX8_bestRow, Cond.selects RX8 yX8_bestRow yX8_bestRow, Cond.code yX8_bestRow cX8_bestRow 2 (some .int), Cond.methodLink RL 74 yX9_bestRow, Cond.instanceMethod yX9_bestRow, Cond.selects RX9 yX9_bestRow yX9_bestRow, Cond.code yX9_bestRow cX9_bestRow 2 (some .int), Cond.methodLink RL 75 yX8_soon, Cond.instanceMethod yX8_soon, Cond.selects RX8 yX8_soon yX8_soon, Cond.code yX8_soon cX8_soon 3 (some .int), Cond.methodLink RL 78 yX9_soon, Cond.instanceMethod yX9_soon, Cond.selects RX9 yX9_soon yX9_soon, Cond.code yX9_soon cX9_soon 3 (some .int), Cond.methodLink RL 79 yX8_first, Cond.instanceMethod yX8_first, Cond.selects RX8 yX8_first yX8_first, Cond.code yX8_first cX8_first 3 (some .long), Cond.methodLink RL 82 yX9_first]
def wsL_law_r25 : List Cond := [Cond.instanceMethod yX9_first, Cond.selects RX9 yX9_first yX9_first, Cond.code yX9_first cX9_first 3 (some .long), Cond.methodLink RL 83 yX8_withSecond, Cond.instanceMethod yX8_withSecond, Cond.selects RX8 yX8_withSecond yX8_withSecond, Cond.code yX8_withSecond cX8_withSecond 3 (some .long), Cond.constantLong RX8 197 (1000), Cond.methodLink RX8 191 yX0_tryTogether, Cond.instanceMethod yX0_tryTogether, Cond.selects RX0 yX0_tryTogether yX0_tryTogether, Cond.code yX0_tryTogether cX0_tryTogether 4 none, Cond.methodLink RX0 83 yX0_tryBoth, Cond.instanceMethod yX0_tryBoth, Cond.selects RX0 yX0_tryBoth yX0_tryBoth, Cond.code yX0_tryBoth cX0_tryBoth 14 none, Cond.constantLong RX0 107 (1000), Cond.methodLink RX0 97 yX4_lookBy, Cond.methodLink RX0 103 yX4_lessen, Cond.methodLink RX0 109 yX4_together, Cond.methodLink RX0 113 yX4_pass, Cond.methodLink RL 86 yX9_withSecond, Cond.instanceMethod yX9_withSecond, Cond.selects RX9 yX9_withSecond yX9_withSecond]
def wsL_law_r26 : List Cond := [Cond.code yX9_withSecond cX9_withSecond 8 (some .long), Cond.methodLink RX9 204 yX9_foundByTwo, Cond.instanceMethod yX9_foundByTwo, Cond.selects RX9 yX9_foundByTwo yX9_foundByTwo, Cond.code yX9_foundByTwo cX9_foundByTwo 12 (some .long), Cond.constantLong RX9 198 (1000), Cond.methodLink RX9 200 yX9_lookTwice, Cond.instanceMethod yX9_lookTwice, Cond.selects RX9 yX9_lookTwice yX9_lookTwice, Cond.code yX9_lookTwice cX9_lookTwice 6 (some .long), Cond.methodLink RL 87 yX8_lanes, Cond.instanceMethod yX8_lanes, Cond.selects RX8 yX8_lanes yX8_lanes, Cond.code yX8_lanes cX8_lanes 4 (some .int), Cond.methodLink RL 90 yX9_lanes, Cond.instanceMethod yX9_lanes, Cond.selects RX9 yX9_lanes yX9_lanes, Cond.code yX9_lanes cX9_lanes 6 (some .int), Cond.methodLink RL 91 yX8_judge, Cond.instanceMethod yX8_judge, Cond.selects RX8 yX8_judge yX8_judge, Cond.code yX8_judge cX8_judge 5 (some .int), Cond.methodLink RX8 216 yX4_placeBy, Cond.methodLink RL 95 yX9_judge]
def wsL_law_r27 : List Cond := [Cond.instanceMethod yX9_judge, Cond.selects RX9 yX9_judge yX9_judge, Cond.code yX9_judge cX9_judge 7 (some .int), Cond.constantLong RX9 207 (8), Cond.methodLink RL 96 yX8_said, Cond.instanceMethod yX8_said, Cond.selects RX8 yX8_said yX8_said, Cond.code yX8_said cX8_said 3 (some .int), Cond.methodLink RX8 219 yX4_lowOf, Cond.methodLink RX8 222 yX4_highOf, Cond.methodLink RX8 225 yX7_partsFrom, Cond.methodLink RL 99 yX9_said, Cond.instanceMethod yX9_said, Cond.selects RX9 yX9_said yX9_said, Cond.code yX9_said cX9_said 3 (some .int), Cond.methodLink RX9 209 yX9_partsIn, Cond.instanceMethod yX9_partsIn, Cond.selects RX9 yX9_partsIn yX9_partsIn, Cond.code yX9_partsIn cX9_partsIn 5 (some .int), Cond.methodLink RL 100 yX8_trust, Cond.instanceMethod yX8_trust, Cond.selects RX8 yX8_trust yX8_trust, Cond.code yX8_trust cX8_trust 8 (some .long), Cond.methodLink RL 104 yX9_trust]
def wsL_law_r28 : List Cond := [Cond.instanceMethod yX9_trust, Cond.selects RX9 yX9_trust yX9_trust, Cond.code yX9_trust cX9_trust 7 (some .long), Cond.methodLink RL 107 yX8_seed, Cond.instanceMethod yX8_seed, Cond.selects RX8 yX8_seed yX8_seed, Cond.code yX8_seed cX8_seed 5 (some .long), Cond.methodLink RL 111 yX9_seed, Cond.instanceMethod yX9_seed, Cond.selects RX9 yX9_seed yX9_seed, Cond.code yX9_seed cX9_seed 5 (some .long), Cond.fieldLink RX9 212 "GoneOverboardModel" "seed" "J", Cond.methodLink RL 112 yX8_trials, Cond.instanceMethod yX8_trials, Cond.selects RX8 yX8_trials yX8_trials, Cond.code yX8_trials cX8_trials 6 (some .int), Cond.methodLink RX8 231 yX8_isFound, Cond.instanceMethod yX8_isFound, Cond.selects RX8 yX8_isFound yX8_isFound, Cond.code yX8_isFound cX8_isFound 9 (some .boolean), Cond.methodLink RX8 259 yX2_below, Cond.instanceMethod yX2_below, Cond.selects RX2 yX2_below yX2_below, Cond.code yX2_below cX2_below 2 (some .int)]
def wsL_law_r29 : List Cond := [Cond.fieldLink RX2 7 "GoneOverboard$Draws" "state" "J", Cond.constantLong RX2 13 (6364136223846793005), Cond.constantLong RX2 15 (1442695040888963407), Cond.methodLink RX8 262 yX7_placeOfPart, Cond.instanceMethod yX7_placeOfPart, Cond.selects RX7 yX7_placeOfPart yX7_placeOfPart, Cond.code yX7_placeOfPart cX7_placeOfPart 4 (some .int), Cond.methodLink RX8 267 yX8_moved, Cond.methodLink RX8 270 yX7_chanceAt, Cond.methodLink RX8 273 yX7_drifted, Cond.instanceMethod yX7_drifted, Cond.selects RX7 yX7_drifted yX7_drifted, Cond.code yX7_drifted cX7_drifted 3 (some .int), Cond.methodLink RL 115 yX9_trials, Cond.instanceMethod yX9_trials, Cond.selects RX9 yX9_trials yX9_trials, Cond.code yX9_trials cX9_trials 6 (some .int), Cond.constantLong RX9 223 (30), Cond.methodLink RX9 225 yX9_isFound, Cond.instanceMethod yX9_isFound, Cond.selects RX9 yX9_isFound yX9_isFound, Cond.code yX9_isFound cX9_isFound 10 (some .boolean), Cond.methodLink RX9 220 yX9_drawn, Cond.instanceMethod yX9_drawn]
def wsL_law_r30 : List Cond := [Cond.selects RX9 yX9_drawn yX9_drawn, Cond.code yX9_drawn cX9_drawn 2 (some .int), Cond.constantLong RX9 216 (6364136223846793005), Cond.constantLong RX9 218 (1442695040888963407), Cond.methodLink RL 116 yX8_keep, Cond.instanceMethod yX8_keep, Cond.selects RX8 yX8_keep yX8_keep, Cond.code yX8_keep cX8_keep 2 (some .int), Cond.methodLink RL 119 yX9_keep, Cond.instanceMethod yX9_keep, Cond.selects RX9 yX9_keep yX9_keep, Cond.code yX9_keep cX9_keep 3 (some .int), Cond.methodLink RL 120 yX8_again, Cond.instanceMethod yX8_again, Cond.selects RX8 yX8_again yX8_again, Cond.code yX8_again cX8_again 2 (some .int), Cond.methodLink RL 123 yX9_again, Cond.instanceMethod yX9_again, Cond.selects RX9 yX9_again yX9_again, Cond.code yX9_again cX9_again 3 (some .int), Cond.methodLink RL 124 yX8_count, Cond.instanceMethod yX8_count, Cond.selects RX8 yX8_count yX8_count, Cond.code yX8_count cX8_count 2 (some .int)]
def wsL_law_r31 : List Cond := [Cond.methodLink RX8 237 yX6_size, Cond.methodLink RX8 252 yX4_cellBits, Cond.instanceMethod yX4_cellBits, Cond.selects RX4 yX4_cellBits yX4_cellBits, Cond.code yX4_cellBits cX4_cellBits 3 (some .int), Cond.methodLink RL 127 yX9_count, Cond.instanceMethod yX9_count, Cond.selects RX9 yX9_count yX9_count, Cond.code yX9_count cX9_count 4 (some .int)]
def wsL_law : List Cond := (wsL_law_r1 ++ (wsL_law_r2 ++ (wsL_law_r3 ++ (wsL_law_r4 ++ (wsL_law_r5 ++ (wsL_law_r6 ++ (wsL_law_r7 ++ (wsL_law_r8 ++ (wsL_law_r9 ++ (wsL_law_r10 ++ (wsL_law_r11 ++ (wsL_law_r12 ++ (wsL_law_r13 ++ (wsL_law_r14 ++ (wsL_law_r15 ++ (wsL_law_r16 ++ (wsL_law_r17 ++ (wsL_law_r18 ++ (wsL_law_r19 ++ (wsL_law_r20 ++ (wsL_law_r21 ++ (wsL_law_r22 ++ (wsL_law_r23 ++ (wsL_law_r24 ++ (wsL_law_r25 ++ (wsL_law_r26 ++ (wsL_law_r27 ++ (wsL_law_r28 ++ (wsL_law_r29 ++ (wsL_law_r30 ++ wsL_law_r31)))))))))))))))))))))))))))))) ++ wsX80 ++ wsX90 ++ wsX60 ++ wsX70 ++ wsX40 ++ wsX50 ++ wsX00 ++ wsX20 ++ wsX10 ++ ([] : List Cond)
set_option maxRecDepth 20000 in
theorem wsL_law_in : ∀ w ∈ wsL_law, w ∈ lw_tbl := fun w h => (goodIn_p wsL_law [48, 51, 56, 82, 130, 160, 164, 176, 184, 219, 630, 260, 263, 267, 271, 724, 728, 275, 279, 732, 283, 287, 291, 295, 299, 303, 307, 311, 736, 740, 744, 748, 752, 756, 315, 319, 324, 328, 332, 337, 341, 345, 349, 761, 765, 355, 359, 363, 367, 371, 375, 379, 383, 387, 391, 395, 398, 401, 406, 410, 415, 769, 774, 777, 781, 785, 419, 790, 423, 426, 430, 794, 797, 436, 440, 802, 444, 806, 450, 454, 458, 461, 464, 811, 815, 819, 468, 823, 472, 475, 479, 482, 486, 490, 496, 827, 830, 834, 838, 842, 846, 851, 854, 500, 504, 508, 514, 522, 528, 858, 862, 532, 867, 536, 871, 540, 875, 544, 548, 552, 879, 883, 888, 563, 892, 567, 896, 572, 901, 905, 579, 909, 583, 913, 587, 591, 595, 601, 607, 917, 922, 926, 612, 932, 616, 936, 620, 625, 940] (by decide +kernel) (by decide +kernel) w h).1
theorem inlX0 : ∀ w ∈ wsX00, w ∈ wsL_law := fun _ h => List.mem_append_left _ (List.mem_append_left _ (List.mem_append_left _ (List.mem_append_right _ h)))
theorem inX0 : ∀ w ∈ wsX00, w ∈ lw_tbl := fun w h => wsL_law_in w (inlX0 w h)
theorem inlX1 : ∀ w ∈ wsX10, w ∈ wsL_law := fun _ h => List.mem_append_left _ (List.mem_append_right _ h)
theorem inX1 : ∀ w ∈ wsX10, w ∈ lw_tbl := fun w h => wsL_law_in w (inlX1 w h)
theorem inlX2 : ∀ w ∈ wsX20, w ∈ wsL_law := fun _ h => List.mem_append_left _ (List.mem_append_left _ (List.mem_append_right _ h))
theorem inX2 : ∀ w ∈ wsX20, w ∈ lw_tbl := fun w h => wsL_law_in w (inlX2 w h)
theorem inX3 : ∀ w ∈ wsX30, w ∈ lw_tbl := by decide +kernel
theorem inlX4 : ∀ w ∈ wsX40, w ∈ wsL_law := fun _ h => List.mem_append_left _ (List.mem_append_left _ (List.mem_append_left _ (List.mem_append_left _ (List.mem_append_left _ (List.mem_append_right _ h)))))
theorem inX4 : ∀ w ∈ wsX40, w ∈ lw_tbl := fun w h => wsL_law_in w (inlX4 w h)
theorem inlX5 : ∀ w ∈ wsX50, w ∈ wsL_law := fun _ h => List.mem_append_left _ (List.mem_append_left _ (List.mem_append_left _ (List.mem_append_left _ (List.mem_append_right _ h))))
theorem inX5 : ∀ w ∈ wsX50, w ∈ lw_tbl := fun w h => wsL_law_in w (inlX5 w h)
theorem inlX6 : ∀ w ∈ wsX60, w ∈ wsL_law := fun _ h => List.mem_append_left _ (List.mem_append_left _ (List.mem_append_left _ (List.mem_append_left _ (List.mem_append_left _ (List.mem_append_left _ (List.mem_append_left _ (List.mem_append_right _ h)))))))
theorem inX6 : ∀ w ∈ wsX60, w ∈ lw_tbl := fun w h => wsL_law_in w (inlX6 w h)
theorem inlX7 : ∀ w ∈ wsX70, w ∈ wsL_law := fun _ h => List.mem_append_left _ (List.mem_append_left _ (List.mem_append_left _ (List.mem_append_left _ (List.mem_append_left _ (List.mem_append_left _ (List.mem_append_right _ h))))))
theorem inX7 : ∀ w ∈ wsX70, w ∈ lw_tbl := fun w h => wsL_law_in w (inlX7 w h)
theorem inlX8 : ∀ w ∈ wsX80, w ∈ wsL_law := fun _ h => List.mem_append_left _ (List.mem_append_left _ (List.mem_append_left _ (List.mem_append_left _ (List.mem_append_left _ (List.mem_append_left _ (List.mem_append_left _ (List.mem_append_left _ (List.mem_append_left _ (List.mem_append_right _ h)))))))))
theorem inX8 : ∀ w ∈ wsX80, w ∈ lw_tbl := fun w h => wsL_law_in w (inlX8 w h)
theorem inlX9 : ∀ w ∈ wsX90, w ∈ wsL_law := fun _ h => List.mem_append_left _ (List.mem_append_left _ (List.mem_append_left _ (List.mem_append_left _ (List.mem_append_left _ (List.mem_append_left _ (List.mem_append_left _ (List.mem_append_left _ (List.mem_append_right _ h))))))))
theorem inX9 : ∀ w ∈ wsX90, w ∈ lw_tbl := fun w h => wsL_law_in w (inlX9 w h)
theorem inJ9 : ∀ w ∈ wsJ90, w ∈ lw_tbl := by decide +kernel
set_option maxRecDepth 20000 in
theorem ggX0_init_X5_init : GoodIn wsX0_init wsX5_init := goodIn_r _ [16, 17, 2, 3, 18, 19, 20, 21, 22, 23, 24, 25, 26, 27, 28, 29, 30, 31, 32, 33, 34, 38, 46, 47, 48, 49, 50, 51] (by decide +kernel) (by decide +kernel)
set_option maxRecDepth 20000 in
theorem gX0_init_X5_init : GoodIn wsX0_init (wsX5_init) := ggX0_init_X5_init
set_option maxRecDepth 20000 in
theorem ggX0_init_X1_init : GoodIn wsX0_init wsX1_init := goodIn_r _ [36, 37, 2, 3] (by decide +kernel) (by decide +kernel)
set_option maxRecDepth 20000 in
theorem gX0_init_X1_init_n22 : GoodIn wsX0_init (wsX1_init) := ggX0_init_X1_init
theorem dX0_init_0 : decode cX0_init 0 = .ok (.aload_n 0, 1) := by decide +kernel
theorem dX0_init_1 : decode cX0_init 1 = .ok (.invokespecial 3, 3) := by decide +kernel
theorem dX0_init_4 : decode cX0_init 4 = .ok (.aload_n 0, 1) := by decide +kernel
theorem dX0_init_5 : decode cX0_init 5 = .ok (.new 9, 3) := by decide +kernel
theorem dX0_init_8 : decode cX0_init 8 = .ok (.dup, 1) := by decide +kernel
theorem dX0_init_9 : decode cX0_init 9 = .ok (.iconst 4, 1) := by decide +kernel
theorem dX0_init_10 : decode cX0_init 10 = .ok (.invokespecial 11, 3) := by decide +kernel
theorem dX0_init_13 : decode cX0_init 13 = .ok (.putfield 14, 3) := by decide +kernel
theorem dX0_init_16 : decode cX0_init 16 = .ok (.aload_n 0, 1) := by decide +kernel
theorem dX0_init_17 : decode cX0_init 17 = .ok (.new 20, 3) := by decide +kernel
theorem dX0_init_20 : decode cX0_init 20 = .ok (.dup, 1) := by decide +kernel
theorem dX0_init_21 : decode cX0_init 21 = .ok (.invokespecial 22, 3) := by decide +kernel
theorem dX0_init_24 : decode cX0_init 24 = .ok (.putfield 23, 3) := by decide +kernel
theorem dX0_init_27 : decode cX0_init 27 = .ok (.aload_n 0, 1) := by decide +kernel
theorem dX0_init_28 : decode cX0_init 28 = .ok (.new 20, 3) := by decide +kernel
theorem dX0_init_31 : decode cX0_init 31 = .ok (.dup, 1) := by decide +kernel
theorem dX0_init_32 : decode cX0_init 32 = .ok (.invokespecial 22, 3) := by decide +kernel
theorem dX0_init_35 : decode cX0_init 35 = .ok (.putfield 27, 3) := by decide +kernel
theorem dX0_init_38 : decode cX0_init 38 = .ok (.aload_n 0, 1) := by decide +kernel
theorem dX0_init_39 : decode cX0_init 39 = .ok (.new 20, 3) := by decide +kernel
theorem dX0_init_42 : decode cX0_init 42 = .ok (.dup, 1) := by decide +kernel
theorem dX0_init_43 : decode cX0_init 43 = .ok (.invokespecial 22, 3) := by decide +kernel
theorem dX0_init_46 : decode cX0_init 46 = .ok (.putfield 30, 3) := by decide +kernel
theorem dX0_init_49 : decode cX0_init 49 = .ok (.return_, 1) := by decide +kernel
set_option maxRecDepth 20000 in
theorem ggX0_tryAll_X1_clear : GoodIn wsX0_tryAll wsX1_clear := goodIn_r _ [9, 10, 11, 12, 106, 107] (by decide +kernel) (by decide +kernel)
set_option maxRecDepth 20000 in
theorem gX0_tryAll_X1_clear : GoodIn wsX0_tryAll (wsV RX0 37 RX1 yX1_clear wsX1_clear) := goodIn_app (goodIn_of _ (by decide +kernel)) ggX0_tryAll_X1_clear
set_option maxRecDepth 20000 in
theorem ggX0_tryAll_X5_put : GoodIn wsX0_tryAll wsX5_put := goodIn_r _ [17, 18, 19, 20, 16, 21, 22, 23, 24, 25, 26, 27, 28, 29, 30, 31, 32, 33, 34, 35, 36, 37, 38, 39, 40, 41, 42, 43, 44, 45, 108, 109, 110, 111, 112, 113, 114] (by decide +kernel) (by decide +kernel)
set_option maxRecDepth 20000 in
theorem gX0_tryAll_X5_put : GoodIn wsX0_tryAll (wsV RX0 40 RX5 yX5_put wsX5_put) := goodIn_app (goodIn_of _ (by decide +kernel)) ggX0_tryAll_X5_put
set_option maxRecDepth 20000 in
theorem ggX0_tryAll_X0_tryLook : GoodIn wsX0_tryAll wsX0_tryLook := goodIn_r _ [50, 4, 1, 51, 52, 53, 19, 20, 16, 21, 22, 54, 55, 56, 26, 57, 58, 59, 60, 61, 31, 62, 63, 64, 65, 66, 67, 68, 69, 70, 71, 34, 35, 36, 37, 28, 72, 73, 74, 75, 76, 77, 78, 79, 80, 81, 8, 82, 11, 12, 83, 24, 25, 27, 29, 30, 32, 33, 38, 39, 40, 41, 42, 43, 44, 45, 84, 85, 86, 87, 88, 89, 90, 91, 92, 93, 94, 95, 96, 97, 98, 99, 100, 46, 47, 48, 49, 101, 102, 103, 104, 105, 108, 109, 110, 111, 112, 113, 114, 115, 116, 117, 118, 119, 120, 121, 122, 123, 106, 107] (by decide +kernel) (by decide +kernel)
set_option maxRecDepth 20000 in
theorem gX0_tryAll_X0_tryLook : GoodIn wsX0_tryAll (wsV RX0 44 RX0 yX0_tryLook wsX0_tryLook) := goodIn_app (goodIn_of _ (by decide +kernel)) ggX0_tryAll_X0_tryLook
theorem dX0_tryAll_0 : decode cX0_tryAll 0 = .ok (.aload_n 0, 1) := by decide +kernel
theorem dX0_tryAll_1 : decode cX0_tryAll 1 = .ok (.iload_n 3, 1) := by decide +kernel
theorem dX0_tryAll_2 : decode cX0_tryAll 2 = .ok (.putfield 33, 3) := by decide +kernel
theorem dX0_tryAll_5 : decode cX0_tryAll 5 = .ok (.aload_n 0, 1) := by decide +kernel
theorem dX0_tryAll_6 : decode cX0_tryAll 6 = .ok (.getfield 23, 3) := by decide +kernel
theorem dX0_tryAll_9 : decode cX0_tryAll 9 = .ok (.invokevirtual 37, 3) := by decide +kernel
theorem dX0_tryAll_12 : decode cX0_tryAll 12 = .ok (.aload_n 0, 1) := by decide +kernel
theorem dX0_tryAll_13 : decode cX0_tryAll 13 = .ok (.getfield 27, 3) := by decide +kernel
theorem dX0_tryAll_16 : decode cX0_tryAll 16 = .ok (.invokevirtual 37, 3) := by decide +kernel
theorem dX0_tryAll_19 : decode cX0_tryAll 19 = .ok (.aload_n 0, 1) := by decide +kernel
theorem dX0_tryAll_20 : decode cX0_tryAll 20 = .ok (.getfield 14, 3) := by decide +kernel
theorem dX0_tryAll_23 : decode cX0_tryAll 23 = .ok (.iconst 0, 1) := by decide +kernel
theorem dX0_tryAll_24 : decode cX0_tryAll 24 = .ok (.aload_n 2, 1) := by decide +kernel
theorem dX0_tryAll_25 : decode cX0_tryAll 25 = .ok (.invokevirtual 40, 3) := by decide +kernel
theorem dX0_tryAll_28 : decode cX0_tryAll 28 = .ok (.iconst 0, 1) := by decide +kernel
theorem dX0_tryAll_29 : decode cX0_tryAll 29 = .ok (.istore 4, 2) := by decide +kernel
theorem dX0_tryAll_31 : decode cX0_tryAll 31 = .ok (.iload 4, 2) := by decide +kernel
theorem dX0_tryAll_33 : decode cX0_tryAll 33 = .ok (.iconst 3, 1) := by decide +kernel
theorem dX0_tryAll_34 : decode cX0_tryAll 34 = .ok (.if_icmp .gt 36, 3) := by decide +kernel
theorem dX0_tryAll_37 : decode cX0_tryAll 37 = .ok (.aload_n 0, 1) := by decide +kernel
theorem dX0_tryAll_38 : decode cX0_tryAll 38 = .ok (.aload_n 1, 1) := by decide +kernel
theorem dX0_tryAll_39 : decode cX0_tryAll 39 = .ok (.iconst 0, 1) := by decide +kernel
theorem dX0_tryAll_40 : decode cX0_tryAll 40 = .ok (.iload 4, 2) := by decide +kernel
theorem dX0_tryAll_42 : decode cX0_tryAll 42 = .ok (.iconst 0, 1) := by decide +kernel
theorem dX0_tryAll_43 : decode cX0_tryAll 43 = .ok (.lconst 0, 1) := by decide +kernel
theorem dX0_tryAll_44 : decode cX0_tryAll 44 = .ok (.iload 4, 2) := by decide +kernel
theorem dX0_tryAll_46 : decode cX0_tryAll 46 = .ok (.iconst 3, 1) := by decide +kernel
theorem dX0_tryAll_47 : decode cX0_tryAll 47 = .ok (.if_icmp .ne 10, 3) := by decide +kernel
theorem dX0_tryAll_50 : decode cX0_tryAll 50 = .ok (.aload_n 0, 1) := by decide +kernel
theorem dX0_tryAll_51 : decode cX0_tryAll 51 = .ok (.getfield 27, 3) := by decide +kernel
theorem dX0_tryAll_54 : decode cX0_tryAll 54 = .ok (.goto 7, 3) := by decide +kernel
theorem dX0_tryAll_57 : decode cX0_tryAll 57 = .ok (.aload_n 0, 1) := by decide +kernel
theorem dX0_tryAll_58 : decode cX0_tryAll 58 = .ok (.getfield 23, 3) := by decide +kernel
theorem dX0_tryAll_61 : decode cX0_tryAll 61 = .ok (.invokevirtual 44, 3) := by decide +kernel
theorem dX0_tryAll_64 : decode cX0_tryAll 64 = .ok (.iinc 4 1, 3) := by decide +kernel
theorem dX0_tryAll_67 : decode cX0_tryAll 67 = .ok (.goto (-36), 3) := by decide +kernel
theorem dX0_tryAll_70 : decode cX0_tryAll 70 = .ok (.return_, 1) := by decide +kernel
theorem dX0_likelier_0 : decode cX0_likelier 0 = .ok (.aload_n 0, 1) := by decide +kernel
theorem dX0_likelier_1 : decode cX0_likelier 1 = .ok (.getfield 27, 3) := by decide +kernel
theorem dX0_likelier_4 : decode cX0_likelier 4 = .ok (.getfield 48, 3) := by decide +kernel
theorem dX0_likelier_7 : decode cX0_likelier 7 = .ok (.aload_n 0, 1) := by decide +kernel
theorem dX0_likelier_8 : decode cX0_likelier 8 = .ok (.getfield 23, 3) := by decide +kernel
theorem dX0_likelier_11 : decode cX0_likelier 11 = .ok (.getfield 48, 3) := by decide +kernel
theorem dX0_likelier_14 : decode cX0_likelier 14 = .ok (.lcmp, 1) := by decide +kernel
theorem dX0_likelier_15 : decode cX0_likelier 15 = .ok (.ifCond .le 10, 3) := by decide +kernel
theorem dX0_likelier_18 : decode cX0_likelier 18 = .ok (.aload_n 0, 1) := by decide +kernel
theorem dX0_likelier_19 : decode cX0_likelier 19 = .ok (.getfield 27, 3) := by decide +kernel
theorem dX0_likelier_22 : decode cX0_likelier 22 = .ok (.goto 7, 3) := by decide +kernel
theorem dX0_likelier_25 : decode cX0_likelier 25 = .ok (.aload_n 0, 1) := by decide +kernel
theorem dX0_likelier_26 : decode cX0_likelier 26 = .ok (.getfield 23, 3) := by decide +kernel
theorem dX0_likelier_29 : decode cX0_likelier 29 = .ok (.areturn, 1) := by decide +kernel
set_option maxRecDepth 20000 in
theorem ggX0_tryLook_X5_at : GoodIn wsX0_tryLook wsX5_at := goodIn_r _ [9, 10, 92] (by decide +kernel) (by decide +kernel)
set_option maxRecDepth 20000 in
theorem gX0_tryLook_X5_at : GoodIn wsX0_tryLook (wsV RX0 52 RX5 yX5_at wsX5_at) := goodIn_app (goodIn_of _ (by decide +kernel)) ggX0_tryLook_X5_at
set_option maxRecDepth 20000 in
theorem ggX0_tryLook_X4_foundNow : GoodIn wsX0_tryLook wsX4_foundNow := goodIn_r _ [15, 16, 17, 18, 14, 19, 20, 21, 22, 23, 24, 25, 26, 27, 28, 29, 30, 31, 32, 33, 34, 35, 36, 37, 38, 39, 40, 41, 42, 93, 94, 95, 96, 97, 98, 99, 100, 101, 102, 103, 104, 105, 106, 107] (by decide +kernel) (by decide +kernel)
set_option maxRecDepth 20000 in
theorem gX0_tryLook_X4_foundNow : GoodIn wsX0_tryLook (wsV RX0 58 RX4 yX4_foundNow wsX4_foundNow) := goodIn_app (goodIn_of _ (by decide +kernel)) ggX0_tryLook_X4_foundNow
set_option maxRecDepth 20000 in
theorem ggX0_tryLook_X1_offer : GoodIn wsX0_tryLook wsX1_offer := goodIn_r _ [47, 48, 49, 108, 109] (by decide +kernel) (by decide +kernel)
set_option maxRecDepth 20000 in
theorem gX0_tryLook_X1_offer : GoodIn wsX0_tryLook (wsV RX0 66 RX1 yX1_offer wsX1_offer) := goodIn_app (goodIn_of _ (by decide +kernel)) ggX0_tryLook_X1_offer
set_option maxRecDepth 20000 in
theorem ggX0_tryLook_X4_copy : GoodIn wsX0_tryLook wsX4_copy := goodIn_r _ [53, 35, 54, 55, 20, 56, 57, 31, 32, 33, 14, 34, 58, 59, 60, 61, 62, 63, 64, 65, 93, 94, 95, 96, 97, 98] (by decide +kernel) (by decide +kernel)
set_option maxRecDepth 20000 in
theorem gX0_tryLook_X4_copy : GoodIn wsX0_tryLook (wsV RX0 70 RX4 yX4_copy wsX4_copy) := goodIn_app (goodIn_of _ (by decide +kernel)) ggX0_tryLook_X4_copy
set_option maxRecDepth 20000 in
theorem ggX0_tryLook_X4_act : GoodIn wsX0_tryLook wsX4_act := goodIn_r _ [69, 70, 71, 72, 14, 73, 20, 16, 17, 18, 19, 21, 22, 23, 24, 25, 26, 27, 28, 29, 30, 36, 37, 38, 39, 40, 41, 42, 74, 75, 76, 77, 35, 78, 79, 80, 81, 82, 56, 31, 32, 33, 34, 93, 94, 95, 96, 97, 98, 99, 100, 101, 102, 103, 104, 105, 106, 107] (by decide +kernel) (by decide +kernel)
set_option maxRecDepth 20000 in
theorem gX0_tryLook_X4_act : GoodIn wsX0_tryLook (wsV RX0 74 RX4 yX4_act wsX4_act) := goodIn_app (goodIn_of _ (by decide +kernel)) ggX0_tryLook_X4_act
set_option maxRecDepth 20000 in
theorem ggX0_tryLook_X0_tryLook : GoodIn wsX0_tryLook wsX0_tryLook := goodIn_r _ [0, 1, 2, 3, 4, 5, 6, 7, 8, 9, 10, 11, 12, 13, 14, 15, 16, 17, 18, 19, 20, 21, 22, 23, 24, 25, 26, 27, 28, 29, 30, 31, 32, 33, 34, 35, 36, 37, 38, 39, 40, 41, 42, 43, 44, 45, 46, 47, 48, 49, 50, 51, 52, 53, 54, 55, 56, 57, 58, 59, 60, 61, 62, 63, 64, 65, 66, 67, 68, 69, 70, 71, 72, 73, 74, 75, 76, 77, 78, 79, 80, 81, 82, 83, 84, 85, 86, 87, 88, 89, 90, 91, 92, 93, 94, 95, 96, 97, 98, 99, 100, 101, 102, 103, 104, 105, 106, 107, 108, 109] (by decide +kernel) (by decide +kernel)
set_option maxRecDepth 20000 in
theorem gX0_tryLook_X0_tryLook : GoodIn wsX0_tryLook (wsV RX0 44 RX0 yX0_tryLook wsX0_tryLook) := goodIn_app (goodIn_of _ (by decide +kernel)) ggX0_tryLook_X0_tryLook
theorem dX0_tryLook_0 : decode cX0_tryLook 0 = .ok (.aload_n 0, 1) := by decide +kernel
theorem dX0_tryLook_1 : decode cX0_tryLook 1 = .ok (.getfield 14, 3) := by decide +kernel
theorem dX0_tryLook_4 : decode cX0_tryLook 4 = .ok (.iload_n 2, 1) := by decide +kernel
theorem dX0_tryLook_5 : decode cX0_tryLook 5 = .ok (.invokevirtual 52, 3) := by decide +kernel
theorem dX0_tryLook_8 : decode cX0_tryLook 8 = .ok (.astore 8, 2) := by decide +kernel
theorem dX0_tryLook_10 : decode cX0_tryLook 10 = .ok (.aload 8, 2) := by decide +kernel
theorem dX0_tryLook_12 : decode cX0_tryLook 12 = .ok (.ifnull 11, 3) := by decide +kernel
theorem dX0_tryLook_15 : decode cX0_tryLook 15 = .ok (.iload_n 2, 1) := by decide +kernel
theorem dX0_tryLook_16 : decode cX0_tryLook 16 = .ok (.aload_n 0, 1) := by decide +kernel
theorem dX0_tryLook_17 : decode cX0_tryLook 17 = .ok (.getfield 33, 3) := by decide +kernel
theorem dX0_tryLook_20 : decode cX0_tryLook 20 = .ok (.if_icmp .lt 4, 3) := by decide +kernel
theorem dX0_tryLook_23 : decode cX0_tryLook 23 = .ok (.return_, 1) := by decide +kernel
theorem dX0_tryLook_24 : decode cX0_tryLook 24 = .ok (.iload 4, 2) := by decide +kernel
theorem dX0_tryLook_26 : decode cX0_tryLook 26 = .ok (.bipush 10, 2) := by decide +kernel
theorem dX0_tryLook_28 : decode cX0_tryLook 28 = .ok (.imul, 1) := by decide +kernel
theorem dX0_tryLook_29 : decode cX0_tryLook 29 = .ok (.iload_n 3, 1) := by decide +kernel
theorem dX0_tryLook_30 : decode cX0_tryLook 30 = .ok (.iadd, 1) := by decide +kernel
theorem dX0_tryLook_31 : decode cX0_tryLook 31 = .ok (.istore 9, 2) := by decide +kernel
theorem dX0_tryLook_33 : decode cX0_tryLook 33 = .ok (.lload 5, 2) := by decide +kernel
theorem dX0_tryLook_35 : decode cX0_tryLook 35 = .ok (.ldc2_w 56, 3) := by decide +kernel
theorem dX0_tryLook_38 : decode cX0_tryLook 38 = .ok (.lmul, 1) := by decide +kernel
theorem dX0_tryLook_39 : decode cX0_tryLook 39 = .ok (.aload 8, 2) := by decide +kernel
theorem dX0_tryLook_41 : decode cX0_tryLook 41 = .ok (.aload_n 1, 1) := by decide +kernel
theorem dX0_tryLook_42 : decode cX0_tryLook 42 = .ok (.iload_n 3, 1) := by decide +kernel
theorem dX0_tryLook_43 : decode cX0_tryLook 43 = .ok (.invokevirtual 58, 3) := by decide +kernel
theorem dX0_tryLook_46 : decode cX0_tryLook 46 = .ok (.ldc2_w 64, 3) := by decide +kernel
theorem dX0_tryLook_49 : decode cX0_tryLook 49 = .ok (.lmul, 1) := by decide +kernel
theorem dX0_tryLook_50 : decode cX0_tryLook 50 = .ok (.ladd, 1) := by decide +kernel
theorem dX0_tryLook_51 : decode cX0_tryLook 51 = .ok (.lstore 10, 2) := by decide +kernel
theorem dX0_tryLook_53 : decode cX0_tryLook 53 = .ok (.iload_n 2, 1) := by decide +kernel
theorem dX0_tryLook_54 : decode cX0_tryLook 54 = .ok (.iconst 1, 1) := by decide +kernel
theorem dX0_tryLook_55 : decode cX0_tryLook 55 = .ok (.iadd, 1) := by decide +kernel
theorem dX0_tryLook_56 : decode cX0_tryLook 56 = .ok (.aload_n 0, 1) := by decide +kernel
theorem dX0_tryLook_57 : decode cX0_tryLook 57 = .ok (.getfield 33, 3) := by decide +kernel
theorem dX0_tryLook_60 : decode cX0_tryLook 60 = .ok (.if_icmp .ne 13, 3) := by decide +kernel
theorem dX0_tryLook_63 : decode cX0_tryLook 63 = .ok (.aload 7, 2) := by decide +kernel
theorem dX0_tryLook_65 : decode cX0_tryLook 65 = .ok (.lload 10, 2) := by decide +kernel
theorem dX0_tryLook_67 : decode cX0_tryLook 67 = .ok (.iload 9, 2) := by decide +kernel
theorem dX0_tryLook_69 : decode cX0_tryLook 69 = .ok (.invokevirtual 66, 3) := by decide +kernel
theorem dX0_tryLook_72 : decode cX0_tryLook 72 = .ok (.return_, 1) := by decide +kernel
theorem dX0_tryLook_73 : decode cX0_tryLook 73 = .ok (.aload_n 0, 1) := by decide +kernel
theorem dX0_tryLook_74 : decode cX0_tryLook 74 = .ok (.getfield 14, 3) := by decide +kernel
theorem dX0_tryLook_77 : decode cX0_tryLook 77 = .ok (.iload_n 2, 1) := by decide +kernel
theorem dX0_tryLook_78 : decode cX0_tryLook 78 = .ok (.iconst 1, 1) := by decide +kernel
theorem dX0_tryLook_79 : decode cX0_tryLook 79 = .ok (.iadd, 1) := by decide +kernel
theorem dX0_tryLook_80 : decode cX0_tryLook 80 = .ok (.invokevirtual 52, 3) := by decide +kernel
theorem dX0_tryLook_83 : decode cX0_tryLook 83 = .ok (.astore 12, 2) := by decide +kernel
theorem dX0_tryLook_85 : decode cX0_tryLook 85 = .ok (.aload 12, 2) := by decide +kernel
theorem dX0_tryLook_87 : decode cX0_tryLook 87 = .ok (.ifnonnull 4, 3) := by decide +kernel
theorem dX0_tryLook_90 : decode cX0_tryLook 90 = .ok (.return_, 1) := by decide +kernel
theorem dX0_tryLook_91 : decode cX0_tryLook 91 = .ok (.aload 12, 2) := by decide +kernel
theorem dX0_tryLook_93 : decode cX0_tryLook 93 = .ok (.aload 8, 2) := by decide +kernel
theorem dX0_tryLook_95 : decode cX0_tryLook 95 = .ok (.invokevirtual 70, 3) := by decide +kernel
theorem dX0_tryLook_98 : decode cX0_tryLook 98 = .ok (.aload 12, 2) := by decide +kernel
theorem dX0_tryLook_100 : decode cX0_tryLook 100 = .ok (.aload_n 1, 1) := by decide +kernel
theorem dX0_tryLook_101 : decode cX0_tryLook 101 = .ok (.iload_n 3, 1) := by decide +kernel
theorem dX0_tryLook_102 : decode cX0_tryLook 102 = .ok (.invokevirtual 74, 3) := by decide +kernel
theorem dX0_tryLook_105 : decode cX0_tryLook 105 = .ok (.iconst 0, 1) := by decide +kernel
theorem dX0_tryLook_106 : decode cX0_tryLook 106 = .ok (.istore 13, 2) := by decide +kernel
theorem dX0_tryLook_108 : decode cX0_tryLook 108 = .ok (.iload 13, 2) := by decide +kernel
theorem dX0_tryLook_110 : decode cX0_tryLook 110 = .ok (.iconst 3, 1) := by decide +kernel
theorem dX0_tryLook_111 : decode cX0_tryLook 111 = .ok (.if_icmp .gt 25, 3) := by decide +kernel
theorem dX0_tryLook_114 : decode cX0_tryLook 114 = .ok (.aload_n 0, 1) := by decide +kernel
theorem dX0_tryLook_115 : decode cX0_tryLook 115 = .ok (.aload_n 1, 1) := by decide +kernel
theorem dX0_tryLook_116 : decode cX0_tryLook 116 = .ok (.iload_n 2, 1) := by decide +kernel
theorem dX0_tryLook_117 : decode cX0_tryLook 117 = .ok (.iconst 1, 1) := by decide +kernel
theorem dX0_tryLook_118 : decode cX0_tryLook 118 = .ok (.iadd, 1) := by decide +kernel
theorem dX0_tryLook_119 : decode cX0_tryLook 119 = .ok (.iload 13, 2) := by decide +kernel
theorem dX0_tryLook_121 : decode cX0_tryLook 121 = .ok (.iload 9, 2) := by decide +kernel
theorem dX0_tryLook_123 : decode cX0_tryLook 123 = .ok (.lload 10, 2) := by decide +kernel
theorem dX0_tryLook_125 : decode cX0_tryLook 125 = .ok (.aload 7, 2) := by decide +kernel
theorem dX0_tryLook_127 : decode cX0_tryLook 127 = .ok (.invokevirtual 44, 3) := by decide +kernel
theorem dX0_tryLook_130 : decode cX0_tryLook 130 = .ok (.iinc 13 1, 3) := by decide +kernel
theorem dX0_tryLook_133 : decode cX0_tryLook 133 = .ok (.goto (-25), 3) := by decide +kernel
theorem dX0_tryLook_136 : decode cX0_tryLook 136 = .ok (.return_, 1) := by decide +kernel
set_option maxRecDepth 20000 in
theorem ggX0_tryTogether_X1_clear : GoodIn wsX0_tryTogether wsX1_clear := goodIn_r _ [8, 9, 10, 11, 112, 113] (by decide +kernel) (by decide +kernel)
set_option maxRecDepth 20000 in
theorem gX0_tryTogether_X1_clear : GoodIn wsX0_tryTogether (wsV RX0 37 RX1 yX1_clear wsX1_clear) := goodIn_app (goodIn_of _ (by decide +kernel)) ggX0_tryTogether_X1_clear
set_option maxRecDepth 20000 in
theorem ggX0_tryTogether_X5_put : GoodIn wsX0_tryTogether wsX5_put := goodIn_r _ [16, 17, 18, 19, 15, 20, 21, 22, 23, 24, 25, 26, 27, 28, 29, 30, 31, 32, 33, 34, 35, 36, 37, 38, 39, 40, 41, 42, 43, 44, 114, 115, 116, 117, 118, 119, 120] (by decide +kernel) (by decide +kernel)
set_option maxRecDepth 20000 in
theorem gX0_tryTogether_X5_put : GoodIn wsX0_tryTogether (wsV RX0 40 RX5 yX5_put wsX5_put) := goodIn_app (goodIn_of _ (by decide +kernel)) ggX0_tryTogether_X5_put
set_option maxRecDepth 20000 in
theorem ggX0_tryTogether_X0_tryBoth : GoodIn wsX0_tryTogether wsX0_tryBoth := goodIn_r _ [49, 3, 1, 50, 51, 52, 2, 53, 18, 19, 15, 20, 21, 54, 55, 56, 57, 58, 59, 60, 61, 62, 63, 64, 23, 24, 25, 26, 27, 28, 29, 30, 31, 32, 33, 34, 35, 36, 37, 38, 39, 40, 41, 42, 43, 44, 65, 66, 67, 68, 69, 70, 71, 72, 73, 74, 75, 76, 77, 78, 79, 80, 81, 82, 83, 84, 85, 86, 87, 88, 89, 90, 91, 92, 7, 93, 10, 11, 94, 95, 96, 97, 45, 46, 47, 48, 98, 99, 100, 101, 102, 115, 116, 117, 118, 119, 120, 103, 104, 105, 106, 107, 108, 109, 110, 111, 114, 112, 113] (by decide +kernel) (by decide +kernel)
set_option maxRecDepth 20000 in
theorem gX0_tryTogether_X0_tryBoth : GoodIn wsX0_tryTogether (wsV RX0 83 RX0 yX0_tryBoth wsX0_tryBoth) := goodIn_app (goodIn_of _ (by decide +kernel)) ggX0_tryTogether_X0_tryBoth
theorem dX0_tryTogether_0 : decode cX0_tryTogether 0 = .ok (.aload_n 0, 1) := by decide +kernel
theorem dX0_tryTogether_1 : decode cX0_tryTogether 1 = .ok (.iload_n 3, 1) := by decide +kernel
theorem dX0_tryTogether_2 : decode cX0_tryTogether 2 = .ok (.putfield 33, 3) := by decide +kernel
theorem dX0_tryTogether_5 : decode cX0_tryTogether 5 = .ok (.aload_n 0, 1) := by decide +kernel
theorem dX0_tryTogether_6 : decode cX0_tryTogether 6 = .ok (.getfield 30, 3) := by decide +kernel
theorem dX0_tryTogether_9 : decode cX0_tryTogether 9 = .ok (.invokevirtual 37, 3) := by decide +kernel
theorem dX0_tryTogether_12 : decode cX0_tryTogether 12 = .ok (.aload_n 0, 1) := by decide +kernel
theorem dX0_tryTogether_13 : decode cX0_tryTogether 13 = .ok (.getfield 14, 3) := by decide +kernel
theorem dX0_tryTogether_16 : decode cX0_tryTogether 16 = .ok (.iconst 0, 1) := by decide +kernel
theorem dX0_tryTogether_17 : decode cX0_tryTogether 17 = .ok (.aload_n 2, 1) := by decide +kernel
theorem dX0_tryTogether_18 : decode cX0_tryTogether 18 = .ok (.invokevirtual 40, 3) := by decide +kernel
theorem dX0_tryTogether_21 : decode cX0_tryTogether 21 = .ok (.aload_n 0, 1) := by decide +kernel
theorem dX0_tryTogether_22 : decode cX0_tryTogether 22 = .ok (.aload_n 1, 1) := by decide +kernel
theorem dX0_tryTogether_23 : decode cX0_tryTogether 23 = .ok (.iconst 0, 1) := by decide +kernel
theorem dX0_tryTogether_24 : decode cX0_tryTogether 24 = .ok (.aload_n 1, 1) := by decide +kernel
theorem dX0_tryTogether_25 : decode cX0_tryTogether 25 = .ok (.getfield 78, 3) := by decide +kernel
theorem dX0_tryTogether_28 : decode cX0_tryTogether 28 = .ok (.lconst 0, 1) := by decide +kernel
theorem dX0_tryTogether_29 : decode cX0_tryTogether 29 = .ok (.invokevirtual 83, 3) := by decide +kernel
theorem dX0_tryTogether_32 : decode cX0_tryTogether 32 = .ok (.return_, 1) := by decide +kernel
set_option maxRecDepth 20000 in
theorem ggX0_tryBoth_X5_at : GoodIn wsX0_tryBoth wsX5_at := goodIn_r _ [11, 12, 106] (by decide +kernel) (by decide +kernel)
set_option maxRecDepth 20000 in
theorem gX0_tryBoth_X5_at : GoodIn wsX0_tryBoth (wsV RX0 52 RX5 yX5_at wsX5_at) := goodIn_app (goodIn_of _ (by decide +kernel)) ggX0_tryBoth_X5_at
set_option maxRecDepth 20000 in
theorem ggX0_tryBoth_X8_moved : GoodIn wsX0_tryBoth wsX8_moved := goodIn_r _ [15, 16, 17, 18, 19, 20, 21, 22] (by decide +kernel) (by decide +kernel)
set_option maxRecDepth 20000 in
theorem gX0_tryBoth_X8_moved_n93 : GoodIn wsX0_tryBoth (wsX8_moved) := ggX0_tryBoth_X8_moved
set_option maxRecDepth 20000 in
theorem ggX0_tryBoth_X4_copy : GoodIn wsX0_tryBoth wsX4_copy := goodIn_r _ [27, 28, 29, 30, 31, 32, 33, 34, 35, 36, 26, 37, 38, 39, 40, 41, 42, 43, 44, 45, 91, 92, 93, 94, 95, 96] (by decide +kernel) (by decide +kernel)
set_option maxRecDepth 20000 in
theorem gX0_tryBoth_X4_copy : GoodIn wsX0_tryBoth (wsV RX0 70 RX4 yX4_copy wsX4_copy) := goodIn_app (goodIn_of _ (by decide +kernel)) ggX0_tryBoth_X4_copy
set_option maxRecDepth 20000 in
theorem ggX0_tryBoth_X4_lookBy : GoodIn wsX0_tryBoth wsX4_lookBy := goodIn_r _ [49, 31, 50, 51, 52, 26, 53, 13, 14, 15, 16, 17, 18, 19, 20, 21, 22, 54, 55, 56, 57, 58, 59, 60, 61, 62, 63, 64, 28, 65, 91, 92, 93, 94, 95, 96, 97, 98, 99, 100, 101, 102, 103, 104, 105] (by decide +kernel) (by decide +kernel)
set_option maxRecDepth 20000 in
theorem gX0_tryBoth_X4_lookBy : GoodIn wsX0_tryBoth (wsV RX0 97 RX4 yX4_lookBy wsX4_lookBy) := goodIn_app (goodIn_of _ (by decide +kernel)) ggX0_tryBoth_X4_lookBy
set_option maxRecDepth 20000 in
theorem ggX0_tryBoth_X4_lessen : GoodIn wsX0_tryBoth wsX4_lessen := goodIn_r _ [64, 28, 65, 91, 92, 93, 94, 95, 96] (by decide +kernel) (by decide +kernel)
set_option maxRecDepth 20000 in
theorem gX0_tryBoth_X4_lessen : GoodIn wsX0_tryBoth (wsV RX0 103 RX4 yX4_lessen wsX4_lessen) := goodIn_app (goodIn_of _ (by decide +kernel)) ggX0_tryBoth_X4_lessen
set_option maxRecDepth 20000 in
theorem ggX0_tryBoth_X4_together : GoodIn wsX0_tryBoth wsX4_together := goodIn_r _ [70, 28, 91, 92, 93, 94, 95, 96] (by decide +kernel) (by decide +kernel)
set_option maxRecDepth 20000 in
theorem gX0_tryBoth_X4_together : GoodIn wsX0_tryBoth (wsV RX0 109 RX4 yX4_together wsX4_together) := goodIn_app (goodIn_of _ (by decide +kernel)) ggX0_tryBoth_X4_together
set_option maxRecDepth 20000 in
theorem ggX0_tryBoth_X1_offer : GoodIn wsX0_tryBoth wsX1_offer := goodIn_r _ [75, 76, 77, 107, 108] (by decide +kernel) (by decide +kernel)
set_option maxRecDepth 20000 in
theorem gX0_tryBoth_X1_offer : GoodIn wsX0_tryBoth (wsV RX0 66 RX1 yX1_offer wsX1_offer) := goodIn_app (goodIn_of _ (by decide +kernel)) ggX0_tryBoth_X1_offer
set_option maxRecDepth 20000 in
theorem ggX0_tryBoth_X4_pass : GoodIn wsX0_tryBoth wsX4_pass := goodIn_r _ [81, 32, 28, 65, 34, 35, 36, 26, 37, 91, 92, 93, 94, 95, 96, 97, 98, 99, 100, 101, 102, 103, 104, 105] (by decide +kernel) (by decide +kernel)
set_option maxRecDepth 20000 in
theorem gX0_tryBoth_X4_pass : GoodIn wsX0_tryBoth (wsV RX0 113 RX4 yX4_pass wsX4_pass) := goodIn_app (goodIn_of _ (by decide +kernel)) ggX0_tryBoth_X4_pass
set_option maxRecDepth 20000 in
theorem ggX0_tryBoth_X0_tryBoth : GoodIn wsX0_tryBoth wsX0_tryBoth := goodIn_r _ [0, 1, 2, 3, 4, 5, 6, 7, 8, 9, 10, 11, 12, 13, 14, 15, 16, 17, 18, 19, 20, 21, 22, 23, 24, 25, 26, 27, 28, 29, 30, 31, 32, 33, 34, 35, 36, 37, 38, 39, 40, 41, 42, 43, 44, 45, 46, 47, 48, 49, 50, 51, 52, 53, 54, 55, 56, 57, 58, 59, 60, 61, 62, 63, 64, 65, 66, 67, 68, 69, 70, 71, 72, 73, 74, 75, 76, 77, 78, 79, 80, 81, 82, 83, 84, 85, 86, 87, 88, 89, 90, 91, 92, 93, 94, 95, 96, 97, 98, 99, 100, 101, 102, 103, 104, 105, 106, 107, 108] (by decide +kernel) (by decide +kernel)
set_option maxRecDepth 20000 in
theorem gX0_tryBoth_X0_tryBoth : GoodIn wsX0_tryBoth (wsV RX0 83 RX0 yX0_tryBoth wsX0_tryBoth) := goodIn_app (goodIn_of _ (by decide +kernel)) ggX0_tryBoth_X0_tryBoth
theorem dX0_tryBoth_0 : decode cX0_tryBoth 0 = .ok (.aload_n 0, 1) := by decide +kernel
theorem dX0_tryBoth_1 : decode cX0_tryBoth 1 = .ok (.getfield 14, 3) := by decide +kernel
theorem dX0_tryBoth_4 : decode cX0_tryBoth 4 = .ok (.iload_n 2, 1) := by decide +kernel
theorem dX0_tryBoth_5 : decode cX0_tryBoth 5 = .ok (.invokevirtual 52, 3) := by decide +kernel
theorem dX0_tryBoth_8 : decode cX0_tryBoth 8 = .ok (.astore 6, 2) := by decide +kernel
theorem dX0_tryBoth_10 : decode cX0_tryBoth 10 = .ok (.aload_n 0, 1) := by decide +kernel
theorem dX0_tryBoth_11 : decode cX0_tryBoth 11 = .ok (.getfield 14, 3) := by decide +kernel
theorem dX0_tryBoth_14 : decode cX0_tryBoth 14 = .ok (.iload_n 2, 1) := by decide +kernel
theorem dX0_tryBoth_15 : decode cX0_tryBoth 15 = .ok (.iconst 1, 1) := by decide +kernel
theorem dX0_tryBoth_16 : decode cX0_tryBoth 16 = .ok (.iadd, 1) := by decide +kernel
theorem dX0_tryBoth_17 : decode cX0_tryBoth 17 = .ok (.invokevirtual 52, 3) := by decide +kernel
theorem dX0_tryBoth_20 : decode cX0_tryBoth 20 = .ok (.astore 7, 2) := by decide +kernel
theorem dX0_tryBoth_22 : decode cX0_tryBoth 22 = .ok (.aload 6, 2) := by decide +kernel
theorem dX0_tryBoth_24 : decode cX0_tryBoth 24 = .ok (.ifnull 16, 3) := by decide +kernel
theorem dX0_tryBoth_27 : decode cX0_tryBoth 27 = .ok (.aload 7, 2) := by decide +kernel
theorem dX0_tryBoth_29 : decode cX0_tryBoth 29 = .ok (.ifnull 11, 3) := by decide +kernel
theorem dX0_tryBoth_32 : decode cX0_tryBoth 32 = .ok (.iload_n 2, 1) := by decide +kernel
theorem dX0_tryBoth_33 : decode cX0_tryBoth 33 = .ok (.aload_n 0, 1) := by decide +kernel
theorem dX0_tryBoth_34 : decode cX0_tryBoth 34 = .ok (.getfield 33, 3) := by decide +kernel
theorem dX0_tryBoth_37 : decode cX0_tryBoth 37 = .ok (.if_icmp .lt 4, 3) := by decide +kernel
theorem dX0_tryBoth_40 : decode cX0_tryBoth 40 = .ok (.return_, 1) := by decide +kernel
theorem dX0_tryBoth_41 : decode cX0_tryBoth 41 = .ok (.aload 6, 2) := by decide +kernel
theorem dX0_tryBoth_43 : decode cX0_tryBoth 43 = .ok (.getfield 87, 3) := by decide +kernel
theorem dX0_tryBoth_46 : decode cX0_tryBoth 46 = .ok (.aload_n 1, 1) := by decide +kernel
theorem dX0_tryBoth_47 : decode cX0_tryBoth 47 = .ok (.getfield 90, 3) := by decide +kernel
theorem dX0_tryBoth_50 : decode cX0_tryBoth 50 = .ok (.if_icmp .lt 7, 3) := by decide +kernel
theorem dX0_tryBoth_53 : decode cX0_tryBoth 53 = .ok (.iconst 1, 1) := by decide +kernel
theorem dX0_tryBoth_54 : decode cX0_tryBoth 54 = .ok (.goto 4, 3) := by decide +kernel
theorem dX0_tryBoth_57 : decode cX0_tryBoth 57 = .ok (.iconst 0, 1) := by decide +kernel
theorem dX0_tryBoth_58 : decode cX0_tryBoth 58 = .ok (.istore 8, 2) := by decide +kernel
theorem dX0_tryBoth_60 : decode cX0_tryBoth 60 = .ok (.iconst 0, 1) := by decide +kernel
theorem dX0_tryBoth_61 : decode cX0_tryBoth 61 = .ok (.istore 9, 2) := by decide +kernel
theorem dX0_tryBoth_63 : decode cX0_tryBoth 63 = .ok (.iload 9, 2) := by decide +kernel
theorem dX0_tryBoth_65 : decode cX0_tryBoth 65 = .ok (.iconst 3, 1) := by decide +kernel
theorem dX0_tryBoth_66 : decode cX0_tryBoth 66 = .ok (.if_icmp .gt 149, 3) := by decide +kernel
theorem dX0_tryBoth_69 : decode cX0_tryBoth 69 = .ok (.iconst 0, 1) := by decide +kernel
theorem dX0_tryBoth_70 : decode cX0_tryBoth 70 = .ok (.istore 10, 2) := by decide +kernel
theorem dX0_tryBoth_72 : decode cX0_tryBoth 72 = .ok (.iload 10, 2) := by decide +kernel
theorem dX0_tryBoth_74 : decode cX0_tryBoth 74 = .ok (.iload 8, 2) := by decide +kernel
theorem dX0_tryBoth_76 : decode cX0_tryBoth 76 = .ok (.ifCond .eq 7, 3) := by decide +kernel
theorem dX0_tryBoth_79 : decode cX0_tryBoth 79 = .ok (.iconst 2, 1) := by decide +kernel
theorem dX0_tryBoth_80 : decode cX0_tryBoth 80 = .ok (.goto 4, 3) := by decide +kernel
theorem dX0_tryBoth_83 : decode cX0_tryBoth 83 = .ok (.iconst 0, 1) := by decide +kernel
theorem dX0_tryBoth_84 : decode cX0_tryBoth 84 = .ok (.if_icmp .gt 125, 3) := by decide +kernel
theorem dX0_tryBoth_87 : decode cX0_tryBoth 87 = .ok (.iload_n 3, 1) := by decide +kernel
theorem dX0_tryBoth_88 : decode cX0_tryBoth 88 = .ok (.iload 10, 2) := by decide +kernel
theorem dX0_tryBoth_90 : decode cX0_tryBoth 90 = .ok (.invokestatic 93, 3) := by decide +kernel
theorem dX0_tryBoth_93 : decode cX0_tryBoth 93 = .ok (.istore 11, 2) := by decide +kernel
theorem dX0_tryBoth_95 : decode cX0_tryBoth 95 = .ok (.aload 7, 2) := by decide +kernel
theorem dX0_tryBoth_97 : decode cX0_tryBoth 97 = .ok (.aload 6, 2) := by decide +kernel
theorem dX0_tryBoth_99 : decode cX0_tryBoth 99 = .ok (.invokevirtual 70, 3) := by decide +kernel
theorem dX0_tryBoth_102 : decode cX0_tryBoth 102 = .ok (.aload 7, 2) := by decide +kernel
theorem dX0_tryBoth_104 : decode cX0_tryBoth 104 = .ok (.aload_n 1, 1) := by decide +kernel
theorem dX0_tryBoth_105 : decode cX0_tryBoth 105 = .ok (.iload 9, 2) := by decide +kernel
theorem dX0_tryBoth_107 : decode cX0_tryBoth 107 = .ok (.invokevirtual 97, 3) := by decide +kernel
theorem dX0_tryBoth_110 : decode cX0_tryBoth 110 = .ok (.aload 7, 2) := by decide +kernel
theorem dX0_tryBoth_112 : decode cX0_tryBoth 112 = .ok (.iload 8, 2) := by decide +kernel
theorem dX0_tryBoth_114 : decode cX0_tryBoth 114 = .ok (.ifCond .eq 8, 3) := by decide +kernel
theorem dX0_tryBoth_117 : decode cX0_tryBoth 117 = .ok (.iload 11, 2) := by decide +kernel
theorem dX0_tryBoth_119 : decode cX0_tryBoth 119 = .ok (.goto 5, 3) := by decide +kernel
theorem dX0_tryBoth_122 : decode cX0_tryBoth 122 = .ok (.bipush (-9), 2) := by decide +kernel
theorem dX0_tryBoth_124 : decode cX0_tryBoth 124 = .ok (.bipush 10, 2) := by decide +kernel
theorem dX0_tryBoth_126 : decode cX0_tryBoth 126 = .ok (.aload_n 1, 1) := by decide +kernel
theorem dX0_tryBoth_127 : decode cX0_tryBoth 127 = .ok (.getfield 100, 3) := by decide +kernel
theorem dX0_tryBoth_130 : decode cX0_tryBoth 130 = .ok (.isub, 1) := by decide +kernel
theorem dX0_tryBoth_131 : decode cX0_tryBoth 131 = .ok (.invokevirtual 103, 3) := by decide +kernel
theorem dX0_tryBoth_134 : decode cX0_tryBoth 134 = .ok (.lload 4, 2) := by decide +kernel
theorem dX0_tryBoth_136 : decode cX0_tryBoth 136 = .ok (.ldc2_w 107, 3) := by decide +kernel
theorem dX0_tryBoth_139 : decode cX0_tryBoth 139 = .ok (.lmul, 1) := by decide +kernel
theorem dX0_tryBoth_140 : decode cX0_tryBoth 140 = .ok (.aload 6, 2) := by decide +kernel
theorem dX0_tryBoth_142 : decode cX0_tryBoth 142 = .ok (.invokevirtual 109, 3) := by decide +kernel
theorem dX0_tryBoth_145 : decode cX0_tryBoth 145 = .ok (.ldc2_w 56, 3) := by decide +kernel
theorem dX0_tryBoth_148 : decode cX0_tryBoth 148 = .ok (.lmul, 1) := by decide +kernel
theorem dX0_tryBoth_149 : decode cX0_tryBoth 149 = .ok (.aload 7, 2) := by decide +kernel
theorem dX0_tryBoth_151 : decode cX0_tryBoth 151 = .ok (.invokevirtual 109, 3) := by decide +kernel
theorem dX0_tryBoth_154 : decode cX0_tryBoth 154 = .ok (.lsub, 1) := by decide +kernel
theorem dX0_tryBoth_155 : decode cX0_tryBoth 155 = .ok (.ldc2_w 64, 3) := by decide +kernel
theorem dX0_tryBoth_158 : decode cX0_tryBoth 158 = .ok (.lmul, 1) := by decide +kernel
theorem dX0_tryBoth_159 : decode cX0_tryBoth 159 = .ok (.ladd, 1) := by decide +kernel
theorem dX0_tryBoth_160 : decode cX0_tryBoth 160 = .ok (.lstore 12, 2) := by decide +kernel
theorem dX0_tryBoth_162 : decode cX0_tryBoth 162 = .ok (.iload_n 2, 1) := by decide +kernel
theorem dX0_tryBoth_163 : decode cX0_tryBoth 163 = .ok (.iconst 1, 1) := by decide +kernel
theorem dX0_tryBoth_164 : decode cX0_tryBoth 164 = .ok (.iadd, 1) := by decide +kernel
theorem dX0_tryBoth_165 : decode cX0_tryBoth 165 = .ok (.aload_n 0, 1) := by decide +kernel
theorem dX0_tryBoth_166 : decode cX0_tryBoth 166 = .ok (.getfield 33, 3) := by decide +kernel
theorem dX0_tryBoth_169 : decode cX0_tryBoth 169 = .ok (.if_icmp .ne 16, 3) := by decide +kernel
theorem dX0_tryBoth_172 : decode cX0_tryBoth 172 = .ok (.aload_n 0, 1) := by decide +kernel
theorem dX0_tryBoth_173 : decode cX0_tryBoth 173 = .ok (.getfield 30, 3) := by decide +kernel
theorem dX0_tryBoth_176 : decode cX0_tryBoth 176 = .ok (.lload 12, 2) := by decide +kernel
theorem dX0_tryBoth_178 : decode cX0_tryBoth 178 = .ok (.iconst 0, 1) := by decide +kernel
theorem dX0_tryBoth_179 : decode cX0_tryBoth 179 = .ok (.invokevirtual 66, 3) := by decide +kernel
theorem dX0_tryBoth_182 : decode cX0_tryBoth 182 = .ok (.goto 21, 3) := by decide +kernel
theorem dX0_tryBoth_185 : decode cX0_tryBoth 185 = .ok (.aload 7, 2) := by decide +kernel
theorem dX0_tryBoth_187 : decode cX0_tryBoth 187 = .ok (.aload_n 1, 1) := by decide +kernel
theorem dX0_tryBoth_188 : decode cX0_tryBoth 188 = .ok (.invokevirtual 113, 3) := by decide +kernel
theorem dX0_tryBoth_191 : decode cX0_tryBoth 191 = .ok (.aload_n 0, 1) := by decide +kernel
theorem dX0_tryBoth_192 : decode cX0_tryBoth 192 = .ok (.aload_n 1, 1) := by decide +kernel
theorem dX0_tryBoth_193 : decode cX0_tryBoth 193 = .ok (.iload_n 2, 1) := by decide +kernel
theorem dX0_tryBoth_194 : decode cX0_tryBoth 194 = .ok (.iconst 1, 1) := by decide +kernel
theorem dX0_tryBoth_195 : decode cX0_tryBoth 195 = .ok (.iadd, 1) := by decide +kernel
theorem dX0_tryBoth_196 : decode cX0_tryBoth 196 = .ok (.iload 11, 2) := by decide +kernel
theorem dX0_tryBoth_198 : decode cX0_tryBoth 198 = .ok (.lload 12, 2) := by decide +kernel
theorem dX0_tryBoth_200 : decode cX0_tryBoth 200 = .ok (.invokevirtual 83, 3) := by decide +kernel
theorem dX0_tryBoth_203 : decode cX0_tryBoth 203 = .ok (.iinc 10 1, 3) := by decide +kernel
theorem dX0_tryBoth_206 : decode cX0_tryBoth 206 = .ok (.goto (-134), 3) := by decide +kernel
theorem dX0_tryBoth_209 : decode cX0_tryBoth 209 = .ok (.iinc 9 1, 3) := by decide +kernel
theorem dX0_tryBoth_212 : decode cX0_tryBoth 212 = .ok (.goto (-149), 3) := by decide +kernel
theorem dX0_tryBoth_215 : decode cX0_tryBoth 215 = .ok (.return_, 1) := by decide +kernel
theorem dX1_init_0 : decode cX1_init 0 = .ok (.aload_n 0, 1) := by decide +kernel
theorem dX1_init_1 : decode cX1_init 1 = .ok (.invokespecial 1, 3) := by decide +kernel
theorem dX1_init_4 : decode cX1_init 4 = .ok (.return_, 1) := by decide +kernel
theorem dX1_clear_0 : decode cX1_clear 0 = .ok (.aload_n 0, 1) := by decide +kernel
theorem dX1_clear_1 : decode cX1_clear 1 = .ok (.ldc2_w 7, 3) := by decide +kernel
theorem dX1_clear_4 : decode cX1_clear 4 = .ok (.putfield 9, 3) := by decide +kernel
theorem dX1_clear_7 : decode cX1_clear 7 = .ok (.aload_n 0, 1) := by decide +kernel
theorem dX1_clear_8 : decode cX1_clear 8 = .ok (.iconst 0, 1) := by decide +kernel
theorem dX1_clear_9 : decode cX1_clear 9 = .ok (.putfield 15, 3) := by decide +kernel
theorem dX1_clear_12 : decode cX1_clear 12 = .ok (.return_, 1) := by decide +kernel
theorem dX1_offer_0 : decode cX1_offer 0 = .ok (.lload_n 1, 1) := by decide +kernel
theorem dX1_offer_1 : decode cX1_offer 1 = .ok (.aload_n 0, 1) := by decide +kernel
theorem dX1_offer_2 : decode cX1_offer 2 = .ok (.getfield 9, 3) := by decide +kernel
theorem dX1_offer_5 : decode cX1_offer 5 = .ok (.lcmp, 1) := by decide +kernel
theorem dX1_offer_6 : decode cX1_offer 6 = .ok (.ifCond .le 13, 3) := by decide +kernel
theorem dX1_offer_9 : decode cX1_offer 9 = .ok (.aload_n 0, 1) := by decide +kernel
theorem dX1_offer_10 : decode cX1_offer 10 = .ok (.lload_n 1, 1) := by decide +kernel
theorem dX1_offer_11 : decode cX1_offer 11 = .ok (.putfield 9, 3) := by decide +kernel
theorem dX1_offer_14 : decode cX1_offer 14 = .ok (.aload_n 0, 1) := by decide +kernel
theorem dX1_offer_15 : decode cX1_offer 15 = .ok (.iload_n 3, 1) := by decide +kernel
theorem dX1_offer_16 : decode cX1_offer 16 = .ok (.putfield 15, 3) := by decide +kernel
theorem dX1_offer_19 : decode cX1_offer 19 = .ok (.return_, 1) := by decide +kernel
theorem dX2_init_0 : decode cX2_init 0 = .ok (.aload_n 0, 1) := by decide +kernel
theorem dX2_init_1 : decode cX2_init 1 = .ok (.invokespecial 1, 3) := by decide +kernel
theorem dX2_init_4 : decode cX2_init 4 = .ok (.return_, 1) := by decide +kernel
theorem dX2_below_0 : decode cX2_below 0 = .ok (.aload_n 0, 1) := by decide +kernel
theorem dX2_below_1 : decode cX2_below 1 = .ok (.aload_n 0, 1) := by decide +kernel
theorem dX2_below_2 : decode cX2_below 2 = .ok (.getfield 7, 3) := by decide +kernel
theorem dX2_below_5 : decode cX2_below 5 = .ok (.ldc2_w 13, 3) := by decide +kernel
theorem dX2_below_8 : decode cX2_below 8 = .ok (.lmul, 1) := by decide +kernel
theorem dX2_below_9 : decode cX2_below 9 = .ok (.ldc2_w 15, 3) := by decide +kernel
theorem dX2_below_12 : decode cX2_below 12 = .ok (.ladd, 1) := by decide +kernel
theorem dX2_below_13 : decode cX2_below 13 = .ok (.putfield 7, 3) := by decide +kernel
theorem dX2_below_16 : decode cX2_below 16 = .ok (.iload_n 1, 1) := by decide +kernel
theorem dX2_below_17 : decode cX2_below 17 = .ok (.ifCond .gt 7, 3) := by decide +kernel
theorem dX2_below_20 : decode cX2_below 20 = .ok (.iconst 0, 1) := by decide +kernel
theorem dX2_below_21 : decode cX2_below 21 = .ok (.goto 14, 3) := by decide +kernel
theorem dX2_below_24 : decode cX2_below 24 = .ok (.aload_n 0, 1) := by decide +kernel
theorem dX2_below_25 : decode cX2_below 25 = .ok (.getfield 7, 3) := by decide +kernel
theorem dX2_below_28 : decode cX2_below 28 = .ok (.bipush 33, 2) := by decide +kernel
theorem dX2_below_30 : decode cX2_below 30 = .ok (.lushr, 1) := by decide +kernel
theorem dX2_below_31 : decode cX2_below 31 = .ok (.iload_n 1, 1) := by decide +kernel
theorem dX2_below_32 : decode cX2_below 32 = .ok (.i2l, 1) := by decide +kernel
theorem dX2_below_33 : decode cX2_below 33 = .ok (.lrem, 1) := by decide +kernel
theorem dX2_below_34 : decode cX2_below 34 = .ok (.l2i, 1) := by decide +kernel
theorem dX2_below_35 : decode cX2_below 35 = .ok (.ireturn, 1) := by decide +kernel
set_option maxRecDepth 20000 in
theorem ggX3_part_X3_commonOf : GoodIn wsX3_part wsX3_commonOf := goodIn_r _ [8] (by decide +kernel) (by decide +kernel)
set_option maxRecDepth 20000 in
theorem gX3_part_X3_commonOf : GoodIn wsX3_part (va_wsS RX3 13 yX3_commonOf wsX3_commonOf) := goodIn_app (goodIn_of _ (by decide +kernel)) ggX3_part_X3_commonOf
theorem dX3_part_0 : decode cX3_part 0 = .ok (.lload_n 0, 1) := by decide +kernel
theorem dX3_part_1 : decode cX3_part 1 = .ok (.invokestatic 7, 3) := by decide +kernel
theorem dX3_part_4 : decode cX3_part 4 = .ok (.lload_n 2, 1) := by decide +kernel
theorem dX3_part_5 : decode cX3_part 5 = .ok (.invokestatic 13, 3) := by decide +kernel
theorem dX3_part_8 : decode cX3_part 8 = .ok (.lstore 5, 2) := by decide +kernel
theorem dX3_part_10 : decode cX3_part 10 = .ok (.lload 5, 2) := by decide +kernel
theorem dX3_part_12 : decode cX3_part 12 = .ok (.lconst 0, 1) := by decide +kernel
theorem dX3_part_13 : decode cX3_part 13 = .ok (.lcmp, 1) := by decide +kernel
theorem dX3_part_14 : decode cX3_part 14 = .ok (.ifCond .gt 14, 3) := by decide +kernel
theorem dX3_part_17 : decode cX3_part 17 = .ok (.iload 4, 2) := by decide +kernel
theorem dX3_part_19 : decode cX3_part 19 = .ok (.ifCond .eq 7, 3) := by decide +kernel
theorem dX3_part_22 : decode cX3_part 22 = .ok (.lconst 0, 1) := by decide +kernel
theorem dX3_part_23 : decode cX3_part 23 = .ok (.goto 4, 3) := by decide +kernel
theorem dX3_part_26 : decode cX3_part 26 = .ok (.lconst 1, 1) := by decide +kernel
theorem dX3_part_27 : decode cX3_part 27 = .ok (.lreturn, 1) := by decide +kernel
theorem dX3_part_28 : decode cX3_part 28 = .ok (.iload 4, 2) := by decide +kernel
theorem dX3_part_30 : decode cX3_part 30 = .ok (.ifCond .eq 10, 3) := by decide +kernel
theorem dX3_part_33 : decode cX3_part 33 = .ok (.lload_n 0, 1) := by decide +kernel
theorem dX3_part_34 : decode cX3_part 34 = .ok (.lload 5, 2) := by decide +kernel
theorem dX3_part_36 : decode cX3_part 36 = .ok (.ldiv, 1) := by decide +kernel
theorem dX3_part_37 : decode cX3_part 37 = .ok (.goto 7, 3) := by decide +kernel
theorem dX3_part_40 : decode cX3_part 40 = .ok (.lload_n 2, 1) := by decide +kernel
theorem dX3_part_41 : decode cX3_part 41 = .ok (.lload 5, 2) := by decide +kernel
theorem dX3_part_43 : decode cX3_part 43 = .ok (.ldiv, 1) := by decide +kernel
theorem dX3_part_44 : decode cX3_part 44 = .ok (.lreturn, 1) := by decide +kernel
theorem dX3_commonOf_0 : decode cX3_commonOf 0 = .ok (.lload_n 0, 1) := by decide +kernel
theorem dX3_commonOf_1 : decode cX3_commonOf 1 = .ok (.lstore 4, 2) := by decide +kernel
theorem dX3_commonOf_3 : decode cX3_commonOf 3 = .ok (.lload_n 2, 1) := by decide +kernel
theorem dX3_commonOf_4 : decode cX3_commonOf 4 = .ok (.lstore 6, 2) := by decide +kernel
theorem dX3_commonOf_6 : decode cX3_commonOf 6 = .ok (.iconst 0, 1) := by decide +kernel
theorem dX3_commonOf_7 : decode cX3_commonOf 7 = .ok (.istore 8, 2) := by decide +kernel
theorem dX3_commonOf_9 : decode cX3_commonOf 9 = .ok (.iload 8, 2) := by decide +kernel
theorem dX3_commonOf_11 : decode cX3_commonOf 11 = .ok (.sipush 200, 3) := by decide +kernel
theorem dX3_commonOf_14 : decode cX3_commonOf 14 = .ok (.if_icmp .ge 31, 3) := by decide +kernel
theorem dX3_commonOf_17 : decode cX3_commonOf 17 = .ok (.lload 6, 2) := by decide +kernel
theorem dX3_commonOf_19 : decode cX3_commonOf 19 = .ok (.lconst 0, 1) := by decide +kernel
theorem dX3_commonOf_20 : decode cX3_commonOf 20 = .ok (.lcmp, 1) := by decide +kernel
theorem dX3_commonOf_21 : decode cX3_commonOf 21 = .ok (.ifCond .eq 24, 3) := by decide +kernel
theorem dX3_commonOf_24 : decode cX3_commonOf 24 = .ok (.lload 4, 2) := by decide +kernel
theorem dX3_commonOf_26 : decode cX3_commonOf 26 = .ok (.lload 6, 2) := by decide +kernel
theorem dX3_commonOf_28 : decode cX3_commonOf 28 = .ok (.lrem, 1) := by decide +kernel
theorem dX3_commonOf_29 : decode cX3_commonOf 29 = .ok (.lstore 9, 2) := by decide +kernel
theorem dX3_commonOf_31 : decode cX3_commonOf 31 = .ok (.lload 6, 2) := by decide +kernel
theorem dX3_commonOf_33 : decode cX3_commonOf 33 = .ok (.lstore 4, 2) := by decide +kernel
theorem dX3_commonOf_35 : decode cX3_commonOf 35 = .ok (.lload 9, 2) := by decide +kernel
theorem dX3_commonOf_37 : decode cX3_commonOf 37 = .ok (.lstore 6, 2) := by decide +kernel
theorem dX3_commonOf_39 : decode cX3_commonOf 39 = .ok (.iinc 8 1, 3) := by decide +kernel
theorem dX3_commonOf_42 : decode cX3_commonOf 42 = .ok (.goto (-33), 3) := by decide +kernel
theorem dX3_commonOf_45 : decode cX3_commonOf 45 = .ok (.lload 4, 2) := by decide +kernel
theorem dX3_commonOf_47 : decode cX3_commonOf 47 = .ok (.lreturn, 1) := by decide +kernel
theorem dX4_init_0 : decode cX4_init 0 = .ok (.aload_n 0, 1) := by decide +kernel
theorem dX4_init_1 : decode cX4_init 1 = .ok (.invokespecial 3, 3) := by decide +kernel
theorem dX4_init_4 : decode cX4_init 4 = .ok (.aload_n 0, 1) := by decide +kernel
theorem dX4_init_5 : decode cX4_init 5 = .ok (.bipush 11, 2) := by decide +kernel
theorem dX4_init_7 : decode cX4_init 7 = .ok (.newarray .long, 2) := by decide +kernel
theorem dX4_init_9 : decode cX4_init 9 = .ok (.putfield 9, 3) := by decide +kernel
theorem dX4_init_12 : decode cX4_init 12 = .ok (.aload_n 0, 1) := by decide +kernel
theorem dX4_init_13 : decode cX4_init 13 = .ok (.iconst 2, 1) := by decide +kernel
theorem dX4_init_14 : decode cX4_init 14 = .ok (.newarray .int, 2) := by decide +kernel
theorem dX4_init_16 : decode cX4_init 16 = .ok (.putfield 15, 3) := by decide +kernel
theorem dX4_init_19 : decode cX4_init 19 = .ok (.aload_n 0, 1) := by decide +kernel
theorem dX4_init_20 : decode cX4_init 20 = .ok (.iconst 2, 1) := by decide +kernel
theorem dX4_init_21 : decode cX4_init 21 = .ok (.newarray .int, 2) := by decide +kernel
theorem dX4_init_23 : decode cX4_init 23 = .ok (.putfield 19, 3) := by decide +kernel
theorem dX4_init_26 : decode cX4_init 26 = .ok (.return_, 1) := by decide +kernel
set_option maxRecDepth 20000 in
theorem ggX4_begin_X7_partAt : GoodIn wsX4_begin wsX7_partAt := goodIn_r _ [9, 10, 17, 18, 19, 20, 21, 22, 23, 24, 25] (by decide +kernel) (by decide +kernel)
set_option maxRecDepth 20000 in
theorem gX4_begin_X7_partAt : GoodIn wsX4_begin (wsV RX4 22 RX7 yX7_partAt wsX7_partAt) := goodIn_app (goodIn_of _ (by decide +kernel)) ggX4_begin_X7_partAt
theorem dX4_begin_0 : decode cX4_begin 0 = .ok (.iconst 0, 1) := by decide +kernel
theorem dX4_begin_1 : decode cX4_begin 1 = .ok (.istore_n 2, 1) := by decide +kernel
theorem dX4_begin_2 : decode cX4_begin 2 = .ok (.iload_n 2, 1) := by decide +kernel
theorem dX4_begin_3 : decode cX4_begin 3 = .ok (.aload_n 0, 1) := by decide +kernel
theorem dX4_begin_4 : decode cX4_begin 4 = .ok (.getfield 9, 3) := by decide +kernel
theorem dX4_begin_7 : decode cX4_begin 7 = .ok (.arraylength, 1) := by decide +kernel
theorem dX4_begin_8 : decode cX4_begin 8 = .ok (.if_icmp .ge 21, 3) := by decide +kernel
theorem dX4_begin_11 : decode cX4_begin 11 = .ok (.aload_n 0, 1) := by decide +kernel
theorem dX4_begin_12 : decode cX4_begin 12 = .ok (.getfield 9, 3) := by decide +kernel
theorem dX4_begin_15 : decode cX4_begin 15 = .ok (.iload_n 2, 1) := by decide +kernel
theorem dX4_begin_16 : decode cX4_begin 16 = .ok (.aload_n 1, 1) := by decide +kernel
theorem dX4_begin_17 : decode cX4_begin 17 = .ok (.iload_n 2, 1) := by decide +kernel
theorem dX4_begin_18 : decode cX4_begin 18 = .ok (.invokevirtual 22, 3) := by decide +kernel
theorem dX4_begin_21 : decode cX4_begin 21 = .ok (.i2l, 1) := by decide +kernel
theorem dX4_begin_22 : decode cX4_begin 22 = .ok (.lastore, 1) := by decide +kernel
theorem dX4_begin_23 : decode cX4_begin 23 = .ok (.iinc 2 1, 3) := by decide +kernel
theorem dX4_begin_26 : decode cX4_begin 26 = .ok (.goto (-24), 3) := by decide +kernel
theorem dX4_begin_29 : decode cX4_begin 29 = .ok (.aload_n 0, 1) := by decide +kernel
theorem dX4_begin_30 : decode cX4_begin 30 = .ok (.aload_n 1, 1) := by decide +kernel
theorem dX4_begin_31 : decode cX4_begin 31 = .ok (.getfield 28, 3) := by decide +kernel
theorem dX4_begin_34 : decode cX4_begin 34 = .ok (.putfield 32, 3) := by decide +kernel
theorem dX4_begin_37 : decode cX4_begin 37 = .ok (.aload_n 0, 1) := by decide +kernel
theorem dX4_begin_38 : decode cX4_begin 38 = .ok (.iconst 0, 1) := by decide +kernel
theorem dX4_begin_39 : decode cX4_begin 39 = .ok (.putfield 35, 3) := by decide +kernel
theorem dX4_begin_42 : decode cX4_begin 42 = .ok (.aload_n 0, 1) := by decide +kernel
theorem dX4_begin_43 : decode cX4_begin 43 = .ok (.iconst 0, 1) := by decide +kernel
theorem dX4_begin_44 : decode cX4_begin 44 = .ok (.putfield 38, 3) := by decide +kernel
theorem dX4_begin_47 : decode cX4_begin 47 = .ok (.return_, 1) := by decide +kernel
set_option maxRecDepth 20000 in
theorem ggX4_copy_X4_of : GoodIn wsX4_copy wsX4_of := goodIn_r _ [11, 1, 20, 21, 22, 23, 24, 25] (by decide +kernel) (by decide +kernel)
set_option maxRecDepth 20000 in
theorem gX4_copy_X4_of : GoodIn wsX4_copy (wsV RX4 41 RX4 yX4_of wsX4_of) := goodIn_app (goodIn_of _ (by decide +kernel)) ggX4_copy_X4_of
set_option maxRecDepth 20000 in
theorem ggX4_copy_X4_lowOf : GoodIn wsX4_copy wsX4_lowOf := goodIn_r _ [15, 2, 20, 21, 22, 23, 24, 25] (by decide +kernel) (by decide +kernel)
set_option maxRecDepth 20000 in
theorem gX4_copy_X4_lowOf : GoodIn wsX4_copy (wsV RX4 45 RX4 yX4_lowOf wsX4_lowOf) := goodIn_app (goodIn_of _ (by decide +kernel)) ggX4_copy_X4_lowOf
set_option maxRecDepth 20000 in
theorem ggX4_copy_X4_highOf : GoodIn wsX4_copy wsX4_highOf := goodIn_r _ [19, 3, 20, 21, 22, 23, 24, 25] (by decide +kernel) (by decide +kernel)
set_option maxRecDepth 20000 in
theorem gX4_copy_X4_highOf : GoodIn wsX4_copy (wsV RX4 48 RX4 yX4_highOf wsX4_highOf) := goodIn_app (goodIn_of _ (by decide +kernel)) ggX4_copy_X4_highOf
theorem dX4_copy_0 : decode cX4_copy 0 = .ok (.iconst 0, 1) := by decide +kernel
theorem dX4_copy_1 : decode cX4_copy 1 = .ok (.istore_n 2, 1) := by decide +kernel
theorem dX4_copy_2 : decode cX4_copy 2 = .ok (.iload_n 2, 1) := by decide +kernel
theorem dX4_copy_3 : decode cX4_copy 3 = .ok (.aload_n 0, 1) := by decide +kernel
theorem dX4_copy_4 : decode cX4_copy 4 = .ok (.getfield 9, 3) := by decide +kernel
theorem dX4_copy_7 : decode cX4_copy 7 = .ok (.arraylength, 1) := by decide +kernel
theorem dX4_copy_8 : decode cX4_copy 8 = .ok (.if_icmp .ge 20, 3) := by decide +kernel
theorem dX4_copy_11 : decode cX4_copy 11 = .ok (.aload_n 0, 1) := by decide +kernel
theorem dX4_copy_12 : decode cX4_copy 12 = .ok (.getfield 9, 3) := by decide +kernel
theorem dX4_copy_15 : decode cX4_copy 15 = .ok (.iload_n 2, 1) := by decide +kernel
theorem dX4_copy_16 : decode cX4_copy 16 = .ok (.aload_n 1, 1) := by decide +kernel
theorem dX4_copy_17 : decode cX4_copy 17 = .ok (.iload_n 2, 1) := by decide +kernel
theorem dX4_copy_18 : decode cX4_copy 18 = .ok (.invokevirtual 41, 3) := by decide +kernel
theorem dX4_copy_21 : decode cX4_copy 21 = .ok (.lastore, 1) := by decide +kernel
theorem dX4_copy_22 : decode cX4_copy 22 = .ok (.iinc 2 1, 3) := by decide +kernel
theorem dX4_copy_25 : decode cX4_copy 25 = .ok (.goto (-23), 3) := by decide +kernel
theorem dX4_copy_28 : decode cX4_copy 28 = .ok (.iconst 0, 1) := by decide +kernel
theorem dX4_copy_29 : decode cX4_copy 29 = .ok (.istore_n 2, 1) := by decide +kernel
theorem dX4_copy_30 : decode cX4_copy 30 = .ok (.iload_n 2, 1) := by decide +kernel
theorem dX4_copy_31 : decode cX4_copy 31 = .ok (.aload_n 0, 1) := by decide +kernel
theorem dX4_copy_32 : decode cX4_copy 32 = .ok (.getfield 15, 3) := by decide +kernel
theorem dX4_copy_35 : decode cX4_copy 35 = .ok (.arraylength, 1) := by decide +kernel
theorem dX4_copy_36 : decode cX4_copy 36 = .ok (.if_icmp .ge 40, 3) := by decide +kernel
theorem dX4_copy_39 : decode cX4_copy 39 = .ok (.iload_n 2, 1) := by decide +kernel
theorem dX4_copy_40 : decode cX4_copy 40 = .ok (.aload_n 0, 1) := by decide +kernel
theorem dX4_copy_41 : decode cX4_copy 41 = .ok (.getfield 19, 3) := by decide +kernel
theorem dX4_copy_44 : decode cX4_copy 44 = .ok (.arraylength, 1) := by decide +kernel
theorem dX4_copy_45 : decode cX4_copy 45 = .ok (.if_icmp .ge 31, 3) := by decide +kernel
theorem dX4_copy_48 : decode cX4_copy 48 = .ok (.aload_n 0, 1) := by decide +kernel
theorem dX4_copy_49 : decode cX4_copy 49 = .ok (.getfield 15, 3) := by decide +kernel
theorem dX4_copy_52 : decode cX4_copy 52 = .ok (.iload_n 2, 1) := by decide +kernel
theorem dX4_copy_53 : decode cX4_copy 53 = .ok (.aload_n 1, 1) := by decide +kernel
theorem dX4_copy_54 : decode cX4_copy 54 = .ok (.iload_n 2, 1) := by decide +kernel
theorem dX4_copy_55 : decode cX4_copy 55 = .ok (.invokevirtual 45, 3) := by decide +kernel
theorem dX4_copy_58 : decode cX4_copy 58 = .ok (.iastore, 1) := by decide +kernel
theorem dX4_copy_59 : decode cX4_copy 59 = .ok (.aload_n 0, 1) := by decide +kernel
theorem dX4_copy_60 : decode cX4_copy 60 = .ok (.getfield 19, 3) := by decide +kernel
theorem dX4_copy_63 : decode cX4_copy 63 = .ok (.iload_n 2, 1) := by decide +kernel
theorem dX4_copy_64 : decode cX4_copy 64 = .ok (.aload_n 1, 1) := by decide +kernel
theorem dX4_copy_65 : decode cX4_copy 65 = .ok (.iload_n 2, 1) := by decide +kernel
theorem dX4_copy_66 : decode cX4_copy 66 = .ok (.invokevirtual 48, 3) := by decide +kernel
theorem dX4_copy_69 : decode cX4_copy 69 = .ok (.iastore, 1) := by decide +kernel
theorem dX4_copy_70 : decode cX4_copy 70 = .ok (.iinc 2 1, 3) := by decide +kernel
theorem dX4_copy_73 : decode cX4_copy 73 = .ok (.goto (-43), 3) := by decide +kernel
theorem dX4_copy_76 : decode cX4_copy 76 = .ok (.aload_n 0, 1) := by decide +kernel
theorem dX4_copy_77 : decode cX4_copy 77 = .ok (.aload_n 1, 1) := by decide +kernel
theorem dX4_copy_78 : decode cX4_copy 78 = .ok (.getfield 32, 3) := by decide +kernel
theorem dX4_copy_81 : decode cX4_copy 81 = .ok (.putfield 32, 3) := by decide +kernel
theorem dX4_copy_84 : decode cX4_copy 84 = .ok (.aload_n 0, 1) := by decide +kernel
theorem dX4_copy_85 : decode cX4_copy 85 = .ok (.aload_n 1, 1) := by decide +kernel
theorem dX4_copy_86 : decode cX4_copy 86 = .ok (.getfield 35, 3) := by decide +kernel
theorem dX4_copy_89 : decode cX4_copy 89 = .ok (.putfield 35, 3) := by decide +kernel
theorem dX4_copy_92 : decode cX4_copy 92 = .ok (.aload_n 0, 1) := by decide +kernel
theorem dX4_copy_93 : decode cX4_copy 93 = .ok (.aload_n 1, 1) := by decide +kernel
theorem dX4_copy_94 : decode cX4_copy 94 = .ok (.getfield 38, 3) := by decide +kernel
theorem dX4_copy_97 : decode cX4_copy 97 = .ok (.putfield 38, 3) := by decide +kernel
theorem dX4_copy_100 : decode cX4_copy 100 = .ok (.return_, 1) := by decide +kernel
theorem dX4_of_0 : decode cX4_of 0 = .ok (.iload_n 1, 1) := by decide +kernel
theorem dX4_of_1 : decode cX4_of 1 = .ok (.ifCond .lt 21, 3) := by decide +kernel
theorem dX4_of_4 : decode cX4_of 4 = .ok (.iload_n 1, 1) := by decide +kernel
theorem dX4_of_5 : decode cX4_of 5 = .ok (.aload_n 0, 1) := by decide +kernel
theorem dX4_of_6 : decode cX4_of 6 = .ok (.getfield 9, 3) := by decide +kernel
theorem dX4_of_9 : decode cX4_of 9 = .ok (.arraylength, 1) := by decide +kernel
theorem dX4_of_10 : decode cX4_of 10 = .ok (.if_icmp .ge 12, 3) := by decide +kernel
theorem dX4_of_13 : decode cX4_of 13 = .ok (.aload_n 0, 1) := by decide +kernel
theorem dX4_of_14 : decode cX4_of 14 = .ok (.getfield 9, 3) := by decide +kernel
theorem dX4_of_17 : decode cX4_of 17 = .ok (.iload_n 1, 1) := by decide +kernel
theorem dX4_of_18 : decode cX4_of 18 = .ok (.laload, 1) := by decide +kernel
theorem dX4_of_19 : decode cX4_of 19 = .ok (.goto 4, 3) := by decide +kernel
theorem dX4_of_22 : decode cX4_of 22 = .ok (.lconst 0, 1) := by decide +kernel
theorem dX4_of_23 : decode cX4_of 23 = .ok (.lreturn, 1) := by decide +kernel
theorem dX4_lowOf_0 : decode cX4_lowOf 0 = .ok (.iload_n 1, 1) := by decide +kernel
theorem dX4_lowOf_1 : decode cX4_lowOf 1 = .ok (.ifCond .lt 21, 3) := by decide +kernel
theorem dX4_lowOf_4 : decode cX4_lowOf 4 = .ok (.iload_n 1, 1) := by decide +kernel
theorem dX4_lowOf_5 : decode cX4_lowOf 5 = .ok (.aload_n 0, 1) := by decide +kernel
theorem dX4_lowOf_6 : decode cX4_lowOf 6 = .ok (.getfield 15, 3) := by decide +kernel
theorem dX4_lowOf_9 : decode cX4_lowOf 9 = .ok (.arraylength, 1) := by decide +kernel
theorem dX4_lowOf_10 : decode cX4_lowOf 10 = .ok (.if_icmp .ge 12, 3) := by decide +kernel
theorem dX4_lowOf_13 : decode cX4_lowOf 13 = .ok (.aload_n 0, 1) := by decide +kernel
theorem dX4_lowOf_14 : decode cX4_lowOf 14 = .ok (.getfield 15, 3) := by decide +kernel
theorem dX4_lowOf_17 : decode cX4_lowOf 17 = .ok (.iload_n 1, 1) := by decide +kernel
theorem dX4_lowOf_18 : decode cX4_lowOf 18 = .ok (.iaload, 1) := by decide +kernel
theorem dX4_lowOf_19 : decode cX4_lowOf 19 = .ok (.goto 4, 3) := by decide +kernel
theorem dX4_lowOf_22 : decode cX4_lowOf 22 = .ok (.iconst 0, 1) := by decide +kernel
theorem dX4_lowOf_23 : decode cX4_lowOf 23 = .ok (.ireturn, 1) := by decide +kernel
theorem dX4_highOf_0 : decode cX4_highOf 0 = .ok (.iload_n 1, 1) := by decide +kernel
theorem dX4_highOf_1 : decode cX4_highOf 1 = .ok (.ifCond .lt 21, 3) := by decide +kernel
theorem dX4_highOf_4 : decode cX4_highOf 4 = .ok (.iload_n 1, 1) := by decide +kernel
theorem dX4_highOf_5 : decode cX4_highOf 5 = .ok (.aload_n 0, 1) := by decide +kernel
theorem dX4_highOf_6 : decode cX4_highOf 6 = .ok (.getfield 19, 3) := by decide +kernel
theorem dX4_highOf_9 : decode cX4_highOf 9 = .ok (.arraylength, 1) := by decide +kernel
theorem dX4_highOf_10 : decode cX4_highOf 10 = .ok (.if_icmp .ge 12, 3) := by decide +kernel
theorem dX4_highOf_13 : decode cX4_highOf 13 = .ok (.aload_n 0, 1) := by decide +kernel
theorem dX4_highOf_14 : decode cX4_highOf 14 = .ok (.getfield 19, 3) := by decide +kernel
theorem dX4_highOf_17 : decode cX4_highOf 17 = .ok (.iload_n 1, 1) := by decide +kernel
theorem dX4_highOf_18 : decode cX4_highOf 18 = .ok (.iaload, 1) := by decide +kernel
theorem dX4_highOf_19 : decode cX4_highOf 19 = .ok (.goto 4, 3) := by decide +kernel
theorem dX4_highOf_22 : decode cX4_highOf 22 = .ok (.iconst 0, 1) := by decide +kernel
theorem dX4_highOf_23 : decode cX4_highOf 23 = .ok (.ireturn, 1) := by decide +kernel
theorem dX4_together_0 : decode cX4_together 0 = .ok (.lconst 0, 1) := by decide +kernel
theorem dX4_together_1 : decode cX4_together 1 = .ok (.lstore_n 1, 1) := by decide +kernel
theorem dX4_together_2 : decode cX4_together 2 = .ok (.iconst 0, 1) := by decide +kernel
theorem dX4_together_3 : decode cX4_together 3 = .ok (.istore_n 3, 1) := by decide +kernel
theorem dX4_together_4 : decode cX4_together 4 = .ok (.iload_n 3, 1) := by decide +kernel
theorem dX4_together_5 : decode cX4_together 5 = .ok (.aload_n 0, 1) := by decide +kernel
theorem dX4_together_6 : decode cX4_together 6 = .ok (.getfield 9, 3) := by decide +kernel
theorem dX4_together_9 : decode cX4_together 9 = .ok (.arraylength, 1) := by decide +kernel
theorem dX4_together_10 : decode cX4_together 10 = .ok (.if_icmp .ge 18, 3) := by decide +kernel
theorem dX4_together_13 : decode cX4_together 13 = .ok (.lload_n 1, 1) := by decide +kernel
theorem dX4_together_14 : decode cX4_together 14 = .ok (.aload_n 0, 1) := by decide +kernel
theorem dX4_together_15 : decode cX4_together 15 = .ok (.getfield 9, 3) := by decide +kernel
theorem dX4_together_18 : decode cX4_together 18 = .ok (.iload_n 3, 1) := by decide +kernel
theorem dX4_together_19 : decode cX4_together 19 = .ok (.laload, 1) := by decide +kernel
theorem dX4_together_20 : decode cX4_together 20 = .ok (.ladd, 1) := by decide +kernel
theorem dX4_together_21 : decode cX4_together 21 = .ok (.lstore_n 1, 1) := by decide +kernel
theorem dX4_together_22 : decode cX4_together 22 = .ok (.iinc 3 1, 3) := by decide +kernel
theorem dX4_together_25 : decode cX4_together 25 = .ok (.goto (-21), 3) := by decide +kernel
theorem dX4_together_28 : decode cX4_together 28 = .ok (.lload_n 1, 1) := by decide +kernel
theorem dX4_together_29 : decode cX4_together 29 = .ok (.lreturn, 1) := by decide +kernel
set_option maxRecDepth 20000 in
theorem ggX4_cellBits_X4_of : GoodIn wsX4_cellBits wsX4_of := goodIn_r _ [5, 6, 7, 8, 9, 10, 11, 12] (by decide +kernel) (by decide +kernel)
set_option maxRecDepth 20000 in
theorem gX4_cellBits_X4_of : GoodIn wsX4_cellBits (wsV RX4 41 RX4 yX4_of wsX4_of) := goodIn_app (goodIn_of _ (by decide +kernel)) ggX4_cellBits_X4_of
theorem dX4_cellBits_0 : decode cX4_cellBits 0 = .ok (.iconst 0, 1) := by decide +kernel
theorem dX4_cellBits_1 : decode cX4_cellBits 1 = .ok (.istore_n 1, 1) := by decide +kernel
theorem dX4_cellBits_2 : decode cX4_cellBits 2 = .ok (.iconst 0, 1) := by decide +kernel
theorem dX4_cellBits_3 : decode cX4_cellBits 3 = .ok (.istore_n 2, 1) := by decide +kernel
theorem dX4_cellBits_4 : decode cX4_cellBits 4 = .ok (.iload_n 2, 1) := by decide +kernel
theorem dX4_cellBits_5 : decode cX4_cellBits 5 = .ok (.bipush 10, 2) := by decide +kernel
theorem dX4_cellBits_7 : decode cX4_cellBits 7 = .ok (.if_icmp .ge 25, 3) := by decide +kernel
theorem dX4_cellBits_10 : decode cX4_cellBits 10 = .ok (.aload_n 0, 1) := by decide +kernel
theorem dX4_cellBits_11 : decode cX4_cellBits 11 = .ok (.iload_n 2, 1) := by decide +kernel
theorem dX4_cellBits_12 : decode cX4_cellBits 12 = .ok (.invokevirtual 41, 3) := by decide +kernel
theorem dX4_cellBits_15 : decode cX4_cellBits 15 = .ok (.lconst 0, 1) := by decide +kernel
theorem dX4_cellBits_16 : decode cX4_cellBits 16 = .ok (.lcmp, 1) := by decide +kernel
theorem dX4_cellBits_17 : decode cX4_cellBits 17 = .ok (.ifCond .le 9, 3) := by decide +kernel
theorem dX4_cellBits_20 : decode cX4_cellBits 20 = .ok (.iload_n 1, 1) := by decide +kernel
theorem dX4_cellBits_21 : decode cX4_cellBits 21 = .ok (.iconst 1, 1) := by decide +kernel
theorem dX4_cellBits_22 : decode cX4_cellBits 22 = .ok (.iload_n 2, 1) := by decide +kernel
theorem dX4_cellBits_23 : decode cX4_cellBits 23 = .ok (.ishl, 1) := by decide +kernel
theorem dX4_cellBits_24 : decode cX4_cellBits 24 = .ok (.ior, 1) := by decide +kernel
theorem dX4_cellBits_25 : decode cX4_cellBits 25 = .ok (.istore_n 1, 1) := by decide +kernel
theorem dX4_cellBits_26 : decode cX4_cellBits 26 = .ok (.iinc 2 1, 3) := by decide +kernel
theorem dX4_cellBits_29 : decode cX4_cellBits 29 = .ok (.goto (-25), 3) := by decide +kernel
theorem dX4_cellBits_32 : decode cX4_cellBits 32 = .ok (.iload_n 1, 1) := by decide +kernel
theorem dX4_cellBits_33 : decode cX4_cellBits 33 = .ok (.ireturn, 1) := by decide +kernel
set_option maxRecDepth 20000 in
theorem ggX4_placeBy_X8_moved : GoodIn wsX4_placeBy wsX8_moved := goodIn_r _ [4, 5, 6, 7, 8, 9, 10, 11] (by decide +kernel) (by decide +kernel)
set_option maxRecDepth 20000 in
theorem gX4_placeBy_X8_moved_n51 : GoodIn wsX4_placeBy (wsX8_moved) := ggX4_placeBy_X8_moved
theorem dX4_placeBy_0 : decode cX4_placeBy 0 = .ok (.iload_n 1, 1) := by decide +kernel
theorem dX4_placeBy_1 : decode cX4_placeBy 1 = .ok (.iconst 3, 1) := by decide +kernel
theorem dX4_placeBy_2 : decode cX4_placeBy 2 = .ok (.if_icmp .ne 8, 3) := by decide +kernel
theorem dX4_placeBy_5 : decode cX4_placeBy 5 = .ok (.bipush 10, 2) := by decide +kernel
theorem dX4_placeBy_7 : decode cX4_placeBy 7 = .ok (.goto 11, 3) := by decide +kernel
theorem dX4_placeBy_10 : decode cX4_placeBy 10 = .ok (.aload_n 0, 1) := by decide +kernel
theorem dX4_placeBy_11 : decode cX4_placeBy 11 = .ok (.getfield 32, 3) := by decide +kernel
theorem dX4_placeBy_14 : decode cX4_placeBy 14 = .ok (.iload_n 1, 1) := by decide +kernel
theorem dX4_placeBy_15 : decode cX4_placeBy 15 = .ok (.invokestatic 51, 3) := by decide +kernel
theorem dX4_placeBy_18 : decode cX4_placeBy 18 = .ok (.ireturn, 1) := by decide +kernel
set_option maxRecDepth 20000 in
theorem ggX4_foundNow_X4_placeBy : GoodIn wsX4_foundNow wsX4_placeBy := goodIn_r _ [5, 6, 7, 8, 9, 10, 11, 12, 13, 14, 15, 16, 29, 30, 31, 32, 33, 34] (by decide +kernel) (by decide +kernel)
set_option maxRecDepth 20000 in
theorem gX4_foundNow_X4_placeBy : GoodIn wsX4_foundNow (wsV RX4 55 RX4 yX4_placeBy wsX4_placeBy) := goodIn_app (goodIn_of _ (by decide +kernel)) ggX4_foundNow_X4_placeBy
set_option maxRecDepth 20000 in
theorem ggX4_foundNow_X4_of : GoodIn wsX4_foundNow wsX4_of := goodIn_r _ [20, 21, 29, 30, 31, 32, 33, 34] (by decide +kernel) (by decide +kernel)
set_option maxRecDepth 20000 in
theorem gX4_foundNow_X4_of : GoodIn wsX4_foundNow (wsV RX4 41 RX4 yX4_of wsX4_of) := goodIn_app (goodIn_of _ (by decide +kernel)) ggX4_foundNow_X4_of
set_option maxRecDepth 20000 in
theorem ggX4_foundNow_X7_chanceAt : GoodIn wsX4_foundNow wsX7_chanceAt := goodIn_r _ [26, 27, 28, 35, 36, 37, 38, 39, 40, 41, 42, 43] (by decide +kernel) (by decide +kernel)
set_option maxRecDepth 20000 in
theorem gX4_foundNow_X7_chanceAt : GoodIn wsX4_foundNow (wsV RX4 58 RX7 yX7_chanceAt wsX7_chanceAt) := goodIn_app (goodIn_of _ (by decide +kernel)) ggX4_foundNow_X7_chanceAt
theorem dX4_foundNow_0 : decode cX4_foundNow 0 = .ok (.aload_n 0, 1) := by decide +kernel
theorem dX4_foundNow_1 : decode cX4_foundNow 1 = .ok (.iload_n 2, 1) := by decide +kernel
theorem dX4_foundNow_2 : decode cX4_foundNow 2 = .ok (.invokevirtual 55, 3) := by decide +kernel
theorem dX4_foundNow_5 : decode cX4_foundNow 5 = .ok (.istore_n 3, 1) := by decide +kernel
theorem dX4_foundNow_6 : decode cX4_foundNow 6 = .ok (.aload_n 0, 1) := by decide +kernel
theorem dX4_foundNow_7 : decode cX4_foundNow 7 = .ok (.iload_n 3, 1) := by decide +kernel
theorem dX4_foundNow_8 : decode cX4_foundNow 8 = .ok (.invokevirtual 41, 3) := by decide +kernel
theorem dX4_foundNow_11 : decode cX4_foundNow 11 = .ok (.aload_n 1, 1) := by decide +kernel
theorem dX4_foundNow_12 : decode cX4_foundNow 12 = .ok (.iload_n 3, 1) := by decide +kernel
theorem dX4_foundNow_13 : decode cX4_foundNow 13 = .ok (.invokevirtual 58, 3) := by decide +kernel
theorem dX4_foundNow_16 : decode cX4_foundNow 16 = .ok (.i2l, 1) := by decide +kernel
theorem dX4_foundNow_17 : decode cX4_foundNow 17 = .ok (.lmul, 1) := by decide +kernel
theorem dX4_foundNow_18 : decode cX4_foundNow 18 = .ok (.lreturn, 1) := by decide +kernel
set_option maxRecDepth 20000 in
theorem ggX4_act_X4_lookBy : GoodIn wsX4_act wsX4_lookBy := goodIn_r _ [5, 6, 7, 8, 9, 4, 10, 11, 12, 13, 14, 15, 16, 17, 18, 19, 20, 21, 22, 23, 24, 25, 26, 27, 28, 29, 30, 31, 32, 33, 43, 44, 45, 46, 47, 48, 49, 50, 51, 52, 53, 54, 55, 56, 57] (by decide +kernel) (by decide +kernel)
set_option maxRecDepth 20000 in
theorem gX4_act_X4_lookBy : GoodIn wsX4_act (wsV RX4 61 RX4 yX4_lookBy wsX4_lookBy) := goodIn_app (goodIn_of _ (by decide +kernel)) ggX4_act_X4_lookBy
set_option maxRecDepth 20000 in
theorem ggX4_act_X4_pass : GoodIn wsX4_act wsX4_pass := goodIn_r _ [37, 38, 32, 33, 39, 40, 41, 4, 42, 43, 44, 45, 46, 47, 48, 49, 50, 51, 52, 53, 54, 55, 56, 57] (by decide +kernel) (by decide +kernel)
set_option maxRecDepth 20000 in
theorem gX4_act_X4_pass : GoodIn wsX4_act (wsV RX4 65 RX4 yX4_pass wsX4_pass) := goodIn_app (goodIn_of _ (by decide +kernel)) ggX4_act_X4_pass
theorem dX4_act_0 : decode cX4_act 0 = .ok (.aload_n 0, 1) := by decide +kernel
theorem dX4_act_1 : decode cX4_act 1 = .ok (.aload_n 1, 1) := by decide +kernel
theorem dX4_act_2 : decode cX4_act 2 = .ok (.iload_n 2, 1) := by decide +kernel
theorem dX4_act_3 : decode cX4_act 3 = .ok (.invokevirtual 61, 3) := by decide +kernel
theorem dX4_act_6 : decode cX4_act 6 = .ok (.aload_n 0, 1) := by decide +kernel
theorem dX4_act_7 : decode cX4_act 7 = .ok (.aload_n 1, 1) := by decide +kernel
theorem dX4_act_8 : decode cX4_act 8 = .ok (.invokevirtual 65, 3) := by decide +kernel
theorem dX4_act_11 : decode cX4_act 11 = .ok (.return_, 1) := by decide +kernel
set_option maxRecDepth 20000 in
theorem ggX4_lookBy_X4_placeBy : GoodIn wsX4_lookBy wsX4_placeBy := goodIn_r _ [6, 1, 7, 8, 9, 10, 11, 12, 13, 14, 15, 16, 30, 31, 32, 33, 34, 35] (by decide +kernel) (by decide +kernel)
set_option maxRecDepth 20000 in
theorem gX4_lookBy_X4_placeBy : GoodIn wsX4_lookBy (wsV RX4 55 RX4 yX4_placeBy wsX4_placeBy) := goodIn_app (goodIn_of _ (by decide +kernel)) ggX4_lookBy_X4_placeBy
set_option maxRecDepth 20000 in
theorem ggX4_lookBy_X8_moved : GoodIn wsX4_lookBy wsX8_moved := goodIn_r _ [9, 10, 11, 12, 13, 14, 15, 16] (by decide +kernel) (by decide +kernel)
set_option maxRecDepth 20000 in
theorem gX4_lookBy_X8_moved_n51 : GoodIn wsX4_lookBy (wsX8_moved) := ggX4_lookBy_X8_moved
set_option maxRecDepth 20000 in
theorem ggX4_lookBy_X7_chanceAt : GoodIn wsX4_lookBy wsX7_chanceAt := goodIn_r _ [21, 22, 23, 36, 37, 38, 39, 40, 41, 42, 43, 44] (by decide +kernel) (by decide +kernel)
set_option maxRecDepth 20000 in
theorem gX4_lookBy_X7_chanceAt : GoodIn wsX4_lookBy (wsV RX4 58 RX7 yX7_chanceAt wsX7_chanceAt) := goodIn_app (goodIn_of _ (by decide +kernel)) ggX4_lookBy_X7_chanceAt
set_option maxRecDepth 20000 in
theorem ggX4_lookBy_X4_lessen : GoodIn wsX4_lookBy wsX4_lessen := goodIn_r _ [27, 28, 29, 30, 31, 32, 33, 34, 35] (by decide +kernel) (by decide +kernel)
set_option maxRecDepth 20000 in
theorem gX4_lookBy_X4_lessen : GoodIn wsX4_lookBy (wsV RX4 69 RX4 yX4_lessen wsX4_lessen) := goodIn_app (goodIn_of _ (by decide +kernel)) ggX4_lookBy_X4_lessen
theorem dX4_lookBy_0 : decode cX4_lookBy 0 = .ok (.aload_n 0, 1) := by decide +kernel
theorem dX4_lookBy_1 : decode cX4_lookBy 1 = .ok (.iload_n 2, 1) := by decide +kernel
theorem dX4_lookBy_2 : decode cX4_lookBy 2 = .ok (.invokevirtual 55, 3) := by decide +kernel
theorem dX4_lookBy_5 : decode cX4_lookBy 5 = .ok (.istore_n 3, 1) := by decide +kernel
theorem dX4_lookBy_6 : decode cX4_lookBy 6 = .ok (.aload_n 0, 1) := by decide +kernel
theorem dX4_lookBy_7 : decode cX4_lookBy 7 = .ok (.aload_n 0, 1) := by decide +kernel
theorem dX4_lookBy_8 : decode cX4_lookBy 8 = .ok (.getfield 32, 3) := by decide +kernel
theorem dX4_lookBy_11 : decode cX4_lookBy 11 = .ok (.iload_n 2, 1) := by decide +kernel
theorem dX4_lookBy_12 : decode cX4_lookBy 12 = .ok (.invokestatic 51, 3) := by decide +kernel
theorem dX4_lookBy_15 : decode cX4_lookBy 15 = .ok (.putfield 32, 3) := by decide +kernel
theorem dX4_lookBy_18 : decode cX4_lookBy 18 = .ok (.aload_n 0, 1) := by decide +kernel
theorem dX4_lookBy_19 : decode cX4_lookBy 19 = .ok (.iload_n 3, 1) := by decide +kernel
theorem dX4_lookBy_20 : decode cX4_lookBy 20 = .ok (.bipush 10, 2) := by decide +kernel
theorem dX4_lookBy_22 : decode cX4_lookBy 22 = .ok (.aload_n 1, 1) := by decide +kernel
theorem dX4_lookBy_23 : decode cX4_lookBy 23 = .ok (.iload_n 3, 1) := by decide +kernel
theorem dX4_lookBy_24 : decode cX4_lookBy 24 = .ok (.invokevirtual 58, 3) := by decide +kernel
theorem dX4_lookBy_27 : decode cX4_lookBy 27 = .ok (.isub, 1) := by decide +kernel
theorem dX4_lookBy_28 : decode cX4_lookBy 28 = .ok (.invokevirtual 69, 3) := by decide +kernel
theorem dX4_lookBy_31 : decode cX4_lookBy 31 = .ok (.return_, 1) := by decide +kernel
theorem dX4_lessen_0 : decode cX4_lessen 0 = .ok (.iconst 0, 1) := by decide +kernel
theorem dX4_lessen_1 : decode cX4_lessen 1 = .ok (.istore_n 3, 1) := by decide +kernel
theorem dX4_lessen_2 : decode cX4_lessen 2 = .ok (.iload_n 3, 1) := by decide +kernel
theorem dX4_lessen_3 : decode cX4_lessen 3 = .ok (.aload_n 0, 1) := by decide +kernel
theorem dX4_lessen_4 : decode cX4_lessen 4 = .ok (.getfield 9, 3) := by decide +kernel
theorem dX4_lessen_7 : decode cX4_lessen 7 = .ok (.arraylength, 1) := by decide +kernel
theorem dX4_lessen_8 : decode cX4_lessen 8 = .ok (.if_icmp .ge 31, 3) := by decide +kernel
theorem dX4_lessen_11 : decode cX4_lessen 11 = .ok (.aload_n 0, 1) := by decide +kernel
theorem dX4_lessen_12 : decode cX4_lessen 12 = .ok (.getfield 9, 3) := by decide +kernel
theorem dX4_lessen_15 : decode cX4_lessen 15 = .ok (.iload_n 3, 1) := by decide +kernel
theorem dX4_lessen_16 : decode cX4_lessen 16 = .ok (.dup2, 1) := by decide +kernel
theorem dX4_lessen_17 : decode cX4_lessen 17 = .ok (.laload, 1) := by decide +kernel
theorem dX4_lessen_18 : decode cX4_lessen 18 = .ok (.iload_n 3, 1) := by decide +kernel
theorem dX4_lessen_19 : decode cX4_lessen 19 = .ok (.iload_n 1, 1) := by decide +kernel
theorem dX4_lessen_20 : decode cX4_lessen 20 = .ok (.if_icmp .ne 8, 3) := by decide +kernel
theorem dX4_lessen_23 : decode cX4_lessen 23 = .ok (.iload_n 2, 1) := by decide +kernel
theorem dX4_lessen_24 : decode cX4_lessen 24 = .ok (.i2l, 1) := by decide +kernel
theorem dX4_lessen_25 : decode cX4_lessen 25 = .ok (.goto 6, 3) := by decide +kernel
theorem dX4_lessen_28 : decode cX4_lessen 28 = .ok (.ldc2_w 73, 3) := by decide +kernel
theorem dX4_lessen_31 : decode cX4_lessen 31 = .ok (.lmul, 1) := by decide +kernel
theorem dX4_lessen_32 : decode cX4_lessen 32 = .ok (.lastore, 1) := by decide +kernel
theorem dX4_lessen_33 : decode cX4_lessen 33 = .ok (.iinc 3 1, 3) := by decide +kernel
theorem dX4_lessen_36 : decode cX4_lessen 36 = .ok (.goto (-34), 3) := by decide +kernel
theorem dX4_lessen_39 : decode cX4_lessen 39 = .ok (.return_, 1) := by decide +kernel
set_option maxRecDepth 20000 in
theorem ggX4_pass_X4_of : GoodIn wsX4_pass wsX4_of := goodIn_r _ [8, 2, 9, 10, 11, 12, 13, 14] (by decide +kernel) (by decide +kernel)
set_option maxRecDepth 20000 in
theorem gX4_pass_X4_of : GoodIn wsX4_pass (wsV RX4 41 RX4 yX4_of wsX4_of) := goodIn_app (goodIn_of _ (by decide +kernel)) ggX4_pass_X4_of
theorem dX4_pass_0 : decode cX4_pass 0 = .ok (.aload_n 0, 1) := by decide +kernel
theorem dX4_pass_1 : decode cX4_pass 1 = .ok (.dup, 1) := by decide +kernel
theorem dX4_pass_2 : decode cX4_pass 2 = .ok (.getfield 35, 3) := by decide +kernel
theorem dX4_pass_5 : decode cX4_pass 5 = .ok (.iconst 1, 1) := by decide +kernel
theorem dX4_pass_6 : decode cX4_pass 6 = .ok (.iadd, 1) := by decide +kernel
theorem dX4_pass_7 : decode cX4_pass 7 = .ok (.putfield 35, 3) := by decide +kernel
theorem dX4_pass_10 : decode cX4_pass 10 = .ok (.lconst 0, 1) := by decide +kernel
theorem dX4_pass_11 : decode cX4_pass 11 = .ok (.lstore_n 2, 1) := by decide +kernel
theorem dX4_pass_12 : decode cX4_pass 12 = .ok (.iconst 0, 1) := by decide +kernel
theorem dX4_pass_13 : decode cX4_pass 13 = .ok (.istore 4, 2) := by decide +kernel
theorem dX4_pass_15 : decode cX4_pass 15 = .ok (.iload 4, 2) := by decide +kernel
theorem dX4_pass_17 : decode cX4_pass 17 = .ok (.bipush 10, 2) := by decide +kernel
theorem dX4_pass_19 : decode cX4_pass 19 = .ok (.if_icmp .ge 141, 3) := by decide +kernel
theorem dX4_pass_22 : decode cX4_pass 22 = .ok (.iload 4, 2) := by decide +kernel
theorem dX4_pass_24 : decode cX4_pass 24 = .ok (.aload_n 0, 1) := by decide +kernel
theorem dX4_pass_25 : decode cX4_pass 25 = .ok (.getfield 9, 3) := by decide +kernel
theorem dX4_pass_28 : decode cX4_pass 28 = .ok (.arraylength, 1) := by decide +kernel
theorem dX4_pass_29 : decode cX4_pass 29 = .ok (.if_icmp .ge 131, 3) := by decide +kernel
theorem dX4_pass_32 : decode cX4_pass 32 = .ok (.aload_n 0, 1) := by decide +kernel
theorem dX4_pass_33 : decode cX4_pass 33 = .ok (.getfield 9, 3) := by decide +kernel
theorem dX4_pass_36 : decode cX4_pass 36 = .ok (.iload 4, 2) := by decide +kernel
theorem dX4_pass_38 : decode cX4_pass 38 = .ok (.laload, 1) := by decide +kernel
theorem dX4_pass_39 : decode cX4_pass 39 = .ok (.lstore 5, 2) := by decide +kernel
theorem dX4_pass_41 : decode cX4_pass 41 = .ok (.iload 4, 2) := by decide +kernel
theorem dX4_pass_43 : decode cX4_pass 43 = .ok (.bipush 9, 2) := by decide +kernel
theorem dX4_pass_45 : decode cX4_pass 45 = .ok (.if_icmp .ge 14, 3) := by decide +kernel
theorem dX4_pass_48 : decode cX4_pass 48 = .ok (.aload_n 0, 1) := by decide +kernel
theorem dX4_pass_49 : decode cX4_pass 49 = .ok (.iload 4, 2) := by decide +kernel
theorem dX4_pass_51 : decode cX4_pass 51 = .ok (.iconst 1, 1) := by decide +kernel
theorem dX4_pass_52 : decode cX4_pass 52 = .ok (.iadd, 1) := by decide +kernel
theorem dX4_pass_53 : decode cX4_pass 53 = .ok (.invokevirtual 41, 3) := by decide +kernel
theorem dX4_pass_56 : decode cX4_pass 56 = .ok (.goto 4, 3) := by decide +kernel
theorem dX4_pass_59 : decode cX4_pass 59 = .ok (.lconst 0, 1) := by decide +kernel
theorem dX4_pass_60 : decode cX4_pass 60 = .ok (.lstore 7, 2) := by decide +kernel
theorem dX4_pass_62 : decode cX4_pass 62 = .ok (.bipush 10, 2) := by decide +kernel
theorem dX4_pass_64 : decode cX4_pass 64 = .ok (.aload_n 1, 1) := by decide +kernel
theorem dX4_pass_65 : decode cX4_pass 65 = .ok (.getfield 75, 3) := by decide +kernel
theorem dX4_pass_68 : decode cX4_pass 68 = .ok (.isub, 1) := by decide +kernel
theorem dX4_pass_69 : decode cX4_pass 69 = .ok (.aload_n 1, 1) := by decide +kernel
theorem dX4_pass_70 : decode cX4_pass 70 = .ok (.getfield 78, 3) := by decide +kernel
theorem dX4_pass_73 : decode cX4_pass 73 = .ok (.isub, 1) := by decide +kernel
theorem dX4_pass_74 : decode cX4_pass 74 = .ok (.istore 9, 2) := by decide +kernel
theorem dX4_pass_76 : decode cX4_pass 76 = .ok (.iload 4, 2) := by decide +kernel
theorem dX4_pass_78 : decode cX4_pass 78 = .ok (.ifCond .ne 12, 3) := by decide +kernel
theorem dX4_pass_81 : decode cX4_pass 81 = .ok (.iload 9, 2) := by decide +kernel
theorem dX4_pass_83 : decode cX4_pass 83 = .ok (.aload_n 1, 1) := by decide +kernel
theorem dX4_pass_84 : decode cX4_pass 84 = .ok (.getfield 78, 3) := by decide +kernel
theorem dX4_pass_87 : decode cX4_pass 87 = .ok (.iadd, 1) := by decide +kernel
theorem dX4_pass_88 : decode cX4_pass 88 = .ok (.istore 9, 2) := by decide +kernel
theorem dX4_pass_90 : decode cX4_pass 90 = .ok (.iload 4, 2) := by decide +kernel
theorem dX4_pass_92 : decode cX4_pass 92 = .ok (.bipush 9, 2) := by decide +kernel
theorem dX4_pass_94 : decode cX4_pass 94 = .ok (.if_icmp .ne 12, 3) := by decide +kernel
theorem dX4_pass_97 : decode cX4_pass 97 = .ok (.iload 9, 2) := by decide +kernel
theorem dX4_pass_99 : decode cX4_pass 99 = .ok (.aload_n 1, 1) := by decide +kernel
theorem dX4_pass_100 : decode cX4_pass 100 = .ok (.getfield 75, 3) := by decide +kernel
theorem dX4_pass_103 : decode cX4_pass 103 = .ok (.iadd, 1) := by decide +kernel
theorem dX4_pass_104 : decode cX4_pass 104 = .ok (.istore 9, 2) := by decide +kernel
theorem dX4_pass_106 : decode cX4_pass 106 = .ok (.aload_n 0, 1) := by decide +kernel
theorem dX4_pass_107 : decode cX4_pass 107 = .ok (.getfield 9, 3) := by decide +kernel
theorem dX4_pass_110 : decode cX4_pass 110 = .ok (.iload 4, 2) := by decide +kernel
theorem dX4_pass_112 : decode cX4_pass 112 = .ok (.aload_n 0, 1) := by decide +kernel
theorem dX4_pass_113 : decode cX4_pass 113 = .ok (.getfield 35, 3) := by decide +kernel
theorem dX4_pass_116 : decode cX4_pass 116 = .ok (.aload_n 1, 1) := by decide +kernel
theorem dX4_pass_117 : decode cX4_pass 117 = .ok (.getfield 81, 3) := by decide +kernel
theorem dX4_pass_120 : decode cX4_pass 120 = .ok (.if_icmp .lt 7, 3) := by decide +kernel
theorem dX4_pass_123 : decode cX4_pass 123 = .ok (.lconst 0, 1) := by decide +kernel
theorem dX4_pass_124 : decode cX4_pass 124 = .ok (.goto 26, 3) := by decide +kernel
theorem dX4_pass_127 : decode cX4_pass 127 = .ok (.lload 5, 2) := by decide +kernel
theorem dX4_pass_129 : decode cX4_pass 129 = .ok (.iload 9, 2) := by decide +kernel
theorem dX4_pass_131 : decode cX4_pass 131 = .ok (.i2l, 1) := by decide +kernel
theorem dX4_pass_132 : decode cX4_pass 132 = .ok (.lmul, 1) := by decide +kernel
theorem dX4_pass_133 : decode cX4_pass 133 = .ok (.lload_n 2, 1) := by decide +kernel
theorem dX4_pass_134 : decode cX4_pass 134 = .ok (.aload_n 1, 1) := by decide +kernel
theorem dX4_pass_135 : decode cX4_pass 135 = .ok (.getfield 75, 3) := by decide +kernel
theorem dX4_pass_138 : decode cX4_pass 138 = .ok (.i2l, 1) := by decide +kernel
theorem dX4_pass_139 : decode cX4_pass 139 = .ok (.lmul, 1) := by decide +kernel
theorem dX4_pass_140 : decode cX4_pass 140 = .ok (.ladd, 1) := by decide +kernel
theorem dX4_pass_141 : decode cX4_pass 141 = .ok (.lload 7, 2) := by decide +kernel
theorem dX4_pass_143 : decode cX4_pass 143 = .ok (.aload_n 1, 1) := by decide +kernel
theorem dX4_pass_144 : decode cX4_pass 144 = .ok (.getfield 78, 3) := by decide +kernel
theorem dX4_pass_147 : decode cX4_pass 147 = .ok (.i2l, 1) := by decide +kernel
theorem dX4_pass_148 : decode cX4_pass 148 = .ok (.lmul, 1) := by decide +kernel
theorem dX4_pass_149 : decode cX4_pass 149 = .ok (.ladd, 1) := by decide +kernel
theorem dX4_pass_150 : decode cX4_pass 150 = .ok (.lastore, 1) := by decide +kernel
theorem dX4_pass_151 : decode cX4_pass 151 = .ok (.lload 5, 2) := by decide +kernel
theorem dX4_pass_153 : decode cX4_pass 153 = .ok (.lstore_n 2, 1) := by decide +kernel
theorem dX4_pass_154 : decode cX4_pass 154 = .ok (.iinc 4 1, 3) := by decide +kernel
theorem dX4_pass_157 : decode cX4_pass 157 = .ok (.goto (-142), 3) := by decide +kernel
theorem dX4_pass_160 : decode cX4_pass 160 = .ok (.bipush 10, 2) := by decide +kernel
theorem dX4_pass_162 : decode cX4_pass 162 = .ok (.aload_n 0, 1) := by decide +kernel
theorem dX4_pass_163 : decode cX4_pass 163 = .ok (.getfield 9, 3) := by decide +kernel
theorem dX4_pass_166 : decode cX4_pass 166 = .ok (.arraylength, 1) := by decide +kernel
theorem dX4_pass_167 : decode cX4_pass 167 = .ok (.if_icmp .ge 16, 3) := by decide +kernel
theorem dX4_pass_170 : decode cX4_pass 170 = .ok (.aload_n 0, 1) := by decide +kernel
theorem dX4_pass_171 : decode cX4_pass 171 = .ok (.getfield 9, 3) := by decide +kernel
theorem dX4_pass_174 : decode cX4_pass 174 = .ok (.bipush 10, 2) := by decide +kernel
theorem dX4_pass_176 : decode cX4_pass 176 = .ok (.dup2, 1) := by decide +kernel
theorem dX4_pass_177 : decode cX4_pass 177 = .ok (.laload, 1) := by decide +kernel
theorem dX4_pass_178 : decode cX4_pass 178 = .ok (.ldc2_w 73, 3) := by decide +kernel
theorem dX4_pass_181 : decode cX4_pass 181 = .ok (.lmul, 1) := by decide +kernel
theorem dX4_pass_182 : decode cX4_pass 182 = .ok (.lastore, 1) := by decide +kernel
theorem dX4_pass_183 : decode cX4_pass 183 = .ok (.return_, 1) := by decide +kernel
set_option maxRecDepth 20000 in
theorem ggX4_believe_X8_isWithin : GoodIn wsX4_believe wsX8_isWithin := goodIn_r _ [8] (by decide +kernel) (by decide +kernel)
set_option maxRecDepth 20000 in
theorem gX4_believe_X8_isWithin_n86 : GoodIn wsX4_believe (wsX8_isWithin) := ggX4_believe_X8_isWithin
theorem dX4_believe_0 : decode cX4_believe 0 = .ok (.iconst 0, 1) := by decide +kernel
theorem dX4_believe_1 : decode cX4_believe 1 = .ok (.istore 4, 2) := by decide +kernel
theorem dX4_believe_3 : decode cX4_believe 3 = .ok (.iload 4, 2) := by decide +kernel
theorem dX4_believe_5 : decode cX4_believe 5 = .ok (.aload_n 0, 1) := by decide +kernel
theorem dX4_believe_6 : decode cX4_believe 6 = .ok (.getfield 9, 3) := by decide +kernel
theorem dX4_believe_9 : decode cX4_believe 9 = .ok (.arraylength, 1) := by decide +kernel
theorem dX4_believe_10 : decode cX4_believe 10 = .ok (.if_icmp .ge 62, 3) := by decide +kernel
theorem dX4_believe_13 : decode cX4_believe 13 = .ok (.iload 4, 2) := by decide +kernel
theorem dX4_believe_15 : decode cX4_believe 15 = .ok (.bipush 10, 2) := by decide +kernel
theorem dX4_believe_17 : decode cX4_believe 17 = .ok (.if_icmp .ne 19, 3) := by decide +kernel
theorem dX4_believe_20 : decode cX4_believe 20 = .ok (.aload_n 0, 1) := by decide +kernel
theorem dX4_believe_21 : decode cX4_believe 21 = .ok (.getfield 9, 3) := by decide +kernel
theorem dX4_believe_24 : decode cX4_believe 24 = .ok (.iload 4, 2) := by decide +kernel
theorem dX4_believe_26 : decode cX4_believe 26 = .ok (.dup2, 1) := by decide +kernel
theorem dX4_believe_27 : decode cX4_believe 27 = .ok (.laload, 1) := by decide +kernel
theorem dX4_believe_28 : decode cX4_believe 28 = .ok (.ldc2_w 84, 3) := by decide +kernel
theorem dX4_believe_31 : decode cX4_believe 31 = .ok (.lmul, 1) := by decide +kernel
theorem dX4_believe_32 : decode cX4_believe 32 = .ok (.lastore, 1) := by decide +kernel
theorem dX4_believe_33 : decode cX4_believe 33 = .ok (.goto 33, 3) := by decide +kernel
theorem dX4_believe_36 : decode cX4_believe 36 = .ok (.aload_n 0, 1) := by decide +kernel
theorem dX4_believe_37 : decode cX4_believe 37 = .ok (.getfield 9, 3) := by decide +kernel
theorem dX4_believe_40 : decode cX4_believe 40 = .ok (.iload 4, 2) := by decide +kernel
theorem dX4_believe_42 : decode cX4_believe 42 = .ok (.dup2, 1) := by decide +kernel
theorem dX4_believe_43 : decode cX4_believe 43 = .ok (.laload, 1) := by decide +kernel
theorem dX4_believe_44 : decode cX4_believe 44 = .ok (.iload 4, 2) := by decide +kernel
theorem dX4_believe_46 : decode cX4_believe 46 = .ok (.iload_n 1, 1) := by decide +kernel
theorem dX4_believe_47 : decode cX4_believe 47 = .ok (.iload_n 2, 1) := by decide +kernel
theorem dX4_believe_48 : decode cX4_believe 48 = .ok (.invokestatic 86, 3) := by decide +kernel
theorem dX4_believe_51 : decode cX4_believe 51 = .ok (.ifCond .eq 8, 3) := by decide +kernel
theorem dX4_believe_54 : decode cX4_believe 54 = .ok (.iload_n 3, 1) := by decide +kernel
theorem dX4_believe_55 : decode cX4_believe 55 = .ok (.i2l, 1) := by decide +kernel
theorem dX4_believe_56 : decode cX4_believe 56 = .ok (.goto 8, 3) := by decide +kernel
theorem dX4_believe_59 : decode cX4_believe 59 = .ok (.bipush 10, 2) := by decide +kernel
theorem dX4_believe_61 : decode cX4_believe 61 = .ok (.iload_n 3, 1) := by decide +kernel
theorem dX4_believe_62 : decode cX4_believe 62 = .ok (.isub, 1) := by decide +kernel
theorem dX4_believe_63 : decode cX4_believe 63 = .ok (.i2l, 1) := by decide +kernel
theorem dX4_believe_64 : decode cX4_believe 64 = .ok (.lmul, 1) := by decide +kernel
theorem dX4_believe_65 : decode cX4_believe 65 = .ok (.lastore, 1) := by decide +kernel
theorem dX4_believe_66 : decode cX4_believe 66 = .ok (.iinc 4 1, 3) := by decide +kernel
theorem dX4_believe_69 : decode cX4_believe 69 = .ok (.goto (-66), 3) := by decide +kernel
theorem dX4_believe_72 : decode cX4_believe 72 = .ok (.aload_n 0, 1) := by decide +kernel
theorem dX4_believe_73 : decode cX4_believe 73 = .ok (.getfield 38, 3) := by decide +kernel
theorem dX4_believe_76 : decode cX4_believe 76 = .ok (.ifCond .lt 57, 3) := by decide +kernel
theorem dX4_believe_79 : decode cX4_believe 79 = .ok (.aload_n 0, 1) := by decide +kernel
theorem dX4_believe_80 : decode cX4_believe 80 = .ok (.getfield 38, 3) := by decide +kernel
theorem dX4_believe_83 : decode cX4_believe 83 = .ok (.aload_n 0, 1) := by decide +kernel
theorem dX4_believe_84 : decode cX4_believe 84 = .ok (.getfield 15, 3) := by decide +kernel
theorem dX4_believe_87 : decode cX4_believe 87 = .ok (.arraylength, 1) := by decide +kernel
theorem dX4_believe_88 : decode cX4_believe 88 = .ok (.if_icmp .ge 45, 3) := by decide +kernel
theorem dX4_believe_91 : decode cX4_believe 91 = .ok (.aload_n 0, 1) := by decide +kernel
theorem dX4_believe_92 : decode cX4_believe 92 = .ok (.getfield 38, 3) := by decide +kernel
theorem dX4_believe_95 : decode cX4_believe 95 = .ok (.aload_n 0, 1) := by decide +kernel
theorem dX4_believe_96 : decode cX4_believe 96 = .ok (.getfield 19, 3) := by decide +kernel
theorem dX4_believe_99 : decode cX4_believe 99 = .ok (.arraylength, 1) := by decide +kernel
theorem dX4_believe_100 : decode cX4_believe 100 = .ok (.if_icmp .ge 33, 3) := by decide +kernel
theorem dX4_believe_103 : decode cX4_believe 103 = .ok (.aload_n 0, 1) := by decide +kernel
theorem dX4_believe_104 : decode cX4_believe 104 = .ok (.getfield 15, 3) := by decide +kernel
theorem dX4_believe_107 : decode cX4_believe 107 = .ok (.aload_n 0, 1) := by decide +kernel
theorem dX4_believe_108 : decode cX4_believe 108 = .ok (.getfield 38, 3) := by decide +kernel
theorem dX4_believe_111 : decode cX4_believe 111 = .ok (.iload_n 1, 1) := by decide +kernel
theorem dX4_believe_112 : decode cX4_believe 112 = .ok (.iastore, 1) := by decide +kernel
theorem dX4_believe_113 : decode cX4_believe 113 = .ok (.aload_n 0, 1) := by decide +kernel
theorem dX4_believe_114 : decode cX4_believe 114 = .ok (.getfield 19, 3) := by decide +kernel
theorem dX4_believe_117 : decode cX4_believe 117 = .ok (.aload_n 0, 1) := by decide +kernel
theorem dX4_believe_118 : decode cX4_believe 118 = .ok (.getfield 38, 3) := by decide +kernel
theorem dX4_believe_121 : decode cX4_believe 121 = .ok (.iload_n 2, 1) := by decide +kernel
theorem dX4_believe_122 : decode cX4_believe 122 = .ok (.iastore, 1) := by decide +kernel
theorem dX4_believe_123 : decode cX4_believe 123 = .ok (.aload_n 0, 1) := by decide +kernel
theorem dX4_believe_124 : decode cX4_believe 124 = .ok (.dup, 1) := by decide +kernel
theorem dX4_believe_125 : decode cX4_believe 125 = .ok (.getfield 38, 3) := by decide +kernel
theorem dX4_believe_128 : decode cX4_believe 128 = .ok (.iconst 1, 1) := by decide +kernel
theorem dX4_believe_129 : decode cX4_believe 129 = .ok (.iadd, 1) := by decide +kernel
theorem dX4_believe_130 : decode cX4_believe 130 = .ok (.putfield 38, 3) := by decide +kernel
theorem dX4_believe_133 : decode cX4_believe 133 = .ok (.return_, 1) := by decide +kernel
set_option maxRecDepth 20000 in
theorem ggX5_init_X4_init : GoodIn wsX5_init wsX4_init := goodIn_r _ [14, 15, 2, 3, 16, 17, 18, 19, 20, 22, 23, 24, 25, 26, 27] (by decide +kernel) (by decide +kernel)
set_option maxRecDepth 20000 in
theorem gX5_init_X4_init : GoodIn wsX5_init (wsX4_init) := ggX5_init_X4_init
theorem dX5_init_0 : decode cX5_init 0 = .ok (.aload_n 0, 1) := by decide +kernel
theorem dX5_init_1 : decode cX5_init 1 = .ok (.invokespecial 1, 3) := by decide +kernel
theorem dX5_init_4 : decode cX5_init 4 = .ok (.aload_n 0, 1) := by decide +kernel
theorem dX5_init_5 : decode cX5_init 5 = .ok (.iload_n 1, 1) := by decide +kernel
theorem dX5_init_6 : decode cX5_init 6 = .ok (.iconst 0, 1) := by decide +kernel
theorem dX5_init_7 : decode cX5_init 7 = .ok (.invokestatic 7, 3) := by decide +kernel
theorem dX5_init_10 : decode cX5_init 10 = .ok (.anewarray 13, 3) := by decide +kernel
theorem dX5_init_13 : decode cX5_init 13 = .ok (.putfield 15, 3) := by decide +kernel
theorem dX5_init_16 : decode cX5_init 16 = .ok (.iconst 0, 1) := by decide +kernel
theorem dX5_init_17 : decode cX5_init 17 = .ok (.istore_n 2, 1) := by decide +kernel
theorem dX5_init_18 : decode cX5_init 18 = .ok (.iload_n 2, 1) := by decide +kernel
theorem dX5_init_19 : decode cX5_init 19 = .ok (.aload_n 0, 1) := by decide +kernel
theorem dX5_init_20 : decode cX5_init 20 = .ok (.getfield 15, 3) := by decide +kernel
theorem dX5_init_23 : decode cX5_init 23 = .ok (.arraylength, 1) := by decide +kernel
theorem dX5_init_24 : decode cX5_init 24 = .ok (.if_icmp .ge 22, 3) := by decide +kernel
theorem dX5_init_27 : decode cX5_init 27 = .ok (.aload_n 0, 1) := by decide +kernel
theorem dX5_init_28 : decode cX5_init 28 = .ok (.getfield 15, 3) := by decide +kernel
theorem dX5_init_31 : decode cX5_init 31 = .ok (.iload_n 2, 1) := by decide +kernel
theorem dX5_init_32 : decode cX5_init 32 = .ok (.new 13, 3) := by decide +kernel
theorem dX5_init_35 : decode cX5_init 35 = .ok (.dup, 1) := by decide +kernel
theorem dX5_init_36 : decode cX5_init 36 = .ok (.invokespecial 21, 3) := by decide +kernel
theorem dX5_init_39 : decode cX5_init 39 = .ok (.aastore, 1) := by decide +kernel
theorem dX5_init_40 : decode cX5_init 40 = .ok (.iinc 2 1, 3) := by decide +kernel
theorem dX5_init_43 : decode cX5_init 43 = .ok (.goto (-25), 3) := by decide +kernel
theorem dX5_init_46 : decode cX5_init 46 = .ok (.return_, 1) := by decide +kernel
theorem dX5_at_0 : decode cX5_at 0 = .ok (.iload_n 1, 1) := by decide +kernel
theorem dX5_at_1 : decode cX5_at 1 = .ok (.ifCond .lt 21, 3) := by decide +kernel
theorem dX5_at_4 : decode cX5_at 4 = .ok (.iload_n 1, 1) := by decide +kernel
theorem dX5_at_5 : decode cX5_at 5 = .ok (.aload_n 0, 1) := by decide +kernel
theorem dX5_at_6 : decode cX5_at 6 = .ok (.getfield 15, 3) := by decide +kernel
theorem dX5_at_9 : decode cX5_at 9 = .ok (.arraylength, 1) := by decide +kernel
theorem dX5_at_10 : decode cX5_at 10 = .ok (.if_icmp .ge 12, 3) := by decide +kernel
theorem dX5_at_13 : decode cX5_at 13 = .ok (.aload_n 0, 1) := by decide +kernel
theorem dX5_at_14 : decode cX5_at 14 = .ok (.getfield 15, 3) := by decide +kernel
theorem dX5_at_17 : decode cX5_at 17 = .ok (.iload_n 1, 1) := by decide +kernel
theorem dX5_at_18 : decode cX5_at 18 = .ok (.aaload, 1) := by decide +kernel
theorem dX5_at_19 : decode cX5_at 19 = .ok (.goto 4, 3) := by decide +kernel
theorem dX5_at_22 : decode cX5_at 22 = .ok (.aconst_null, 1) := by decide +kernel
theorem dX5_at_23 : decode cX5_at 23 = .ok (.areturn, 1) := by decide +kernel
set_option maxRecDepth 20000 in
theorem ggX5_put_X5_at : GoodIn wsX5_put wsX5_at := goodIn_r _ [5, 6, 30] (by decide +kernel) (by decide +kernel)
set_option maxRecDepth 20000 in
theorem gX5_put_X5_at : GoodIn wsX5_put (wsV RX5 22 RX5 yX5_at wsX5_at) := goodIn_app (goodIn_of _ (by decide +kernel)) ggX5_put_X5_at
set_option maxRecDepth 20000 in
theorem ggX5_put_X4_copy : GoodIn wsX5_put wsX4_copy := goodIn_r _ [11, 12, 13, 14, 15, 16, 17, 18, 19, 20, 10, 21, 22, 23, 24, 25, 26, 27, 28, 29, 31, 32, 33, 34, 35, 36] (by decide +kernel) (by decide +kernel)
set_option maxRecDepth 20000 in
theorem gX5_put_X4_copy : GoodIn wsX5_put (wsV RX5 26 RX4 yX4_copy wsX4_copy) := goodIn_app (goodIn_of _ (by decide +kernel)) ggX5_put_X4_copy
theorem dX5_put_0 : decode cX5_put 0 = .ok (.aload_n 0, 1) := by decide +kernel
theorem dX5_put_1 : decode cX5_put 1 = .ok (.iload_n 1, 1) := by decide +kernel
theorem dX5_put_2 : decode cX5_put 2 = .ok (.invokevirtual 22, 3) := by decide +kernel
theorem dX5_put_5 : decode cX5_put 5 = .ok (.astore_n 3, 1) := by decide +kernel
theorem dX5_put_6 : decode cX5_put 6 = .ok (.aload_n 3, 1) := by decide +kernel
theorem dX5_put_7 : decode cX5_put 7 = .ok (.ifnull 8, 3) := by decide +kernel
theorem dX5_put_10 : decode cX5_put 10 = .ok (.aload_n 3, 1) := by decide +kernel
theorem dX5_put_11 : decode cX5_put 11 = .ok (.aload_n 2, 1) := by decide +kernel
theorem dX5_put_12 : decode cX5_put 12 = .ok (.invokevirtual 26, 3) := by decide +kernel
theorem dX5_put_15 : decode cX5_put 15 = .ok (.return_, 1) := by decide +kernel
set_option maxRecDepth 20000 in
theorem ggX5_give_X5_at : GoodIn wsX5_give wsX5_at := goodIn_r _ [5, 6, 30] (by decide +kernel) (by decide +kernel)
set_option maxRecDepth 20000 in
theorem gX5_give_X5_at : GoodIn wsX5_give (wsV RX5 22 RX5 yX5_at wsX5_at) := goodIn_app (goodIn_of _ (by decide +kernel)) ggX5_give_X5_at
set_option maxRecDepth 20000 in
theorem ggX5_give_X4_copy : GoodIn wsX5_give wsX4_copy := goodIn_r _ [11, 12, 13, 14, 15, 16, 17, 18, 19, 20, 10, 21, 22, 23, 24, 25, 26, 27, 28, 29, 31, 32, 33, 34, 35, 36] (by decide +kernel) (by decide +kernel)
set_option maxRecDepth 20000 in
theorem gX5_give_X4_copy : GoodIn wsX5_give (wsV RX5 26 RX4 yX4_copy wsX4_copy) := goodIn_app (goodIn_of _ (by decide +kernel)) ggX5_give_X4_copy
theorem dX5_give_0 : decode cX5_give 0 = .ok (.aload_n 0, 1) := by decide +kernel
theorem dX5_give_1 : decode cX5_give 1 = .ok (.iload_n 1, 1) := by decide +kernel
theorem dX5_give_2 : decode cX5_give 2 = .ok (.invokevirtual 22, 3) := by decide +kernel
theorem dX5_give_5 : decode cX5_give 5 = .ok (.astore_n 3, 1) := by decide +kernel
theorem dX5_give_6 : decode cX5_give 6 = .ok (.aload_n 3, 1) := by decide +kernel
theorem dX5_give_7 : decode cX5_give 7 = .ok (.ifnull 8, 3) := by decide +kernel
theorem dX5_give_10 : decode cX5_give 10 = .ok (.aload_n 2, 1) := by decide +kernel
theorem dX5_give_11 : decode cX5_give 11 = .ok (.aload_n 3, 1) := by decide +kernel
theorem dX5_give_12 : decode cX5_give 12 = .ok (.invokevirtual 26, 3) := by decide +kernel
theorem dX5_give_15 : decode cX5_give 15 = .ok (.return_, 1) := by decide +kernel
theorem dX6_init_0 : decode cX6_init 0 = .ok (.aload_n 0, 1) := by decide +kernel
theorem dX6_init_1 : decode cX6_init 1 = .ok (.invokespecial 3, 3) := by decide +kernel
theorem dX6_init_4 : decode cX6_init 4 = .ok (.aload_n 0, 1) := by decide +kernel
theorem dX6_init_5 : decode cX6_init 5 = .ok (.bipush 40, 2) := by decide +kernel
theorem dX6_init_7 : decode cX6_init 7 = .ok (.newarray .int, 2) := by decide +kernel
theorem dX6_init_9 : decode cX6_init 9 = .ok (.putfield 11, 3) := by decide +kernel
theorem dX6_init_12 : decode cX6_init 12 = .ok (.return_, 1) := by decide +kernel
theorem dX6_size_0 : decode cX6_size 0 = .ok (.aload_n 0, 1) := by decide +kernel
theorem dX6_size_1 : decode cX6_size 1 = .ok (.getfield 15, 3) := by decide +kernel
theorem dX6_size_4 : decode cX6_size 4 = .ok (.ireturn, 1) := by decide +kernel
theorem dX6_isFull_0 : decode cX6_isFull 0 = .ok (.aload_n 0, 1) := by decide +kernel
theorem dX6_isFull_1 : decode cX6_isFull 1 = .ok (.getfield 15, 3) := by decide +kernel
theorem dX6_isFull_4 : decode cX6_isFull 4 = .ok (.aload_n 0, 1) := by decide +kernel
theorem dX6_isFull_5 : decode cX6_isFull 5 = .ok (.getfield 11, 3) := by decide +kernel
theorem dX6_isFull_8 : decode cX6_isFull 8 = .ok (.arraylength, 1) := by decide +kernel
theorem dX6_isFull_9 : decode cX6_isFull 9 = .ok (.if_icmp .lt 7, 3) := by decide +kernel
theorem dX6_isFull_12 : decode cX6_isFull 12 = .ok (.iconst 1, 1) := by decide +kernel
theorem dX6_isFull_13 : decode cX6_isFull 13 = .ok (.goto 4, 3) := by decide +kernel
theorem dX6_isFull_16 : decode cX6_isFull 16 = .ok (.iconst 0, 1) := by decide +kernel
theorem dX6_isFull_17 : decode cX6_isFull 17 = .ok (.ireturn, 1) := by decide +kernel
theorem dX6_add_0 : decode cX6_add 0 = .ok (.aload_n 0, 1) := by decide +kernel
theorem dX6_add_1 : decode cX6_add 1 = .ok (.getfield 15, 3) := by decide +kernel
theorem dX6_add_4 : decode cX6_add 4 = .ok (.ifCond .lt 35, 3) := by decide +kernel
theorem dX6_add_7 : decode cX6_add 7 = .ok (.aload_n 0, 1) := by decide +kernel
theorem dX6_add_8 : decode cX6_add 8 = .ok (.getfield 15, 3) := by decide +kernel
theorem dX6_add_11 : decode cX6_add 11 = .ok (.aload_n 0, 1) := by decide +kernel
theorem dX6_add_12 : decode cX6_add 12 = .ok (.getfield 11, 3) := by decide +kernel
theorem dX6_add_15 : decode cX6_add 15 = .ok (.arraylength, 1) := by decide +kernel
theorem dX6_add_16 : decode cX6_add 16 = .ok (.if_icmp .ge 23, 3) := by decide +kernel
theorem dX6_add_19 : decode cX6_add 19 = .ok (.aload_n 0, 1) := by decide +kernel
theorem dX6_add_20 : decode cX6_add 20 = .ok (.getfield 11, 3) := by decide +kernel
theorem dX6_add_23 : decode cX6_add 23 = .ok (.aload_n 0, 1) := by decide +kernel
theorem dX6_add_24 : decode cX6_add 24 = .ok (.getfield 15, 3) := by decide +kernel
theorem dX6_add_27 : decode cX6_add 27 = .ok (.iload_n 1, 1) := by decide +kernel
theorem dX6_add_28 : decode cX6_add 28 = .ok (.iastore, 1) := by decide +kernel
theorem dX6_add_29 : decode cX6_add 29 = .ok (.aload_n 0, 1) := by decide +kernel
theorem dX6_add_30 : decode cX6_add 30 = .ok (.dup, 1) := by decide +kernel
theorem dX6_add_31 : decode cX6_add 31 = .ok (.getfield 15, 3) := by decide +kernel
theorem dX6_add_34 : decode cX6_add 34 = .ok (.iconst 1, 1) := by decide +kernel
theorem dX6_add_35 : decode cX6_add 35 = .ok (.iadd, 1) := by decide +kernel
theorem dX6_add_36 : decode cX6_add 36 = .ok (.putfield 15, 3) := by decide +kernel
theorem dX6_add_39 : decode cX6_add 39 = .ok (.aload_n 0, 1) := by decide +kernel
theorem dX6_add_40 : decode cX6_add 40 = .ok (.getfield 15, 3) := by decide +kernel
theorem dX6_add_43 : decode cX6_add 43 = .ok (.ireturn, 1) := by decide +kernel
theorem dX6_clear_0 : decode cX6_clear 0 = .ok (.aload_n 0, 1) := by decide +kernel
theorem dX6_clear_1 : decode cX6_clear 1 = .ok (.getfield 15, 3) := by decide +kernel
theorem dX6_clear_4 : decode cX6_clear 4 = .ok (.istore_n 1, 1) := by decide +kernel
theorem dX6_clear_5 : decode cX6_clear 5 = .ok (.aload_n 0, 1) := by decide +kernel
theorem dX6_clear_6 : decode cX6_clear 6 = .ok (.iconst 0, 1) := by decide +kernel
theorem dX6_clear_7 : decode cX6_clear 7 = .ok (.putfield 15, 3) := by decide +kernel
theorem dX6_clear_10 : decode cX6_clear 10 = .ok (.iload_n 1, 1) := by decide +kernel
theorem dX6_clear_11 : decode cX6_clear 11 = .ok (.ireturn, 1) := by decide +kernel
theorem dX6_letterAt_0 : decode cX6_letterAt 0 = .ok (.iload_n 1, 1) := by decide +kernel
theorem dX6_letterAt_1 : decode cX6_letterAt 1 = .ok (.ifCond .lt 29, 3) := by decide +kernel
theorem dX6_letterAt_4 : decode cX6_letterAt 4 = .ok (.iload_n 1, 1) := by decide +kernel
theorem dX6_letterAt_5 : decode cX6_letterAt 5 = .ok (.aload_n 0, 1) := by decide +kernel
theorem dX6_letterAt_6 : decode cX6_letterAt 6 = .ok (.getfield 15, 3) := by decide +kernel
theorem dX6_letterAt_9 : decode cX6_letterAt 9 = .ok (.if_icmp .ge 21, 3) := by decide +kernel
theorem dX6_letterAt_12 : decode cX6_letterAt 12 = .ok (.iload_n 1, 1) := by decide +kernel
theorem dX6_letterAt_13 : decode cX6_letterAt 13 = .ok (.aload_n 0, 1) := by decide +kernel
theorem dX6_letterAt_14 : decode cX6_letterAt 14 = .ok (.getfield 11, 3) := by decide +kernel
theorem dX6_letterAt_17 : decode cX6_letterAt 17 = .ok (.arraylength, 1) := by decide +kernel
theorem dX6_letterAt_18 : decode cX6_letterAt 18 = .ok (.if_icmp .ge 12, 3) := by decide +kernel
theorem dX6_letterAt_21 : decode cX6_letterAt 21 = .ok (.aload_n 0, 1) := by decide +kernel
theorem dX6_letterAt_22 : decode cX6_letterAt 22 = .ok (.getfield 11, 3) := by decide +kernel
theorem dX6_letterAt_25 : decode cX6_letterAt 25 = .ok (.iload_n 1, 1) := by decide +kernel
theorem dX6_letterAt_26 : decode cX6_letterAt 26 = .ok (.iaload, 1) := by decide +kernel
theorem dX6_letterAt_27 : decode cX6_letterAt 27 = .ok (.goto 5, 3) := by decide +kernel
theorem dX6_letterAt_30 : decode cX6_letterAt 30 = .ok (.bipush (-9), 2) := by decide +kernel
theorem dX6_letterAt_32 : decode cX6_letterAt 32 = .ok (.ireturn, 1) := by decide +kernel
set_option maxRecDepth 20000 in
theorem ggX6_digitAt_X6_letterAt : GoodIn wsX6_digitAt wsX6_letterAt := goodIn_r _ [5, 6, 7, 8, 9, 10, 11, 12, 13] (by decide +kernel) (by decide +kernel)
set_option maxRecDepth 20000 in
theorem gX6_digitAt_X6_letterAt : GoodIn wsX6_digitAt (wsV RX6 19 RX6 yX6_letterAt wsX6_letterAt) := goodIn_app (goodIn_of _ (by decide +kernel)) ggX6_digitAt_X6_letterAt
theorem dX6_digitAt_0 : decode cX6_digitAt 0 = .ok (.aload_n 0, 1) := by decide +kernel
theorem dX6_digitAt_1 : decode cX6_digitAt 1 = .ok (.iload_n 1, 1) := by decide +kernel
theorem dX6_digitAt_2 : decode cX6_digitAt 2 = .ok (.invokevirtual 19, 3) := by decide +kernel
theorem dX6_digitAt_5 : decode cX6_digitAt 5 = .ok (.istore_n 2, 1) := by decide +kernel
theorem dX6_digitAt_6 : decode cX6_digitAt 6 = .ok (.iload_n 2, 1) := by decide +kernel
theorem dX6_digitAt_7 : decode cX6_digitAt 7 = .ok (.bipush 48, 2) := by decide +kernel
theorem dX6_digitAt_9 : decode cX6_digitAt 9 = .ok (.if_icmp .lt 16, 3) := by decide +kernel
theorem dX6_digitAt_12 : decode cX6_digitAt 12 = .ok (.iload_n 2, 1) := by decide +kernel
theorem dX6_digitAt_13 : decode cX6_digitAt 13 = .ok (.bipush 57, 2) := by decide +kernel
theorem dX6_digitAt_15 : decode cX6_digitAt 15 = .ok (.if_icmp .gt 10, 3) := by decide +kernel
theorem dX6_digitAt_18 : decode cX6_digitAt 18 = .ok (.iload_n 2, 1) := by decide +kernel
theorem dX6_digitAt_19 : decode cX6_digitAt 19 = .ok (.bipush 48, 2) := by decide +kernel
theorem dX6_digitAt_21 : decode cX6_digitAt 21 = .ok (.isub, 1) := by decide +kernel
theorem dX6_digitAt_22 : decode cX6_digitAt 22 = .ok (.goto 5, 3) := by decide +kernel
theorem dX6_digitAt_25 : decode cX6_digitAt 25 = .ok (.bipush (-9), 2) := by decide +kernel
theorem dX6_digitAt_27 : decode cX6_digitAt 27 = .ok (.ireturn, 1) := by decide +kernel
set_option maxRecDepth 20000 in
theorem ggX6_firstFault_X6_headFits : GoodIn wsX6_firstFault wsX6_headFits := goodIn_r _ [10, 11, 12, 13, 9, 14, 15, 16, 17, 18, 5, 19, 32, 33, 34, 35, 36, 37] (by decide +kernel) (by decide +kernel)
set_option maxRecDepth 20000 in
theorem gX6_firstFault_X6_headFits : GoodIn wsX6_firstFault (wsV RX6 36 RX6 yX6_headFits wsX6_headFits) := goodIn_app (goodIn_of _ (by decide +kernel)) ggX6_firstFault_X6_headFits
set_option maxRecDepth 20000 in
theorem ggX6_firstFault_X6_partFits : GoodIn wsX6_firstFault wsX6_partFits := goodIn_r _ [23, 1, 11, 12, 13, 9, 14, 15, 16, 17, 18, 5, 19, 24, 25, 26, 27, 2, 3, 4, 28, 29, 30, 31, 32, 33, 34, 35, 36, 37] (by decide +kernel) (by decide +kernel)
set_option maxRecDepth 20000 in
theorem gX6_firstFault_X6_partFits : GoodIn wsX6_firstFault (wsV RX6 40 RX6 yX6_partFits wsX6_partFits) := goodIn_app (goodIn_of _ (by decide +kernel)) ggX6_firstFault_X6_partFits
theorem dX6_firstFault_0 : decode cX6_firstFault 0 = .ok (.aload_n 0, 1) := by decide +kernel
theorem dX6_firstFault_1 : decode cX6_firstFault 1 = .ok (.iconst 0, 1) := by decide +kernel
theorem dX6_firstFault_2 : decode cX6_firstFault 2 = .ok (.putfield 23, 3) := by decide +kernel
theorem dX6_firstFault_5 : decode cX6_firstFault 5 = .ok (.aload_n 0, 1) := by decide +kernel
theorem dX6_firstFault_6 : decode cX6_firstFault 6 = .ok (.sipush 1023, 3) := by decide +kernel
theorem dX6_firstFault_9 : decode cX6_firstFault 9 = .ok (.putfield 26, 3) := by decide +kernel
theorem dX6_firstFault_12 : decode cX6_firstFault 12 = .ok (.aload_n 0, 1) := by decide +kernel
theorem dX6_firstFault_13 : decode cX6_firstFault 13 = .ok (.iconst 1, 1) := by decide +kernel
theorem dX6_firstFault_14 : decode cX6_firstFault 14 = .ok (.putfield 29, 3) := by decide +kernel
theorem dX6_firstFault_17 : decode cX6_firstFault 17 = .ok (.aload_n 0, 1) := by decide +kernel
theorem dX6_firstFault_18 : decode cX6_firstFault 18 = .ok (.iconst 1, 1) := by decide +kernel
theorem dX6_firstFault_19 : decode cX6_firstFault 19 = .ok (.putfield 33, 3) := by decide +kernel
theorem dX6_firstFault_22 : decode cX6_firstFault 22 = .ok (.iconst 0, 1) := by decide +kernel
theorem dX6_firstFault_23 : decode cX6_firstFault 23 = .ok (.istore_n 1, 1) := by decide +kernel
theorem dX6_firstFault_24 : decode cX6_firstFault 24 = .ok (.iload_n 1, 1) := by decide +kernel
theorem dX6_firstFault_25 : decode cX6_firstFault 25 = .ok (.aload_n 0, 1) := by decide +kernel
theorem dX6_firstFault_26 : decode cX6_firstFault 26 = .ok (.getfield 15, 3) := by decide +kernel
theorem dX6_firstFault_29 : decode cX6_firstFault 29 = .ok (.if_icmp .ge 35, 3) := by decide +kernel
theorem dX6_firstFault_32 : decode cX6_firstFault 32 = .ok (.iload_n 1, 1) := by decide +kernel
theorem dX6_firstFault_33 : decode cX6_firstFault 33 = .ok (.bipush 7, 2) := by decide +kernel
theorem dX6_firstFault_35 : decode cX6_firstFault 35 = .ok (.if_icmp .ge 11, 3) := by decide +kernel
theorem dX6_firstFault_38 : decode cX6_firstFault 38 = .ok (.aload_n 0, 1) := by decide +kernel
theorem dX6_firstFault_39 : decode cX6_firstFault 39 = .ok (.iload_n 1, 1) := by decide +kernel
theorem dX6_firstFault_40 : decode cX6_firstFault 40 = .ok (.invokevirtual 36, 3) := by decide +kernel
theorem dX6_firstFault_43 : decode cX6_firstFault 43 = .ok (.goto 8, 3) := by decide +kernel
theorem dX6_firstFault_46 : decode cX6_firstFault 46 = .ok (.aload_n 0, 1) := by decide +kernel
theorem dX6_firstFault_47 : decode cX6_firstFault 47 = .ok (.iload_n 1, 1) := by decide +kernel
theorem dX6_firstFault_48 : decode cX6_firstFault 48 = .ok (.invokevirtual 40, 3) := by decide +kernel
theorem dX6_firstFault_51 : decode cX6_firstFault 51 = .ok (.istore_n 2, 1) := by decide +kernel
theorem dX6_firstFault_52 : decode cX6_firstFault 52 = .ok (.iload_n 2, 1) := by decide +kernel
theorem dX6_firstFault_53 : decode cX6_firstFault 53 = .ok (.ifCond .ne 5, 3) := by decide +kernel
theorem dX6_firstFault_56 : decode cX6_firstFault 56 = .ok (.iload_n 1, 1) := by decide +kernel
theorem dX6_firstFault_57 : decode cX6_firstFault 57 = .ok (.ireturn, 1) := by decide +kernel
theorem dX6_firstFault_58 : decode cX6_firstFault 58 = .ok (.iinc 1 1, 3) := by decide +kernel
theorem dX6_firstFault_61 : decode cX6_firstFault 61 = .ok (.goto (-37), 3) := by decide +kernel
theorem dX6_firstFault_64 : decode cX6_firstFault 64 = .ok (.aload_n 0, 1) := by decide +kernel
theorem dX6_firstFault_65 : decode cX6_firstFault 65 = .ok (.getfield 15, 3) := by decide +kernel
theorem dX6_firstFault_68 : decode cX6_firstFault 68 = .ok (.bipush 7, 2) := by decide +kernel
theorem dX6_firstFault_70 : decode cX6_firstFault 70 = .ok (.if_icmp .lt 10, 3) := by decide +kernel
theorem dX6_firstFault_73 : decode cX6_firstFault 73 = .ok (.aload_n 0, 1) := by decide +kernel
theorem dX6_firstFault_74 : decode cX6_firstFault 74 = .ok (.getfield 23, 3) := by decide +kernel
theorem dX6_firstFault_77 : decode cX6_firstFault 77 = .ok (.ifCond .eq 10, 3) := by decide +kernel
theorem dX6_firstFault_80 : decode cX6_firstFault 80 = .ok (.aload_n 0, 1) := by decide +kernel
theorem dX6_firstFault_81 : decode cX6_firstFault 81 = .ok (.getfield 15, 3) := by decide +kernel
theorem dX6_firstFault_84 : decode cX6_firstFault 84 = .ok (.goto 5, 3) := by decide +kernel
theorem dX6_firstFault_87 : decode cX6_firstFault 87 = .ok (.bipush (-9), 2) := by decide +kernel
theorem dX6_firstFault_89 : decode cX6_firstFault 89 = .ok (.ireturn, 1) := by decide +kernel
set_option maxRecDepth 20000 in
theorem ggX6_headFits_X6_digitAt : GoodIn wsX6_headFits wsX6_digitAt := goodIn_r _ [5, 6, 7, 8, 4, 9, 10, 11, 12, 13, 14, 15, 16, 17] (by decide +kernel) (by decide +kernel)
set_option maxRecDepth 20000 in
theorem gX6_headFits_X6_digitAt : GoodIn wsX6_headFits (wsV RX6 43 RX6 yX6_digitAt wsX6_digitAt) := goodIn_app (goodIn_of _ (by decide +kernel)) ggX6_headFits_X6_digitAt
set_option maxRecDepth 20000 in
theorem ggX6_headFits_X6_letterAt : GoodIn wsX6_headFits wsX6_letterAt := goodIn_r _ [9, 10, 11, 12, 13, 14, 15, 16, 17] (by decide +kernel) (by decide +kernel)
set_option maxRecDepth 20000 in
theorem gX6_headFits_X6_letterAt : GoodIn wsX6_headFits (wsV RX6 19 RX6 yX6_letterAt wsX6_letterAt) := goodIn_app (goodIn_of _ (by decide +kernel)) ggX6_headFits_X6_letterAt
theorem dX6_headFits_0 : decode cX6_headFits 0 = .ok (.aload_n 0, 1) := by decide +kernel
theorem dX6_headFits_1 : decode cX6_headFits 1 = .ok (.iload_n 1, 1) := by decide +kernel
theorem dX6_headFits_2 : decode cX6_headFits 2 = .ok (.invokevirtual 43, 3) := by decide +kernel
theorem dX6_headFits_5 : decode cX6_headFits 5 = .ok (.istore_n 2, 1) := by decide +kernel
theorem dX6_headFits_6 : decode cX6_headFits 6 = .ok (.iload_n 1, 1) := by decide +kernel
theorem dX6_headFits_7 : decode cX6_headFits 7 = .ok (.lookupswitch 88 #[(0, 33), (2, 49), (6, 71)], 33) := by decide +kernel
theorem dX6_headFits_40 : decode cX6_headFits 40 = .ok (.aload_n 0, 1) := by decide +kernel
theorem dX6_headFits_41 : decode cX6_headFits 41 = .ok (.iload_n 1, 1) := by decide +kernel
theorem dX6_headFits_42 : decode cX6_headFits 42 = .ok (.invokevirtual 19, 3) := by decide +kernel
theorem dX6_headFits_45 : decode cX6_headFits 45 = .ok (.bipush 83, 2) := by decide +kernel
theorem dX6_headFits_47 : decode cX6_headFits 47 = .ok (.if_icmp .ne 7, 3) := by decide +kernel
theorem dX6_headFits_50 : decode cX6_headFits 50 = .ok (.iconst 1, 1) := by decide +kernel
theorem dX6_headFits_51 : decode cX6_headFits 51 = .ok (.goto 4, 3) := by decide +kernel
theorem dX6_headFits_54 : decode cX6_headFits 54 = .ok (.iconst 0, 1) := by decide +kernel
theorem dX6_headFits_55 : decode cX6_headFits 55 = .ok (.ireturn, 1) := by decide +kernel
theorem dX6_headFits_56 : decode cX6_headFits 56 = .ok (.iload_n 2, 1) := by decide +kernel
theorem dX6_headFits_57 : decode cX6_headFits 57 = .ok (.ifCond .lt 19, 3) := by decide +kernel
theorem dX6_headFits_60 : decode cX6_headFits 60 = .ok (.aload_n 0, 1) := by decide +kernel
theorem dX6_headFits_61 : decode cX6_headFits 61 = .ok (.iconst 1, 1) := by decide +kernel
theorem dX6_headFits_62 : decode cX6_headFits 62 = .ok (.invokevirtual 43, 3) := by decide +kernel
theorem dX6_headFits_65 : decode cX6_headFits 65 = .ok (.iload_n 2, 1) := by decide +kernel
theorem dX6_headFits_66 : decode cX6_headFits 66 = .ok (.iadd, 1) := by decide +kernel
theorem dX6_headFits_67 : decode cX6_headFits 67 = .ok (.bipush 10, 2) := by decide +kernel
theorem dX6_headFits_69 : decode cX6_headFits 69 = .ok (.if_icmp .gt 7, 3) := by decide +kernel
theorem dX6_headFits_72 : decode cX6_headFits 72 = .ok (.iconst 1, 1) := by decide +kernel
theorem dX6_headFits_73 : decode cX6_headFits 73 = .ok (.goto 4, 3) := by decide +kernel
theorem dX6_headFits_76 : decode cX6_headFits 76 = .ok (.iconst 0, 1) := by decide +kernel
theorem dX6_headFits_77 : decode cX6_headFits 77 = .ok (.ireturn, 1) := by decide +kernel
theorem dX6_headFits_78 : decode cX6_headFits 78 = .ok (.iload_n 2, 1) := by decide +kernel
theorem dX6_headFits_79 : decode cX6_headFits 79 = .ok (.iconst 1, 1) := by decide +kernel
theorem dX6_headFits_80 : decode cX6_headFits 80 = .ok (.if_icmp .lt 13, 3) := by decide +kernel
theorem dX6_headFits_83 : decode cX6_headFits 83 = .ok (.iload_n 2, 1) := by decide +kernel
theorem dX6_headFits_84 : decode cX6_headFits 84 = .ok (.bipush 6, 2) := by decide +kernel
theorem dX6_headFits_86 : decode cX6_headFits 86 = .ok (.if_icmp .gt 7, 3) := by decide +kernel
theorem dX6_headFits_89 : decode cX6_headFits 89 = .ok (.iconst 1, 1) := by decide +kernel
theorem dX6_headFits_90 : decode cX6_headFits 90 = .ok (.goto 4, 3) := by decide +kernel
theorem dX6_headFits_93 : decode cX6_headFits 93 = .ok (.iconst 0, 1) := by decide +kernel
theorem dX6_headFits_94 : decode cX6_headFits 94 = .ok (.ireturn, 1) := by decide +kernel
theorem dX6_headFits_95 : decode cX6_headFits 95 = .ok (.iload_n 2, 1) := by decide +kernel
theorem dX6_headFits_96 : decode cX6_headFits 96 = .ok (.ifCond .lt 7, 3) := by decide +kernel
theorem dX6_headFits_99 : decode cX6_headFits 99 = .ok (.iconst 1, 1) := by decide +kernel
theorem dX6_headFits_100 : decode cX6_headFits 100 = .ok (.goto 4, 3) := by decide +kernel
theorem dX6_headFits_103 : decode cX6_headFits 103 = .ok (.iconst 0, 1) := by decide +kernel
theorem dX6_headFits_104 : decode cX6_headFits 104 = .ok (.ireturn, 1) := by decide +kernel
set_option maxRecDepth 20000 in
theorem ggX6_partFits_X6_digitAt : GoodIn wsX6_partFits wsX6_digitAt := goodIn_r _ [6, 7, 8, 9, 5, 10, 11, 12, 24, 25, 26, 27, 28, 29] (by decide +kernel) (by decide +kernel)
set_option maxRecDepth 20000 in
theorem gX6_partFits_X6_digitAt : GoodIn wsX6_partFits (wsV RX6 43 RX6 yX6_digitAt wsX6_digitAt) := goodIn_app (goodIn_of _ (by decide +kernel)) ggX6_partFits_X6_digitAt
set_option maxRecDepth 20000 in
theorem ggX6_partFits_X6_letterAt : GoodIn wsX6_partFits wsX6_letterAt := goodIn_r _ [10, 11, 12, 24, 25, 26, 27, 28, 29] (by decide +kernel) (by decide +kernel)
set_option maxRecDepth 20000 in
theorem gX6_partFits_X6_letterAt : GoodIn wsX6_partFits (wsV RX6 19 RX6 yX6_letterAt wsX6_letterAt) := goodIn_app (goodIn_of _ (by decide +kernel)) ggX6_partFits_X6_letterAt
set_option maxRecDepth 20000 in
theorem ggX6_partFits_X6_partBegins : GoodIn wsX6_partFits wsX6_partBegins := goodIn_r _ [16, 17, 1, 18, 19, 24, 25, 26, 27, 28, 29] (by decide +kernel) (by decide +kernel)
set_option maxRecDepth 20000 in
theorem gX6_partFits_X6_partBegins : GoodIn wsX6_partFits (wsV RX6 46 RX6 yX6_partBegins wsX6_partBegins) := goodIn_app (goodIn_of _ (by decide +kernel)) ggX6_partFits_X6_partBegins
set_option maxRecDepth 20000 in
theorem ggX6_partFits_X6_takeCell : GoodIn wsX6_partFits wsX6_takeCell := goodIn_r _ [23, 17, 24, 25, 26, 27, 28, 29] (by decide +kernel) (by decide +kernel)
set_option maxRecDepth 20000 in
theorem gX6_partFits_X6_takeCell : GoodIn wsX6_partFits (wsV RX6 49 RX6 yX6_takeCell wsX6_takeCell) := goodIn_app (goodIn_of _ (by decide +kernel)) ggX6_partFits_X6_takeCell
theorem dX6_partFits_0 : decode cX6_partFits 0 = .ok (.aload_n 0, 1) := by decide +kernel
theorem dX6_partFits_1 : decode cX6_partFits 1 = .ok (.iload_n 1, 1) := by decide +kernel
theorem dX6_partFits_2 : decode cX6_partFits 2 = .ok (.invokevirtual 43, 3) := by decide +kernel
theorem dX6_partFits_5 : decode cX6_partFits 5 = .ok (.istore_n 2, 1) := by decide +kernel
theorem dX6_partFits_6 : decode cX6_partFits 6 = .ok (.aload_n 0, 1) := by decide +kernel
theorem dX6_partFits_7 : decode cX6_partFits 7 = .ok (.getfield 23, 3) := by decide +kernel
theorem dX6_partFits_10 : decode cX6_partFits 10 = .ok (.tableswitch 94 0 3 #[30, 40, 63, 79], 30) := by decide +kernel
theorem dX6_partFits_40 : decode cX6_partFits 40 = .ok (.aload_n 0, 1) := by decide +kernel
theorem dX6_partFits_41 : decode cX6_partFits 41 = .ok (.aload_n 0, 1) := by decide +kernel
theorem dX6_partFits_42 : decode cX6_partFits 42 = .ok (.iload_n 1, 1) := by decide +kernel
theorem dX6_partFits_43 : decode cX6_partFits 43 = .ok (.invokevirtual 19, 3) := by decide +kernel
theorem dX6_partFits_46 : decode cX6_partFits 46 = .ok (.invokevirtual 46, 3) := by decide +kernel
theorem dX6_partFits_49 : decode cX6_partFits 49 = .ok (.ireturn, 1) := by decide +kernel
theorem dX6_partFits_50 : decode cX6_partFits 50 = .ok (.aload_n 0, 1) := by decide +kernel
theorem dX6_partFits_51 : decode cX6_partFits 51 = .ok (.iconst 2, 1) := by decide +kernel
theorem dX6_partFits_52 : decode cX6_partFits 52 = .ok (.putfield 23, 3) := by decide +kernel
theorem dX6_partFits_55 : decode cX6_partFits 55 = .ok (.iload_n 2, 1) := by decide +kernel
theorem dX6_partFits_56 : decode cX6_partFits 56 = .ok (.ifCond .lt 15, 3) := by decide +kernel
theorem dX6_partFits_59 : decode cX6_partFits 59 = .ok (.aload_n 0, 1) := by decide +kernel
theorem dX6_partFits_60 : decode cX6_partFits 60 = .ok (.iload_n 2, 1) := by decide +kernel
theorem dX6_partFits_61 : decode cX6_partFits 61 = .ok (.invokevirtual 49, 3) := by decide +kernel
theorem dX6_partFits_64 : decode cX6_partFits 64 = .ok (.ifCond .eq 7, 3) := by decide +kernel
theorem dX6_partFits_67 : decode cX6_partFits 67 = .ok (.iconst 1, 1) := by decide +kernel
theorem dX6_partFits_68 : decode cX6_partFits 68 = .ok (.goto 4, 3) := by decide +kernel
theorem dX6_partFits_71 : decode cX6_partFits 71 = .ok (.iconst 0, 1) := by decide +kernel
theorem dX6_partFits_72 : decode cX6_partFits 72 = .ok (.ireturn, 1) := by decide +kernel
theorem dX6_partFits_73 : decode cX6_partFits 73 = .ok (.aload_n 0, 1) := by decide +kernel
theorem dX6_partFits_74 : decode cX6_partFits 74 = .ok (.iconst 0, 1) := by decide +kernel
theorem dX6_partFits_75 : decode cX6_partFits 75 = .ok (.putfield 23, 3) := by decide +kernel
theorem dX6_partFits_78 : decode cX6_partFits 78 = .ok (.iload_n 2, 1) := by decide +kernel
theorem dX6_partFits_79 : decode cX6_partFits 79 = .ok (.iconst 1, 1) := by decide +kernel
theorem dX6_partFits_80 : decode cX6_partFits 80 = .ok (.if_icmp .lt 7, 3) := by decide +kernel
theorem dX6_partFits_83 : decode cX6_partFits 83 = .ok (.iconst 1, 1) := by decide +kernel
theorem dX6_partFits_84 : decode cX6_partFits 84 = .ok (.goto 4, 3) := by decide +kernel
theorem dX6_partFits_87 : decode cX6_partFits 87 = .ok (.iconst 0, 1) := by decide +kernel
theorem dX6_partFits_88 : decode cX6_partFits 88 = .ok (.ireturn, 1) := by decide +kernel
theorem dX6_partFits_89 : decode cX6_partFits 89 = .ok (.aload_n 0, 1) := by decide +kernel
theorem dX6_partFits_90 : decode cX6_partFits 90 = .ok (.iconst 4, 1) := by decide +kernel
theorem dX6_partFits_91 : decode cX6_partFits 91 = .ok (.putfield 23, 3) := by decide +kernel
theorem dX6_partFits_94 : decode cX6_partFits 94 = .ok (.iload_n 2, 1) := by decide +kernel
theorem dX6_partFits_95 : decode cX6_partFits 95 = .ok (.ifCond .lt 7, 3) := by decide +kernel
theorem dX6_partFits_98 : decode cX6_partFits 98 = .ok (.iconst 1, 1) := by decide +kernel
theorem dX6_partFits_99 : decode cX6_partFits 99 = .ok (.goto 4, 3) := by decide +kernel
theorem dX6_partFits_102 : decode cX6_partFits 102 = .ok (.iconst 0, 1) := by decide +kernel
theorem dX6_partFits_103 : decode cX6_partFits 103 = .ok (.ireturn, 1) := by decide +kernel
theorem dX6_partFits_104 : decode cX6_partFits 104 = .ok (.aload_n 0, 1) := by decide +kernel
theorem dX6_partFits_105 : decode cX6_partFits 105 = .ok (.iconst 0, 1) := by decide +kernel
theorem dX6_partFits_106 : decode cX6_partFits 106 = .ok (.putfield 23, 3) := by decide +kernel
theorem dX6_partFits_109 : decode cX6_partFits 109 = .ok (.iload_n 2, 1) := by decide +kernel
theorem dX6_partFits_110 : decode cX6_partFits 110 = .ok (.ifCond .lt 13, 3) := by decide +kernel
theorem dX6_partFits_113 : decode cX6_partFits 113 = .ok (.iload_n 2, 1) := by decide +kernel
theorem dX6_partFits_114 : decode cX6_partFits 114 = .ok (.bipush 6, 2) := by decide +kernel
theorem dX6_partFits_116 : decode cX6_partFits 116 = .ok (.if_icmp .gt 7, 3) := by decide +kernel
theorem dX6_partFits_119 : decode cX6_partFits 119 = .ok (.iconst 1, 1) := by decide +kernel
theorem dX6_partFits_120 : decode cX6_partFits 120 = .ok (.goto 4, 3) := by decide +kernel
theorem dX6_partFits_123 : decode cX6_partFits 123 = .ok (.iconst 0, 1) := by decide +kernel
theorem dX6_partFits_124 : decode cX6_partFits 124 = .ok (.ireturn, 1) := by decide +kernel
theorem dX6_partBegins_0 : decode cX6_partBegins 0 = .ok (.iconst 0, 1) := by decide +kernel
theorem dX6_partBegins_1 : decode cX6_partBegins 1 = .ok (.istore_n 2, 1) := by decide +kernel
theorem dX6_partBegins_2 : decode cX6_partBegins 2 = .ok (.iload_n 1, 1) := by decide +kernel
theorem dX6_partBegins_3 : decode cX6_partBegins 3 = .ok (.bipush 70, 2) := by decide +kernel
theorem dX6_partBegins_5 : decode cX6_partBegins 5 = .ok (.if_icmp .ne 24, 3) := by decide +kernel
theorem dX6_partBegins_8 : decode cX6_partBegins 8 = .ok (.aload_n 0, 1) := by decide +kernel
theorem dX6_partBegins_9 : decode cX6_partBegins 9 = .ok (.getfield 26, 3) := by decide +kernel
theorem dX6_partBegins_12 : decode cX6_partBegins 12 = .ok (.ifCond .eq 7, 3) := by decide +kernel
theorem dX6_partBegins_15 : decode cX6_partBegins 15 = .ok (.iconst 1, 1) := by decide +kernel
theorem dX6_partBegins_16 : decode cX6_partBegins 16 = .ok (.goto 4, 3) := by decide +kernel
theorem dX6_partBegins_19 : decode cX6_partBegins 19 = .ok (.iconst 0, 1) := by decide +kernel
theorem dX6_partBegins_20 : decode cX6_partBegins 20 = .ok (.istore_n 2, 1) := by decide +kernel
theorem dX6_partBegins_21 : decode cX6_partBegins 21 = .ok (.aload_n 0, 1) := by decide +kernel
theorem dX6_partBegins_22 : decode cX6_partBegins 22 = .ok (.iconst 1, 1) := by decide +kernel
theorem dX6_partBegins_23 : decode cX6_partBegins 23 = .ok (.putfield 23, 3) := by decide +kernel
theorem dX6_partBegins_26 : decode cX6_partBegins 26 = .ok (.goto 48, 3) := by decide +kernel
theorem dX6_partBegins_29 : decode cX6_partBegins 29 = .ok (.iload_n 1, 1) := by decide +kernel
theorem dX6_partBegins_30 : decode cX6_partBegins 30 = .ok (.bipush 65, 2) := by decide +kernel
theorem dX6_partBegins_32 : decode cX6_partBegins 32 = .ok (.if_icmp .ne 21, 3) := by decide +kernel
theorem dX6_partBegins_35 : decode cX6_partBegins 35 = .ok (.aload_n 0, 1) := by decide +kernel
theorem dX6_partBegins_36 : decode cX6_partBegins 36 = .ok (.getfield 29, 3) := by decide +kernel
theorem dX6_partBegins_39 : decode cX6_partBegins 39 = .ok (.istore_n 2, 1) := by decide +kernel
theorem dX6_partBegins_40 : decode cX6_partBegins 40 = .ok (.aload_n 0, 1) := by decide +kernel
theorem dX6_partBegins_41 : decode cX6_partBegins 41 = .ok (.iconst 0, 1) := by decide +kernel
theorem dX6_partBegins_42 : decode cX6_partBegins 42 = .ok (.putfield 29, 3) := by decide +kernel
theorem dX6_partBegins_45 : decode cX6_partBegins 45 = .ok (.aload_n 0, 1) := by decide +kernel
theorem dX6_partBegins_46 : decode cX6_partBegins 46 = .ok (.iconst 2, 1) := by decide +kernel
theorem dX6_partBegins_47 : decode cX6_partBegins 47 = .ok (.putfield 23, 3) := by decide +kernel
theorem dX6_partBegins_50 : decode cX6_partBegins 50 = .ok (.goto 24, 3) := by decide +kernel
theorem dX6_partBegins_53 : decode cX6_partBegins 53 = .ok (.iload_n 1, 1) := by decide +kernel
theorem dX6_partBegins_54 : decode cX6_partBegins 54 = .ok (.bipush 84, 2) := by decide +kernel
theorem dX6_partBegins_56 : decode cX6_partBegins 56 = .ok (.if_icmp .ne 18, 3) := by decide +kernel
theorem dX6_partBegins_59 : decode cX6_partBegins 59 = .ok (.aload_n 0, 1) := by decide +kernel
theorem dX6_partBegins_60 : decode cX6_partBegins 60 = .ok (.getfield 33, 3) := by decide +kernel
theorem dX6_partBegins_63 : decode cX6_partBegins 63 = .ok (.istore_n 2, 1) := by decide +kernel
theorem dX6_partBegins_64 : decode cX6_partBegins 64 = .ok (.aload_n 0, 1) := by decide +kernel
theorem dX6_partBegins_65 : decode cX6_partBegins 65 = .ok (.iconst 0, 1) := by decide +kernel
theorem dX6_partBegins_66 : decode cX6_partBegins 66 = .ok (.putfield 33, 3) := by decide +kernel
theorem dX6_partBegins_69 : decode cX6_partBegins 69 = .ok (.aload_n 0, 1) := by decide +kernel
theorem dX6_partBegins_70 : decode cX6_partBegins 70 = .ok (.iconst 3, 1) := by decide +kernel
theorem dX6_partBegins_71 : decode cX6_partBegins 71 = .ok (.putfield 23, 3) := by decide +kernel
theorem dX6_partBegins_74 : decode cX6_partBegins 74 = .ok (.iload_n 2, 1) := by decide +kernel
theorem dX6_partBegins_75 : decode cX6_partBegins 75 = .ok (.ireturn, 1) := by decide +kernel
theorem dX6_takeCell_0 : decode cX6_takeCell 0 = .ok (.aload_n 0, 1) := by decide +kernel
theorem dX6_takeCell_1 : decode cX6_takeCell 1 = .ok (.getfield 26, 3) := by decide +kernel
theorem dX6_takeCell_4 : decode cX6_takeCell 4 = .ok (.iload_n 1, 1) := by decide +kernel
theorem dX6_takeCell_5 : decode cX6_takeCell 5 = .ok (.ishr, 1) := by decide +kernel
theorem dX6_takeCell_6 : decode cX6_takeCell 6 = .ok (.iconst 1, 1) := by decide +kernel
theorem dX6_takeCell_7 : decode cX6_takeCell 7 = .ok (.iand, 1) := by decide +kernel
theorem dX6_takeCell_8 : decode cX6_takeCell 8 = .ok (.ifCond .eq 7, 3) := by decide +kernel
theorem dX6_takeCell_11 : decode cX6_takeCell 11 = .ok (.iconst 1, 1) := by decide +kernel
theorem dX6_takeCell_12 : decode cX6_takeCell 12 = .ok (.goto 4, 3) := by decide +kernel
theorem dX6_takeCell_15 : decode cX6_takeCell 15 = .ok (.iconst 0, 1) := by decide +kernel
theorem dX6_takeCell_16 : decode cX6_takeCell 16 = .ok (.istore_n 2, 1) := by decide +kernel
theorem dX6_takeCell_17 : decode cX6_takeCell 17 = .ok (.aload_n 0, 1) := by decide +kernel
theorem dX6_takeCell_18 : decode cX6_takeCell 18 = .ok (.dup, 1) := by decide +kernel
theorem dX6_takeCell_19 : decode cX6_takeCell 19 = .ok (.getfield 26, 3) := by decide +kernel
theorem dX6_takeCell_22 : decode cX6_takeCell 22 = .ok (.iconst 1, 1) := by decide +kernel
theorem dX6_takeCell_23 : decode cX6_takeCell 23 = .ok (.iload_n 1, 1) := by decide +kernel
theorem dX6_takeCell_24 : decode cX6_takeCell 24 = .ok (.ishl, 1) := by decide +kernel
theorem dX6_takeCell_25 : decode cX6_takeCell 25 = .ok (.iconst (-1), 1) := by decide +kernel
theorem dX6_takeCell_26 : decode cX6_takeCell 26 = .ok (.ixor, 1) := by decide +kernel
theorem dX6_takeCell_27 : decode cX6_takeCell 27 = .ok (.iand, 1) := by decide +kernel
theorem dX6_takeCell_28 : decode cX6_takeCell 28 = .ok (.putfield 26, 3) := by decide +kernel
theorem dX6_takeCell_31 : decode cX6_takeCell 31 = .ok (.iload_n 2, 1) := by decide +kernel
theorem dX6_takeCell_32 : decode cX6_takeCell 32 = .ok (.ireturn, 1) := by decide +kernel
theorem dX7_init_0 : decode cX7_init 0 = .ok (.aload_n 0, 1) := by decide +kernel
theorem dX7_init_1 : decode cX7_init 1 = .ok (.invokespecial 3, 3) := by decide +kernel
theorem dX7_init_4 : decode cX7_init 4 = .ok (.aload_n 0, 1) := by decide +kernel
theorem dX7_init_5 : decode cX7_init 5 = .ok (.bipush 11, 2) := by decide +kernel
theorem dX7_init_7 : decode cX7_init 7 = .ok (.newarray .int, 2) := by decide +kernel
theorem dX7_init_9 : decode cX7_init 9 = .ok (.putfield 9, 3) := by decide +kernel
theorem dX7_init_12 : decode cX7_init 12 = .ok (.aload_n 0, 1) := by decide +kernel
theorem dX7_init_13 : decode cX7_init 13 = .ok (.iconst 1, 1) := by decide +kernel
theorem dX7_init_14 : decode cX7_init 14 = .ok (.putfield 15, 3) := by decide +kernel
theorem dX7_init_17 : decode cX7_init 17 = .ok (.aload_n 0, 1) := by decide +kernel
theorem dX7_init_18 : decode cX7_init 18 = .ok (.bipush (-9), 2) := by decide +kernel
theorem dX7_init_20 : decode cX7_init 20 = .ok (.putfield 19, 3) := by decide +kernel
theorem dX7_init_23 : decode cX7_init 23 = .ok (.return_, 1) := by decide +kernel
set_option maxRecDepth 20000 in
theorem ggX7_take_X6_digitAt : GoodIn wsX7_take wsX6_digitAt := goodIn_r _ [13, 14, 15, 16, 12, 17, 18, 19, 44, 45, 46, 47, 48, 49] (by decide +kernel) (by decide +kernel)
set_option maxRecDepth 20000 in
theorem gX7_take_X6_digitAt : GoodIn wsX7_take (wsV RX7 22 RX6 yX6_digitAt wsX6_digitAt) := goodIn_app (goodIn_of _ (by decide +kernel)) ggX7_take_X6_digitAt
set_option maxRecDepth 20000 in
theorem ggX7_take_X7_setPart : GoodIn wsX7_take wsX7_setPart := goodIn_r _ [24, 25, 35, 36, 37, 38, 39, 40, 41, 42, 43] (by decide +kernel) (by decide +kernel)
set_option maxRecDepth 20000 in
theorem gX7_take_X7_setPart : GoodIn wsX7_take (wsV RX7 46 RX7 yX7_setPart wsX7_setPart) := goodIn_app (goodIn_of _ (by decide +kernel)) ggX7_take_X7_setPart
set_option maxRecDepth 20000 in
theorem ggX7_take_X6_size : GoodIn wsX7_take wsX6_size := goodIn_r _ [29, 18, 44, 45, 46, 47, 48, 49] (by decide +kernel) (by decide +kernel)
set_option maxRecDepth 20000 in
theorem gX7_take_X6_size : GoodIn wsX7_take (wsV RX7 50 RX6 yX6_size wsX6_size) := goodIn_app (goodIn_of _ (by decide +kernel)) ggX7_take_X6_size
set_option maxRecDepth 20000 in
theorem ggX7_take_X7_takePart : GoodIn wsX7_take wsX7_takePart := goodIn_r _ [33, 7, 8, 34, 15, 16, 12, 17, 18, 19, 9, 10, 11, 13, 14, 20, 21, 22, 23, 24, 25, 35, 36, 37, 38, 39, 40, 41, 42, 43, 44, 45, 46, 47, 48, 49] (by decide +kernel) (by decide +kernel)
set_option maxRecDepth 20000 in
theorem gX7_take_X7_takePart : GoodIn wsX7_take (wsV RX7 54 RX7 yX7_takePart wsX7_takePart) := goodIn_app (goodIn_of _ (by decide +kernel)) ggX7_take_X7_takePart
set_option maxRecDepth 20000 in
theorem ggX7_take_X6_letterAt : GoodIn wsX7_take wsX6_letterAt := goodIn_r _ [17, 18, 19, 44, 45, 46, 47, 48, 49] (by decide +kernel) (by decide +kernel)
set_option maxRecDepth 20000 in
theorem gX7_take_X6_letterAt : GoodIn wsX7_take (wsV RX7 58 RX6 yX6_letterAt wsX6_letterAt) := goodIn_app (goodIn_of _ (by decide +kernel)) ggX7_take_X6_letterAt
theorem dX7_take_0 : decode cX7_take 0 = .ok (.aload_n 0, 1) := by decide +kernel
theorem dX7_take_1 : decode cX7_take 1 = .ok (.aload_n 1, 1) := by decide +kernel
theorem dX7_take_2 : decode cX7_take 2 = .ok (.iconst 1, 1) := by decide +kernel
theorem dX7_take_3 : decode cX7_take 3 = .ok (.invokevirtual 22, 3) := by decide +kernel
theorem dX7_take_6 : decode cX7_take 6 = .ok (.putfield 28, 3) := by decide +kernel
theorem dX7_take_9 : decode cX7_take 9 = .ok (.aload_n 0, 1) := by decide +kernel
theorem dX7_take_10 : decode cX7_take 10 = .ok (.aload_n 1, 1) := by decide +kernel
theorem dX7_take_11 : decode cX7_take 11 = .ok (.iconst 2, 1) := by decide +kernel
theorem dX7_take_12 : decode cX7_take 12 = .ok (.invokevirtual 22, 3) := by decide +kernel
theorem dX7_take_15 : decode cX7_take 15 = .ok (.putfield 31, 3) := by decide +kernel
theorem dX7_take_18 : decode cX7_take 18 = .ok (.aload_n 0, 1) := by decide +kernel
theorem dX7_take_19 : decode cX7_take 19 = .ok (.aload_n 1, 1) := by decide +kernel
theorem dX7_take_20 : decode cX7_take 20 = .ok (.iconst 3, 1) := by decide +kernel
theorem dX7_take_21 : decode cX7_take 21 = .ok (.invokevirtual 22, 3) := by decide +kernel
theorem dX7_take_24 : decode cX7_take 24 = .ok (.putfield 34, 3) := by decide +kernel
theorem dX7_take_27 : decode cX7_take 27 = .ok (.aload_n 0, 1) := by decide +kernel
theorem dX7_take_28 : decode cX7_take 28 = .ok (.aload_n 1, 1) := by decide +kernel
theorem dX7_take_29 : decode cX7_take 29 = .ok (.iconst 4, 1) := by decide +kernel
theorem dX7_take_30 : decode cX7_take 30 = .ok (.invokevirtual 22, 3) := by decide +kernel
theorem dX7_take_33 : decode cX7_take 33 = .ok (.putfield 37, 3) := by decide +kernel
theorem dX7_take_36 : decode cX7_take 36 = .ok (.aload_n 0, 1) := by decide +kernel
theorem dX7_take_37 : decode cX7_take 37 = .ok (.aload_n 1, 1) := by decide +kernel
theorem dX7_take_38 : decode cX7_take 38 = .ok (.iconst 5, 1) := by decide +kernel
theorem dX7_take_39 : decode cX7_take 39 = .ok (.invokevirtual 22, 3) := by decide +kernel
theorem dX7_take_42 : decode cX7_take 42 = .ok (.putfield 40, 3) := by decide +kernel
theorem dX7_take_45 : decode cX7_take 45 = .ok (.aload_n 0, 1) := by decide +kernel
theorem dX7_take_46 : decode cX7_take 46 = .ok (.aload_n 1, 1) := by decide +kernel
theorem dX7_take_47 : decode cX7_take 47 = .ok (.bipush 6, 2) := by decide +kernel
theorem dX7_take_49 : decode cX7_take 49 = .ok (.invokevirtual 22, 3) := by decide +kernel
theorem dX7_take_52 : decode cX7_take 52 = .ok (.putfield 15, 3) := by decide +kernel
theorem dX7_take_55 : decode cX7_take 55 = .ok (.aload_n 0, 1) := by decide +kernel
theorem dX7_take_56 : decode cX7_take 56 = .ok (.bipush (-9), 2) := by decide +kernel
theorem dX7_take_58 : decode cX7_take 58 = .ok (.putfield 19, 3) := by decide +kernel
theorem dX7_take_61 : decode cX7_take 61 = .ok (.aload_n 0, 1) := by decide +kernel
theorem dX7_take_62 : decode cX7_take 62 = .ok (.iconst 0, 1) := by decide +kernel
theorem dX7_take_63 : decode cX7_take 63 = .ok (.putfield 43, 3) := by decide +kernel
theorem dX7_take_66 : decode cX7_take 66 = .ok (.iconst 0, 1) := by decide +kernel
theorem dX7_take_67 : decode cX7_take 67 = .ok (.istore_n 2, 1) := by decide +kernel
theorem dX7_take_68 : decode cX7_take 68 = .ok (.iload_n 2, 1) := by decide +kernel
theorem dX7_take_69 : decode cX7_take 69 = .ok (.bipush 11, 2) := by decide +kernel
theorem dX7_take_71 : decode cX7_take 71 = .ok (.if_icmp .ge 15, 3) := by decide +kernel
theorem dX7_take_74 : decode cX7_take 74 = .ok (.aload_n 0, 1) := by decide +kernel
theorem dX7_take_75 : decode cX7_take 75 = .ok (.iload_n 2, 1) := by decide +kernel
theorem dX7_take_76 : decode cX7_take 76 = .ok (.iconst 0, 1) := by decide +kernel
theorem dX7_take_77 : decode cX7_take 77 = .ok (.invokevirtual 46, 3) := by decide +kernel
theorem dX7_take_80 : decode cX7_take 80 = .ok (.iinc 2 1, 3) := by decide +kernel
theorem dX7_take_83 : decode cX7_take 83 = .ok (.goto (-15), 3) := by decide +kernel
theorem dX7_take_86 : decode cX7_take 86 = .ok (.bipush 7, 2) := by decide +kernel
theorem dX7_take_88 : decode cX7_take 88 = .ok (.istore_n 2, 1) := by decide +kernel
theorem dX7_take_89 : decode cX7_take 89 = .ok (.iload_n 2, 1) := by decide +kernel
theorem dX7_take_90 : decode cX7_take 90 = .ok (.aload_n 1, 1) := by decide +kernel
theorem dX7_take_91 : decode cX7_take 91 = .ok (.invokevirtual 50, 3) := by decide +kernel
theorem dX7_take_94 : decode cX7_take 94 = .ok (.if_icmp .ge 30, 3) := by decide +kernel
theorem dX7_take_97 : decode cX7_take 97 = .ok (.aload_n 0, 1) := by decide +kernel
theorem dX7_take_98 : decode cX7_take 98 = .ok (.aload_n 1, 1) := by decide +kernel
theorem dX7_take_99 : decode cX7_take 99 = .ok (.iload_n 2, 1) := by decide +kernel
theorem dX7_take_100 : decode cX7_take 100 = .ok (.invokevirtual 54, 3) := by decide +kernel
theorem dX7_take_103 : decode cX7_take 103 = .ok (.iload_n 2, 1) := by decide +kernel
theorem dX7_take_104 : decode cX7_take 104 = .ok (.aload_n 1, 1) := by decide +kernel
theorem dX7_take_105 : decode cX7_take 105 = .ok (.iload_n 2, 1) := by decide +kernel
theorem dX7_take_106 : decode cX7_take 106 = .ok (.invokevirtual 58, 3) := by decide +kernel
theorem dX7_take_109 : decode cX7_take 109 = .ok (.bipush 65, 2) := by decide +kernel
theorem dX7_take_111 : decode cX7_take 111 = .ok (.if_icmp .ne 7, 3) := by decide +kernel
theorem dX7_take_114 : decode cX7_take 114 = .ok (.iconst 2, 1) := by decide +kernel
theorem dX7_take_115 : decode cX7_take 115 = .ok (.goto 4, 3) := by decide +kernel
theorem dX7_take_118 : decode cX7_take 118 = .ok (.iconst 3, 1) := by decide +kernel
theorem dX7_take_119 : decode cX7_take 119 = .ok (.iadd, 1) := by decide +kernel
theorem dX7_take_120 : decode cX7_take 120 = .ok (.istore_n 2, 1) := by decide +kernel
theorem dX7_take_121 : decode cX7_take 121 = .ok (.goto (-32), 3) := by decide +kernel
theorem dX7_take_124 : decode cX7_take 124 = .ok (.return_, 1) := by decide +kernel
set_option maxRecDepth 20000 in
theorem ggX7_takePart_X6_letterAt : GoodIn wsX7_takePart wsX6_letterAt := goodIn_r _ [7, 8, 9, 30, 31, 32, 33, 34, 35] (by decide +kernel) (by decide +kernel)
set_option maxRecDepth 20000 in
theorem gX7_takePart_X6_letterAt : GoodIn wsX7_takePart (wsV RX7 58 RX6 yX6_letterAt wsX6_letterAt) := goodIn_app (goodIn_of _ (by decide +kernel)) ggX7_takePart_X6_letterAt
set_option maxRecDepth 20000 in
theorem ggX7_takePart_X6_digitAt : GoodIn wsX7_takePart wsX6_digitAt := goodIn_r _ [13, 14, 4, 5, 6, 7, 8, 9, 30, 31, 32, 33, 34, 35] (by decide +kernel) (by decide +kernel)
set_option maxRecDepth 20000 in
theorem gX7_takePart_X6_digitAt : GoodIn wsX7_takePart (wsV RX7 22 RX6 yX6_digitAt wsX6_digitAt) := goodIn_app (goodIn_of _ (by decide +kernel)) ggX7_takePart_X6_digitAt
set_option maxRecDepth 20000 in
theorem ggX7_takePart_X7_setPart : GoodIn wsX7_takePart wsX7_setPart := goodIn_r _ [19, 20, 21, 22, 23, 24, 25, 26, 27, 28, 29] (by decide +kernel) (by decide +kernel)
set_option maxRecDepth 20000 in
theorem gX7_takePart_X7_setPart : GoodIn wsX7_takePart (wsV RX7 46 RX7 yX7_setPart wsX7_setPart) := goodIn_app (goodIn_of _ (by decide +kernel)) ggX7_takePart_X7_setPart
theorem dX7_takePart_0 : decode cX7_takePart 0 = .ok (.aload_n 1, 1) := by decide +kernel
theorem dX7_takePart_1 : decode cX7_takePart 1 = .ok (.iload_n 2, 1) := by decide +kernel
theorem dX7_takePart_2 : decode cX7_takePart 2 = .ok (.invokevirtual 58, 3) := by decide +kernel
theorem dX7_takePart_5 : decode cX7_takePart 5 = .ok (.lookupswitch 64 #[(65, 48), (70, 27)], 27) := by decide +kernel
theorem dX7_takePart_32 : decode cX7_takePart 32 = .ok (.aload_n 0, 1) := by decide +kernel
theorem dX7_takePart_33 : decode cX7_takePart 33 = .ok (.aload_n 1, 1) := by decide +kernel
theorem dX7_takePart_34 : decode cX7_takePart 34 = .ok (.iload_n 2, 1) := by decide +kernel
theorem dX7_takePart_35 : decode cX7_takePart 35 = .ok (.iconst 1, 1) := by decide +kernel
theorem dX7_takePart_36 : decode cX7_takePart 36 = .ok (.iadd, 1) := by decide +kernel
theorem dX7_takePart_37 : decode cX7_takePart 37 = .ok (.invokevirtual 22, 3) := by decide +kernel
theorem dX7_takePart_40 : decode cX7_takePart 40 = .ok (.aload_n 1, 1) := by decide +kernel
theorem dX7_takePart_41 : decode cX7_takePart 41 = .ok (.iload_n 2, 1) := by decide +kernel
theorem dX7_takePart_42 : decode cX7_takePart 42 = .ok (.iconst 2, 1) := by decide +kernel
theorem dX7_takePart_43 : decode cX7_takePart 43 = .ok (.iadd, 1) := by decide +kernel
theorem dX7_takePart_44 : decode cX7_takePart 44 = .ok (.invokevirtual 22, 3) := by decide +kernel
theorem dX7_takePart_47 : decode cX7_takePart 47 = .ok (.invokevirtual 46, 3) := by decide +kernel
theorem dX7_takePart_50 : decode cX7_takePart 50 = .ok (.goto 41, 3) := by decide +kernel
theorem dX7_takePart_53 : decode cX7_takePart 53 = .ok (.aload_n 0, 1) := by decide +kernel
theorem dX7_takePart_54 : decode cX7_takePart 54 = .ok (.bipush 10, 2) := by decide +kernel
theorem dX7_takePart_56 : decode cX7_takePart 56 = .ok (.aload_n 1, 1) := by decide +kernel
theorem dX7_takePart_57 : decode cX7_takePart 57 = .ok (.iload_n 2, 1) := by decide +kernel
theorem dX7_takePart_58 : decode cX7_takePart 58 = .ok (.iconst 1, 1) := by decide +kernel
theorem dX7_takePart_59 : decode cX7_takePart 59 = .ok (.iadd, 1) := by decide +kernel
theorem dX7_takePart_60 : decode cX7_takePart 60 = .ok (.invokevirtual 22, 3) := by decide +kernel
theorem dX7_takePart_63 : decode cX7_takePart 63 = .ok (.invokevirtual 46, 3) := by decide +kernel
theorem dX7_takePart_66 : decode cX7_takePart 66 = .ok (.goto 25, 3) := by decide +kernel
theorem dX7_takePart_69 : decode cX7_takePart 69 = .ok (.aload_n 0, 1) := by decide +kernel
theorem dX7_takePart_70 : decode cX7_takePart 70 = .ok (.aload_n 1, 1) := by decide +kernel
theorem dX7_takePart_71 : decode cX7_takePart 71 = .ok (.iload_n 2, 1) := by decide +kernel
theorem dX7_takePart_72 : decode cX7_takePart 72 = .ok (.iconst 1, 1) := by decide +kernel
theorem dX7_takePart_73 : decode cX7_takePart 73 = .ok (.iadd, 1) := by decide +kernel
theorem dX7_takePart_74 : decode cX7_takePart 74 = .ok (.invokevirtual 22, 3) := by decide +kernel
theorem dX7_takePart_77 : decode cX7_takePart 77 = .ok (.putfield 19, 3) := by decide +kernel
theorem dX7_takePart_80 : decode cX7_takePart 80 = .ok (.aload_n 0, 1) := by decide +kernel
theorem dX7_takePart_81 : decode cX7_takePart 81 = .ok (.aload_n 1, 1) := by decide +kernel
theorem dX7_takePart_82 : decode cX7_takePart 82 = .ok (.iload_n 2, 1) := by decide +kernel
theorem dX7_takePart_83 : decode cX7_takePart 83 = .ok (.iconst 2, 1) := by decide +kernel
theorem dX7_takePart_84 : decode cX7_takePart 84 = .ok (.iadd, 1) := by decide +kernel
theorem dX7_takePart_85 : decode cX7_takePart 85 = .ok (.invokevirtual 22, 3) := by decide +kernel
theorem dX7_takePart_88 : decode cX7_takePart 88 = .ok (.putfield 43, 3) := by decide +kernel
theorem dX7_takePart_91 : decode cX7_takePart 91 = .ok (.return_, 1) := by decide +kernel
theorem dX7_setPart_0 : decode cX7_setPart 0 = .ok (.iload_n 1, 1) := by decide +kernel
theorem dX7_setPart_1 : decode cX7_setPart 1 = .ok (.ifCond .lt 19, 3) := by decide +kernel
theorem dX7_setPart_4 : decode cX7_setPart 4 = .ok (.iload_n 1, 1) := by decide +kernel
theorem dX7_setPart_5 : decode cX7_setPart 5 = .ok (.aload_n 0, 1) := by decide +kernel
theorem dX7_setPart_6 : decode cX7_setPart 6 = .ok (.getfield 9, 3) := by decide +kernel
theorem dX7_setPart_9 : decode cX7_setPart 9 = .ok (.arraylength, 1) := by decide +kernel
theorem dX7_setPart_10 : decode cX7_setPart 10 = .ok (.if_icmp .ge 10, 3) := by decide +kernel
theorem dX7_setPart_13 : decode cX7_setPart 13 = .ok (.aload_n 0, 1) := by decide +kernel
theorem dX7_setPart_14 : decode cX7_setPart 14 = .ok (.getfield 9, 3) := by decide +kernel
theorem dX7_setPart_17 : decode cX7_setPart 17 = .ok (.iload_n 1, 1) := by decide +kernel
theorem dX7_setPart_18 : decode cX7_setPart 18 = .ok (.iload_n 2, 1) := by decide +kernel
theorem dX7_setPart_19 : decode cX7_setPart 19 = .ok (.iastore, 1) := by decide +kernel
theorem dX7_setPart_20 : decode cX7_setPart 20 = .ok (.return_, 1) := by decide +kernel
theorem dX7_partAt_0 : decode cX7_partAt 0 = .ok (.iload_n 1, 1) := by decide +kernel
theorem dX7_partAt_1 : decode cX7_partAt 1 = .ok (.ifCond .lt 21, 3) := by decide +kernel
theorem dX7_partAt_4 : decode cX7_partAt 4 = .ok (.iload_n 1, 1) := by decide +kernel
theorem dX7_partAt_5 : decode cX7_partAt 5 = .ok (.aload_n 0, 1) := by decide +kernel
theorem dX7_partAt_6 : decode cX7_partAt 6 = .ok (.getfield 9, 3) := by decide +kernel
theorem dX7_partAt_9 : decode cX7_partAt 9 = .ok (.arraylength, 1) := by decide +kernel
theorem dX7_partAt_10 : decode cX7_partAt 10 = .ok (.if_icmp .ge 12, 3) := by decide +kernel
theorem dX7_partAt_13 : decode cX7_partAt 13 = .ok (.aload_n 0, 1) := by decide +kernel
theorem dX7_partAt_14 : decode cX7_partAt 14 = .ok (.getfield 9, 3) := by decide +kernel
theorem dX7_partAt_17 : decode cX7_partAt 17 = .ok (.iload_n 1, 1) := by decide +kernel
theorem dX7_partAt_18 : decode cX7_partAt 18 = .ok (.iaload, 1) := by decide +kernel
theorem dX7_partAt_19 : decode cX7_partAt 19 = .ok (.goto 4, 3) := by decide +kernel
theorem dX7_partAt_22 : decode cX7_partAt 22 = .ok (.iconst 0, 1) := by decide +kernel
theorem dX7_partAt_23 : decode cX7_partAt 23 = .ok (.ireturn, 1) := by decide +kernel
set_option maxRecDepth 20000 in
theorem ggX7_partsFrom_X8_isWithin : GoodIn wsX7_partsFrom wsX8_isWithin := goodIn_r _ [3] (by decide +kernel) (by decide +kernel)
set_option maxRecDepth 20000 in
theorem gX7_partsFrom_X8_isWithin_n61 : GoodIn wsX7_partsFrom (wsX8_isWithin) := ggX7_partsFrom_X8_isWithin
set_option maxRecDepth 20000 in
theorem ggX7_partsFrom_X7_partAt : GoodIn wsX7_partsFrom wsX7_partAt := goodIn_r _ [8, 9, 10, 11, 12, 13, 14, 15, 16, 17, 18] (by decide +kernel) (by decide +kernel)
set_option maxRecDepth 20000 in
theorem gX7_partsFrom_X7_partAt : GoodIn wsX7_partsFrom (wsV RX7 65 RX7 yX7_partAt wsX7_partAt) := goodIn_app (goodIn_of _ (by decide +kernel)) ggX7_partsFrom_X7_partAt
theorem dX7_partsFrom_0 : decode cX7_partsFrom 0 = .ok (.iconst 0, 1) := by decide +kernel
theorem dX7_partsFrom_1 : decode cX7_partsFrom 1 = .ok (.istore_n 3, 1) := by decide +kernel
theorem dX7_partsFrom_2 : decode cX7_partsFrom 2 = .ok (.iconst 0, 1) := by decide +kernel
theorem dX7_partsFrom_3 : decode cX7_partsFrom 3 = .ok (.istore 4, 2) := by decide +kernel
theorem dX7_partsFrom_5 : decode cX7_partsFrom 5 = .ok (.iload 4, 2) := by decide +kernel
theorem dX7_partsFrom_7 : decode cX7_partsFrom 7 = .ok (.bipush 11, 2) := by decide +kernel
theorem dX7_partsFrom_9 : decode cX7_partsFrom 9 = .ok (.if_icmp .ge 28, 3) := by decide +kernel
theorem dX7_partsFrom_12 : decode cX7_partsFrom 12 = .ok (.iload 4, 2) := by decide +kernel
theorem dX7_partsFrom_14 : decode cX7_partsFrom 14 = .ok (.iload_n 1, 1) := by decide +kernel
theorem dX7_partsFrom_15 : decode cX7_partsFrom 15 = .ok (.iload_n 2, 1) := by decide +kernel
theorem dX7_partsFrom_16 : decode cX7_partsFrom 16 = .ok (.invokestatic 61, 3) := by decide +kernel
theorem dX7_partsFrom_19 : decode cX7_partsFrom 19 = .ok (.ifCond .eq 12, 3) := by decide +kernel
theorem dX7_partsFrom_22 : decode cX7_partsFrom 22 = .ok (.iload_n 3, 1) := by decide +kernel
theorem dX7_partsFrom_23 : decode cX7_partsFrom 23 = .ok (.aload_n 0, 1) := by decide +kernel
theorem dX7_partsFrom_24 : decode cX7_partsFrom 24 = .ok (.iload 4, 2) := by decide +kernel
theorem dX7_partsFrom_26 : decode cX7_partsFrom 26 = .ok (.invokevirtual 65, 3) := by decide +kernel
theorem dX7_partsFrom_29 : decode cX7_partsFrom 29 = .ok (.iadd, 1) := by decide +kernel
theorem dX7_partsFrom_30 : decode cX7_partsFrom 30 = .ok (.istore_n 3, 1) := by decide +kernel
theorem dX7_partsFrom_31 : decode cX7_partsFrom 31 = .ok (.iinc 4 1, 3) := by decide +kernel
theorem dX7_partsFrom_34 : decode cX7_partsFrom 34 = .ok (.goto (-29), 3) := by decide +kernel
theorem dX7_partsFrom_37 : decode cX7_partsFrom 37 = .ok (.iload_n 3, 1) := by decide +kernel
theorem dX7_partsFrom_38 : decode cX7_partsFrom 38 = .ok (.ireturn, 1) := by decide +kernel
set_option maxRecDepth 20000 in
theorem ggX7_allParts_X7_partsFrom : GoodIn wsX7_allParts wsX7_partsFrom := goodIn_r _ [5, 6, 7, 8, 9, 10, 11, 4, 12, 13, 14, 15, 16, 17, 18, 19, 20, 21, 22] (by decide +kernel) (by decide +kernel)
set_option maxRecDepth 20000 in
theorem gX7_allParts_X7_partsFrom : GoodIn wsX7_allParts (wsV RX7 68 RX7 yX7_partsFrom wsX7_partsFrom) := goodIn_app (goodIn_of _ (by decide +kernel)) ggX7_allParts_X7_partsFrom
theorem dX7_allParts_0 : decode cX7_allParts 0 = .ok (.aload_n 0, 1) := by decide +kernel
theorem dX7_allParts_1 : decode cX7_allParts 1 = .ok (.iconst 0, 1) := by decide +kernel
theorem dX7_allParts_2 : decode cX7_allParts 2 = .ok (.bipush 10, 2) := by decide +kernel
theorem dX7_allParts_4 : decode cX7_allParts 4 = .ok (.invokevirtual 68, 3) := by decide +kernel
theorem dX7_allParts_7 : decode cX7_allParts 7 = .ok (.ireturn, 1) := by decide +kernel
theorem dX7_chanceAt_0 : decode cX7_chanceAt 0 = .ok (.iload_n 1, 1) := by decide +kernel
theorem dX7_chanceAt_1 : decode cX7_chanceAt 1 = .ok (.bipush 10, 2) := by decide +kernel
theorem dX7_chanceAt_3 : decode cX7_chanceAt 3 = .ok (.if_icmp .ne 10, 3) := by decide +kernel
theorem dX7_chanceAt_6 : decode cX7_chanceAt 6 = .ok (.aload_n 0, 1) := by decide +kernel
theorem dX7_chanceAt_7 : decode cX7_chanceAt 7 = .ok (.getfield 37, 3) := by decide +kernel
theorem dX7_chanceAt_10 : decode cX7_chanceAt 10 = .ok (.goto 7, 3) := by decide +kernel
theorem dX7_chanceAt_13 : decode cX7_chanceAt 13 = .ok (.aload_n 0, 1) := by decide +kernel
theorem dX7_chanceAt_14 : decode cX7_chanceAt 14 = .ok (.getfield 34, 3) := by decide +kernel
theorem dX7_chanceAt_17 : decode cX7_chanceAt 17 = .ok (.ireturn, 1) := by decide +kernel
set_option maxRecDepth 20000 in
theorem ggX7_placeOfPart_X7_partAt : GoodIn wsX7_placeOfPart wsX7_partAt := goodIn_r _ [5, 6, 7, 8, 9, 10, 11, 12, 13, 14, 15] (by decide +kernel) (by decide +kernel)
set_option maxRecDepth 20000 in
theorem gX7_placeOfPart_X7_partAt : GoodIn wsX7_placeOfPart (wsV RX7 65 RX7 yX7_partAt wsX7_partAt) := goodIn_app (goodIn_of _ (by decide +kernel)) ggX7_placeOfPart_X7_partAt
theorem dX7_placeOfPart_0 : decode cX7_placeOfPart 0 = .ok (.iload_n 1, 1) := by decide +kernel
theorem dX7_placeOfPart_1 : decode cX7_placeOfPart 1 = .ok (.istore_n 2, 1) := by decide +kernel
theorem dX7_placeOfPart_2 : decode cX7_placeOfPart 2 = .ok (.iconst 0, 1) := by decide +kernel
theorem dX7_placeOfPart_3 : decode cX7_placeOfPart 3 = .ok (.istore_n 3, 1) := by decide +kernel
theorem dX7_placeOfPart_4 : decode cX7_placeOfPart 4 = .ok (.iload_n 3, 1) := by decide +kernel
theorem dX7_placeOfPart_5 : decode cX7_placeOfPart 5 = .ok (.bipush 10, 2) := by decide +kernel
theorem dX7_placeOfPart_7 : decode cX7_placeOfPart 7 = .ok (.if_icmp .ge 23, 3) := by decide +kernel
theorem dX7_placeOfPart_10 : decode cX7_placeOfPart 10 = .ok (.iload_n 2, 1) := by decide +kernel
theorem dX7_placeOfPart_11 : decode cX7_placeOfPart 11 = .ok (.aload_n 0, 1) := by decide +kernel
theorem dX7_placeOfPart_12 : decode cX7_placeOfPart 12 = .ok (.iload_n 3, 1) := by decide +kernel
theorem dX7_placeOfPart_13 : decode cX7_placeOfPart 13 = .ok (.invokevirtual 65, 3) := by decide +kernel
theorem dX7_placeOfPart_16 : decode cX7_placeOfPart 16 = .ok (.isub, 1) := by decide +kernel
theorem dX7_placeOfPart_17 : decode cX7_placeOfPart 17 = .ok (.istore_n 2, 1) := by decide +kernel
theorem dX7_placeOfPart_18 : decode cX7_placeOfPart 18 = .ok (.iload_n 2, 1) := by decide +kernel
theorem dX7_placeOfPart_19 : decode cX7_placeOfPart 19 = .ok (.ifCond .ge 5, 3) := by decide +kernel
theorem dX7_placeOfPart_22 : decode cX7_placeOfPart 22 = .ok (.iload_n 3, 1) := by decide +kernel
theorem dX7_placeOfPart_23 : decode cX7_placeOfPart 23 = .ok (.ireturn, 1) := by decide +kernel
theorem dX7_placeOfPart_24 : decode cX7_placeOfPart 24 = .ok (.iinc 3 1, 3) := by decide +kernel
theorem dX7_placeOfPart_27 : decode cX7_placeOfPart 27 = .ok (.goto (-23), 3) := by decide +kernel
theorem dX7_placeOfPart_30 : decode cX7_placeOfPart 30 = .ok (.bipush 10, 2) := by decide +kernel
theorem dX7_placeOfPart_32 : decode cX7_placeOfPart 32 = .ok (.ireturn, 1) := by decide +kernel
set_option maxRecDepth 20000 in
theorem ggX7_drifted_X8_moved : GoodIn wsX7_drifted wsX8_moved := goodIn_r _ [5, 6, 7, 8, 9, 10, 11, 12] (by decide +kernel) (by decide +kernel)
set_option maxRecDepth 20000 in
theorem gX7_drifted_X8_moved_n72 : GoodIn wsX7_drifted (wsX8_moved) := ggX7_drifted_X8_moved
theorem dX7_drifted_0 : decode cX7_drifted 0 = .ok (.iload_n 2, 1) := by decide +kernel
theorem dX7_drifted_1 : decode cX7_drifted 1 = .ok (.aload_n 0, 1) := by decide +kernel
theorem dX7_drifted_2 : decode cX7_drifted 2 = .ok (.getfield 28, 3) := by decide +kernel
theorem dX7_drifted_5 : decode cX7_drifted 5 = .ok (.if_icmp .ge 9, 3) := by decide +kernel
theorem dX7_drifted_8 : decode cX7_drifted 8 = .ok (.iload_n 1, 1) := by decide +kernel
theorem dX7_drifted_9 : decode cX7_drifted 9 = .ok (.iconst 1, 1) := by decide +kernel
theorem dX7_drifted_10 : decode cX7_drifted 10 = .ok (.invokestatic 72, 3) := by decide +kernel
theorem dX7_drifted_13 : decode cX7_drifted 13 = .ok (.ireturn, 1) := by decide +kernel
theorem dX7_drifted_14 : decode cX7_drifted 14 = .ok (.iload_n 2, 1) := by decide +kernel
theorem dX7_drifted_15 : decode cX7_drifted 15 = .ok (.aload_n 0, 1) := by decide +kernel
theorem dX7_drifted_16 : decode cX7_drifted 16 = .ok (.getfield 28, 3) := by decide +kernel
theorem dX7_drifted_19 : decode cX7_drifted 19 = .ok (.aload_n 0, 1) := by decide +kernel
theorem dX7_drifted_20 : decode cX7_drifted 20 = .ok (.getfield 31, 3) := by decide +kernel
theorem dX7_drifted_23 : decode cX7_drifted 23 = .ok (.iadd, 1) := by decide +kernel
theorem dX7_drifted_24 : decode cX7_drifted 24 = .ok (.if_icmp .ge 11, 3) := by decide +kernel
theorem dX7_drifted_27 : decode cX7_drifted 27 = .ok (.iload_n 1, 1) := by decide +kernel
theorem dX7_drifted_28 : decode cX7_drifted 28 = .ok (.iconst 2, 1) := by decide +kernel
theorem dX7_drifted_29 : decode cX7_drifted 29 = .ok (.invokestatic 72, 3) := by decide +kernel
theorem dX7_drifted_32 : decode cX7_drifted 32 = .ok (.goto 4, 3) := by decide +kernel
theorem dX7_drifted_35 : decode cX7_drifted 35 = .ok (.iload_n 1, 1) := by decide +kernel
theorem dX7_drifted_36 : decode cX7_drifted 36 = .ok (.ireturn, 1) := by decide +kernel
set_option maxRecDepth 20000 in
theorem ggX8_init_X6_init : GoodIn wsX8_init wsX6_init := goodIn_r _ [32, 33, 2, 3, 34, 35, 81, 82, 83, 84, 85, 86] (by decide +kernel) (by decide +kernel)
set_option maxRecDepth 20000 in
theorem gX8_init_X6_init : GoodIn wsX8_init (wsX6_init) := ggX8_init_X6_init
set_option maxRecDepth 20000 in
theorem ggX8_init_X7_init : GoodIn wsX8_init wsX7_init := goodIn_r _ [38, 39, 2, 3, 34, 40, 41, 42, 97, 98, 99, 100, 101, 102, 103, 104, 105] (by decide +kernel) (by decide +kernel)
set_option maxRecDepth 20000 in
theorem gX8_init_X7_init : GoodIn wsX8_init (wsX7_init) := ggX8_init_X7_init
set_option maxRecDepth 20000 in
theorem ggX8_init_X4_init : GoodIn wsX8_init wsX4_init := goodIn_r _ [45, 46, 2, 3, 47, 48, 34, 49, 50, 106, 107, 108, 109, 110, 111] (by decide +kernel) (by decide +kernel)
set_option maxRecDepth 20000 in
theorem gX8_init_X4_init : GoodIn wsX8_init (wsX4_init) := ggX8_init_X4_init
set_option maxRecDepth 20000 in
theorem ggX8_init_X5_init : GoodIn wsX8_init wsX5_init := goodIn_r _ [53, 54, 2, 3, 55, 56, 57, 58, 59, 60, 13, 14, 61, 44, 45, 46, 47, 48, 34, 49, 50, 112, 106, 107, 108, 109, 110, 111] (by decide +kernel) (by decide +kernel)
set_option maxRecDepth 20000 in
theorem gX8_init_X5_init : GoodIn wsX8_init (wsX5_init) := ggX8_init_X5_init
set_option maxRecDepth 20000 in
theorem ggX8_init_X0_init : GoodIn wsX8_init wsX0_init := goodIn_r _ [64, 65, 2, 3, 66, 18, 19, 67, 68, 69, 70, 71, 72, 73, 74, 52, 53, 54, 55, 56, 57, 58, 59, 60, 13, 14, 61, 44, 45, 46, 47, 48, 34, 49, 50, 75, 76, 77, 112, 113, 114, 115, 116, 117, 119, 120, 106, 107, 108, 109, 110, 111] (by decide +kernel) (by decide +kernel)
set_option maxRecDepth 20000 in
theorem gX8_init_X0_init : GoodIn wsX8_init (wsX0_init) := ggX8_init_X0_init
set_option maxRecDepth 20000 in
theorem ggX8_init_X2_init : GoodIn wsX8_init wsX2_init := goodIn_r _ [79, 80, 2, 3] (by decide +kernel) (by decide +kernel)
set_option maxRecDepth 20000 in
theorem gX8_init_X2_init_n54 : GoodIn wsX8_init (wsX2_init) := ggX8_init_X2_init
theorem dX8_init_0 : decode cX8_init 0 = .ok (.aload_n 0, 1) := by decide +kernel
theorem dX8_init_1 : decode cX8_init 1 = .ok (.invokespecial 1, 3) := by decide +kernel
theorem dX8_init_4 : decode cX8_init 4 = .ok (.aload_n 0, 1) := by decide +kernel
theorem dX8_init_5 : decode cX8_init 5 = .ok (.new 7, 3) := by decide +kernel
theorem dX8_init_8 : decode cX8_init 8 = .ok (.dup, 1) := by decide +kernel
theorem dX8_init_9 : decode cX8_init 9 = .ok (.invokespecial 9, 3) := by decide +kernel
theorem dX8_init_12 : decode cX8_init 12 = .ok (.putfield 10, 3) := by decide +kernel
theorem dX8_init_15 : decode cX8_init 15 = .ok (.aload_n 0, 1) := by decide +kernel
theorem dX8_init_16 : decode cX8_init 16 = .ok (.new 16, 3) := by decide +kernel
theorem dX8_init_19 : decode cX8_init 19 = .ok (.dup, 1) := by decide +kernel
theorem dX8_init_20 : decode cX8_init 20 = .ok (.invokespecial 18, 3) := by decide +kernel
theorem dX8_init_23 : decode cX8_init 23 = .ok (.putfield 19, 3) := by decide +kernel
theorem dX8_init_26 : decode cX8_init 26 = .ok (.aload_n 0, 1) := by decide +kernel
theorem dX8_init_27 : decode cX8_init 27 = .ok (.new 23, 3) := by decide +kernel
theorem dX8_init_30 : decode cX8_init 30 = .ok (.dup, 1) := by decide +kernel
theorem dX8_init_31 : decode cX8_init 31 = .ok (.invokespecial 25, 3) := by decide +kernel
theorem dX8_init_34 : decode cX8_init 34 = .ok (.putfield 26, 3) := by decide +kernel
theorem dX8_init_37 : decode cX8_init 37 = .ok (.aload_n 0, 1) := by decide +kernel
theorem dX8_init_38 : decode cX8_init 38 = .ok (.new 23, 3) := by decide +kernel
theorem dX8_init_41 : decode cX8_init 41 = .ok (.dup, 1) := by decide +kernel
theorem dX8_init_42 : decode cX8_init 42 = .ok (.invokespecial 25, 3) := by decide +kernel
theorem dX8_init_45 : decode cX8_init 45 = .ok (.putfield 30, 3) := by decide +kernel
theorem dX8_init_48 : decode cX8_init 48 = .ok (.aload_n 0, 1) := by decide +kernel
theorem dX8_init_49 : decode cX8_init 49 = .ok (.new 33, 3) := by decide +kernel
theorem dX8_init_52 : decode cX8_init 52 = .ok (.dup, 1) := by decide +kernel
theorem dX8_init_53 : decode cX8_init 53 = .ok (.bipush 8, 2) := by decide +kernel
theorem dX8_init_55 : decode cX8_init 55 = .ok (.invokespecial 35, 3) := by decide +kernel
theorem dX8_init_58 : decode cX8_init 58 = .ok (.putfield 38, 3) := by decide +kernel
theorem dX8_init_61 : decode cX8_init 61 = .ok (.aload_n 0, 1) := by decide +kernel
theorem dX8_init_62 : decode cX8_init 62 = .ok (.new 33, 3) := by decide +kernel
theorem dX8_init_65 : decode cX8_init 65 = .ok (.dup, 1) := by decide +kernel
theorem dX8_init_66 : decode cX8_init 66 = .ok (.iconst 2, 1) := by decide +kernel
theorem dX8_init_67 : decode cX8_init 67 = .ok (.invokespecial 35, 3) := by decide +kernel
theorem dX8_init_70 : decode cX8_init 70 = .ok (.putfield 42, 3) := by decide +kernel
theorem dX8_init_73 : decode cX8_init 73 = .ok (.aload_n 0, 1) := by decide +kernel
theorem dX8_init_74 : decode cX8_init 74 = .ok (.new 45, 3) := by decide +kernel
theorem dX8_init_77 : decode cX8_init 77 = .ok (.dup, 1) := by decide +kernel
theorem dX8_init_78 : decode cX8_init 78 = .ok (.invokespecial 47, 3) := by decide +kernel
theorem dX8_init_81 : decode cX8_init 81 = .ok (.putfield 48, 3) := by decide +kernel
theorem dX8_init_84 : decode cX8_init 84 = .ok (.aload_n 0, 1) := by decide +kernel
theorem dX8_init_85 : decode cX8_init 85 = .ok (.new 52, 3) := by decide +kernel
theorem dX8_init_88 : decode cX8_init 88 = .ok (.dup, 1) := by decide +kernel
theorem dX8_init_89 : decode cX8_init 89 = .ok (.invokespecial 54, 3) := by decide +kernel
theorem dX8_init_92 : decode cX8_init 92 = .ok (.putfield 55, 3) := by decide +kernel
theorem dX8_init_95 : decode cX8_init 95 = .ok (.return_, 1) := by decide +kernel
set_option maxRecDepth 20000 in
theorem ggX8_write_X8_isWithin : GoodIn wsX8_write wsX8_isWithin := goodIn_r _ [5] (by decide +kernel) (by decide +kernel)
set_option maxRecDepth 20000 in
theorem gX8_write_X8_isWithin : GoodIn wsX8_write (va_wsS RX8 59 yX8_isWithin wsX8_isWithin) := goodIn_app (goodIn_of _ (by decide +kernel)) ggX8_write_X8_isWithin
set_option maxRecDepth 20000 in
theorem ggX8_write_X6_isFull : GoodIn wsX8_write wsX6_isFull := goodIn_r _ [10, 11, 12, 27, 28, 29, 30, 31, 32] (by decide +kernel) (by decide +kernel)
set_option maxRecDepth 20000 in
theorem gX8_write_X6_isFull : GoodIn wsX8_write (wsV RX8 63 RX6 yX6_isFull wsX6_isFull) := goodIn_app (goodIn_of _ (by decide +kernel)) ggX8_write_X6_isFull
set_option maxRecDepth 20000 in
theorem ggX8_write_X6_add : GoodIn wsX8_write wsX6_add := goodIn_r _ [16, 11, 12, 27, 28, 29, 30, 31, 32] (by decide +kernel) (by decide +kernel)
set_option maxRecDepth 20000 in
theorem gX8_write_X6_add : GoodIn wsX8_write (wsV RX8 67 RX6 yX6_add wsX6_add) := goodIn_app (goodIn_of _ (by decide +kernel)) ggX8_write_X6_add
theorem dX8_write_0 : decode cX8_write 0 = .ok (.iload_n 1, 1) := by decide +kernel
theorem dX8_write_1 : decode cX8_write 1 = .ok (.iconst 0, 1) := by decide +kernel
theorem dX8_write_2 : decode cX8_write 2 = .ok (.sipush 255, 3) := by decide +kernel
theorem dX8_write_5 : decode cX8_write 5 = .ok (.invokestatic 59, 3) := by decide +kernel
theorem dX8_write_8 : decode cX8_write 8 = .ok (.ifCond .ne 6, 3) := by decide +kernel
theorem dX8_write_11 : decode cX8_write 11 = .ok (.bipush (-2), 2) := by decide +kernel
theorem dX8_write_13 : decode cX8_write 13 = .ok (.ireturn, 1) := by decide +kernel
theorem dX8_write_14 : decode cX8_write 14 = .ok (.aload_n 0, 1) := by decide +kernel
theorem dX8_write_15 : decode cX8_write 15 = .ok (.getfield 10, 3) := by decide +kernel
theorem dX8_write_18 : decode cX8_write 18 = .ok (.invokevirtual 63, 3) := by decide +kernel
theorem dX8_write_21 : decode cX8_write 21 = .ok (.ifCond .eq 8, 3) := by decide +kernel
theorem dX8_write_24 : decode cX8_write 24 = .ok (.bipush (-4), 2) := by decide +kernel
theorem dX8_write_26 : decode cX8_write 26 = .ok (.goto 11, 3) := by decide +kernel
theorem dX8_write_29 : decode cX8_write 29 = .ok (.aload_n 0, 1) := by decide +kernel
theorem dX8_write_30 : decode cX8_write 30 = .ok (.getfield 10, 3) := by decide +kernel
theorem dX8_write_33 : decode cX8_write 33 = .ok (.iload_n 1, 1) := by decide +kernel
theorem dX8_write_34 : decode cX8_write 34 = .ok (.invokevirtual 67, 3) := by decide +kernel
theorem dX8_write_37 : decode cX8_write 37 = .ok (.ireturn, 1) := by decide +kernel
set_option maxRecDepth 20000 in
theorem ggX8_wipe_X6_clear : GoodIn wsX8_wipe wsX6_clear := goodIn_r _ [6, 7, 18, 19, 20, 21, 22, 23] (by decide +kernel) (by decide +kernel)
set_option maxRecDepth 20000 in
theorem gX8_wipe_X6_clear : GoodIn wsX8_wipe (wsV RX8 71 RX6 yX6_clear wsX6_clear) := goodIn_app (goodIn_of _ (by decide +kernel)) ggX8_wipe_X6_clear
theorem dX8_wipe_0 : decode cX8_wipe 0 = .ok (.aload_n 0, 1) := by decide +kernel
theorem dX8_wipe_1 : decode cX8_wipe 1 = .ok (.getfield 10, 3) := by decide +kernel
theorem dX8_wipe_4 : decode cX8_wipe 4 = .ok (.invokevirtual 71, 3) := by decide +kernel
theorem dX8_wipe_7 : decode cX8_wipe 7 = .ok (.ireturn, 1) := by decide +kernel
set_option maxRecDepth 20000 in
theorem ggX8_fault_X6_firstFault : GoodIn wsX8_fault wsX6_firstFault := goodIn_r _ [6, 7, 8, 9, 10, 11, 12, 13, 14, 5, 15, 16, 17, 18, 19, 20, 21, 22, 23, 24, 25, 26, 27, 28, 29, 30, 31, 32, 33, 34, 35, 36, 47, 48, 49, 50, 51, 52] (by decide +kernel) (by decide +kernel)
set_option maxRecDepth 20000 in
theorem gX8_fault_X6_firstFault : GoodIn wsX8_fault (wsV RX8 75 RX6 yX6_firstFault wsX6_firstFault) := goodIn_app (goodIn_of _ (by decide +kernel)) ggX8_fault_X6_firstFault
theorem dX8_fault_0 : decode cX8_fault 0 = .ok (.aload_n 0, 1) := by decide +kernel
theorem dX8_fault_1 : decode cX8_fault 1 = .ok (.getfield 10, 3) := by decide +kernel
theorem dX8_fault_4 : decode cX8_fault 4 = .ok (.invokevirtual 75, 3) := by decide +kernel
theorem dX8_fault_7 : decode cX8_fault 7 = .ok (.ireturn, 1) := by decide +kernel
set_option maxRecDepth 20000 in
theorem ggX8_search_X6_firstFault : GoodIn wsX8_search wsX6_firstFault := goodIn_r _ [10, 11, 12, 13, 14, 15, 16, 17, 18, 9, 19, 20, 21, 22, 23, 24, 25, 26, 27, 28, 29, 30, 31, 32, 33, 34, 35, 36, 37, 38, 39, 40, 104, 105, 106, 107, 108, 109] (by decide +kernel) (by decide +kernel)
set_option maxRecDepth 20000 in
theorem gX8_search_X6_firstFault : GoodIn wsX8_search (wsV RX8 75 RX6 yX6_firstFault wsX6_firstFault) := goodIn_app (goodIn_of _ (by decide +kernel)) ggX8_search_X6_firstFault
set_option maxRecDepth 20000 in
theorem ggX8_search_X7_take : GoodIn wsX8_search wsX7_take := goodIn_r _ [45, 46, 47, 48, 49, 50, 51, 52, 53, 54, 21, 22, 9, 23, 24, 25, 26, 27, 15, 28, 55, 56, 57, 44, 58, 59, 60, 61, 62, 63, 64, 65, 66, 67, 68, 110, 111, 112, 113, 114, 115, 116, 117, 118, 104, 105, 106, 107, 108, 109] (by decide +kernel) (by decide +kernel)
set_option maxRecDepth 20000 in
theorem gX8_search_X7_take : GoodIn wsX8_search (wsV RX8 78 RX7 yX7_take wsX7_take) := goodIn_app (goodIn_of _ (by decide +kernel)) ggX8_search_X7_take
set_option maxRecDepth 20000 in
theorem ggX8_search_X4_begin : GoodIn wsX8_search wsX4_begin := goodIn_r _ [73, 74, 75, 76, 77, 78, 79, 80, 44, 81, 59, 119, 120, 121, 122, 123, 124, 110, 111, 112, 113, 114, 115, 116, 117, 118] (by decide +kernel) (by decide +kernel)
set_option maxRecDepth 20000 in
theorem gX8_search_X4_begin : GoodIn wsX8_search (wsV RX8 82 RX4 yX4_begin wsX4_begin) := goodIn_app (goodIn_of _ (by decide +kernel)) ggX8_search_X4_begin
set_option maxRecDepth 20000 in
theorem ggX8_search_X7_allParts : GoodIn wsX8_search wsX7_allParts := goodIn_r _ [85, 86, 87, 88, 44, 89, 90, 91, 92, 93, 79, 80, 81, 59, 110, 111, 112, 113, 114, 115, 116, 117, 118] (by decide +kernel) (by decide +kernel)
set_option maxRecDepth 20000 in
theorem gX8_search_X7_allParts : GoodIn wsX8_search (wsV RX8 93 RX7 yX7_allParts wsX7_allParts) := goodIn_app (goodIn_of _ (by decide +kernel)) ggX8_search_X7_allParts
theorem dX8_search_0 : decode cX8_search 0 = .ok (.aload_n 0, 1) := by decide +kernel
theorem dX8_search_1 : decode cX8_search 1 = .ok (.getfield 10, 3) := by decide +kernel
theorem dX8_search_4 : decode cX8_search 4 = .ok (.invokevirtual 75, 3) := by decide +kernel
theorem dX8_search_7 : decode cX8_search 7 = .ok (.bipush (-9), 2) := by decide +kernel
theorem dX8_search_9 : decode cX8_search 9 = .ok (.if_icmp .eq 6, 3) := by decide +kernel
theorem dX8_search_12 : decode cX8_search 12 = .ok (.bipush (-3), 2) := by decide +kernel
theorem dX8_search_14 : decode cX8_search 14 = .ok (.ireturn, 1) := by decide +kernel
theorem dX8_search_15 : decode cX8_search 15 = .ok (.aload_n 0, 1) := by decide +kernel
theorem dX8_search_16 : decode cX8_search 16 = .ok (.getfield 19, 3) := by decide +kernel
theorem dX8_search_19 : decode cX8_search 19 = .ok (.aload_n 0, 1) := by decide +kernel
theorem dX8_search_20 : decode cX8_search 20 = .ok (.getfield 10, 3) := by decide +kernel
theorem dX8_search_23 : decode cX8_search 23 = .ok (.invokevirtual 78, 3) := by decide +kernel
theorem dX8_search_26 : decode cX8_search 26 = .ok (.aload_n 0, 1) := by decide +kernel
theorem dX8_search_27 : decode cX8_search 27 = .ok (.getfield 26, 3) := by decide +kernel
theorem dX8_search_30 : decode cX8_search 30 = .ok (.aload_n 0, 1) := by decide +kernel
theorem dX8_search_31 : decode cX8_search 31 = .ok (.getfield 19, 3) := by decide +kernel
theorem dX8_search_34 : decode cX8_search 34 = .ok (.invokevirtual 82, 3) := by decide +kernel
theorem dX8_search_37 : decode cX8_search 37 = .ok (.aload_n 0, 1) := by decide +kernel
theorem dX8_search_38 : decode cX8_search 38 = .ok (.iconst 0, 1) := by decide +kernel
theorem dX8_search_39 : decode cX8_search 39 = .ok (.putfield 86, 3) := by decide +kernel
theorem dX8_search_42 : decode cX8_search 42 = .ok (.aload_n 0, 1) := by decide +kernel
theorem dX8_search_43 : decode cX8_search 43 = .ok (.iconst 0, 1) := by decide +kernel
theorem dX8_search_44 : decode cX8_search 44 = .ok (.putfield 90, 3) := by decide +kernel
theorem dX8_search_47 : decode cX8_search 47 = .ok (.aload_n 0, 1) := by decide +kernel
theorem dX8_search_48 : decode cX8_search 48 = .ok (.getfield 19, 3) := by decide +kernel
theorem dX8_search_51 : decode cX8_search 51 = .ok (.invokevirtual 93, 3) := by decide +kernel
theorem dX8_search_54 : decode cX8_search 54 = .ok (.ireturn, 1) := by decide +kernel
set_option maxRecDepth 20000 in
theorem ggX8_look_X8_isWithin : GoodIn wsX8_look wsX8_isWithin := goodIn_r _ [6] (by decide +kernel) (by decide +kernel)
set_option maxRecDepth 20000 in
theorem gX8_look_X8_isWithin : GoodIn wsX8_look (va_wsS RX8 59 yX8_isWithin wsX8_isWithin) := goodIn_app (goodIn_of _ (by decide +kernel)) ggX8_look_X8_isWithin
set_option maxRecDepth 20000 in
theorem ggX8_look_X8_remember : GoodIn wsX8_look wsX8_remember := goodIn_r _ [10, 11, 12, 1, 13, 14, 15, 16, 17, 18, 19, 20, 21, 22, 23, 24, 25, 26, 27, 28, 29, 30, 31, 32, 33, 34, 35, 36, 37, 38, 39, 40, 41, 42, 43, 44, 45, 83, 84, 85, 86, 87, 88, 89, 90, 91, 92, 108, 93, 94, 95, 96, 97, 98] (by decide +kernel) (by decide +kernel)
set_option maxRecDepth 20000 in
theorem gX8_look_X8_remember : GoodIn wsX8_look (wsV RX8 102 RX8 yX8_remember wsX8_remember) := goodIn_app (goodIn_of _ (by decide +kernel)) ggX8_look_X8_remember
set_option maxRecDepth 20000 in
theorem ggX8_look_X4_act : GoodIn wsX8_look wsX4_act := goodIn_r _ [49, 50, 51, 52, 26, 53, 31, 54, 55, 56, 57, 58, 5, 59, 60, 61, 62, 63, 64, 65, 66, 67, 68, 69, 70, 71, 72, 73, 74, 75, 76, 77, 28, 78, 79, 80, 81, 82, 32, 34, 35, 36, 37, 93, 94, 95, 96, 97, 98, 99, 100, 101, 102, 103, 104, 105, 106, 107] (by decide +kernel) (by decide +kernel)
set_option maxRecDepth 20000 in
theorem gX8_look_X4_act : GoodIn wsX8_look (wsV RX8 105 RX4 yX4_act wsX4_act) := goodIn_app (goodIn_of _ (by decide +kernel)) ggX8_look_X4_act
theorem dX8_look_0 : decode cX8_look 0 = .ok (.iload_n 1, 1) := by decide +kernel
theorem dX8_look_1 : decode cX8_look 1 = .ok (.iconst 0, 1) := by decide +kernel
theorem dX8_look_2 : decode cX8_look 2 = .ok (.iconst 2, 1) := by decide +kernel
theorem dX8_look_3 : decode cX8_look 3 = .ok (.invokestatic 59, 3) := by decide +kernel
theorem dX8_look_6 : decode cX8_look 6 = .ok (.ifCond .ne 6, 3) := by decide +kernel
theorem dX8_look_9 : decode cX8_look 9 = .ok (.bipush (-2), 2) := by decide +kernel
theorem dX8_look_11 : decode cX8_look 11 = .ok (.ireturn, 1) := by decide +kernel
theorem dX8_look_12 : decode cX8_look 12 = .ok (.aload_n 0, 1) := by decide +kernel
theorem dX8_look_13 : decode cX8_look 13 = .ok (.getfield 26, 3) := by decide +kernel
theorem dX8_look_16 : decode cX8_look 16 = .ok (.getfield 96, 3) := by decide +kernel
theorem dX8_look_19 : decode cX8_look 19 = .ok (.aload_n 0, 1) := by decide +kernel
theorem dX8_look_20 : decode cX8_look 20 = .ok (.getfield 19, 3) := by decide +kernel
theorem dX8_look_23 : decode cX8_look 23 = .ok (.getfield 99, 3) := by decide +kernel
theorem dX8_look_26 : decode cX8_look 26 = .ok (.if_icmp .lt 6, 3) := by decide +kernel
theorem dX8_look_29 : decode cX8_look 29 = .ok (.bipush (-3), 2) := by decide +kernel
theorem dX8_look_31 : decode cX8_look 31 = .ok (.ireturn, 1) := by decide +kernel
theorem dX8_look_32 : decode cX8_look 32 = .ok (.aload_n 0, 1) := by decide +kernel
theorem dX8_look_33 : decode cX8_look 33 = .ok (.invokevirtual 102, 3) := by decide +kernel
theorem dX8_look_36 : decode cX8_look 36 = .ok (.aload_n 0, 1) := by decide +kernel
theorem dX8_look_37 : decode cX8_look 37 = .ok (.getfield 26, 3) := by decide +kernel
theorem dX8_look_40 : decode cX8_look 40 = .ok (.aload_n 0, 1) := by decide +kernel
theorem dX8_look_41 : decode cX8_look 41 = .ok (.getfield 19, 3) := by decide +kernel
theorem dX8_look_44 : decode cX8_look 44 = .ok (.iload_n 1, 1) := by decide +kernel
theorem dX8_look_45 : decode cX8_look 45 = .ok (.invokevirtual 105, 3) := by decide +kernel
theorem dX8_look_48 : decode cX8_look 48 = .ok (.aload_n 0, 1) := by decide +kernel
theorem dX8_look_49 : decode cX8_look 49 = .ok (.getfield 26, 3) := by decide +kernel
theorem dX8_look_52 : decode cX8_look 52 = .ok (.getfield 109, 3) := by decide +kernel
theorem dX8_look_55 : decode cX8_look 55 = .ok (.ireturn, 1) := by decide +kernel
set_option maxRecDepth 20000 in
theorem ggX8_lookAboard_X8_remember : GoodIn wsX8_lookAboard wsX8_remember := goodIn_r _ [7, 8, 9, 1, 10, 11, 12, 13, 14, 15, 16, 17, 18, 19, 20, 21, 22, 23, 24, 25, 26, 27, 28, 29, 30, 31, 32, 33, 34, 35, 36, 37, 38, 39, 40, 41, 42, 80, 81, 82, 83, 84, 85, 86, 87, 88, 89, 105, 90, 91, 92, 93, 94, 95] (by decide +kernel) (by decide +kernel)
set_option maxRecDepth 20000 in
theorem gX8_lookAboard_X8_remember : GoodIn wsX8_lookAboard (wsV RX8 102 RX8 yX8_remember wsX8_remember) := goodIn_app (goodIn_of _ (by decide +kernel)) ggX8_lookAboard_X8_remember
set_option maxRecDepth 20000 in
theorem ggX8_lookAboard_X4_act : GoodIn wsX8_lookAboard wsX4_act := goodIn_r _ [46, 47, 48, 49, 23, 50, 28, 51, 52, 53, 54, 55, 6, 56, 57, 58, 59, 60, 61, 62, 63, 64, 65, 66, 67, 68, 69, 70, 71, 72, 73, 74, 25, 75, 76, 77, 78, 79, 29, 31, 32, 33, 34, 90, 91, 92, 93, 94, 95, 96, 97, 98, 99, 100, 101, 102, 103, 104] (by decide +kernel) (by decide +kernel)
set_option maxRecDepth 20000 in
theorem gX8_lookAboard_X4_act : GoodIn wsX8_lookAboard (wsV RX8 105 RX4 yX4_act wsX4_act) := goodIn_app (goodIn_of _ (by decide +kernel)) ggX8_lookAboard_X4_act
theorem dX8_lookAboard_0 : decode cX8_lookAboard 0 = .ok (.aload_n 0, 1) := by decide +kernel
theorem dX8_lookAboard_1 : decode cX8_lookAboard 1 = .ok (.getfield 26, 3) := by decide +kernel
theorem dX8_lookAboard_4 : decode cX8_lookAboard 4 = .ok (.getfield 96, 3) := by decide +kernel
theorem dX8_lookAboard_7 : decode cX8_lookAboard 7 = .ok (.aload_n 0, 1) := by decide +kernel
theorem dX8_lookAboard_8 : decode cX8_lookAboard 8 = .ok (.getfield 19, 3) := by decide +kernel
theorem dX8_lookAboard_11 : decode cX8_lookAboard 11 = .ok (.getfield 99, 3) := by decide +kernel
theorem dX8_lookAboard_14 : decode cX8_lookAboard 14 = .ok (.if_icmp .lt 6, 3) := by decide +kernel
theorem dX8_lookAboard_17 : decode cX8_lookAboard 17 = .ok (.bipush (-3), 2) := by decide +kernel
theorem dX8_lookAboard_19 : decode cX8_lookAboard 19 = .ok (.ireturn, 1) := by decide +kernel
theorem dX8_lookAboard_20 : decode cX8_lookAboard 20 = .ok (.aload_n 0, 1) := by decide +kernel
theorem dX8_lookAboard_21 : decode cX8_lookAboard 21 = .ok (.invokevirtual 102, 3) := by decide +kernel
theorem dX8_lookAboard_24 : decode cX8_lookAboard 24 = .ok (.aload_n 0, 1) := by decide +kernel
theorem dX8_lookAboard_25 : decode cX8_lookAboard 25 = .ok (.getfield 26, 3) := by decide +kernel
theorem dX8_lookAboard_28 : decode cX8_lookAboard 28 = .ok (.aload_n 0, 1) := by decide +kernel
theorem dX8_lookAboard_29 : decode cX8_lookAboard 29 = .ok (.getfield 19, 3) := by decide +kernel
theorem dX8_lookAboard_32 : decode cX8_lookAboard 32 = .ok (.iconst 3, 1) := by decide +kernel
theorem dX8_lookAboard_33 : decode cX8_lookAboard 33 = .ok (.invokevirtual 105, 3) := by decide +kernel
theorem dX8_lookAboard_36 : decode cX8_lookAboard 36 = .ok (.aload_n 0, 1) := by decide +kernel
theorem dX8_lookAboard_37 : decode cX8_lookAboard 37 = .ok (.getfield 26, 3) := by decide +kernel
theorem dX8_lookAboard_40 : decode cX8_lookAboard 40 = .ok (.getfield 96, 3) := by decide +kernel
theorem dX8_lookAboard_43 : decode cX8_lookAboard 43 = .ok (.ireturn, 1) := by decide +kernel
set_option maxRecDepth 20000 in
theorem ggX8_hear_X8_isSaying : GoodIn wsX8_hear wsX8_isSaying := goodIn_r _ [5, 6, 7, 4, 8] (by decide +kernel) (by decide +kernel)
set_option maxRecDepth 20000 in
theorem gX8_hear_X8_isSaying : GoodIn wsX8_hear (va_wsS RX8 112 yX8_isSaying wsX8_isSaying) := goodIn_app (goodIn_of _ (by decide +kernel)) ggX8_hear_X8_isSaying
set_option maxRecDepth 20000 in
theorem ggX8_hear_X8_remember : GoodIn wsX8_hear wsX8_remember := goodIn_r _ [12, 13, 14, 1, 15, 16, 17, 18, 19, 20, 21, 22, 23, 24, 25, 26, 27, 28, 29, 30, 31, 32, 33, 34, 35, 36, 37, 38, 39, 40, 41, 42, 43, 44, 45, 46, 47, 53, 54, 55, 56, 57, 58, 59, 60, 61, 62, 69, 63, 64, 65, 66, 67, 68] (by decide +kernel) (by decide +kernel)
set_option maxRecDepth 20000 in
theorem gX8_hear_X8_remember : GoodIn wsX8_hear (wsV RX8 102 RX8 yX8_remember wsX8_remember) := goodIn_app (goodIn_of _ (by decide +kernel)) ggX8_hear_X8_remember
set_option maxRecDepth 20000 in
theorem ggX8_hear_X4_believe : GoodIn wsX8_hear wsX4_believe := goodIn_r _ [51, 30, 52, 35, 31, 32, 7, 4, 8, 63, 64, 65, 66, 67, 68] (by decide +kernel) (by decide +kernel)
set_option maxRecDepth 20000 in
theorem gX8_hear_X4_believe : GoodIn wsX8_hear (wsV RX8 118 RX4 yX4_believe wsX4_believe) := goodIn_app (goodIn_of _ (by decide +kernel)) ggX8_hear_X4_believe
theorem dX8_hear_0 : decode cX8_hear 0 = .ok (.iload_n 1, 1) := by decide +kernel
theorem dX8_hear_1 : decode cX8_hear 1 = .ok (.iload_n 2, 1) := by decide +kernel
theorem dX8_hear_2 : decode cX8_hear 2 = .ok (.iload_n 3, 1) := by decide +kernel
theorem dX8_hear_3 : decode cX8_hear 3 = .ok (.invokestatic 112, 3) := by decide +kernel
theorem dX8_hear_6 : decode cX8_hear 6 = .ok (.ifCond .ne 6, 3) := by decide +kernel
theorem dX8_hear_9 : decode cX8_hear 9 = .ok (.bipush (-2), 2) := by decide +kernel
theorem dX8_hear_11 : decode cX8_hear 11 = .ok (.ireturn, 1) := by decide +kernel
theorem dX8_hear_12 : decode cX8_hear 12 = .ok (.aload_n 0, 1) := by decide +kernel
theorem dX8_hear_13 : decode cX8_hear 13 = .ok (.getfield 26, 3) := by decide +kernel
theorem dX8_hear_16 : decode cX8_hear 16 = .ok (.getfield 96, 3) := by decide +kernel
theorem dX8_hear_19 : decode cX8_hear 19 = .ok (.ifCond .le 6, 3) := by decide +kernel
theorem dX8_hear_22 : decode cX8_hear 22 = .ok (.bipush (-3), 2) := by decide +kernel
theorem dX8_hear_24 : decode cX8_hear 24 = .ok (.ireturn, 1) := by decide +kernel
theorem dX8_hear_25 : decode cX8_hear 25 = .ok (.aload_n 0, 1) := by decide +kernel
theorem dX8_hear_26 : decode cX8_hear 26 = .ok (.getfield 26, 3) := by decide +kernel
theorem dX8_hear_29 : decode cX8_hear 29 = .ok (.getfield 115, 3) := by decide +kernel
theorem dX8_hear_32 : decode cX8_hear 32 = .ok (.iconst 2, 1) := by decide +kernel
theorem dX8_hear_33 : decode cX8_hear 33 = .ok (.if_icmp .lt 6, 3) := by decide +kernel
theorem dX8_hear_36 : decode cX8_hear 36 = .ok (.bipush (-4), 2) := by decide +kernel
theorem dX8_hear_38 : decode cX8_hear 38 = .ok (.ireturn, 1) := by decide +kernel
theorem dX8_hear_39 : decode cX8_hear 39 = .ok (.aload_n 0, 1) := by decide +kernel
theorem dX8_hear_40 : decode cX8_hear 40 = .ok (.invokevirtual 102, 3) := by decide +kernel
theorem dX8_hear_43 : decode cX8_hear 43 = .ok (.aload_n 0, 1) := by decide +kernel
theorem dX8_hear_44 : decode cX8_hear 44 = .ok (.getfield 26, 3) := by decide +kernel
theorem dX8_hear_47 : decode cX8_hear 47 = .ok (.iload_n 1, 1) := by decide +kernel
theorem dX8_hear_48 : decode cX8_hear 48 = .ok (.iload_n 2, 1) := by decide +kernel
theorem dX8_hear_49 : decode cX8_hear 49 = .ok (.iload_n 3, 1) := by decide +kernel
theorem dX8_hear_50 : decode cX8_hear 50 = .ok (.invokevirtual 118, 3) := by decide +kernel
theorem dX8_hear_53 : decode cX8_hear 53 = .ok (.aload_n 0, 1) := by decide +kernel
theorem dX8_hear_54 : decode cX8_hear 54 = .ok (.getfield 26, 3) := by decide +kernel
theorem dX8_hear_57 : decode cX8_hear 57 = .ok (.getfield 115, 3) := by decide +kernel
theorem dX8_hear_60 : decode cX8_hear 60 = .ok (.ireturn, 1) := by decide +kernel
set_option maxRecDepth 20000 in
theorem ggX8_undo_X5_give : GoodIn wsX8_undo wsX5_give := goodIn_r _ [8, 9, 10, 11, 7, 12, 13, 14, 15, 16, 17, 18, 19, 20, 21, 22, 23, 24, 25, 26, 27, 28, 29, 30, 31, 32, 33, 34, 35, 36, 47, 48, 49, 50, 51, 52, 53] (by decide +kernel) (by decide +kernel)
set_option maxRecDepth 20000 in
theorem gX8_undo_X5_give : GoodIn wsX8_undo (wsV RX8 122 RX5 yX5_give wsX5_give) := goodIn_app (goodIn_of _ (by decide +kernel)) ggX8_undo_X5_give
theorem dX8_undo_0 : decode cX8_undo 0 = .ok (.aload_n 0, 1) := by decide +kernel
theorem dX8_undo_1 : decode cX8_undo 1 = .ok (.getfield 86, 3) := by decide +kernel
theorem dX8_undo_4 : decode cX8_undo 4 = .ok (.ifCond .gt 6, 3) := by decide +kernel
theorem dX8_undo_7 : decode cX8_undo 7 = .ok (.bipush (-3), 2) := by decide +kernel
theorem dX8_undo_9 : decode cX8_undo 9 = .ok (.ireturn, 1) := by decide +kernel
theorem dX8_undo_10 : decode cX8_undo 10 = .ok (.aload_n 0, 1) := by decide +kernel
theorem dX8_undo_11 : decode cX8_undo 11 = .ok (.dup, 1) := by decide +kernel
theorem dX8_undo_12 : decode cX8_undo 12 = .ok (.getfield 86, 3) := by decide +kernel
theorem dX8_undo_15 : decode cX8_undo 15 = .ok (.iconst 1, 1) := by decide +kernel
theorem dX8_undo_16 : decode cX8_undo 16 = .ok (.isub, 1) := by decide +kernel
theorem dX8_undo_17 : decode cX8_undo 17 = .ok (.putfield 86, 3) := by decide +kernel
theorem dX8_undo_20 : decode cX8_undo 20 = .ok (.aload_n 0, 1) := by decide +kernel
theorem dX8_undo_21 : decode cX8_undo 21 = .ok (.getfield 38, 3) := by decide +kernel
theorem dX8_undo_24 : decode cX8_undo 24 = .ok (.aload_n 0, 1) := by decide +kernel
theorem dX8_undo_25 : decode cX8_undo 25 = .ok (.getfield 86, 3) := by decide +kernel
theorem dX8_undo_28 : decode cX8_undo 28 = .ok (.aload_n 0, 1) := by decide +kernel
theorem dX8_undo_29 : decode cX8_undo 29 = .ok (.getfield 26, 3) := by decide +kernel
theorem dX8_undo_32 : decode cX8_undo 32 = .ok (.invokevirtual 122, 3) := by decide +kernel
theorem dX8_undo_35 : decode cX8_undo 35 = .ok (.aload_n 0, 1) := by decide +kernel
theorem dX8_undo_36 : decode cX8_undo 36 = .ok (.getfield 86, 3) := by decide +kernel
theorem dX8_undo_39 : decode cX8_undo 39 = .ok (.ireturn, 1) := by decide +kernel
set_option maxRecDepth 20000 in
theorem ggX8_weight_X8_isWithin : GoodIn wsX8_weight wsX8_isWithin := goodIn_r _ [6] (by decide +kernel) (by decide +kernel)
set_option maxRecDepth 20000 in
theorem gX8_weight_X8_isWithin : GoodIn wsX8_weight (va_wsS RX8 59 yX8_isWithin wsX8_isWithin) := goodIn_app (goodIn_of _ (by decide +kernel)) ggX8_weight_X8_isWithin
set_option maxRecDepth 20000 in
theorem ggX8_weight_X4_of : GoodIn wsX8_weight wsX4_of := goodIn_r _ [11, 12, 23, 24, 25, 26, 27, 28] (by decide +kernel) (by decide +kernel)
set_option maxRecDepth 20000 in
theorem gX8_weight_X4_of : GoodIn wsX8_weight (wsV RX8 126 RX4 yX4_of wsX4_of) := goodIn_app (goodIn_of _ (by decide +kernel)) ggX8_weight_X4_of
theorem dX8_weight_0 : decode cX8_weight 0 = .ok (.iload_n 1, 1) := by decide +kernel
theorem dX8_weight_1 : decode cX8_weight 1 = .ok (.iconst 0, 1) := by decide +kernel
theorem dX8_weight_2 : decode cX8_weight 2 = .ok (.bipush 10, 2) := by decide +kernel
theorem dX8_weight_4 : decode cX8_weight 4 = .ok (.invokestatic 59, 3) := by decide +kernel
theorem dX8_weight_7 : decode cX8_weight 7 = .ok (.ifCond .eq 14, 3) := by decide +kernel
theorem dX8_weight_10 : decode cX8_weight 10 = .ok (.aload_n 0, 1) := by decide +kernel
theorem dX8_weight_11 : decode cX8_weight 11 = .ok (.getfield 26, 3) := by decide +kernel
theorem dX8_weight_14 : decode cX8_weight 14 = .ok (.iload_n 1, 1) := by decide +kernel
theorem dX8_weight_15 : decode cX8_weight 15 = .ok (.invokevirtual 126, 3) := by decide +kernel
theorem dX8_weight_18 : decode cX8_weight 18 = .ok (.goto 6, 3) := by decide +kernel
theorem dX8_weight_21 : decode cX8_weight 21 = .ok (.ldc2_w 130, 3) := by decide +kernel
theorem dX8_weight_24 : decode cX8_weight 24 = .ok (.lreturn, 1) := by decide +kernel
set_option maxRecDepth 20000 in
theorem ggX8_likely_X8_isWithin : GoodIn wsX8_likely wsX8_isWithin := goodIn_r _ [7] (by decide +kernel) (by decide +kernel)
set_option maxRecDepth 20000 in
theorem gX8_likely_X8_isWithin : GoodIn wsX8_likely (va_wsS RX8 59 yX8_isWithin wsX8_isWithin) := goodIn_app (goodIn_of _ (by decide +kernel)) ggX8_likely_X8_isWithin
set_option maxRecDepth 20000 in
theorem ggX8_likely_X4_together : GoodIn wsX8_likely wsX4_together := goodIn_r _ [12, 13, 39, 40, 41, 42, 43, 44] (by decide +kernel) (by decide +kernel)
set_option maxRecDepth 20000 in
theorem gX8_likely_X4_together : GoodIn wsX8_likely (wsV RX8 132 RX4 yX4_together wsX4_together) := goodIn_app (goodIn_of _ (by decide +kernel)) ggX8_likely_X4_together
set_option maxRecDepth 20000 in
theorem ggX8_likely_X4_of : GoodIn wsX8_likely wsX4_of := goodIn_r _ [17, 13, 39, 40, 41, 42, 43, 44] (by decide +kernel) (by decide +kernel)
set_option maxRecDepth 20000 in
theorem gX8_likely_X4_of : GoodIn wsX8_likely (wsV RX8 126 RX4 yX4_of wsX4_of) := goodIn_app (goodIn_of _ (by decide +kernel)) ggX8_likely_X4_of
set_option maxRecDepth 20000 in
theorem ggX8_likely_X3_part : GoodIn wsX8_likely wsX3_part := goodIn_r _ [21, 22, 23, 24, 25, 26, 27, 20, 28] (by decide +kernel) (by decide +kernel)
set_option maxRecDepth 20000 in
theorem gX8_likely_X3_part : GoodIn wsX8_likely (va_wsS RX8 138 yX3_part wsX3_part) := goodIn_app (goodIn_of _ (by decide +kernel)) ggX8_likely_X3_part
theorem dX8_likely_0 : decode cX8_likely 0 = .ok (.iload_n 1, 1) := by decide +kernel
theorem dX8_likely_1 : decode cX8_likely 1 = .ok (.iconst 0, 1) := by decide +kernel
theorem dX8_likely_2 : decode cX8_likely 2 = .ok (.bipush 10, 2) := by decide +kernel
theorem dX8_likely_4 : decode cX8_likely 4 = .ok (.invokestatic 59, 3) := by decide +kernel
theorem dX8_likely_7 : decode cX8_likely 7 = .ok (.ifCond .ne 7, 3) := by decide +kernel
theorem dX8_likely_10 : decode cX8_likely 10 = .ok (.ldc2_w 130, 3) := by decide +kernel
theorem dX8_likely_13 : decode cX8_likely 13 = .ok (.lreturn, 1) := by decide +kernel
theorem dX8_likely_14 : decode cX8_likely 14 = .ok (.aload_n 0, 1) := by decide +kernel
theorem dX8_likely_15 : decode cX8_likely 15 = .ok (.getfield 26, 3) := by decide +kernel
theorem dX8_likely_18 : decode cX8_likely 18 = .ok (.invokevirtual 132, 3) := by decide +kernel
theorem dX8_likely_21 : decode cX8_likely 21 = .ok (.lstore_n 3, 1) := by decide +kernel
theorem dX8_likely_22 : decode cX8_likely 22 = .ok (.lload_n 3, 1) := by decide +kernel
theorem dX8_likely_23 : decode cX8_likely 23 = .ok (.lconst 0, 1) := by decide +kernel
theorem dX8_likely_24 : decode cX8_likely 24 = .ok (.lcmp, 1) := by decide +kernel
theorem dX8_likely_25 : decode cX8_likely 25 = .ok (.ifCond .gt 9, 3) := by decide +kernel
theorem dX8_likely_28 : decode cX8_likely 28 = .ok (.ldc2_w 136, 3) := by decide +kernel
theorem dX8_likely_31 : decode cX8_likely 31 = .ok (.goto 16, 3) := by decide +kernel
theorem dX8_likely_34 : decode cX8_likely 34 = .ok (.aload_n 0, 1) := by decide +kernel
theorem dX8_likely_35 : decode cX8_likely 35 = .ok (.getfield 26, 3) := by decide +kernel
theorem dX8_likely_38 : decode cX8_likely 38 = .ok (.iload_n 1, 1) := by decide +kernel
theorem dX8_likely_39 : decode cX8_likely 39 = .ok (.invokevirtual 126, 3) := by decide +kernel
theorem dX8_likely_42 : decode cX8_likely 42 = .ok (.lload_n 3, 1) := by decide +kernel
theorem dX8_likely_43 : decode cX8_likely 43 = .ok (.iload_n 2, 1) := by decide +kernel
theorem dX8_likely_44 : decode cX8_likely 44 = .ok (.invokestatic 138, 3) := by decide +kernel
theorem dX8_likely_47 : decode cX8_likely 47 = .ok (.lreturn, 1) := by decide +kernel
set_option maxRecDepth 20000 in
theorem ggX8_likeliest_X4_of : GoodIn wsX8_likeliest wsX4_of := goodIn_r _ [6, 7, 18, 19, 20, 21, 22, 23] (by decide +kernel) (by decide +kernel)
set_option maxRecDepth 20000 in
theorem gX8_likeliest_X4_of : GoodIn wsX8_likeliest (wsV RX8 126 RX4 yX4_of wsX4_of) := goodIn_app (goodIn_of _ (by decide +kernel)) ggX8_likeliest_X4_of
theorem dX8_likeliest_0 : decode cX8_likeliest 0 = .ok (.bipush (-9), 2) := by decide +kernel
theorem dX8_likeliest_2 : decode cX8_likeliest 2 = .ok (.istore_n 1, 1) := by decide +kernel
theorem dX8_likeliest_3 : decode cX8_likeliest 3 = .ok (.lconst 0, 1) := by decide +kernel
theorem dX8_likeliest_4 : decode cX8_likeliest 4 = .ok (.lstore_n 2, 1) := by decide +kernel
theorem dX8_likeliest_5 : decode cX8_likeliest 5 = .ok (.iconst 0, 1) := by decide +kernel
theorem dX8_likeliest_6 : decode cX8_likeliest 6 = .ok (.istore 4, 2) := by decide +kernel
theorem dX8_likeliest_8 : decode cX8_likeliest 8 = .ok (.iload 4, 2) := by decide +kernel
theorem dX8_likeliest_10 : decode cX8_likeliest 10 = .ok (.bipush 11, 2) := by decide +kernel
theorem dX8_likeliest_12 : decode cX8_likeliest 12 = .ok (.if_icmp .ge 36, 3) := by decide +kernel
theorem dX8_likeliest_15 : decode cX8_likeliest 15 = .ok (.aload_n 0, 1) := by decide +kernel
theorem dX8_likeliest_16 : decode cX8_likeliest 16 = .ok (.getfield 26, 3) := by decide +kernel
theorem dX8_likeliest_19 : decode cX8_likeliest 19 = .ok (.iload 4, 2) := by decide +kernel
theorem dX8_likeliest_21 : decode cX8_likeliest 21 = .ok (.invokevirtual 126, 3) := by decide +kernel
theorem dX8_likeliest_24 : decode cX8_likeliest 24 = .ok (.lload_n 2, 1) := by decide +kernel
theorem dX8_likeliest_25 : decode cX8_likeliest 25 = .ok (.lcmp, 1) := by decide +kernel
theorem dX8_likeliest_26 : decode cX8_likeliest 26 = .ok (.ifCond .le 16, 3) := by decide +kernel
theorem dX8_likeliest_29 : decode cX8_likeliest 29 = .ok (.aload_n 0, 1) := by decide +kernel
theorem dX8_likeliest_30 : decode cX8_likeliest 30 = .ok (.getfield 26, 3) := by decide +kernel
theorem dX8_likeliest_33 : decode cX8_likeliest 33 = .ok (.iload 4, 2) := by decide +kernel
theorem dX8_likeliest_35 : decode cX8_likeliest 35 = .ok (.invokevirtual 126, 3) := by decide +kernel
theorem dX8_likeliest_38 : decode cX8_likeliest 38 = .ok (.lstore_n 2, 1) := by decide +kernel
theorem dX8_likeliest_39 : decode cX8_likeliest 39 = .ok (.iload 4, 2) := by decide +kernel
theorem dX8_likeliest_41 : decode cX8_likeliest 41 = .ok (.istore_n 1, 1) := by decide +kernel
theorem dX8_likeliest_42 : decode cX8_likeliest 42 = .ok (.iinc 4 1, 3) := by decide +kernel
theorem dX8_likeliest_45 : decode cX8_likeliest 45 = .ok (.goto (-37), 3) := by decide +kernel
theorem dX8_likeliest_48 : decode cX8_likeliest 48 = .ok (.iload_n 1, 1) := by decide +kernel
theorem dX8_likeliest_49 : decode cX8_likeliest 49 = .ok (.ireturn, 1) := by decide +kernel
set_option maxRecDepth 20000 in
theorem ggX8_by_X8_isWithin : GoodIn wsX8_by wsX8_isWithin := goodIn_r _ [8] (by decide +kernel) (by decide +kernel)
set_option maxRecDepth 20000 in
theorem gX8_by_X8_isWithin : GoodIn wsX8_by (va_wsS RX8 59 yX8_isWithin wsX8_isWithin) := goodIn_app (goodIn_of _ (by decide +kernel)) ggX8_by_X8_isWithin
set_option maxRecDepth 20000 in
theorem ggX8_by_X8_isRow : GoodIn wsX8_by wsX8_isRow := goodIn_r _ [11, 12, 13, 14, 7, 15, 16, 17, 18] (by decide +kernel) (by decide +kernel)
set_option maxRecDepth 20000 in
theorem gX8_by_X8_isRow : GoodIn wsX8_by (va_wsS RX8 144 yX8_isRow wsX8_isRow) := goodIn_app (goodIn_of _ (by decide +kernel)) ggX8_by_X8_isRow
set_option maxRecDepth 20000 in
theorem ggX8_by_X8_isLeft : GoodIn wsX8_by wsX8_isLeft := goodIn_r _ [22, 3, 23, 24, 25, 26, 27, 28, 29, 107, 108, 109, 110, 111, 112, 113, 114, 115, 116, 117, 118, 119, 120, 121, 122, 123, 124, 125, 126, 127, 128, 129, 130, 131] (by decide +kernel) (by decide +kernel)
set_option maxRecDepth 20000 in
theorem gX8_by_X8_isLeft : GoodIn wsX8_by (wsV RX8 148 RX8 yX8_isLeft wsX8_isLeft) := goodIn_app (goodIn_of _ (by decide +kernel)) ggX8_by_X8_isLeft
set_option maxRecDepth 20000 in
theorem ggX8_by_X8_foundBy : GoodIn wsX8_by wsX8_foundBy := goodIn_r _ [33, 34, 3, 4, 23, 12, 35, 36, 37, 27, 38, 29, 39, 40, 41, 42, 43, 44, 45, 46, 47, 48, 49, 50, 51, 52, 53, 54, 55, 16, 17, 7, 18, 13, 14, 15, 56, 57, 58, 59, 60, 61, 62, 63, 64, 65, 66, 67, 68, 69, 70, 71, 72, 73, 74, 75, 76, 77, 78, 79, 80, 81, 82, 83, 84, 85, 86, 87, 88, 89, 90, 91, 92, 93, 94, 95, 96, 107, 108, 109, 110, 111, 112, 113, 114, 115, 116, 117, 118, 119, 120, 121, 122, 123, 124, 125, 126, 127, 128, 129, 130, 131] (by decide +kernel) (by decide +kernel)
set_option maxRecDepth 20000 in
theorem gX8_by_X8_foundBy : GoodIn wsX8_by (wsV RX8 152 RX8 yX8_foundBy wsX8_foundBy) := goodIn_app (goodIn_of _ (by decide +kernel)) ggX8_by_X8_foundBy
set_option maxRecDepth 20000 in
theorem ggX8_by_X4_together : GoodIn wsX8_by wsX4_together := goodIn_r _ [28, 29, 117, 118, 119, 120, 121, 122] (by decide +kernel) (by decide +kernel)
set_option maxRecDepth 20000 in
theorem gX8_by_X4_together : GoodIn wsX8_by (wsV RX8 132 RX4 yX4_together wsX4_together) := goodIn_app (goodIn_of _ (by decide +kernel)) ggX8_by_X4_together
set_option maxRecDepth 20000 in
theorem ggX8_by_X8_power : GoodIn wsX8_by wsX8_power := goodIn_r _ [15] (by decide +kernel) (by decide +kernel)
set_option maxRecDepth 20000 in
theorem gX8_by_X8_power : GoodIn wsX8_by (va_wsS RX8 158 yX8_power wsX8_power) := goodIn_app (goodIn_of _ (by decide +kernel)) ggX8_by_X8_power
set_option maxRecDepth 20000 in
theorem ggX8_by_X3_part : GoodIn wsX8_by wsX3_part := goodIn_r _ [100, 101, 102, 68, 103, 104, 105, 99, 106] (by decide +kernel) (by decide +kernel)
set_option maxRecDepth 20000 in
theorem gX8_by_X3_part : GoodIn wsX8_by (va_wsS RX8 138 yX3_part wsX3_part) := goodIn_app (goodIn_of _ (by decide +kernel)) ggX8_by_X3_part
theorem dX8_by_0 : decode cX8_by 0 = .ok (.iload_n 1, 1) := by decide +kernel
theorem dX8_by_1 : decode cX8_by 1 = .ok (.iconst 1, 1) := by decide +kernel
theorem dX8_by_2 : decode cX8_by 2 = .ok (.iconst 4, 1) := by decide +kernel
theorem dX8_by_3 : decode cX8_by 3 = .ok (.invokestatic 59, 3) := by decide +kernel
theorem dX8_by_6 : decode cX8_by 6 = .ok (.ifCond .eq 11, 3) := by decide +kernel
theorem dX8_by_9 : decode cX8_by 9 = .ok (.iload_n 1, 1) := by decide +kernel
theorem dX8_by_10 : decode cX8_by 10 = .ok (.iload_n 2, 1) := by decide +kernel
theorem dX8_by_11 : decode cX8_by 11 = .ok (.invokestatic 144, 3) := by decide +kernel
theorem dX8_by_14 : decode cX8_by 14 = .ok (.ifCond .ne 7, 3) := by decide +kernel
theorem dX8_by_17 : decode cX8_by 17 = .ok (.ldc2_w 130, 3) := by decide +kernel
theorem dX8_by_20 : decode cX8_by 20 = .ok (.lreturn, 1) := by decide +kernel
theorem dX8_by_21 : decode cX8_by 21 = .ok (.aload_n 0, 1) := by decide +kernel
theorem dX8_by_22 : decode cX8_by 22 = .ok (.iload_n 1, 1) := by decide +kernel
theorem dX8_by_23 : decode cX8_by 23 = .ok (.invokevirtual 148, 3) := by decide +kernel
theorem dX8_by_26 : decode cX8_by 26 = .ok (.ifCond .ne 7, 3) := by decide +kernel
theorem dX8_by_29 : decode cX8_by 29 = .ok (.ldc2_w 136, 3) := by decide +kernel
theorem dX8_by_32 : decode cX8_by 32 = .ok (.lreturn, 1) := by decide +kernel
theorem dX8_by_33 : decode cX8_by 33 = .ok (.aload_n 0, 1) := by decide +kernel
theorem dX8_by_34 : decode cX8_by 34 = .ok (.iload_n 1, 1) := by decide +kernel
theorem dX8_by_35 : decode cX8_by 35 = .ok (.iload_n 2, 1) := by decide +kernel
theorem dX8_by_36 : decode cX8_by 36 = .ok (.invokevirtual 152, 3) := by decide +kernel
theorem dX8_by_39 : decode cX8_by 39 = .ok (.aload_n 0, 1) := by decide +kernel
theorem dX8_by_40 : decode cX8_by 40 = .ok (.getfield 26, 3) := by decide +kernel
theorem dX8_by_43 : decode cX8_by 43 = .ok (.invokevirtual 132, 3) := by decide +kernel
theorem dX8_by_46 : decode cX8_by 46 = .ok (.ldc2_w 156, 3) := by decide +kernel
theorem dX8_by_49 : decode cX8_by 49 = .ok (.iload_n 1, 1) := by decide +kernel
theorem dX8_by_50 : decode cX8_by 50 = .ok (.invokestatic 158, 3) := by decide +kernel
theorem dX8_by_53 : decode cX8_by 53 = .ok (.lmul, 1) := by decide +kernel
theorem dX8_by_54 : decode cX8_by 54 = .ok (.iload_n 3, 1) := by decide +kernel
theorem dX8_by_55 : decode cX8_by 55 = .ok (.invokestatic 138, 3) := by decide +kernel
theorem dX8_by_58 : decode cX8_by 58 = .ok (.lreturn, 1) := by decide +kernel
set_option maxRecDepth 20000 in
theorem ggX8_best_X8_isWithin : GoodIn wsX8_best wsX8_isWithin := goodIn_r _ [10] (by decide +kernel) (by decide +kernel)
set_option maxRecDepth 20000 in
theorem gX8_best_X8_isWithin : GoodIn wsX8_best (va_wsS RX8 59 yX8_isWithin wsX8_isWithin) := goodIn_app (goodIn_of _ (by decide +kernel)) ggX8_best_X8_isWithin
set_option maxRecDepth 20000 in
theorem ggX8_best_X8_isLeft : GoodIn wsX8_best wsX8_isLeft := goodIn_r _ [14, 5, 4, 15, 16, 17, 18, 19, 20, 139, 140, 141, 142, 143, 144, 145, 146, 147, 148, 151, 152, 153, 154, 155, 156, 157, 158, 159, 160, 161, 162, 163, 164, 165] (by decide +kernel) (by decide +kernel)
set_option maxRecDepth 20000 in
theorem gX8_best_X8_isLeft : GoodIn wsX8_best (wsV RX8 148 RX8 yX8_isLeft wsX8_isLeft) := goodIn_app (goodIn_of _ (by decide +kernel)) ggX8_best_X8_isLeft
set_option maxRecDepth 20000 in
theorem ggX8_best_X0_tryAll : GoodIn wsX8_best wsX0_tryAll := goodIn_r _ [25, 26, 27, 28, 29, 30, 31, 32, 33, 34, 35, 36, 37, 38, 39, 40, 41, 42, 43, 44, 45, 46, 47, 48, 49, 50, 18, 51, 20, 52, 53, 54, 55, 56, 57, 58, 59, 60, 61, 62, 63, 64, 65, 66, 67, 68, 69, 70, 71, 24, 72, 73, 74, 75, 76, 77, 78, 79, 80, 81, 82, 83, 84, 9, 85, 86, 87, 88, 89, 90, 91, 92, 93, 94, 95, 96, 97, 98, 99, 100, 101, 102, 103, 104, 105, 106, 107, 108, 109, 110, 111, 112, 113, 114, 115, 116, 117, 118, 119, 120, 121, 166, 167, 168, 169, 170, 149, 150, 171, 151, 152, 153, 154, 155, 156, 157, 158, 159, 160, 161, 162, 163, 164, 165] (by decide +kernel) (by decide +kernel)
set_option maxRecDepth 20000 in
theorem gX8_best_X0_tryAll : GoodIn wsX8_best (wsV RX8 162 RX0 yX0_tryAll wsX0_tryAll) := goodIn_app (goodIn_of _ (by decide +kernel)) ggX8_best_X0_tryAll
set_option maxRecDepth 20000 in
theorem ggX8_best_X0_likelier : GoodIn wsX8_best wsX0_likelier := goodIn_r _ [125, 28, 27, 166, 167, 168, 169, 170, 149, 150] (by decide +kernel) (by decide +kernel)
set_option maxRecDepth 20000 in
theorem gX8_best_X0_likelier : GoodIn wsX8_best (wsV RX8 166 RX0 yX0_likelier wsX0_likelier) := goodIn_app (goodIn_of _ (by decide +kernel)) ggX8_best_X0_likelier
set_option maxRecDepth 20000 in
theorem ggX8_best_X4_together : GoodIn wsX8_best wsX4_together := goodIn_r _ [19, 20, 151, 152, 153, 154, 155, 156] (by decide +kernel) (by decide +kernel)
set_option maxRecDepth 20000 in
theorem gX8_best_X4_together : GoodIn wsX8_best (wsV RX8 132 RX4 yX4_together wsX4_together) := goodIn_app (goodIn_of _ (by decide +kernel)) ggX8_best_X4_together
set_option maxRecDepth 20000 in
theorem ggX8_best_X8_power : GoodIn wsX8_best wsX8_power := goodIn_r _ [128] (by decide +kernel) (by decide +kernel)
set_option maxRecDepth 20000 in
theorem gX8_best_X8_power : GoodIn wsX8_best (va_wsS RX8 158 yX8_power wsX8_power) := goodIn_app (goodIn_of _ (by decide +kernel)) ggX8_best_X8_power
set_option maxRecDepth 20000 in
theorem ggX8_best_X3_part : GoodIn wsX8_best wsX3_part := goodIn_r _ [132, 133, 134, 88, 135, 136, 137, 131, 138] (by decide +kernel) (by decide +kernel)
set_option maxRecDepth 20000 in
theorem gX8_best_X3_part : GoodIn wsX8_best (va_wsS RX8 138 yX3_part wsX3_part) := goodIn_app (goodIn_of _ (by decide +kernel)) ggX8_best_X3_part
theorem dX8_best_0 : decode cX8_best 0 = .ok (.iload_n 1, 1) := by decide +kernel
theorem dX8_best_1 : decode cX8_best 1 = .ok (.iconst 1, 1) := by decide +kernel
theorem dX8_best_2 : decode cX8_best 2 = .ok (.iconst 4, 1) := by decide +kernel
theorem dX8_best_3 : decode cX8_best 3 = .ok (.invokestatic 59, 3) := by decide +kernel
theorem dX8_best_6 : decode cX8_best 6 = .ok (.ifCond .ne 7, 3) := by decide +kernel
theorem dX8_best_9 : decode cX8_best 9 = .ok (.ldc2_w 130, 3) := by decide +kernel
theorem dX8_best_12 : decode cX8_best 12 = .ok (.lreturn, 1) := by decide +kernel
theorem dX8_best_13 : decode cX8_best 13 = .ok (.aload_n 0, 1) := by decide +kernel
theorem dX8_best_14 : decode cX8_best 14 = .ok (.iload_n 1, 1) := by decide +kernel
theorem dX8_best_15 : decode cX8_best 15 = .ok (.invokevirtual 148, 3) := by decide +kernel
theorem dX8_best_18 : decode cX8_best 18 = .ok (.ifCond .ne 7, 3) := by decide +kernel
theorem dX8_best_21 : decode cX8_best 21 = .ok (.ldc2_w 136, 3) := by decide +kernel
theorem dX8_best_24 : decode cX8_best 24 = .ok (.lreturn, 1) := by decide +kernel
theorem dX8_best_25 : decode cX8_best 25 = .ok (.aload_n 0, 1) := by decide +kernel
theorem dX8_best_26 : decode cX8_best 26 = .ok (.getfield 48, 3) := by decide +kernel
theorem dX8_best_29 : decode cX8_best 29 = .ok (.aload_n 0, 1) := by decide +kernel
theorem dX8_best_30 : decode cX8_best 30 = .ok (.getfield 19, 3) := by decide +kernel
theorem dX8_best_33 : decode cX8_best 33 = .ok (.aload_n 0, 1) := by decide +kernel
theorem dX8_best_34 : decode cX8_best 34 = .ok (.getfield 26, 3) := by decide +kernel
theorem dX8_best_37 : decode cX8_best 37 = .ok (.iload_n 1, 1) := by decide +kernel
theorem dX8_best_38 : decode cX8_best 38 = .ok (.invokevirtual 162, 3) := by decide +kernel
theorem dX8_best_41 : decode cX8_best 41 = .ok (.aload_n 0, 1) := by decide +kernel
theorem dX8_best_42 : decode cX8_best 42 = .ok (.getfield 48, 3) := by decide +kernel
theorem dX8_best_45 : decode cX8_best 45 = .ok (.invokevirtual 166, 3) := by decide +kernel
theorem dX8_best_48 : decode cX8_best 48 = .ok (.getfield 170, 3) := by decide +kernel
theorem dX8_best_51 : decode cX8_best 51 = .ok (.aload_n 0, 1) := by decide +kernel
theorem dX8_best_52 : decode cX8_best 52 = .ok (.getfield 26, 3) := by decide +kernel
theorem dX8_best_55 : decode cX8_best 55 = .ok (.invokevirtual 132, 3) := by decide +kernel
theorem dX8_best_58 : decode cX8_best 58 = .ok (.ldc2_w 156, 3) := by decide +kernel
theorem dX8_best_61 : decode cX8_best 61 = .ok (.iload_n 1, 1) := by decide +kernel
theorem dX8_best_62 : decode cX8_best 62 = .ok (.invokestatic 158, 3) := by decide +kernel
theorem dX8_best_65 : decode cX8_best 65 = .ok (.lmul, 1) := by decide +kernel
theorem dX8_best_66 : decode cX8_best 66 = .ok (.iload_n 2, 1) := by decide +kernel
theorem dX8_best_67 : decode cX8_best 67 = .ok (.invokestatic 138, 3) := by decide +kernel
theorem dX8_best_70 : decode cX8_best 70 = .ok (.lreturn, 1) := by decide +kernel
set_option maxRecDepth 20000 in
theorem ggX8_bestRow_X8_isWithin : GoodIn wsX8_bestRow wsX8_isWithin := goodIn_r _ [7] (by decide +kernel) (by decide +kernel)
set_option maxRecDepth 20000 in
theorem gX8_bestRow_X8_isWithin : GoodIn wsX8_bestRow (va_wsS RX8 59 yX8_isWithin wsX8_isWithin) := goodIn_app (goodIn_of _ (by decide +kernel)) ggX8_bestRow_X8_isWithin
set_option maxRecDepth 20000 in
theorem ggX8_bestRow_X8_isLeft : GoodIn wsX8_bestRow wsX8_isLeft := goodIn_r _ [11, 3, 2, 12, 13, 14, 15, 16, 17, 123, 124, 125, 126, 127, 128, 129, 130, 131, 132, 135, 136, 137, 138, 139, 140, 141, 142, 143, 144, 145, 146, 147, 148, 149] (by decide +kernel) (by decide +kernel)
set_option maxRecDepth 20000 in
theorem gX8_bestRow_X8_isLeft : GoodIn wsX8_bestRow (wsV RX8 148 RX8 yX8_isLeft wsX8_isLeft) := goodIn_app (goodIn_of _ (by decide +kernel)) ggX8_bestRow_X8_isLeft
set_option maxRecDepth 20000 in
theorem ggX8_bestRow_X0_tryAll : GoodIn wsX8_bestRow wsX0_tryAll := goodIn_r _ [22, 23, 24, 25, 26, 27, 28, 29, 30, 31, 32, 33, 34, 35, 36, 37, 38, 39, 40, 41, 42, 43, 44, 45, 46, 47, 15, 48, 17, 49, 50, 51, 52, 53, 54, 55, 56, 57, 58, 59, 60, 61, 62, 63, 64, 65, 66, 67, 68, 21, 69, 70, 71, 72, 73, 74, 75, 76, 77, 78, 79, 80, 81, 6, 82, 83, 84, 85, 86, 87, 88, 89, 90, 91, 92, 93, 94, 95, 96, 97, 98, 99, 100, 101, 102, 103, 104, 105, 106, 107, 108, 109, 110, 111, 112, 113, 114, 115, 116, 117, 118, 150, 151, 152, 153, 154, 133, 134, 155, 135, 136, 137, 138, 139, 140, 141, 142, 143, 144, 145, 146, 147, 148, 149] (by decide +kernel) (by decide +kernel)
set_option maxRecDepth 20000 in
theorem gX8_bestRow_X0_tryAll : GoodIn wsX8_bestRow (wsV RX8 162 RX0 yX0_tryAll wsX0_tryAll) := goodIn_app (goodIn_of _ (by decide +kernel)) ggX8_bestRow_X0_tryAll
set_option maxRecDepth 20000 in
theorem ggX8_bestRow_X0_likelier : GoodIn wsX8_bestRow wsX0_likelier := goodIn_r _ [122, 25, 24, 150, 151, 152, 153, 154, 133, 134] (by decide +kernel) (by decide +kernel)
set_option maxRecDepth 20000 in
theorem gX8_bestRow_X0_likelier : GoodIn wsX8_bestRow (wsV RX8 166 RX0 yX0_likelier wsX0_likelier) := goodIn_app (goodIn_of _ (by decide +kernel)) ggX8_bestRow_X0_likelier
theorem dX8_bestRow_0 : decode cX8_bestRow 0 = .ok (.iload_n 1, 1) := by decide +kernel
theorem dX8_bestRow_1 : decode cX8_bestRow 1 = .ok (.iconst 1, 1) := by decide +kernel
theorem dX8_bestRow_2 : decode cX8_bestRow 2 = .ok (.iconst 4, 1) := by decide +kernel
theorem dX8_bestRow_3 : decode cX8_bestRow 3 = .ok (.invokestatic 59, 3) := by decide +kernel
theorem dX8_bestRow_6 : decode cX8_bestRow 6 = .ok (.ifCond .ne 6, 3) := by decide +kernel
theorem dX8_bestRow_9 : decode cX8_bestRow 9 = .ok (.bipush (-2), 2) := by decide +kernel
theorem dX8_bestRow_11 : decode cX8_bestRow 11 = .ok (.ireturn, 1) := by decide +kernel
theorem dX8_bestRow_12 : decode cX8_bestRow 12 = .ok (.aload_n 0, 1) := by decide +kernel
theorem dX8_bestRow_13 : decode cX8_bestRow 13 = .ok (.iload_n 1, 1) := by decide +kernel
theorem dX8_bestRow_14 : decode cX8_bestRow 14 = .ok (.invokevirtual 148, 3) := by decide +kernel
theorem dX8_bestRow_17 : decode cX8_bestRow 17 = .ok (.ifCond .ne 6, 3) := by decide +kernel
theorem dX8_bestRow_20 : decode cX8_bestRow 20 = .ok (.bipush (-3), 2) := by decide +kernel
theorem dX8_bestRow_22 : decode cX8_bestRow 22 = .ok (.ireturn, 1) := by decide +kernel
theorem dX8_bestRow_23 : decode cX8_bestRow 23 = .ok (.aload_n 0, 1) := by decide +kernel
theorem dX8_bestRow_24 : decode cX8_bestRow 24 = .ok (.getfield 48, 3) := by decide +kernel
theorem dX8_bestRow_27 : decode cX8_bestRow 27 = .ok (.aload_n 0, 1) := by decide +kernel
theorem dX8_bestRow_28 : decode cX8_bestRow 28 = .ok (.getfield 19, 3) := by decide +kernel
theorem dX8_bestRow_31 : decode cX8_bestRow 31 = .ok (.aload_n 0, 1) := by decide +kernel
theorem dX8_bestRow_32 : decode cX8_bestRow 32 = .ok (.getfield 26, 3) := by decide +kernel
theorem dX8_bestRow_35 : decode cX8_bestRow 35 = .ok (.iload_n 1, 1) := by decide +kernel
theorem dX8_bestRow_36 : decode cX8_bestRow 36 = .ok (.invokevirtual 162, 3) := by decide +kernel
theorem dX8_bestRow_39 : decode cX8_bestRow 39 = .ok (.aload_n 0, 1) := by decide +kernel
theorem dX8_bestRow_40 : decode cX8_bestRow 40 = .ok (.getfield 48, 3) := by decide +kernel
theorem dX8_bestRow_43 : decode cX8_bestRow 43 = .ok (.invokevirtual 166, 3) := by decide +kernel
theorem dX8_bestRow_46 : decode cX8_bestRow 46 = .ok (.getfield 176, 3) := by decide +kernel
theorem dX8_bestRow_49 : decode cX8_bestRow 49 = .ok (.ireturn, 1) := by decide +kernel
set_option maxRecDepth 20000 in
theorem ggX8_soon_X8_isWithin : GoodIn wsX8_soon wsX8_isWithin := goodIn_r _ [9] (by decide +kernel) (by decide +kernel)
set_option maxRecDepth 20000 in
theorem gX8_soon_X8_isWithin : GoodIn wsX8_soon (va_wsS RX8 59 yX8_isWithin wsX8_isWithin) := goodIn_app (goodIn_of _ (by decide +kernel)) ggX8_soon_X8_isWithin
set_option maxRecDepth 20000 in
theorem ggX8_soon_X4_together : GoodIn wsX8_soon wsX4_together := goodIn_r _ [14, 15, 140, 141, 142, 143, 144, 145] (by decide +kernel) (by decide +kernel)
set_option maxRecDepth 20000 in
theorem gX8_soon_X4_together : GoodIn wsX8_soon (wsV RX8 132 RX4 yX4_together wsX4_together) := goodIn_app (goodIn_of _ (by decide +kernel)) ggX8_soon_X4_together
set_option maxRecDepth 20000 in
theorem ggX8_soon_X8_isLeft : GoodIn wsX8_soon wsX8_isLeft := goodIn_r _ [19, 1, 3, 10, 11, 12, 13, 14, 15, 128, 129, 130, 131, 132, 133, 134, 135, 136, 137, 140, 141, 142, 143, 144, 145, 146, 147, 148, 149, 150, 151, 152, 153, 154] (by decide +kernel) (by decide +kernel)
set_option maxRecDepth 20000 in
theorem gX8_soon_X8_isLeft : GoodIn wsX8_soon (wsV RX8 148 RX8 yX8_isLeft wsX8_isLeft) := goodIn_app (goodIn_of _ (by decide +kernel)) ggX8_soon_X8_isLeft
set_option maxRecDepth 20000 in
theorem ggX8_soon_X0_tryAll : GoodIn wsX8_soon wsX0_tryAll := goodIn_r _ [24, 25, 26, 27, 28, 29, 30, 31, 32, 33, 34, 35, 36, 37, 38, 39, 40, 41, 42, 43, 44, 45, 46, 47, 48, 49, 13, 50, 15, 51, 52, 53, 54, 55, 56, 57, 58, 59, 60, 61, 62, 63, 64, 65, 66, 67, 68, 69, 70, 23, 71, 72, 73, 74, 75, 76, 77, 78, 79, 80, 81, 82, 83, 8, 84, 85, 86, 87, 88, 89, 90, 91, 92, 93, 94, 95, 96, 97, 98, 99, 100, 101, 102, 103, 104, 105, 106, 107, 108, 109, 110, 111, 112, 113, 114, 115, 116, 117, 118, 119, 120, 155, 156, 157, 158, 159, 138, 139, 160, 140, 141, 142, 143, 144, 145, 146, 147, 148, 149, 150, 151, 152, 153, 154] (by decide +kernel) (by decide +kernel)
set_option maxRecDepth 20000 in
theorem gX8_soon_X0_tryAll : GoodIn wsX8_soon (wsV RX8 162 RX0 yX0_tryAll wsX0_tryAll) := goodIn_app (goodIn_of _ (by decide +kernel)) ggX8_soon_X0_tryAll
set_option maxRecDepth 20000 in
theorem ggX8_soon_X0_likelier : GoodIn wsX8_soon wsX0_likelier := goodIn_r _ [124, 27, 26, 155, 156, 157, 158, 159, 138, 139] (by decide +kernel) (by decide +kernel)
set_option maxRecDepth 20000 in
theorem gX8_soon_X0_likelier : GoodIn wsX8_soon (wsV RX8 166 RX0 yX0_likelier wsX0_likelier) := goodIn_app (goodIn_of _ (by decide +kernel)) ggX8_soon_X0_likelier
set_option maxRecDepth 20000 in
theorem ggX8_soon_X8_power : GoodIn wsX8_soon wsX8_power := goodIn_r _ [127] (by decide +kernel) (by decide +kernel)
set_option maxRecDepth 20000 in
theorem gX8_soon_X8_power : GoodIn wsX8_soon (va_wsS RX8 158 yX8_power wsX8_power) := goodIn_app (goodIn_of _ (by decide +kernel)) ggX8_soon_X8_power
theorem dX8_soon_0 : decode cX8_soon 0 = .ok (.iload_n 1, 1) := by decide +kernel
theorem dX8_soon_1 : decode cX8_soon 1 = .ok (.iconst 1, 1) := by decide +kernel
theorem dX8_soon_2 : decode cX8_soon 2 = .ok (.bipush 10, 2) := by decide +kernel
theorem dX8_soon_4 : decode cX8_soon 4 = .ok (.invokestatic 59, 3) := by decide +kernel
theorem dX8_soon_7 : decode cX8_soon 7 = .ok (.ifCond .ne 6, 3) := by decide +kernel
theorem dX8_soon_10 : decode cX8_soon 10 = .ok (.bipush (-2), 2) := by decide +kernel
theorem dX8_soon_12 : decode cX8_soon 12 = .ok (.ireturn, 1) := by decide +kernel
theorem dX8_soon_13 : decode cX8_soon 13 = .ok (.aload_n 0, 1) := by decide +kernel
theorem dX8_soon_14 : decode cX8_soon 14 = .ok (.getfield 26, 3) := by decide +kernel
theorem dX8_soon_17 : decode cX8_soon 17 = .ok (.invokevirtual 132, 3) := by decide +kernel
theorem dX8_soon_20 : decode cX8_soon 20 = .ok (.lconst 0, 1) := by decide +kernel
theorem dX8_soon_21 : decode cX8_soon 21 = .ok (.lcmp, 1) := by decide +kernel
theorem dX8_soon_22 : decode cX8_soon 22 = .ok (.ifCond .gt 6, 3) := by decide +kernel
theorem dX8_soon_25 : decode cX8_soon 25 = .ok (.bipush (-3), 2) := by decide +kernel
theorem dX8_soon_27 : decode cX8_soon 27 = .ok (.ireturn, 1) := by decide +kernel
theorem dX8_soon_28 : decode cX8_soon 28 = .ok (.iconst 1, 1) := by decide +kernel
theorem dX8_soon_29 : decode cX8_soon 29 = .ok (.istore_n 2, 1) := by decide +kernel
theorem dX8_soon_30 : decode cX8_soon 30 = .ok (.iload_n 2, 1) := by decide +kernel
theorem dX8_soon_31 : decode cX8_soon 31 = .ok (.iconst 4, 1) := by decide +kernel
theorem dX8_soon_32 : decode cX8_soon 32 = .ok (.if_icmp .gt 71, 3) := by decide +kernel
theorem dX8_soon_35 : decode cX8_soon 35 = .ok (.aload_n 0, 1) := by decide +kernel
theorem dX8_soon_36 : decode cX8_soon 36 = .ok (.iload_n 2, 1) := by decide +kernel
theorem dX8_soon_37 : decode cX8_soon 37 = .ok (.invokevirtual 148, 3) := by decide +kernel
theorem dX8_soon_40 : decode cX8_soon 40 = .ok (.ifCond .eq 63, 3) := by decide +kernel
theorem dX8_soon_43 : decode cX8_soon 43 = .ok (.aload_n 0, 1) := by decide +kernel
theorem dX8_soon_44 : decode cX8_soon 44 = .ok (.getfield 48, 3) := by decide +kernel
theorem dX8_soon_47 : decode cX8_soon 47 = .ok (.aload_n 0, 1) := by decide +kernel
theorem dX8_soon_48 : decode cX8_soon 48 = .ok (.getfield 19, 3) := by decide +kernel
theorem dX8_soon_51 : decode cX8_soon 51 = .ok (.aload_n 0, 1) := by decide +kernel
theorem dX8_soon_52 : decode cX8_soon 52 = .ok (.getfield 26, 3) := by decide +kernel
theorem dX8_soon_55 : decode cX8_soon 55 = .ok (.iload_n 2, 1) := by decide +kernel
theorem dX8_soon_56 : decode cX8_soon 56 = .ok (.invokevirtual 162, 3) := by decide +kernel
theorem dX8_soon_59 : decode cX8_soon 59 = .ok (.aload_n 0, 1) := by decide +kernel
theorem dX8_soon_60 : decode cX8_soon 60 = .ok (.getfield 48, 3) := by decide +kernel
theorem dX8_soon_63 : decode cX8_soon 63 = .ok (.invokevirtual 166, 3) := by decide +kernel
theorem dX8_soon_66 : decode cX8_soon 66 = .ok (.getfield 170, 3) := by decide +kernel
theorem dX8_soon_69 : decode cX8_soon 69 = .ok (.ldc2_w 179, 3) := by decide +kernel
theorem dX8_soon_72 : decode cX8_soon 72 = .ok (.lmul, 1) := by decide +kernel
theorem dX8_soon_73 : decode cX8_soon 73 = .ok (.aload_n 0, 1) := by decide +kernel
theorem dX8_soon_74 : decode cX8_soon 74 = .ok (.getfield 26, 3) := by decide +kernel
theorem dX8_soon_77 : decode cX8_soon 77 = .ok (.invokevirtual 132, 3) := by decide +kernel
theorem dX8_soon_80 : decode cX8_soon 80 = .ok (.ldc2_w 156, 3) := by decide +kernel
theorem dX8_soon_83 : decode cX8_soon 83 = .ok (.iload_n 2, 1) := by decide +kernel
theorem dX8_soon_84 : decode cX8_soon 84 = .ok (.invokestatic 158, 3) := by decide +kernel
theorem dX8_soon_87 : decode cX8_soon 87 = .ok (.lmul, 1) := by decide +kernel
theorem dX8_soon_88 : decode cX8_soon 88 = .ok (.iload_n 1, 1) := by decide +kernel
theorem dX8_soon_89 : decode cX8_soon 89 = .ok (.i2l, 1) := by decide +kernel
theorem dX8_soon_90 : decode cX8_soon 90 = .ok (.lmul, 1) := by decide +kernel
theorem dX8_soon_91 : decode cX8_soon 91 = .ok (.lcmp, 1) := by decide +kernel
theorem dX8_soon_92 : decode cX8_soon 92 = .ok (.ifCond .lt 5, 3) := by decide +kernel
theorem dX8_soon_95 : decode cX8_soon 95 = .ok (.iload_n 2, 1) := by decide +kernel
theorem dX8_soon_96 : decode cX8_soon 96 = .ok (.ireturn, 1) := by decide +kernel
theorem dX8_soon_97 : decode cX8_soon 97 = .ok (.iinc 2 1, 3) := by decide +kernel
theorem dX8_soon_100 : decode cX8_soon 100 = .ok (.goto (-70), 3) := by decide +kernel
theorem dX8_soon_103 : decode cX8_soon 103 = .ok (.bipush (-9), 2) := by decide +kernel
theorem dX8_soon_105 : decode cX8_soon 105 = .ok (.ireturn, 1) := by decide +kernel
set_option maxRecDepth 20000 in
theorem ggX8_first_X8_isWithin : GoodIn wsX8_first wsX8_isWithin := goodIn_r _ [10] (by decide +kernel) (by decide +kernel)
set_option maxRecDepth 20000 in
theorem gX8_first_X8_isWithin : GoodIn wsX8_first (va_wsS RX8 59 yX8_isWithin wsX8_isWithin) := goodIn_app (goodIn_of _ (by decide +kernel)) ggX8_first_X8_isWithin
set_option maxRecDepth 20000 in
theorem ggX8_first_X8_isLeft : GoodIn wsX8_first wsX8_isLeft := goodIn_r _ [14, 5, 4, 15, 16, 17, 18, 19, 20, 135, 136, 137, 138, 139, 140, 141, 142, 143, 144, 152, 153, 154, 155, 156, 157, 158, 159, 160, 161, 162, 163, 164, 165, 166] (by decide +kernel) (by decide +kernel)
set_option maxRecDepth 20000 in
theorem gX8_first_X8_isLeft : GoodIn wsX8_first (wsV RX8 148 RX8 yX8_isLeft wsX8_isLeft) := goodIn_app (goodIn_of _ (by decide +kernel)) ggX8_first_X8_isLeft
set_option maxRecDepth 20000 in
theorem ggX8_first_X0_tryAll : GoodIn wsX8_first wsX0_tryAll := goodIn_r _ [25, 26, 27, 28, 29, 30, 31, 32, 33, 34, 35, 36, 37, 38, 39, 40, 41, 42, 43, 44, 45, 46, 47, 48, 49, 50, 18, 51, 20, 52, 53, 54, 55, 56, 57, 58, 59, 60, 61, 62, 63, 64, 65, 66, 67, 68, 69, 70, 71, 24, 72, 73, 74, 75, 76, 77, 78, 79, 80, 81, 82, 83, 84, 9, 85, 86, 87, 88, 89, 90, 91, 92, 93, 94, 95, 96, 97, 98, 99, 100, 101, 102, 103, 104, 105, 106, 107, 108, 109, 110, 111, 112, 113, 114, 115, 116, 117, 118, 119, 120, 121, 145, 146, 147, 148, 149, 150, 151, 167, 152, 153, 154, 155, 156, 157, 158, 159, 160, 161, 162, 163, 164, 165, 166] (by decide +kernel) (by decide +kernel)
set_option maxRecDepth 20000 in
theorem gX8_first_X0_tryAll : GoodIn wsX8_first (wsV RX8 162 RX0 yX0_tryAll wsX0_tryAll) := goodIn_app (goodIn_of _ (by decide +kernel)) ggX8_first_X0_tryAll
set_option maxRecDepth 20000 in
theorem ggX8_first_X4_together : GoodIn wsX8_first wsX4_together := goodIn_r _ [19, 20, 152, 153, 154, 155, 156, 157] (by decide +kernel) (by decide +kernel)
set_option maxRecDepth 20000 in
theorem gX8_first_X4_together : GoodIn wsX8_first (wsV RX8 132 RX4 yX4_together wsX4_together) := goodIn_app (goodIn_of _ (by decide +kernel)) ggX8_first_X4_together
set_option maxRecDepth 20000 in
theorem ggX8_first_X8_power : GoodIn wsX8_first wsX8_power := goodIn_r _ [124] (by decide +kernel) (by decide +kernel)
set_option maxRecDepth 20000 in
theorem gX8_first_X8_power : GoodIn wsX8_first (va_wsS RX8 158 yX8_power wsX8_power) := goodIn_app (goodIn_of _ (by decide +kernel)) ggX8_first_X8_power
set_option maxRecDepth 20000 in
theorem ggX8_first_X3_part : GoodIn wsX8_first wsX3_part := goodIn_r _ [128, 129, 130, 88, 131, 132, 133, 127, 134] (by decide +kernel) (by decide +kernel)
set_option maxRecDepth 20000 in
theorem gX8_first_X3_part : GoodIn wsX8_first (va_wsS RX8 138 yX3_part wsX3_part) := goodIn_app (goodIn_of _ (by decide +kernel)) ggX8_first_X3_part
theorem dX8_first_0 : decode cX8_first 0 = .ok (.iload_n 1, 1) := by decide +kernel
theorem dX8_first_1 : decode cX8_first 1 = .ok (.iconst 1, 1) := by decide +kernel
theorem dX8_first_2 : decode cX8_first 2 = .ok (.iconst 4, 1) := by decide +kernel
theorem dX8_first_3 : decode cX8_first 3 = .ok (.invokestatic 59, 3) := by decide +kernel
theorem dX8_first_6 : decode cX8_first 6 = .ok (.ifCond .ne 7, 3) := by decide +kernel
theorem dX8_first_9 : decode cX8_first 9 = .ok (.ldc2_w 130, 3) := by decide +kernel
theorem dX8_first_12 : decode cX8_first 12 = .ok (.lreturn, 1) := by decide +kernel
theorem dX8_first_13 : decode cX8_first 13 = .ok (.aload_n 0, 1) := by decide +kernel
theorem dX8_first_14 : decode cX8_first 14 = .ok (.iload_n 1, 1) := by decide +kernel
theorem dX8_first_15 : decode cX8_first 15 = .ok (.invokevirtual 148, 3) := by decide +kernel
theorem dX8_first_18 : decode cX8_first 18 = .ok (.ifCond .ne 7, 3) := by decide +kernel
theorem dX8_first_21 : decode cX8_first 21 = .ok (.ldc2_w 136, 3) := by decide +kernel
theorem dX8_first_24 : decode cX8_first 24 = .ok (.lreturn, 1) := by decide +kernel
theorem dX8_first_25 : decode cX8_first 25 = .ok (.aload_n 0, 1) := by decide +kernel
theorem dX8_first_26 : decode cX8_first 26 = .ok (.getfield 48, 3) := by decide +kernel
theorem dX8_first_29 : decode cX8_first 29 = .ok (.aload_n 0, 1) := by decide +kernel
theorem dX8_first_30 : decode cX8_first 30 = .ok (.getfield 19, 3) := by decide +kernel
theorem dX8_first_33 : decode cX8_first 33 = .ok (.aload_n 0, 1) := by decide +kernel
theorem dX8_first_34 : decode cX8_first 34 = .ok (.getfield 26, 3) := by decide +kernel
theorem dX8_first_37 : decode cX8_first 37 = .ok (.iload_n 1, 1) := by decide +kernel
theorem dX8_first_38 : decode cX8_first 38 = .ok (.invokevirtual 162, 3) := by decide +kernel
theorem dX8_first_41 : decode cX8_first 41 = .ok (.aload_n 0, 1) := by decide +kernel
theorem dX8_first_42 : decode cX8_first 42 = .ok (.getfield 48, 3) := by decide +kernel
theorem dX8_first_45 : decode cX8_first 45 = .ok (.getfield 181, 3) := by decide +kernel
theorem dX8_first_48 : decode cX8_first 48 = .ok (.getfield 170, 3) := by decide +kernel
theorem dX8_first_51 : decode cX8_first 51 = .ok (.aload_n 0, 1) := by decide +kernel
theorem dX8_first_52 : decode cX8_first 52 = .ok (.getfield 48, 3) := by decide +kernel
theorem dX8_first_55 : decode cX8_first 55 = .ok (.getfield 185, 3) := by decide +kernel
theorem dX8_first_58 : decode cX8_first 58 = .ok (.getfield 170, 3) := by decide +kernel
theorem dX8_first_61 : decode cX8_first 61 = .ok (.lsub, 1) := by decide +kernel
theorem dX8_first_62 : decode cX8_first 62 = .ok (.aload_n 0, 1) := by decide +kernel
theorem dX8_first_63 : decode cX8_first 63 = .ok (.getfield 26, 3) := by decide +kernel
theorem dX8_first_66 : decode cX8_first 66 = .ok (.invokevirtual 132, 3) := by decide +kernel
theorem dX8_first_69 : decode cX8_first 69 = .ok (.ldc2_w 156, 3) := by decide +kernel
theorem dX8_first_72 : decode cX8_first 72 = .ok (.iload_n 1, 1) := by decide +kernel
theorem dX8_first_73 : decode cX8_first 73 = .ok (.invokestatic 158, 3) := by decide +kernel
theorem dX8_first_76 : decode cX8_first 76 = .ok (.lmul, 1) := by decide +kernel
theorem dX8_first_77 : decode cX8_first 77 = .ok (.iload_n 2, 1) := by decide +kernel
theorem dX8_first_78 : decode cX8_first 78 = .ok (.invokestatic 138, 3) := by decide +kernel
theorem dX8_first_81 : decode cX8_first 81 = .ok (.lreturn, 1) := by decide +kernel
set_option maxRecDepth 20000 in
theorem ggX8_withSecond_X8_isWithin : GoodIn wsX8_withSecond wsX8_isWithin := goodIn_r _ [10] (by decide +kernel) (by decide +kernel)
set_option maxRecDepth 20000 in
theorem gX8_withSecond_X8_isWithin : GoodIn wsX8_withSecond (va_wsS RX8 59 yX8_isWithin wsX8_isWithin) := goodIn_app (goodIn_of _ (by decide +kernel)) ggX8_withSecond_X8_isWithin
set_option maxRecDepth 20000 in
theorem ggX8_withSecond_X8_isLeft : GoodIn wsX8_withSecond wsX8_isLeft := goodIn_r _ [14, 5, 2, 15, 16, 17, 18, 19, 20, 129, 130, 131, 132, 133, 134, 135, 136, 137, 138, 155, 156, 157, 158, 159, 160, 139, 140, 141, 142, 143, 144, 145, 146, 147] (by decide +kernel) (by decide +kernel)
set_option maxRecDepth 20000 in
theorem gX8_withSecond_X8_isLeft : GoodIn wsX8_withSecond (wsV RX8 148 RX8 yX8_isLeft wsX8_isLeft) := goodIn_app (goodIn_of _ (by decide +kernel)) ggX8_withSecond_X8_isLeft
set_option maxRecDepth 20000 in
theorem ggX8_withSecond_X0_tryTogether : GoodIn wsX8_withSecond wsX0_tryTogether := goodIn_r _ [25, 26, 27, 28, 29, 30, 31, 32, 33, 34, 35, 36, 37, 38, 39, 40, 41, 42, 43, 44, 45, 46, 47, 48, 49, 18, 50, 20, 51, 52, 53, 54, 55, 56, 57, 58, 59, 60, 61, 62, 63, 64, 65, 66, 67, 68, 69, 70, 24, 71, 72, 73, 74, 75, 76, 9, 77, 78, 79, 80, 81, 82, 83, 84, 85, 86, 87, 88, 89, 90, 91, 92, 93, 94, 95, 96, 97, 98, 99, 100, 101, 102, 103, 104, 105, 106, 107, 16, 17, 19, 108, 109, 110, 111, 112, 113, 114, 115, 148, 149, 150, 151, 152, 139, 140, 141, 142, 143, 144, 145, 146, 147, 153, 154, 161, 155, 156, 157, 158, 159, 160] (by decide +kernel) (by decide +kernel)
set_option maxRecDepth 20000 in
theorem gX8_withSecond_X0_tryTogether : GoodIn wsX8_withSecond (wsV RX8 191 RX0 yX0_tryTogether wsX0_tryTogether) := goodIn_app (goodIn_of _ (by decide +kernel)) ggX8_withSecond_X0_tryTogether
set_option maxRecDepth 20000 in
theorem ggX8_withSecond_X4_together : GoodIn wsX8_withSecond wsX4_together := goodIn_r _ [19, 20, 155, 156, 157, 158, 159, 160] (by decide +kernel) (by decide +kernel)
set_option maxRecDepth 20000 in
theorem gX8_withSecond_X4_together : GoodIn wsX8_withSecond (wsV RX8 132 RX4 yX4_together wsX4_together) := goodIn_app (goodIn_of _ (by decide +kernel)) ggX8_withSecond_X4_together
set_option maxRecDepth 20000 in
theorem ggX8_withSecond_X8_power : GoodIn wsX8_withSecond wsX8_power := goodIn_r _ [118] (by decide +kernel) (by decide +kernel)
set_option maxRecDepth 20000 in
theorem gX8_withSecond_X8_power : GoodIn wsX8_withSecond (va_wsS RX8 158 yX8_power wsX8_power) := goodIn_app (goodIn_of _ (by decide +kernel)) ggX8_withSecond_X8_power
set_option maxRecDepth 20000 in
theorem ggX8_withSecond_X3_part : GoodIn wsX8_withSecond wsX3_part := goodIn_r _ [122, 123, 124, 80, 125, 126, 127, 121, 128] (by decide +kernel) (by decide +kernel)
set_option maxRecDepth 20000 in
theorem gX8_withSecond_X3_part : GoodIn wsX8_withSecond (va_wsS RX8 138 yX3_part wsX3_part) := goodIn_app (goodIn_of _ (by decide +kernel)) ggX8_withSecond_X3_part
theorem dX8_withSecond_0 : decode cX8_withSecond 0 = .ok (.iload_n 1, 1) := by decide +kernel
theorem dX8_withSecond_1 : decode cX8_withSecond 1 = .ok (.iconst 1, 1) := by decide +kernel
theorem dX8_withSecond_2 : decode cX8_withSecond 2 = .ok (.iconst 2, 1) := by decide +kernel
theorem dX8_withSecond_3 : decode cX8_withSecond 3 = .ok (.invokestatic 59, 3) := by decide +kernel
theorem dX8_withSecond_6 : decode cX8_withSecond 6 = .ok (.ifCond .ne 7, 3) := by decide +kernel
theorem dX8_withSecond_9 : decode cX8_withSecond 9 = .ok (.ldc2_w 130, 3) := by decide +kernel
theorem dX8_withSecond_12 : decode cX8_withSecond 12 = .ok (.lreturn, 1) := by decide +kernel
theorem dX8_withSecond_13 : decode cX8_withSecond 13 = .ok (.aload_n 0, 1) := by decide +kernel
theorem dX8_withSecond_14 : decode cX8_withSecond 14 = .ok (.getfield 19, 3) := by decide +kernel
theorem dX8_withSecond_17 : decode cX8_withSecond 17 = .ok (.getfield 188, 3) := by decide +kernel
theorem dX8_withSecond_20 : decode cX8_withSecond 20 = .ok (.bipush (-9), 2) := by decide +kernel
theorem dX8_withSecond_22 : decode cX8_withSecond 22 = .ok (.if_icmp .eq 11, 3) := by decide +kernel
theorem dX8_withSecond_25 : decode cX8_withSecond 25 = .ok (.aload_n 0, 1) := by decide +kernel
theorem dX8_withSecond_26 : decode cX8_withSecond 26 = .ok (.iload_n 1, 1) := by decide +kernel
theorem dX8_withSecond_27 : decode cX8_withSecond 27 = .ok (.invokevirtual 148, 3) := by decide +kernel
theorem dX8_withSecond_30 : decode cX8_withSecond 30 = .ok (.ifCond .ne 7, 3) := by decide +kernel
theorem dX8_withSecond_33 : decode cX8_withSecond 33 = .ok (.ldc2_w 136, 3) := by decide +kernel
theorem dX8_withSecond_36 : decode cX8_withSecond 36 = .ok (.lreturn, 1) := by decide +kernel
theorem dX8_withSecond_37 : decode cX8_withSecond 37 = .ok (.aload_n 0, 1) := by decide +kernel
theorem dX8_withSecond_38 : decode cX8_withSecond 38 = .ok (.getfield 48, 3) := by decide +kernel
theorem dX8_withSecond_41 : decode cX8_withSecond 41 = .ok (.aload_n 0, 1) := by decide +kernel
theorem dX8_withSecond_42 : decode cX8_withSecond 42 = .ok (.getfield 19, 3) := by decide +kernel
theorem dX8_withSecond_45 : decode cX8_withSecond 45 = .ok (.aload_n 0, 1) := by decide +kernel
theorem dX8_withSecond_46 : decode cX8_withSecond 46 = .ok (.getfield 26, 3) := by decide +kernel
theorem dX8_withSecond_49 : decode cX8_withSecond 49 = .ok (.iload_n 1, 1) := by decide +kernel
theorem dX8_withSecond_50 : decode cX8_withSecond 50 = .ok (.invokevirtual 191, 3) := by decide +kernel
theorem dX8_withSecond_53 : decode cX8_withSecond 53 = .ok (.aload_n 0, 1) := by decide +kernel
theorem dX8_withSecond_54 : decode cX8_withSecond 54 = .ok (.getfield 48, 3) := by decide +kernel
theorem dX8_withSecond_57 : decode cX8_withSecond 57 = .ok (.getfield 194, 3) := by decide +kernel
theorem dX8_withSecond_60 : decode cX8_withSecond 60 = .ok (.getfield 170, 3) := by decide +kernel
theorem dX8_withSecond_63 : decode cX8_withSecond 63 = .ok (.aload_n 0, 1) := by decide +kernel
theorem dX8_withSecond_64 : decode cX8_withSecond 64 = .ok (.getfield 26, 3) := by decide +kernel
theorem dX8_withSecond_67 : decode cX8_withSecond 67 = .ok (.invokevirtual 132, 3) := by decide +kernel
theorem dX8_withSecond_70 : decode cX8_withSecond 70 = .ok (.ldc2_w 197, 3) := by decide +kernel
theorem dX8_withSecond_73 : decode cX8_withSecond 73 = .ok (.iload_n 1, 1) := by decide +kernel
theorem dX8_withSecond_74 : decode cX8_withSecond 74 = .ok (.invokestatic 158, 3) := by decide +kernel
theorem dX8_withSecond_77 : decode cX8_withSecond 77 = .ok (.lmul, 1) := by decide +kernel
theorem dX8_withSecond_78 : decode cX8_withSecond 78 = .ok (.iload_n 2, 1) := by decide +kernel
theorem dX8_withSecond_79 : decode cX8_withSecond 79 = .ok (.invokestatic 138, 3) := by decide +kernel
theorem dX8_withSecond_82 : decode cX8_withSecond 82 = .ok (.lreturn, 1) := by decide +kernel
set_option maxRecDepth 20000 in
theorem ggX8_lanes_X4_of : GoodIn wsX8_lanes wsX4_of := goodIn_r _ [13, 14, 25, 26, 27, 28, 29, 30] (by decide +kernel) (by decide +kernel)
set_option maxRecDepth 20000 in
theorem gX8_lanes_X4_of : GoodIn wsX8_lanes (wsV RX8 126 RX4 yX4_of wsX4_of) := goodIn_app (goodIn_of _ (by decide +kernel)) ggX8_lanes_X4_of
theorem dX8_lanes_0 : decode cX8_lanes 0 = .ok (.iconst 0, 1) := by decide +kernel
theorem dX8_lanes_1 : decode cX8_lanes 1 = .ok (.istore_n 1, 1) := by decide +kernel
theorem dX8_lanes_2 : decode cX8_lanes 2 = .ok (.iconst 0, 1) := by decide +kernel
theorem dX8_lanes_3 : decode cX8_lanes 3 = .ok (.istore_n 2, 1) := by decide +kernel
theorem dX8_lanes_4 : decode cX8_lanes 4 = .ok (.iconst 0, 1) := by decide +kernel
theorem dX8_lanes_5 : decode cX8_lanes 5 = .ok (.istore_n 3, 1) := by decide +kernel
theorem dX8_lanes_6 : decode cX8_lanes 6 = .ok (.iload_n 3, 1) := by decide +kernel
theorem dX8_lanes_7 : decode cX8_lanes 7 = .ok (.bipush 10, 2) := by decide +kernel
theorem dX8_lanes_9 : decode cX8_lanes 9 = .ok (.if_icmp .ge 50, 3) := by decide +kernel
theorem dX8_lanes_12 : decode cX8_lanes 12 = .ok (.aload_n 0, 1) := by decide +kernel
theorem dX8_lanes_13 : decode cX8_lanes 13 = .ok (.getfield 26, 3) := by decide +kernel
theorem dX8_lanes_16 : decode cX8_lanes 16 = .ok (.iload_n 3, 1) := by decide +kernel
theorem dX8_lanes_17 : decode cX8_lanes 17 = .ok (.invokevirtual 126, 3) := by decide +kernel
theorem dX8_lanes_20 : decode cX8_lanes 20 = .ok (.lconst 0, 1) := by decide +kernel
theorem dX8_lanes_21 : decode cX8_lanes 21 = .ok (.lcmp, 1) := by decide +kernel
theorem dX8_lanes_22 : decode cX8_lanes 22 = .ok (.ifCond .le 31, 3) := by decide +kernel
theorem dX8_lanes_25 : decode cX8_lanes 25 = .ok (.iload_n 1, 1) := by decide +kernel
theorem dX8_lanes_26 : decode cX8_lanes 26 = .ok (.aload_n 0, 1) := by decide +kernel
theorem dX8_lanes_27 : decode cX8_lanes 27 = .ok (.getfield 26, 3) := by decide +kernel
theorem dX8_lanes_30 : decode cX8_lanes 30 = .ok (.getfield 109, 3) := by decide +kernel
theorem dX8_lanes_33 : decode cX8_lanes 33 = .ok (.iload_n 3, 1) := by decide +kernel
theorem dX8_lanes_34 : decode cX8_lanes 34 = .ok (.isub, 1) := by decide +kernel
theorem dX8_lanes_35 : decode cX8_lanes 35 = .ok (.invokestatic 199, 3) := by decide +kernel
theorem dX8_lanes_38 : decode cX8_lanes 38 = .ok (.istore_n 1, 1) := by decide +kernel
theorem dX8_lanes_39 : decode cX8_lanes 39 = .ok (.iload_n 2, 1) := by decide +kernel
theorem dX8_lanes_40 : decode cX8_lanes 40 = .ok (.iload_n 3, 1) := by decide +kernel
theorem dX8_lanes_41 : decode cX8_lanes 41 = .ok (.aload_n 0, 1) := by decide +kernel
theorem dX8_lanes_42 : decode cX8_lanes 42 = .ok (.getfield 26, 3) := by decide +kernel
theorem dX8_lanes_45 : decode cX8_lanes 45 = .ok (.getfield 109, 3) := by decide +kernel
theorem dX8_lanes_48 : decode cX8_lanes 48 = .ok (.isub, 1) := by decide +kernel
theorem dX8_lanes_49 : decode cX8_lanes 49 = .ok (.invokestatic 199, 3) := by decide +kernel
theorem dX8_lanes_52 : decode cX8_lanes 52 = .ok (.istore_n 2, 1) := by decide +kernel
theorem dX8_lanes_53 : decode cX8_lanes 53 = .ok (.iinc 3 1, 3) := by decide +kernel
theorem dX8_lanes_56 : decode cX8_lanes 56 = .ok (.goto (-50), 3) := by decide +kernel
theorem dX8_lanes_59 : decode cX8_lanes 59 = .ok (.iload_n 1, 1) := by decide +kernel
theorem dX8_lanes_60 : decode cX8_lanes 60 = .ok (.iload_n 2, 1) := by decide +kernel
theorem dX8_lanes_61 : decode cX8_lanes 61 = .ok (.iadd, 1) := by decide +kernel
theorem dX8_lanes_62 : decode cX8_lanes 62 = .ok (.iload_n 1, 1) := by decide +kernel
theorem dX8_lanes_63 : decode cX8_lanes 63 = .ok (.iload_n 2, 1) := by decide +kernel
theorem dX8_lanes_64 : decode cX8_lanes 64 = .ok (.invokestatic 205, 3) := by decide +kernel
theorem dX8_lanes_67 : decode cX8_lanes 67 = .ok (.iadd, 1) := by decide +kernel
theorem dX8_lanes_68 : decode cX8_lanes 68 = .ok (.ireturn, 1) := by decide +kernel
set_option maxRecDepth 20000 in
theorem ggX8_judge_X8_isWithin : GoodIn wsX8_judge wsX8_isWithin := goodIn_r _ [8] (by decide +kernel) (by decide +kernel)
set_option maxRecDepth 20000 in
theorem gX8_judge_X8_isWithin : GoodIn wsX8_judge (va_wsS RX8 59 yX8_isWithin wsX8_isWithin) := goodIn_app (goodIn_of _ (by decide +kernel)) ggX8_judge_X8_isWithin
set_option maxRecDepth 20000 in
theorem ggX8_judge_X8_power : GoodIn wsX8_judge wsX8_power := goodIn_r _ [11] (by decide +kernel) (by decide +kernel)
set_option maxRecDepth 20000 in
theorem gX8_judge_X8_power : GoodIn wsX8_judge (va_wsS RX8 158 yX8_power wsX8_power) := goodIn_app (goodIn_of _ (by decide +kernel)) ggX8_judge_X8_power
set_option maxRecDepth 20000 in
theorem ggX8_judge_X4_copy : GoodIn wsX8_judge wsX4_copy := goodIn_r _ [16, 17, 18, 19, 20, 21, 22, 23, 24, 25, 15, 26, 27, 28, 29, 30, 31, 32, 33, 34, 87, 88, 89, 90, 91, 92] (by decide +kernel) (by decide +kernel)
set_option maxRecDepth 20000 in
theorem gX8_judge_X4_copy : GoodIn wsX8_judge (wsV RX8 208 RX4 yX4_copy wsX4_copy) := goodIn_app (goodIn_of _ (by decide +kernel)) ggX8_judge_X4_copy
set_option maxRecDepth 20000 in
theorem ggX8_judge_X8_figureOf : GoodIn wsX8_judge wsX8_figureOf := goodIn_r _ [37, 1, 9, 10, 7, 11] (by decide +kernel) (by decide +kernel)
set_option maxRecDepth 20000 in
theorem gX8_judge_X8_figureOf : GoodIn wsX8_judge (va_wsS RX8 212 yX8_figureOf wsX8_figureOf) := goodIn_app (goodIn_of _ (by decide +kernel)) ggX8_judge_X8_figureOf
set_option maxRecDepth 20000 in
theorem ggX8_judge_X4_placeBy : GoodIn wsX8_judge wsX4_placeBy := goodIn_r _ [41, 20, 42, 7, 43, 44, 45, 46, 47, 48, 49, 50, 87, 88, 89, 90, 91, 92] (by decide +kernel) (by decide +kernel)
set_option maxRecDepth 20000 in
theorem gX8_judge_X4_placeBy : GoodIn wsX8_judge (wsV RX8 216 RX4 yX4_placeBy wsX4_placeBy) := goodIn_app (goodIn_of _ (by decide +kernel)) ggX8_judge_X4_placeBy
set_option maxRecDepth 20000 in
theorem ggX8_judge_X4_of : GoodIn wsX8_judge wsX4_of := goodIn_r _ [26, 17, 87, 88, 89, 90, 91, 92] (by decide +kernel) (by decide +kernel)
set_option maxRecDepth 20000 in
theorem gX8_judge_X4_of : GoodIn wsX8_judge (wsV RX8 126 RX4 yX4_of wsX4_of) := goodIn_app (goodIn_of _ (by decide +kernel)) ggX8_judge_X4_of
set_option maxRecDepth 20000 in
theorem ggX8_judge_X4_act : GoodIn wsX8_judge wsX4_act := goodIn_r _ [55, 56, 57, 58, 15, 59, 20, 60, 39, 40, 41, 42, 7, 43, 44, 45, 46, 47, 48, 49, 50, 61, 62, 63, 64, 65, 66, 67, 68, 69, 70, 71, 17, 72, 73, 74, 75, 76, 21, 23, 24, 25, 26, 87, 88, 89, 90, 91, 92, 93, 94, 95, 96, 97, 98, 99, 100, 101] (by decide +kernel) (by decide +kernel)
set_option maxRecDepth 20000 in
theorem gX8_judge_X4_act : GoodIn wsX8_judge (wsV RX8 105 RX4 yX4_act wsX4_act) := goodIn_app (goodIn_of _ (by decide +kernel)) ggX8_judge_X4_act
theorem dX8_judge_0 : decode cX8_judge 0 = .ok (.iload_n 1, 1) := by decide +kernel
theorem dX8_judge_1 : decode cX8_judge 1 = .ok (.iconst 1, 1) := by decide +kernel
theorem dX8_judge_2 : decode cX8_judge 2 = .ok (.bipush 8, 2) := by decide +kernel
theorem dX8_judge_4 : decode cX8_judge 4 = .ok (.invokestatic 59, 3) := by decide +kernel
theorem dX8_judge_7 : decode cX8_judge 7 = .ok (.ifCond .eq 20, 3) := by decide +kernel
theorem dX8_judge_10 : decode cX8_judge 10 = .ok (.iload_n 2, 1) := by decide +kernel
theorem dX8_judge_11 : decode cX8_judge 11 = .ok (.ifCond .lt 16, 3) := by decide +kernel
theorem dX8_judge_14 : decode cX8_judge 14 = .ok (.iload_n 2, 1) := by decide +kernel
theorem dX8_judge_15 : decode cX8_judge 15 = .ok (.i2l, 1) := by decide +kernel
theorem dX8_judge_16 : decode cX8_judge 16 = .ok (.ldc2_w 179, 3) := by decide +kernel
theorem dX8_judge_19 : decode cX8_judge 19 = .ok (.iload_n 1, 1) := by decide +kernel
theorem dX8_judge_20 : decode cX8_judge 20 = .ok (.invokestatic 158, 3) := by decide +kernel
theorem dX8_judge_23 : decode cX8_judge 23 = .ok (.lcmp, 1) := by decide +kernel
theorem dX8_judge_24 : decode cX8_judge 24 = .ok (.ifCond .lt 6, 3) := by decide +kernel
theorem dX8_judge_27 : decode cX8_judge 27 = .ok (.bipush (-2), 2) := by decide +kernel
theorem dX8_judge_29 : decode cX8_judge 29 = .ok (.ireturn, 1) := by decide +kernel
theorem dX8_judge_30 : decode cX8_judge 30 = .ok (.aload_n 0, 1) := by decide +kernel
theorem dX8_judge_31 : decode cX8_judge 31 = .ok (.getfield 30, 3) := by decide +kernel
theorem dX8_judge_34 : decode cX8_judge 34 = .ok (.aload_n 0, 1) := by decide +kernel
theorem dX8_judge_35 : decode cX8_judge 35 = .ok (.getfield 26, 3) := by decide +kernel
theorem dX8_judge_38 : decode cX8_judge 38 = .ok (.invokevirtual 208, 3) := by decide +kernel
theorem dX8_judge_41 : decode cX8_judge 41 = .ok (.iconst 0, 1) := by decide +kernel
theorem dX8_judge_42 : decode cX8_judge 42 = .ok (.istore_n 3, 1) := by decide +kernel
theorem dX8_judge_43 : decode cX8_judge 43 = .ok (.iload_n 3, 1) := by decide +kernel
theorem dX8_judge_44 : decode cX8_judge 44 = .ok (.iload_n 1, 1) := by decide +kernel
theorem dX8_judge_45 : decode cX8_judge 45 = .ok (.if_icmp .ge 76, 3) := by decide +kernel
theorem dX8_judge_48 : decode cX8_judge 48 = .ok (.iload_n 1, 1) := by decide +kernel
theorem dX8_judge_49 : decode cX8_judge 49 = .ok (.iload_n 2, 1) := by decide +kernel
theorem dX8_judge_50 : decode cX8_judge 50 = .ok (.iload_n 3, 1) := by decide +kernel
theorem dX8_judge_51 : decode cX8_judge 51 = .ok (.invokestatic 212, 3) := by decide +kernel
theorem dX8_judge_54 : decode cX8_judge 54 = .ok (.istore 4, 2) := by decide +kernel
theorem dX8_judge_56 : decode cX8_judge 56 = .ok (.iload 4, 2) := by decide +kernel
theorem dX8_judge_58 : decode cX8_judge 58 = .ok (.iconst 3, 1) := by decide +kernel
theorem dX8_judge_59 : decode cX8_judge 59 = .ok (.if_icmp .gt 41, 3) := by decide +kernel
theorem dX8_judge_62 : decode cX8_judge 62 = .ok (.aload_n 0, 1) := by decide +kernel
theorem dX8_judge_63 : decode cX8_judge 63 = .ok (.getfield 30, 3) := by decide +kernel
theorem dX8_judge_66 : decode cX8_judge 66 = .ok (.getfield 96, 3) := by decide +kernel
theorem dX8_judge_69 : decode cX8_judge 69 = .ok (.aload_n 0, 1) := by decide +kernel
theorem dX8_judge_70 : decode cX8_judge 70 = .ok (.getfield 19, 3) := by decide +kernel
theorem dX8_judge_73 : decode cX8_judge 73 = .ok (.getfield 99, 3) := by decide +kernel
theorem dX8_judge_76 : decode cX8_judge 76 = .ok (.if_icmp .ge 24, 3) := by decide +kernel
theorem dX8_judge_79 : decode cX8_judge 79 = .ok (.aload_n 0, 1) := by decide +kernel
theorem dX8_judge_80 : decode cX8_judge 80 = .ok (.getfield 30, 3) := by decide +kernel
theorem dX8_judge_83 : decode cX8_judge 83 = .ok (.aload_n 0, 1) := by decide +kernel
theorem dX8_judge_84 : decode cX8_judge 84 = .ok (.getfield 30, 3) := by decide +kernel
theorem dX8_judge_87 : decode cX8_judge 87 = .ok (.iload 4, 2) := by decide +kernel
theorem dX8_judge_89 : decode cX8_judge 89 = .ok (.invokevirtual 216, 3) := by decide +kernel
theorem dX8_judge_92 : decode cX8_judge 92 = .ok (.invokevirtual 126, 3) := by decide +kernel
theorem dX8_judge_95 : decode cX8_judge 95 = .ok (.lconst 0, 1) := by decide +kernel
theorem dX8_judge_96 : decode cX8_judge 96 = .ok (.lcmp, 1) := by decide +kernel
theorem dX8_judge_97 : decode cX8_judge 97 = .ok (.ifCond .ne 5, 3) := by decide +kernel
theorem dX8_judge_100 : decode cX8_judge 100 = .ok (.iload_n 3, 1) := by decide +kernel
theorem dX8_judge_101 : decode cX8_judge 101 = .ok (.ireturn, 1) := by decide +kernel
theorem dX8_judge_102 : decode cX8_judge 102 = .ok (.aload_n 0, 1) := by decide +kernel
theorem dX8_judge_103 : decode cX8_judge 103 = .ok (.getfield 30, 3) := by decide +kernel
theorem dX8_judge_106 : decode cX8_judge 106 = .ok (.aload_n 0, 1) := by decide +kernel
theorem dX8_judge_107 : decode cX8_judge 107 = .ok (.getfield 19, 3) := by decide +kernel
theorem dX8_judge_110 : decode cX8_judge 110 = .ok (.iload 4, 2) := by decide +kernel
theorem dX8_judge_112 : decode cX8_judge 112 = .ok (.invokevirtual 105, 3) := by decide +kernel
theorem dX8_judge_115 : decode cX8_judge 115 = .ok (.iinc 3 1, 3) := by decide +kernel
theorem dX8_judge_118 : decode cX8_judge 118 = .ok (.goto (-75), 3) := by decide +kernel
theorem dX8_judge_121 : decode cX8_judge 121 = .ok (.bipush (-9), 2) := by decide +kernel
theorem dX8_judge_123 : decode cX8_judge 123 = .ok (.ireturn, 1) := by decide +kernel
set_option maxRecDepth 20000 in
theorem ggX8_said_X8_isWithin : GoodIn wsX8_said wsX8_isWithin := goodIn_r _ [6] (by decide +kernel) (by decide +kernel)
set_option maxRecDepth 20000 in
theorem gX8_said_X8_isWithin : GoodIn wsX8_said (va_wsS RX8 59 yX8_isWithin wsX8_isWithin) := goodIn_app (goodIn_of _ (by decide +kernel)) ggX8_said_X8_isWithin
set_option maxRecDepth 20000 in
theorem ggX8_said_X4_lowOf : GoodIn wsX8_said wsX4_lowOf := goodIn_r _ [11, 12, 38, 39, 40, 41, 42, 43] (by decide +kernel) (by decide +kernel)
set_option maxRecDepth 20000 in
theorem gX8_said_X4_lowOf : GoodIn wsX8_said (wsV RX8 219 RX4 yX4_lowOf wsX4_lowOf) := goodIn_app (goodIn_of _ (by decide +kernel)) ggX8_said_X4_lowOf
set_option maxRecDepth 20000 in
theorem ggX8_said_X4_highOf : GoodIn wsX8_said wsX4_highOf := goodIn_r _ [16, 17, 38, 39, 40, 41, 42, 43] (by decide +kernel) (by decide +kernel)
set_option maxRecDepth 20000 in
theorem gX8_said_X4_highOf : GoodIn wsX8_said (wsV RX8 222 RX4 yX4_highOf wsX4_highOf) := goodIn_app (goodIn_of _ (by decide +kernel)) ggX8_said_X4_highOf
set_option maxRecDepth 20000 in
theorem ggX8_said_X7_partsFrom : GoodIn wsX8_said wsX7_partsFrom := goodIn_r _ [22, 4, 5, 6, 23, 24, 25, 21, 26, 27, 44, 45, 46, 47, 48, 49, 50, 51, 52] (by decide +kernel) (by decide +kernel)
set_option maxRecDepth 20000 in
theorem gX8_said_X7_partsFrom : GoodIn wsX8_said (wsV RX8 225 RX7 yX7_partsFrom wsX7_partsFrom) := goodIn_app (goodIn_of _ (by decide +kernel)) ggX8_said_X7_partsFrom
theorem dX8_said_0 : decode cX8_said 0 = .ok (.iload_n 1, 1) := by decide +kernel
theorem dX8_said_1 : decode cX8_said 1 = .ok (.iconst 0, 1) := by decide +kernel
theorem dX8_said_2 : decode cX8_said 2 = .ok (.iconst 1, 1) := by decide +kernel
theorem dX8_said_3 : decode cX8_said 3 = .ok (.invokestatic 59, 3) := by decide +kernel
theorem dX8_said_6 : decode cX8_said 6 = .ok (.ifCond .ne 6, 3) := by decide +kernel
theorem dX8_said_9 : decode cX8_said 9 = .ok (.bipush (-2), 2) := by decide +kernel
theorem dX8_said_11 : decode cX8_said 11 = .ok (.ireturn, 1) := by decide +kernel
theorem dX8_said_12 : decode cX8_said 12 = .ok (.iload_n 1, 1) := by decide +kernel
theorem dX8_said_13 : decode cX8_said 13 = .ok (.aload_n 0, 1) := by decide +kernel
theorem dX8_said_14 : decode cX8_said 14 = .ok (.getfield 26, 3) := by decide +kernel
theorem dX8_said_17 : decode cX8_said 17 = .ok (.getfield 115, 3) := by decide +kernel
theorem dX8_said_20 : decode cX8_said 20 = .ok (.if_icmp .lt 5, 3) := by decide +kernel
theorem dX8_said_23 : decode cX8_said 23 = .ok (.iconst 0, 1) := by decide +kernel
theorem dX8_said_24 : decode cX8_said 24 = .ok (.ireturn, 1) := by decide +kernel
theorem dX8_said_25 : decode cX8_said 25 = .ok (.aload_n 0, 1) := by decide +kernel
theorem dX8_said_26 : decode cX8_said 26 = .ok (.getfield 19, 3) := by decide +kernel
theorem dX8_said_29 : decode cX8_said 29 = .ok (.aload_n 0, 1) := by decide +kernel
theorem dX8_said_30 : decode cX8_said 30 = .ok (.getfield 26, 3) := by decide +kernel
theorem dX8_said_33 : decode cX8_said 33 = .ok (.iload_n 1, 1) := by decide +kernel
theorem dX8_said_34 : decode cX8_said 34 = .ok (.invokevirtual 219, 3) := by decide +kernel
theorem dX8_said_37 : decode cX8_said 37 = .ok (.aload_n 0, 1) := by decide +kernel
theorem dX8_said_38 : decode cX8_said 38 = .ok (.getfield 26, 3) := by decide +kernel
theorem dX8_said_41 : decode cX8_said 41 = .ok (.iload_n 1, 1) := by decide +kernel
theorem dX8_said_42 : decode cX8_said 42 = .ok (.invokevirtual 222, 3) := by decide +kernel
theorem dX8_said_45 : decode cX8_said 45 = .ok (.invokevirtual 225, 3) := by decide +kernel
theorem dX8_said_48 : decode cX8_said 48 = .ok (.istore_n 2, 1) := by decide +kernel
theorem dX8_said_49 : decode cX8_said 49 = .ok (.iload_n 2, 1) := by decide +kernel
theorem dX8_said_50 : decode cX8_said 50 = .ok (.aload_n 0, 1) := by decide +kernel
theorem dX8_said_51 : decode cX8_said 51 = .ok (.getfield 19, 3) := by decide +kernel
theorem dX8_said_54 : decode cX8_said 54 = .ok (.iconst 0, 1) := by decide +kernel
theorem dX8_said_55 : decode cX8_said 55 = .ok (.bipush 9, 2) := by decide +kernel
theorem dX8_said_57 : decode cX8_said 57 = .ok (.invokevirtual 225, 3) := by decide +kernel
theorem dX8_said_60 : decode cX8_said 60 = .ok (.iload_n 2, 1) := by decide +kernel
theorem dX8_said_61 : decode cX8_said 61 = .ok (.isub, 1) := by decide +kernel
theorem dX8_said_62 : decode cX8_said 62 = .ok (.isub, 1) := by decide +kernel
theorem dX8_said_63 : decode cX8_said 63 = .ok (.ireturn, 1) := by decide +kernel
set_option maxRecDepth 20000 in
theorem ggX8_trust_X8_isSaying : GoodIn wsX8_trust wsX8_isSaying := goodIn_r _ [8, 9, 10, 7, 11] (by decide +kernel) (by decide +kernel)
set_option maxRecDepth 20000 in
theorem gX8_trust_X8_isSaying : GoodIn wsX8_trust (va_wsS RX8 112 yX8_isSaying wsX8_isSaying) := goodIn_app (goodIn_of _ (by decide +kernel)) ggX8_trust_X8_isSaying
set_option maxRecDepth 20000 in
theorem ggX8_trust_X7_allParts : GoodIn wsX8_trust wsX7_allParts := goodIn_r _ [16, 17, 18, 19, 15, 20, 10, 7, 11, 21, 22, 23, 24, 25, 72, 73, 74, 75, 76, 77, 78, 79, 80] (by decide +kernel) (by decide +kernel)
set_option maxRecDepth 20000 in
theorem gX8_trust_X7_allParts : GoodIn wsX8_trust (wsV RX8 93 RX7 yX7_allParts wsX7_allParts) := goodIn_app (goodIn_of _ (by decide +kernel)) ggX8_trust_X7_allParts
set_option maxRecDepth 20000 in
theorem ggX8_trust_X4_begin : GoodIn wsX8_trust wsX4_begin := goodIn_r _ [30, 31, 32, 33, 34, 35, 22, 23, 15, 24, 25, 81, 82, 83, 84, 85, 86, 72, 73, 74, 75, 76, 77, 78, 79, 80] (by decide +kernel) (by decide +kernel)
set_option maxRecDepth 20000 in
theorem gX8_trust_X4_begin : GoodIn wsX8_trust (wsV RX8 82 RX4 yX4_begin wsX4_begin) := goodIn_app (goodIn_of _ (by decide +kernel)) ggX8_trust_X4_begin
set_option maxRecDepth 20000 in
theorem ggX8_trust_X4_believe : GoodIn wsX8_trust wsX4_believe := goodIn_r _ [39, 31, 40, 34, 41, 42, 10, 7, 11, 81, 82, 83, 84, 85, 86] (by decide +kernel) (by decide +kernel)
set_option maxRecDepth 20000 in
theorem gX8_trust_X4_believe : GoodIn wsX8_trust (wsV RX8 118 RX4 yX4_believe wsX4_believe) := goodIn_app (goodIn_of _ (by decide +kernel)) ggX8_trust_X4_believe
set_option maxRecDepth 20000 in
theorem ggX8_trust_X4_of : GoodIn wsX8_trust wsX4_of := goodIn_r _ [46, 31, 81, 82, 83, 84, 85, 86] (by decide +kernel) (by decide +kernel)
set_option maxRecDepth 20000 in
theorem gX8_trust_X4_of : GoodIn wsX8_trust (wsV RX8 126 RX4 yX4_of wsX4_of) := goodIn_app (goodIn_of _ (by decide +kernel)) ggX8_trust_X4_of
set_option maxRecDepth 20000 in
theorem ggX8_trust_X4_together : GoodIn wsX8_trust wsX4_together := goodIn_r _ [50, 31, 81, 82, 83, 84, 85, 86] (by decide +kernel) (by decide +kernel)
set_option maxRecDepth 20000 in
theorem gX8_trust_X4_together : GoodIn wsX8_trust (wsV RX8 132 RX4 yX4_together wsX4_together) := goodIn_app (goodIn_of _ (by decide +kernel)) ggX8_trust_X4_together
set_option maxRecDepth 20000 in
theorem ggX8_trust_X3_part : GoodIn wsX8_trust wsX3_part := goodIn_r _ [54, 55, 56, 57, 58, 59, 60, 53, 61] (by decide +kernel) (by decide +kernel)
set_option maxRecDepth 20000 in
theorem gX8_trust_X3_part : GoodIn wsX8_trust (va_wsS RX8 138 yX3_part wsX3_part) := goodIn_app (goodIn_of _ (by decide +kernel)) ggX8_trust_X3_part
theorem dX8_trust_0 : decode cX8_trust 0 = .ok (.iload_n 1, 1) := by decide +kernel
theorem dX8_trust_1 : decode cX8_trust 1 = .ok (.iload_n 2, 1) := by decide +kernel
theorem dX8_trust_2 : decode cX8_trust 2 = .ok (.iload_n 3, 1) := by decide +kernel
theorem dX8_trust_3 : decode cX8_trust 3 = .ok (.invokestatic 112, 3) := by decide +kernel
theorem dX8_trust_6 : decode cX8_trust 6 = .ok (.ifCond .ne 7, 3) := by decide +kernel
theorem dX8_trust_9 : decode cX8_trust 9 = .ok (.ldc2_w 130, 3) := by decide +kernel
theorem dX8_trust_12 : decode cX8_trust 12 = .ok (.lreturn, 1) := by decide +kernel
theorem dX8_trust_13 : decode cX8_trust 13 = .ok (.aload_n 0, 1) := by decide +kernel
theorem dX8_trust_14 : decode cX8_trust 14 = .ok (.getfield 19, 3) := by decide +kernel
theorem dX8_trust_17 : decode cX8_trust 17 = .ok (.invokevirtual 93, 3) := by decide +kernel
theorem dX8_trust_20 : decode cX8_trust 20 = .ok (.ifCond .gt 7, 3) := by decide +kernel
theorem dX8_trust_23 : decode cX8_trust 23 = .ok (.ldc2_w 136, 3) := by decide +kernel
theorem dX8_trust_26 : decode cX8_trust 26 = .ok (.lreturn, 1) := by decide +kernel
theorem dX8_trust_27 : decode cX8_trust 27 = .ok (.aload_n 0, 1) := by decide +kernel
theorem dX8_trust_28 : decode cX8_trust 28 = .ok (.getfield 30, 3) := by decide +kernel
theorem dX8_trust_31 : decode cX8_trust 31 = .ok (.aload_n 0, 1) := by decide +kernel
theorem dX8_trust_32 : decode cX8_trust 32 = .ok (.getfield 19, 3) := by decide +kernel
theorem dX8_trust_35 : decode cX8_trust 35 = .ok (.invokevirtual 82, 3) := by decide +kernel
theorem dX8_trust_38 : decode cX8_trust 38 = .ok (.aload_n 0, 1) := by decide +kernel
theorem dX8_trust_39 : decode cX8_trust 39 = .ok (.getfield 30, 3) := by decide +kernel
theorem dX8_trust_42 : decode cX8_trust 42 = .ok (.iload_n 1, 1) := by decide +kernel
theorem dX8_trust_43 : decode cX8_trust 43 = .ok (.iload_n 2, 1) := by decide +kernel
theorem dX8_trust_44 : decode cX8_trust 44 = .ok (.iload_n 3, 1) := by decide +kernel
theorem dX8_trust_45 : decode cX8_trust 45 = .ok (.invokevirtual 118, 3) := by decide +kernel
theorem dX8_trust_48 : decode cX8_trust 48 = .ok (.lconst 0, 1) := by decide +kernel
theorem dX8_trust_49 : decode cX8_trust 49 = .ok (.lstore 5, 2) := by decide +kernel
theorem dX8_trust_51 : decode cX8_trust 51 = .ok (.iload_n 1, 1) := by decide +kernel
theorem dX8_trust_52 : decode cX8_trust 52 = .ok (.istore 7, 2) := by decide +kernel
theorem dX8_trust_54 : decode cX8_trust 54 = .ok (.iload 7, 2) := by decide +kernel
theorem dX8_trust_56 : decode cX8_trust 56 = .ok (.iload_n 2, 1) := by decide +kernel
theorem dX8_trust_57 : decode cX8_trust 57 = .ok (.if_icmp .gt 23, 3) := by decide +kernel
theorem dX8_trust_60 : decode cX8_trust 60 = .ok (.lload 5, 2) := by decide +kernel
theorem dX8_trust_62 : decode cX8_trust 62 = .ok (.aload_n 0, 1) := by decide +kernel
theorem dX8_trust_63 : decode cX8_trust 63 = .ok (.getfield 30, 3) := by decide +kernel
theorem dX8_trust_66 : decode cX8_trust 66 = .ok (.iload 7, 2) := by decide +kernel
theorem dX8_trust_68 : decode cX8_trust 68 = .ok (.invokevirtual 126, 3) := by decide +kernel
theorem dX8_trust_71 : decode cX8_trust 71 = .ok (.ladd, 1) := by decide +kernel
theorem dX8_trust_72 : decode cX8_trust 72 = .ok (.lstore 5, 2) := by decide +kernel
theorem dX8_trust_74 : decode cX8_trust 74 = .ok (.iinc 7 1, 3) := by decide +kernel
theorem dX8_trust_77 : decode cX8_trust 77 = .ok (.goto (-23), 3) := by decide +kernel
theorem dX8_trust_80 : decode cX8_trust 80 = .ok (.lload 5, 2) := by decide +kernel
theorem dX8_trust_82 : decode cX8_trust 82 = .ok (.aload_n 0, 1) := by decide +kernel
theorem dX8_trust_83 : decode cX8_trust 83 = .ok (.getfield 30, 3) := by decide +kernel
theorem dX8_trust_86 : decode cX8_trust 86 = .ok (.invokevirtual 132, 3) := by decide +kernel
theorem dX8_trust_89 : decode cX8_trust 89 = .ok (.iload 4, 2) := by decide +kernel
theorem dX8_trust_91 : decode cX8_trust 91 = .ok (.invokestatic 138, 3) := by decide +kernel
theorem dX8_trust_94 : decode cX8_trust 94 = .ok (.lreturn, 1) := by decide +kernel
theorem dX8_seed_0 : decode cX8_seed 0 = .ok (.aload_n 0, 1) := by decide +kernel
theorem dX8_seed_1 : decode cX8_seed 1 = .ok (.getfield 55, 3) := by decide +kernel
theorem dX8_seed_4 : decode cX8_seed 4 = .ok (.getfield 228, 3) := by decide +kernel
theorem dX8_seed_7 : decode cX8_seed 7 = .ok (.lstore_n 3, 1) := by decide +kernel
theorem dX8_seed_8 : decode cX8_seed 8 = .ok (.aload_n 0, 1) := by decide +kernel
theorem dX8_seed_9 : decode cX8_seed 9 = .ok (.getfield 55, 3) := by decide +kernel
theorem dX8_seed_12 : decode cX8_seed 12 = .ok (.lload_n 1, 1) := by decide +kernel
theorem dX8_seed_13 : decode cX8_seed 13 = .ok (.putfield 228, 3) := by decide +kernel
theorem dX8_seed_16 : decode cX8_seed 16 = .ok (.lload_n 3, 1) := by decide +kernel
theorem dX8_seed_17 : decode cX8_seed 17 = .ok (.lreturn, 1) := by decide +kernel
set_option maxRecDepth 20000 in
theorem ggX8_trials_X8_isWithin : GoodIn wsX8_trials wsX8_isWithin := goodIn_r _ [5] (by decide +kernel) (by decide +kernel)
set_option maxRecDepth 20000 in
theorem gX8_trials_X8_isWithin : GoodIn wsX8_trials (va_wsS RX8 59 yX8_isWithin wsX8_isWithin) := goodIn_app (goodIn_of _ (by decide +kernel)) ggX8_trials_X8_isWithin
set_option maxRecDepth 20000 in
theorem ggX8_trials_X8_isRow : GoodIn wsX8_trials wsX8_isRow := goodIn_r _ [8, 9, 10, 11, 4, 12, 13, 14, 15] (by decide +kernel) (by decide +kernel)
set_option maxRecDepth 20000 in
theorem gX8_trials_X8_isRow : GoodIn wsX8_trials (va_wsS RX8 144 yX8_isRow wsX8_isRow) := goodIn_app (goodIn_of _ (by decide +kernel)) ggX8_trials_X8_isRow
set_option maxRecDepth 20000 in
theorem ggX8_trials_X7_allParts : GoodIn wsX8_trials wsX7_allParts := goodIn_r _ [20, 21, 22, 23, 19, 24, 3, 4, 5, 25, 26, 27, 28, 29, 79, 80, 81, 82, 83, 84, 85, 86, 87] (by decide +kernel) (by decide +kernel)
set_option maxRecDepth 20000 in
theorem gX8_trials_X7_allParts : GoodIn wsX8_trials (wsV RX8 93 RX7 yX7_allParts wsX7_allParts) := goodIn_app (goodIn_of _ (by decide +kernel)) ggX8_trials_X7_allParts
set_option maxRecDepth 20000 in
theorem ggX8_trials_X8_isFound : GoodIn wsX8_trials wsX8_isFound := goodIn_r _ [33, 1, 34, 16, 17, 18, 19, 20, 21, 22, 23, 24, 3, 4, 5, 25, 26, 27, 28, 29, 35, 36, 37, 38, 39, 40, 41, 42, 43, 44, 45, 46, 13, 14, 15, 9, 10, 11, 12, 47, 48, 49, 50, 51, 52, 53, 54, 55, 56, 57, 58, 59, 60, 61, 62, 63, 64, 65, 66, 67, 68, 69, 70, 71, 72, 73, 74, 75, 76, 77, 78, 79, 80, 81, 82, 83, 84, 85, 86, 87, 88] (by decide +kernel) (by decide +kernel)
set_option maxRecDepth 20000 in
theorem gX8_trials_X8_isFound : GoodIn wsX8_trials (wsV RX8 231 RX8 yX8_isFound wsX8_isFound) := goodIn_app (goodIn_of _ (by decide +kernel)) ggX8_trials_X8_isFound
theorem dX8_trials_0 : decode cX8_trials 0 = .ok (.iload_n 1, 1) := by decide +kernel
theorem dX8_trials_1 : decode cX8_trials 1 = .ok (.iconst 1, 1) := by decide +kernel
theorem dX8_trials_2 : decode cX8_trials 2 = .ok (.bipush 30, 2) := by decide +kernel
theorem dX8_trials_4 : decode cX8_trials 4 = .ok (.invokestatic 59, 3) := by decide +kernel
theorem dX8_trials_7 : decode cX8_trials 7 = .ok (.ifCond .eq 20, 3) := by decide +kernel
theorem dX8_trials_10 : decode cX8_trials 10 = .ok (.iload_n 2, 1) := by decide +kernel
theorem dX8_trials_11 : decode cX8_trials 11 = .ok (.iconst 1, 1) := by decide +kernel
theorem dX8_trials_12 : decode cX8_trials 12 = .ok (.iconst 4, 1) := by decide +kernel
theorem dX8_trials_13 : decode cX8_trials 13 = .ok (.invokestatic 59, 3) := by decide +kernel
theorem dX8_trials_16 : decode cX8_trials 16 = .ok (.ifCond .eq 11, 3) := by decide +kernel
theorem dX8_trials_19 : decode cX8_trials 19 = .ok (.iload_n 2, 1) := by decide +kernel
theorem dX8_trials_20 : decode cX8_trials 20 = .ok (.iload_n 3, 1) := by decide +kernel
theorem dX8_trials_21 : decode cX8_trials 21 = .ok (.invokestatic 144, 3) := by decide +kernel
theorem dX8_trials_24 : decode cX8_trials 24 = .ok (.ifCond .ne 6, 3) := by decide +kernel
theorem dX8_trials_27 : decode cX8_trials 27 = .ok (.bipush (-2), 2) := by decide +kernel
theorem dX8_trials_29 : decode cX8_trials 29 = .ok (.ireturn, 1) := by decide +kernel
theorem dX8_trials_30 : decode cX8_trials 30 = .ok (.aload_n 0, 1) := by decide +kernel
theorem dX8_trials_31 : decode cX8_trials 31 = .ok (.getfield 19, 3) := by decide +kernel
theorem dX8_trials_34 : decode cX8_trials 34 = .ok (.invokevirtual 93, 3) := by decide +kernel
theorem dX8_trials_37 : decode cX8_trials 37 = .ok (.ifCond .gt 5, 3) := by decide +kernel
theorem dX8_trials_40 : decode cX8_trials 40 = .ok (.iconst 0, 1) := by decide +kernel
theorem dX8_trials_41 : decode cX8_trials 41 = .ok (.ireturn, 1) := by decide +kernel
theorem dX8_trials_42 : decode cX8_trials 42 = .ok (.iconst 0, 1) := by decide +kernel
theorem dX8_trials_43 : decode cX8_trials 43 = .ok (.istore 4, 2) := by decide +kernel
theorem dX8_trials_45 : decode cX8_trials 45 = .ok (.iconst 0, 1) := by decide +kernel
theorem dX8_trials_46 : decode cX8_trials 46 = .ok (.istore 5, 2) := by decide +kernel
theorem dX8_trials_48 : decode cX8_trials 48 = .ok (.iload 5, 2) := by decide +kernel
theorem dX8_trials_50 : decode cX8_trials 50 = .ok (.iload_n 1, 1) := by decide +kernel
theorem dX8_trials_51 : decode cX8_trials 51 = .ok (.if_icmp .ge 21, 3) := by decide +kernel
theorem dX8_trials_54 : decode cX8_trials 54 = .ok (.aload_n 0, 1) := by decide +kernel
theorem dX8_trials_55 : decode cX8_trials 55 = .ok (.iload_n 2, 1) := by decide +kernel
theorem dX8_trials_56 : decode cX8_trials 56 = .ok (.iload_n 3, 1) := by decide +kernel
theorem dX8_trials_57 : decode cX8_trials 57 = .ok (.invokevirtual 231, 3) := by decide +kernel
theorem dX8_trials_60 : decode cX8_trials 60 = .ok (.ifCond .eq 6, 3) := by decide +kernel
theorem dX8_trials_63 : decode cX8_trials 63 = .ok (.iinc 4 1, 3) := by decide +kernel
theorem dX8_trials_66 : decode cX8_trials 66 = .ok (.iinc 5 1, 3) := by decide +kernel
theorem dX8_trials_69 : decode cX8_trials 69 = .ok (.goto (-21), 3) := by decide +kernel
theorem dX8_trials_72 : decode cX8_trials 72 = .ok (.iload 4, 2) := by decide +kernel
theorem dX8_trials_74 : decode cX8_trials 74 = .ok (.ireturn, 1) := by decide +kernel
set_option maxRecDepth 20000 in
theorem ggX8_keep_X8_isWithin : GoodIn wsX8_keep wsX8_isWithin := goodIn_r _ [7] (by decide +kernel) (by decide +kernel)
set_option maxRecDepth 20000 in
theorem gX8_keep_X8_isWithin : GoodIn wsX8_keep (va_wsS RX8 59 yX8_isWithin wsX8_isWithin) := goodIn_app (goodIn_of _ (by decide +kernel)) ggX8_keep_X8_isWithin
set_option maxRecDepth 20000 in
theorem ggX8_keep_X5_put : GoodIn wsX8_keep wsX5_put := goodIn_r _ [12, 13, 14, 15, 11, 16, 17, 18, 19, 20, 21, 22, 23, 24, 25, 26, 27, 28, 29, 30, 31, 32, 33, 34, 35, 36, 37, 38, 39, 40, 57, 51, 52, 53, 54, 55, 56] (by decide +kernel) (by decide +kernel)
set_option maxRecDepth 20000 in
theorem gX8_keep_X5_put : GoodIn wsX8_keep (wsV RX8 234 RX5 yX5_put wsX5_put) := goodIn_app (goodIn_of _ (by decide +kernel)) ggX8_keep_X5_put
theorem dX8_keep_0 : decode cX8_keep 0 = .ok (.iload_n 1, 1) := by decide +kernel
theorem dX8_keep_1 : decode cX8_keep 1 = .ok (.iconst 0, 1) := by decide +kernel
theorem dX8_keep_2 : decode cX8_keep 2 = .ok (.iconst 1, 1) := by decide +kernel
theorem dX8_keep_3 : decode cX8_keep 3 = .ok (.invokestatic 59, 3) := by decide +kernel
theorem dX8_keep_6 : decode cX8_keep 6 = .ok (.ifCond .ne 5, 3) := by decide +kernel
theorem dX8_keep_9 : decode cX8_keep 9 = .ok (.iconst (-1), 1) := by decide +kernel
theorem dX8_keep_10 : decode cX8_keep 10 = .ok (.ireturn, 1) := by decide +kernel
theorem dX8_keep_11 : decode cX8_keep 11 = .ok (.aload_n 0, 1) := by decide +kernel
theorem dX8_keep_12 : decode cX8_keep 12 = .ok (.getfield 42, 3) := by decide +kernel
theorem dX8_keep_15 : decode cX8_keep 15 = .ok (.iload_n 1, 1) := by decide +kernel
theorem dX8_keep_16 : decode cX8_keep 16 = .ok (.aload_n 0, 1) := by decide +kernel
theorem dX8_keep_17 : decode cX8_keep 17 = .ok (.getfield 26, 3) := by decide +kernel
theorem dX8_keep_20 : decode cX8_keep 20 = .ok (.invokevirtual 234, 3) := by decide +kernel
theorem dX8_keep_23 : decode cX8_keep 23 = .ok (.aload_n 0, 1) := by decide +kernel
theorem dX8_keep_24 : decode cX8_keep 24 = .ok (.dup, 1) := by decide +kernel
theorem dX8_keep_25 : decode cX8_keep 25 = .ok (.getfield 90, 3) := by decide +kernel
theorem dX8_keep_28 : decode cX8_keep 28 = .ok (.iconst 1, 1) := by decide +kernel
theorem dX8_keep_29 : decode cX8_keep 29 = .ok (.iload_n 1, 1) := by decide +kernel
theorem dX8_keep_30 : decode cX8_keep 30 = .ok (.ishl, 1) := by decide +kernel
theorem dX8_keep_31 : decode cX8_keep 31 = .ok (.ior, 1) := by decide +kernel
theorem dX8_keep_32 : decode cX8_keep 32 = .ok (.putfield 90, 3) := by decide +kernel
theorem dX8_keep_35 : decode cX8_keep 35 = .ok (.aload_n 0, 1) := by decide +kernel
theorem dX8_keep_36 : decode cX8_keep 36 = .ok (.getfield 26, 3) := by decide +kernel
theorem dX8_keep_39 : decode cX8_keep 39 = .ok (.getfield 96, 3) := by decide +kernel
theorem dX8_keep_42 : decode cX8_keep 42 = .ok (.ireturn, 1) := by decide +kernel
set_option maxRecDepth 20000 in
theorem ggX8_again_X8_isWithin : GoodIn wsX8_again wsX8_isWithin := goodIn_r _ [8] (by decide +kernel) (by decide +kernel)
set_option maxRecDepth 20000 in
theorem gX8_again_X8_isWithin : GoodIn wsX8_again (va_wsS RX8 59 yX8_isWithin wsX8_isWithin) := goodIn_app (goodIn_of _ (by decide +kernel)) ggX8_again_X8_isWithin
set_option maxRecDepth 20000 in
theorem ggX8_again_X5_give : GoodIn wsX8_again wsX5_give := goodIn_r _ [13, 14, 15, 16, 12, 17, 18, 19, 20, 21, 22, 23, 24, 25, 26, 27, 28, 29, 30, 31, 32, 33, 34, 35, 36, 37, 38, 39, 40, 41, 58, 52, 53, 54, 55, 56, 57] (by decide +kernel) (by decide +kernel)
set_option maxRecDepth 20000 in
theorem gX8_again_X5_give : GoodIn wsX8_again (wsV RX8 122 RX5 yX5_give wsX5_give) := goodIn_app (goodIn_of _ (by decide +kernel)) ggX8_again_X5_give
theorem dX8_again_0 : decode cX8_again 0 = .ok (.iload_n 1, 1) := by decide +kernel
theorem dX8_again_1 : decode cX8_again 1 = .ok (.iconst 0, 1) := by decide +kernel
theorem dX8_again_2 : decode cX8_again 2 = .ok (.iconst 1, 1) := by decide +kernel
theorem dX8_again_3 : decode cX8_again 3 = .ok (.invokestatic 59, 3) := by decide +kernel
theorem dX8_again_6 : decode cX8_again 6 = .ok (.ifCond .ne 5, 3) := by decide +kernel
theorem dX8_again_9 : decode cX8_again 9 = .ok (.iconst (-1), 1) := by decide +kernel
theorem dX8_again_10 : decode cX8_again 10 = .ok (.ireturn, 1) := by decide +kernel
theorem dX8_again_11 : decode cX8_again 11 = .ok (.aload_n 0, 1) := by decide +kernel
theorem dX8_again_12 : decode cX8_again 12 = .ok (.getfield 90, 3) := by decide +kernel
theorem dX8_again_15 : decode cX8_again 15 = .ok (.iload_n 1, 1) := by decide +kernel
theorem dX8_again_16 : decode cX8_again 16 = .ok (.ishr, 1) := by decide +kernel
theorem dX8_again_17 : decode cX8_again 17 = .ok (.iconst 1, 1) := by decide +kernel
theorem dX8_again_18 : decode cX8_again 18 = .ok (.iand, 1) := by decide +kernel
theorem dX8_again_19 : decode cX8_again 19 = .ok (.ifCond .ne 6, 3) := by decide +kernel
theorem dX8_again_22 : decode cX8_again 22 = .ok (.bipush (-3), 2) := by decide +kernel
theorem dX8_again_24 : decode cX8_again 24 = .ok (.ireturn, 1) := by decide +kernel
theorem dX8_again_25 : decode cX8_again 25 = .ok (.aload_n 0, 1) := by decide +kernel
theorem dX8_again_26 : decode cX8_again 26 = .ok (.getfield 42, 3) := by decide +kernel
theorem dX8_again_29 : decode cX8_again 29 = .ok (.iload_n 1, 1) := by decide +kernel
theorem dX8_again_30 : decode cX8_again 30 = .ok (.aload_n 0, 1) := by decide +kernel
theorem dX8_again_31 : decode cX8_again 31 = .ok (.getfield 26, 3) := by decide +kernel
theorem dX8_again_34 : decode cX8_again 34 = .ok (.invokevirtual 122, 3) := by decide +kernel
theorem dX8_again_37 : decode cX8_again 37 = .ok (.aload_n 0, 1) := by decide +kernel
theorem dX8_again_38 : decode cX8_again 38 = .ok (.iconst 0, 1) := by decide +kernel
theorem dX8_again_39 : decode cX8_again 39 = .ok (.putfield 86, 3) := by decide +kernel
theorem dX8_again_42 : decode cX8_again 42 = .ok (.aload_n 0, 1) := by decide +kernel
theorem dX8_again_43 : decode cX8_again 43 = .ok (.getfield 26, 3) := by decide +kernel
theorem dX8_again_46 : decode cX8_again 46 = .ok (.getfield 96, 3) := by decide +kernel
theorem dX8_again_49 : decode cX8_again 49 = .ok (.ireturn, 1) := by decide +kernel
set_option maxRecDepth 20000 in
theorem ggX8_count_X6_size : GoodIn wsX8_count wsX6_size := goodIn_r _ [9, 10, 46, 47, 48, 49, 50, 51] (by decide +kernel) (by decide +kernel)
set_option maxRecDepth 20000 in
theorem gX8_count_X6_size : GoodIn wsX8_count (wsV RX8 237 RX6 yX6_size wsX6_size) := goodIn_app (goodIn_of _ (by decide +kernel)) ggX8_count_X6_size
set_option maxRecDepth 20000 in
theorem ggX8_count_X4_cellBits : GoodIn wsX8_count wsX4_cellBits := goodIn_r _ [15, 16, 17, 18, 14, 19, 20, 40, 41, 42, 43, 44, 45] (by decide +kernel) (by decide +kernel)
set_option maxRecDepth 20000 in
theorem gX8_count_X4_cellBits : GoodIn wsX8_count (wsV RX8 252 RX4 yX4_cellBits wsX4_cellBits) := goodIn_app (goodIn_of _ (by decide +kernel)) ggX8_count_X4_cellBits
theorem dX8_count_0 : decode cX8_count 0 = .ok (.iload_n 1, 1) := by decide +kernel
theorem dX8_count_1 : decode cX8_count 1 = .ok (.tableswitch 156 0 11 #[63, 71, 79, 87, 95, 103, 111, 119, 127, 135, 140, 148], 63) := by decide +kernel
theorem dX8_count_64 : decode cX8_count 64 = .ok (.aload_n 0, 1) := by decide +kernel
theorem dX8_count_65 : decode cX8_count 65 = .ok (.getfield 10, 3) := by decide +kernel
theorem dX8_count_68 : decode cX8_count 68 = .ok (.invokevirtual 237, 3) := by decide +kernel
theorem dX8_count_71 : decode cX8_count 71 = .ok (.ireturn, 1) := by decide +kernel
theorem dX8_count_72 : decode cX8_count 72 = .ok (.aload_n 0, 1) := by decide +kernel
theorem dX8_count_73 : decode cX8_count 73 = .ok (.getfield 19, 3) := by decide +kernel
theorem dX8_count_76 : decode cX8_count 76 = .ok (.getfield 240, 3) := by decide +kernel
theorem dX8_count_79 : decode cX8_count 79 = .ok (.ireturn, 1) := by decide +kernel
theorem dX8_count_80 : decode cX8_count 80 = .ok (.aload_n 0, 1) := by decide +kernel
theorem dX8_count_81 : decode cX8_count 81 = .ok (.getfield 19, 3) := by decide +kernel
theorem dX8_count_84 : decode cX8_count 84 = .ok (.getfield 243, 3) := by decide +kernel
theorem dX8_count_87 : decode cX8_count 87 = .ok (.ireturn, 1) := by decide +kernel
theorem dX8_count_88 : decode cX8_count 88 = .ok (.aload_n 0, 1) := by decide +kernel
theorem dX8_count_89 : decode cX8_count 89 = .ok (.getfield 19, 3) := by decide +kernel
theorem dX8_count_92 : decode cX8_count 92 = .ok (.getfield 246, 3) := by decide +kernel
theorem dX8_count_95 : decode cX8_count 95 = .ok (.ireturn, 1) := by decide +kernel
theorem dX8_count_96 : decode cX8_count 96 = .ok (.aload_n 0, 1) := by decide +kernel
theorem dX8_count_97 : decode cX8_count 97 = .ok (.getfield 19, 3) := by decide +kernel
theorem dX8_count_100 : decode cX8_count 100 = .ok (.getfield 249, 3) := by decide +kernel
theorem dX8_count_103 : decode cX8_count 103 = .ok (.ireturn, 1) := by decide +kernel
theorem dX8_count_104 : decode cX8_count 104 = .ok (.aload_n 0, 1) := by decide +kernel
theorem dX8_count_105 : decode cX8_count 105 = .ok (.getfield 19, 3) := by decide +kernel
theorem dX8_count_108 : decode cX8_count 108 = .ok (.getfield 99, 3) := by decide +kernel
theorem dX8_count_111 : decode cX8_count 111 = .ok (.ireturn, 1) := by decide +kernel
theorem dX8_count_112 : decode cX8_count 112 = .ok (.aload_n 0, 1) := by decide +kernel
theorem dX8_count_113 : decode cX8_count 113 = .ok (.getfield 26, 3) := by decide +kernel
theorem dX8_count_116 : decode cX8_count 116 = .ok (.getfield 109, 3) := by decide +kernel
theorem dX8_count_119 : decode cX8_count 119 = .ok (.ireturn, 1) := by decide +kernel
theorem dX8_count_120 : decode cX8_count 120 = .ok (.aload_n 0, 1) := by decide +kernel
theorem dX8_count_121 : decode cX8_count 121 = .ok (.getfield 26, 3) := by decide +kernel
theorem dX8_count_124 : decode cX8_count 124 = .ok (.getfield 96, 3) := by decide +kernel
theorem dX8_count_127 : decode cX8_count 127 = .ok (.ireturn, 1) := by decide +kernel
theorem dX8_count_128 : decode cX8_count 128 = .ok (.aload_n 0, 1) := by decide +kernel
theorem dX8_count_129 : decode cX8_count 129 = .ok (.getfield 26, 3) := by decide +kernel
theorem dX8_count_132 : decode cX8_count 132 = .ok (.getfield 115, 3) := by decide +kernel
theorem dX8_count_135 : decode cX8_count 135 = .ok (.ireturn, 1) := by decide +kernel
theorem dX8_count_136 : decode cX8_count 136 = .ok (.aload_n 0, 1) := by decide +kernel
theorem dX8_count_137 : decode cX8_count 137 = .ok (.getfield 86, 3) := by decide +kernel
theorem dX8_count_140 : decode cX8_count 140 = .ok (.ireturn, 1) := by decide +kernel
theorem dX8_count_141 : decode cX8_count 141 = .ok (.aload_n 0, 1) := by decide +kernel
theorem dX8_count_142 : decode cX8_count 142 = .ok (.getfield 26, 3) := by decide +kernel
theorem dX8_count_145 : decode cX8_count 145 = .ok (.invokevirtual 252, 3) := by decide +kernel
theorem dX8_count_148 : decode cX8_count 148 = .ok (.ireturn, 1) := by decide +kernel
theorem dX8_count_149 : decode cX8_count 149 = .ok (.aload_n 0, 1) := by decide +kernel
theorem dX8_count_150 : decode cX8_count 150 = .ok (.getfield 19, 3) := by decide +kernel
theorem dX8_count_153 : decode cX8_count 153 = .ok (.getfield 188, 3) := by decide +kernel
theorem dX8_count_156 : decode cX8_count 156 = .ok (.ireturn, 1) := by decide +kernel
theorem dX8_count_157 : decode cX8_count 157 = .ok (.bipush (-2), 2) := by decide +kernel
theorem dX8_count_159 : decode cX8_count 159 = .ok (.ireturn, 1) := by decide +kernel
set_option maxRecDepth 20000 in
theorem ggX8_remember_X5_put : GoodIn wsX8_remember wsX5_put := goodIn_r _ [8, 9, 10, 11, 7, 12, 13, 14, 15, 16, 17, 18, 19, 20, 21, 22, 23, 24, 25, 26, 27, 28, 29, 30, 31, 32, 33, 34, 35, 36, 47, 48, 49, 50, 51, 52, 53] (by decide +kernel) (by decide +kernel)
set_option maxRecDepth 20000 in
theorem gX8_remember_X5_put : GoodIn wsX8_remember (wsV RX8 234 RX5 yX5_put wsX5_put) := goodIn_app (goodIn_of _ (by decide +kernel)) ggX8_remember_X5_put
theorem dX8_remember_0 : decode cX8_remember 0 = .ok (.aload_n 0, 1) := by decide +kernel
theorem dX8_remember_1 : decode cX8_remember 1 = .ok (.getfield 38, 3) := by decide +kernel
theorem dX8_remember_4 : decode cX8_remember 4 = .ok (.aload_n 0, 1) := by decide +kernel
theorem dX8_remember_5 : decode cX8_remember 5 = .ok (.getfield 86, 3) := by decide +kernel
theorem dX8_remember_8 : decode cX8_remember 8 = .ok (.aload_n 0, 1) := by decide +kernel
theorem dX8_remember_9 : decode cX8_remember 9 = .ok (.getfield 26, 3) := by decide +kernel
theorem dX8_remember_12 : decode cX8_remember 12 = .ok (.invokevirtual 234, 3) := by decide +kernel
theorem dX8_remember_15 : decode cX8_remember 15 = .ok (.aload_n 0, 1) := by decide +kernel
theorem dX8_remember_16 : decode cX8_remember 16 = .ok (.dup, 1) := by decide +kernel
theorem dX8_remember_17 : decode cX8_remember 17 = .ok (.getfield 86, 3) := by decide +kernel
theorem dX8_remember_20 : decode cX8_remember 20 = .ok (.iconst 1, 1) := by decide +kernel
theorem dX8_remember_21 : decode cX8_remember 21 = .ok (.iadd, 1) := by decide +kernel
theorem dX8_remember_22 : decode cX8_remember 22 = .ok (.putfield 86, 3) := by decide +kernel
theorem dX8_remember_25 : decode cX8_remember 25 = .ok (.return_, 1) := by decide +kernel
set_option maxRecDepth 20000 in
theorem ggX8_isLeft_X4_together : GoodIn wsX8_isLeft wsX4_together := goodIn_r _ [7, 8, 19, 20, 21, 22, 23, 24] (by decide +kernel) (by decide +kernel)
set_option maxRecDepth 20000 in
theorem gX8_isLeft_X4_together : GoodIn wsX8_isLeft (wsV RX8 132 RX4 yX4_together wsX4_together) := goodIn_app (goodIn_of _ (by decide +kernel)) ggX8_isLeft_X4_together
theorem dX8_isLeft_0 : decode cX8_isLeft 0 = .ok (.aload_n 0, 1) := by decide +kernel
theorem dX8_isLeft_1 : decode cX8_isLeft 1 = .ok (.getfield 26, 3) := by decide +kernel
theorem dX8_isLeft_4 : decode cX8_isLeft 4 = .ok (.invokevirtual 132, 3) := by decide +kernel
theorem dX8_isLeft_7 : decode cX8_isLeft 7 = .ok (.lconst 0, 1) := by decide +kernel
theorem dX8_isLeft_8 : decode cX8_isLeft 8 = .ok (.lcmp, 1) := by decide +kernel
theorem dX8_isLeft_9 : decode cX8_isLeft 9 = .ok (.ifCond .le 26, 3) := by decide +kernel
theorem dX8_isLeft_12 : decode cX8_isLeft 12 = .ok (.aload_n 0, 1) := by decide +kernel
theorem dX8_isLeft_13 : decode cX8_isLeft 13 = .ok (.getfield 26, 3) := by decide +kernel
theorem dX8_isLeft_16 : decode cX8_isLeft 16 = .ok (.getfield 96, 3) := by decide +kernel
theorem dX8_isLeft_19 : decode cX8_isLeft 19 = .ok (.iload_n 1, 1) := by decide +kernel
theorem dX8_isLeft_20 : decode cX8_isLeft 20 = .ok (.iadd, 1) := by decide +kernel
theorem dX8_isLeft_21 : decode cX8_isLeft 21 = .ok (.aload_n 0, 1) := by decide +kernel
theorem dX8_isLeft_22 : decode cX8_isLeft 22 = .ok (.getfield 19, 3) := by decide +kernel
theorem dX8_isLeft_25 : decode cX8_isLeft 25 = .ok (.getfield 99, 3) := by decide +kernel
theorem dX8_isLeft_28 : decode cX8_isLeft 28 = .ok (.if_icmp .gt 7, 3) := by decide +kernel
theorem dX8_isLeft_31 : decode cX8_isLeft 31 = .ok (.iconst 1, 1) := by decide +kernel
theorem dX8_isLeft_32 : decode cX8_isLeft 32 = .ok (.goto 4, 3) := by decide +kernel
theorem dX8_isLeft_35 : decode cX8_isLeft 35 = .ok (.iconst 0, 1) := by decide +kernel
theorem dX8_isLeft_36 : decode cX8_isLeft 36 = .ok (.ireturn, 1) := by decide +kernel
set_option maxRecDepth 20000 in
theorem ggX8_foundBy_X4_copy : GoodIn wsX8_foundBy wsX4_copy := goodIn_r _ [10, 11, 12, 13, 14, 15, 16, 17, 18, 19, 9, 20, 21, 22, 23, 24, 25, 26, 27, 28, 87, 88, 89, 90, 91, 92] (by decide +kernel) (by decide +kernel)
set_option maxRecDepth 20000 in
theorem gX8_foundBy_X4_copy : GoodIn wsX8_foundBy (wsV RX8 208 RX4 yX4_copy wsX4_copy) := goodIn_app (goodIn_of _ (by decide +kernel)) ggX8_foundBy_X4_copy
set_option maxRecDepth 20000 in
theorem ggX8_foundBy_X8_figureOf : GoodIn wsX8_foundBy wsX8_figureOf := goodIn_r _ [32, 5, 33, 34, 31, 35] (by decide +kernel) (by decide +kernel)
set_option maxRecDepth 20000 in
theorem gX8_foundBy_X8_figureOf : GoodIn wsX8_foundBy (va_wsS RX8 212 yX8_figureOf wsX8_figureOf) := goodIn_app (goodIn_of _ (by decide +kernel)) ggX8_foundBy_X8_figureOf
set_option maxRecDepth 20000 in
theorem ggX8_foundBy_X4_foundNow : GoodIn wsX8_foundBy wsX4_foundNow := goodIn_r _ [39, 40, 41, 42, 9, 43, 14, 44, 31, 45, 46, 47, 48, 49, 50, 51, 52, 17, 18, 19, 20, 11, 53, 54, 55, 56, 57, 58, 59, 87, 88, 89, 90, 91, 92, 93, 94, 95, 96, 97, 98, 99, 100, 101] (by decide +kernel) (by decide +kernel)
set_option maxRecDepth 20000 in
theorem gX8_foundBy_X4_foundNow : GoodIn wsX8_foundBy (wsV RX8 255 RX4 yX4_foundNow wsX4_foundNow) := goodIn_app (goodIn_of _ (by decide +kernel)) ggX8_foundBy_X4_foundNow
set_option maxRecDepth 20000 in
theorem ggX8_foundBy_X4_act : GoodIn wsX8_foundBy wsX4_act := goodIn_r _ [63, 64, 65, 66, 9, 67, 14, 40, 41, 42, 43, 44, 31, 45, 46, 47, 48, 49, 50, 51, 52, 53, 54, 55, 56, 57, 58, 59, 68, 69, 70, 71, 11, 72, 73, 74, 75, 76, 15, 17, 18, 19, 20, 87, 88, 89, 90, 91, 92, 93, 94, 95, 96, 97, 98, 99, 100, 101] (by decide +kernel) (by decide +kernel)
set_option maxRecDepth 20000 in
theorem gX8_foundBy_X4_act : GoodIn wsX8_foundBy (wsV RX8 105 RX4 yX4_act wsX4_act) := goodIn_app (goodIn_of _ (by decide +kernel)) ggX8_foundBy_X4_act
theorem dX8_foundBy_0 : decode cX8_foundBy 0 = .ok (.lconst 0, 1) := by decide +kernel
theorem dX8_foundBy_1 : decode cX8_foundBy 1 = .ok (.lstore_n 3, 1) := by decide +kernel
theorem dX8_foundBy_2 : decode cX8_foundBy 2 = .ok (.aload_n 0, 1) := by decide +kernel
theorem dX8_foundBy_3 : decode cX8_foundBy 3 = .ok (.getfield 30, 3) := by decide +kernel
theorem dX8_foundBy_6 : decode cX8_foundBy 6 = .ok (.aload_n 0, 1) := by decide +kernel
theorem dX8_foundBy_7 : decode cX8_foundBy 7 = .ok (.getfield 26, 3) := by decide +kernel
theorem dX8_foundBy_10 : decode cX8_foundBy 10 = .ok (.invokevirtual 208, 3) := by decide +kernel
theorem dX8_foundBy_13 : decode cX8_foundBy 13 = .ok (.iconst 0, 1) := by decide +kernel
theorem dX8_foundBy_14 : decode cX8_foundBy 14 = .ok (.istore 5, 2) := by decide +kernel
theorem dX8_foundBy_16 : decode cX8_foundBy 16 = .ok (.iload 5, 2) := by decide +kernel
theorem dX8_foundBy_18 : decode cX8_foundBy 18 = .ok (.iload_n 1, 1) := by decide +kernel
theorem dX8_foundBy_19 : decode cX8_foundBy 19 = .ok (.if_icmp .ge 55, 3) := by decide +kernel
theorem dX8_foundBy_22 : decode cX8_foundBy 22 = .ok (.iload_n 1, 1) := by decide +kernel
theorem dX8_foundBy_23 : decode cX8_foundBy 23 = .ok (.iload_n 2, 1) := by decide +kernel
theorem dX8_foundBy_24 : decode cX8_foundBy 24 = .ok (.iload 5, 2) := by decide +kernel
theorem dX8_foundBy_26 : decode cX8_foundBy 26 = .ok (.invokestatic 212, 3) := by decide +kernel
theorem dX8_foundBy_29 : decode cX8_foundBy 29 = .ok (.istore 6, 2) := by decide +kernel
theorem dX8_foundBy_31 : decode cX8_foundBy 31 = .ok (.lload_n 3, 1) := by decide +kernel
theorem dX8_foundBy_32 : decode cX8_foundBy 32 = .ok (.ldc2_w 156, 3) := by decide +kernel
theorem dX8_foundBy_35 : decode cX8_foundBy 35 = .ok (.lmul, 1) := by decide +kernel
theorem dX8_foundBy_36 : decode cX8_foundBy 36 = .ok (.aload_n 0, 1) := by decide +kernel
theorem dX8_foundBy_37 : decode cX8_foundBy 37 = .ok (.getfield 30, 3) := by decide +kernel
theorem dX8_foundBy_40 : decode cX8_foundBy 40 = .ok (.aload_n 0, 1) := by decide +kernel
theorem dX8_foundBy_41 : decode cX8_foundBy 41 = .ok (.getfield 19, 3) := by decide +kernel
theorem dX8_foundBy_44 : decode cX8_foundBy 44 = .ok (.iload 6, 2) := by decide +kernel
theorem dX8_foundBy_46 : decode cX8_foundBy 46 = .ok (.invokevirtual 255, 3) := by decide +kernel
theorem dX8_foundBy_49 : decode cX8_foundBy 49 = .ok (.ldc2_w 179, 3) := by decide +kernel
theorem dX8_foundBy_52 : decode cX8_foundBy 52 = .ok (.lmul, 1) := by decide +kernel
theorem dX8_foundBy_53 : decode cX8_foundBy 53 = .ok (.ladd, 1) := by decide +kernel
theorem dX8_foundBy_54 : decode cX8_foundBy 54 = .ok (.lstore_n 3, 1) := by decide +kernel
theorem dX8_foundBy_55 : decode cX8_foundBy 55 = .ok (.aload_n 0, 1) := by decide +kernel
theorem dX8_foundBy_56 : decode cX8_foundBy 56 = .ok (.getfield 30, 3) := by decide +kernel
theorem dX8_foundBy_59 : decode cX8_foundBy 59 = .ok (.aload_n 0, 1) := by decide +kernel
theorem dX8_foundBy_60 : decode cX8_foundBy 60 = .ok (.getfield 19, 3) := by decide +kernel
theorem dX8_foundBy_63 : decode cX8_foundBy 63 = .ok (.iload 6, 2) := by decide +kernel
theorem dX8_foundBy_65 : decode cX8_foundBy 65 = .ok (.invokevirtual 105, 3) := by decide +kernel
theorem dX8_foundBy_68 : decode cX8_foundBy 68 = .ok (.iinc 5 1, 3) := by decide +kernel
theorem dX8_foundBy_71 : decode cX8_foundBy 71 = .ok (.goto (-55), 3) := by decide +kernel
theorem dX8_foundBy_74 : decode cX8_foundBy 74 = .ok (.lload_n 3, 1) := by decide +kernel
theorem dX8_foundBy_75 : decode cX8_foundBy 75 = .ok (.lreturn, 1) := by decide +kernel
set_option maxRecDepth 20000 in
theorem ggX8_isFound_X7_allParts : GoodIn wsX8_isFound wsX7_allParts := goodIn_r _ [7, 8, 9, 10, 6, 11, 12, 13, 14, 15, 16, 17, 18, 19, 71, 72, 73, 74, 75, 76, 77, 78, 79] (by decide +kernel) (by decide +kernel)
set_option maxRecDepth 20000 in
theorem gX8_isFound_X7_allParts : GoodIn wsX8_isFound (wsV RX8 93 RX7 yX7_allParts wsX7_allParts) := goodIn_app (goodIn_of _ (by decide +kernel)) ggX8_isFound_X7_allParts
set_option maxRecDepth 20000 in
theorem ggX8_isFound_X2_below : GoodIn wsX8_isFound wsX2_below := goodIn_r _ [24, 25, 26, 27, 80] (by decide +kernel) (by decide +kernel)
set_option maxRecDepth 20000 in
theorem gX8_isFound_X2_below : GoodIn wsX8_isFound (wsV RX8 259 RX2 yX2_below wsX2_below) := goodIn_app (goodIn_of _ (by decide +kernel)) ggX8_isFound_X2_below
set_option maxRecDepth 20000 in
theorem ggX8_isFound_X7_placeOfPart : GoodIn wsX8_isFound wsX7_placeOfPart := goodIn_r _ [31, 15, 16, 17, 6, 18, 19, 71, 72, 73, 74, 75, 76, 77, 78, 79] (by decide +kernel) (by decide +kernel)
set_option maxRecDepth 20000 in
theorem gX8_isFound_X7_placeOfPart : GoodIn wsX8_isFound (wsV RX8 262 RX7 yX7_placeOfPart wsX7_placeOfPart) := goodIn_app (goodIn_of _ (by decide +kernel)) ggX8_isFound_X7_placeOfPart
set_option maxRecDepth 20000 in
theorem ggX8_isFound_X8_figureOf : GoodIn wsX8_isFound wsX8_figureOf := goodIn_r _ [34, 35, 36, 37, 13, 38] (by decide +kernel) (by decide +kernel)
set_option maxRecDepth 20000 in
theorem gX8_isFound_X8_figureOf : GoodIn wsX8_isFound (va_wsS RX8 212 yX8_figureOf wsX8_figureOf) := goodIn_app (goodIn_of _ (by decide +kernel)) ggX8_isFound_X8_figureOf
set_option maxRecDepth 20000 in
theorem ggX8_isFound_X8_moved : GoodIn wsX8_isFound wsX8_moved := goodIn_r _ [41, 42, 43, 44, 45, 46, 47, 48] (by decide +kernel) (by decide +kernel)
set_option maxRecDepth 20000 in
theorem gX8_isFound_X8_moved : GoodIn wsX8_isFound (va_wsS RX8 267 yX8_moved wsX8_moved) := goodIn_app (goodIn_of _ (by decide +kernel)) ggX8_isFound_X8_moved
set_option maxRecDepth 20000 in
theorem ggX8_isFound_X7_chanceAt : GoodIn wsX8_isFound wsX7_chanceAt := goodIn_r _ [52, 53, 54, 71, 72, 73, 74, 75, 76, 77, 78, 79] (by decide +kernel) (by decide +kernel)
set_option maxRecDepth 20000 in
theorem gX8_isFound_X7_chanceAt : GoodIn wsX8_isFound (wsV RX8 270 RX7 yX7_chanceAt wsX7_chanceAt) := goodIn_app (goodIn_of _ (by decide +kernel)) ggX8_isFound_X7_chanceAt
set_option maxRecDepth 20000 in
theorem ggX8_isFound_X7_drifted : GoodIn wsX8_isFound wsX7_drifted := goodIn_r _ [58, 59, 60, 40, 13, 41, 42, 43, 44, 45, 46, 47, 48, 71, 72, 73, 74, 75, 76, 77, 78, 79] (by decide +kernel) (by decide +kernel)
set_option maxRecDepth 20000 in
theorem gX8_isFound_X7_drifted : GoodIn wsX8_isFound (wsV RX8 273 RX7 yX7_drifted wsX7_drifted) := goodIn_app (goodIn_of _ (by decide +kernel)) ggX8_isFound_X7_drifted
theorem dX8_isFound_0 : decode cX8_isFound 0 = .ok (.aload_n 0, 1) := by decide +kernel
theorem dX8_isFound_1 : decode cX8_isFound 1 = .ok (.getfield 19, 3) := by decide +kernel
theorem dX8_isFound_4 : decode cX8_isFound 4 = .ok (.aload_n 0, 1) := by decide +kernel
theorem dX8_isFound_5 : decode cX8_isFound 5 = .ok (.getfield 55, 3) := by decide +kernel
theorem dX8_isFound_8 : decode cX8_isFound 8 = .ok (.aload_n 0, 1) := by decide +kernel
theorem dX8_isFound_9 : decode cX8_isFound 9 = .ok (.getfield 19, 3) := by decide +kernel
theorem dX8_isFound_12 : decode cX8_isFound 12 = .ok (.invokevirtual 93, 3) := by decide +kernel
theorem dX8_isFound_15 : decode cX8_isFound 15 = .ok (.invokevirtual 259, 3) := by decide +kernel
theorem dX8_isFound_18 : decode cX8_isFound 18 = .ok (.invokevirtual 262, 3) := by decide +kernel
theorem dX8_isFound_21 : decode cX8_isFound 21 = .ok (.istore_n 3, 1) := by decide +kernel
theorem dX8_isFound_22 : decode cX8_isFound 22 = .ok (.aload_n 0, 1) := by decide +kernel
theorem dX8_isFound_23 : decode cX8_isFound 23 = .ok (.getfield 19, 3) := by decide +kernel
theorem dX8_isFound_26 : decode cX8_isFound 26 = .ok (.getfield 265, 3) := by decide +kernel
theorem dX8_isFound_29 : decode cX8_isFound 29 = .ok (.istore 4, 2) := by decide +kernel
theorem dX8_isFound_31 : decode cX8_isFound 31 = .ok (.iconst 0, 1) := by decide +kernel
theorem dX8_isFound_32 : decode cX8_isFound 32 = .ok (.istore 5, 2) := by decide +kernel
theorem dX8_isFound_34 : decode cX8_isFound 34 = .ok (.iload 5, 2) := by decide +kernel
theorem dX8_isFound_36 : decode cX8_isFound 36 = .ok (.iload_n 1, 1) := by decide +kernel
theorem dX8_isFound_37 : decode cX8_isFound 37 = .ok (.if_icmp .ge 111, 3) := by decide +kernel
theorem dX8_isFound_40 : decode cX8_isFound 40 = .ok (.iload 5, 2) := by decide +kernel
theorem dX8_isFound_42 : decode cX8_isFound 42 = .ok (.aload_n 0, 1) := by decide +kernel
theorem dX8_isFound_43 : decode cX8_isFound 43 = .ok (.getfield 19, 3) := by decide +kernel
theorem dX8_isFound_46 : decode cX8_isFound 46 = .ok (.getfield 99, 3) := by decide +kernel
theorem dX8_isFound_49 : decode cX8_isFound 49 = .ok (.if_icmp .ge 99, 3) := by decide +kernel
theorem dX8_isFound_52 : decode cX8_isFound 52 = .ok (.iload_n 1, 1) := by decide +kernel
theorem dX8_isFound_53 : decode cX8_isFound 53 = .ok (.iload_n 2, 1) := by decide +kernel
theorem dX8_isFound_54 : decode cX8_isFound 54 = .ok (.iload 5, 2) := by decide +kernel
theorem dX8_isFound_56 : decode cX8_isFound 56 = .ok (.invokestatic 212, 3) := by decide +kernel
theorem dX8_isFound_59 : decode cX8_isFound 59 = .ok (.istore 6, 2) := by decide +kernel
theorem dX8_isFound_61 : decode cX8_isFound 61 = .ok (.iload 4, 2) := by decide +kernel
theorem dX8_isFound_63 : decode cX8_isFound 63 = .ok (.iload 6, 2) := by decide +kernel
theorem dX8_isFound_65 : decode cX8_isFound 65 = .ok (.invokestatic 267, 3) := by decide +kernel
theorem dX8_isFound_68 : decode cX8_isFound 68 = .ok (.istore 4, 2) := by decide +kernel
theorem dX8_isFound_70 : decode cX8_isFound 70 = .ok (.iload 6, 2) := by decide +kernel
theorem dX8_isFound_72 : decode cX8_isFound 72 = .ok (.iconst 3, 1) := by decide +kernel
theorem dX8_isFound_73 : decode cX8_isFound 73 = .ok (.if_icmp .ne 8, 3) := by decide +kernel
theorem dX8_isFound_76 : decode cX8_isFound 76 = .ok (.bipush 10, 2) := by decide +kernel
theorem dX8_isFound_78 : decode cX8_isFound 78 = .ok (.goto 5, 3) := by decide +kernel
theorem dX8_isFound_81 : decode cX8_isFound 81 = .ok (.iload 4, 2) := by decide +kernel
theorem dX8_isFound_83 : decode cX8_isFound 83 = .ok (.istore 7, 2) := by decide +kernel
theorem dX8_isFound_85 : decode cX8_isFound 85 = .ok (.aload_n 0, 1) := by decide +kernel
theorem dX8_isFound_86 : decode cX8_isFound 86 = .ok (.getfield 55, 3) := by decide +kernel
theorem dX8_isFound_89 : decode cX8_isFound 89 = .ok (.bipush 10, 2) := by decide +kernel
theorem dX8_isFound_91 : decode cX8_isFound 91 = .ok (.invokevirtual 259, 3) := by decide +kernel
theorem dX8_isFound_94 : decode cX8_isFound 94 = .ok (.istore 8, 2) := by decide +kernel
theorem dX8_isFound_96 : decode cX8_isFound 96 = .ok (.iload_n 3, 1) := by decide +kernel
theorem dX8_isFound_97 : decode cX8_isFound 97 = .ok (.iload 7, 2) := by decide +kernel
theorem dX8_isFound_99 : decode cX8_isFound 99 = .ok (.if_icmp .ne 19, 3) := by decide +kernel
theorem dX8_isFound_102 : decode cX8_isFound 102 = .ok (.iload 8, 2) := by decide +kernel
theorem dX8_isFound_104 : decode cX8_isFound 104 = .ok (.aload_n 0, 1) := by decide +kernel
theorem dX8_isFound_105 : decode cX8_isFound 105 = .ok (.getfield 19, 3) := by decide +kernel
theorem dX8_isFound_108 : decode cX8_isFound 108 = .ok (.iload 7, 2) := by decide +kernel
theorem dX8_isFound_110 : decode cX8_isFound 110 = .ok (.invokevirtual 270, 3) := by decide +kernel
theorem dX8_isFound_113 : decode cX8_isFound 113 = .ok (.if_icmp .ge 5, 3) := by decide +kernel
theorem dX8_isFound_116 : decode cX8_isFound 116 = .ok (.iconst 1, 1) := by decide +kernel
theorem dX8_isFound_117 : decode cX8_isFound 117 = .ok (.ireturn, 1) := by decide +kernel
theorem dX8_isFound_118 : decode cX8_isFound 118 = .ok (.iload_n 3, 1) := by decide +kernel
theorem dX8_isFound_119 : decode cX8_isFound 119 = .ok (.bipush 10, 2) := by decide +kernel
theorem dX8_isFound_121 : decode cX8_isFound 121 = .ok (.if_icmp .eq 21, 3) := by decide +kernel
theorem dX8_isFound_124 : decode cX8_isFound 124 = .ok (.aload_n 0, 1) := by decide +kernel
theorem dX8_isFound_125 : decode cX8_isFound 125 = .ok (.getfield 19, 3) := by decide +kernel
theorem dX8_isFound_128 : decode cX8_isFound 128 = .ok (.iload_n 3, 1) := by decide +kernel
theorem dX8_isFound_129 : decode cX8_isFound 129 = .ok (.aload_n 0, 1) := by decide +kernel
theorem dX8_isFound_130 : decode cX8_isFound 130 = .ok (.getfield 55, 3) := by decide +kernel
theorem dX8_isFound_133 : decode cX8_isFound 133 = .ok (.bipush 10, 2) := by decide +kernel
theorem dX8_isFound_135 : decode cX8_isFound 135 = .ok (.invokevirtual 259, 3) := by decide +kernel
theorem dX8_isFound_138 : decode cX8_isFound 138 = .ok (.invokevirtual 273, 3) := by decide +kernel
theorem dX8_isFound_141 : decode cX8_isFound 141 = .ok (.istore_n 3, 1) := by decide +kernel
theorem dX8_isFound_142 : decode cX8_isFound 142 = .ok (.iinc 5 1, 3) := by decide +kernel
theorem dX8_isFound_145 : decode cX8_isFound 145 = .ok (.goto (-111), 3) := by decide +kernel
theorem dX8_isFound_148 : decode cX8_isFound 148 = .ok (.iconst 0, 1) := by decide +kernel
theorem dX8_isFound_149 : decode cX8_isFound 149 = .ok (.ireturn, 1) := by decide +kernel
theorem dX8_isWithin_0 : decode cX8_isWithin 0 = .ok (.iload_n 0, 1) := by decide +kernel
theorem dX8_isWithin_1 : decode cX8_isWithin 1 = .ok (.iload_n 1, 1) := by decide +kernel
theorem dX8_isWithin_2 : decode cX8_isWithin 2 = .ok (.if_icmp .lt 12, 3) := by decide +kernel
theorem dX8_isWithin_5 : decode cX8_isWithin 5 = .ok (.iload_n 0, 1) := by decide +kernel
theorem dX8_isWithin_6 : decode cX8_isWithin 6 = .ok (.iload_n 2, 1) := by decide +kernel
theorem dX8_isWithin_7 : decode cX8_isWithin 7 = .ok (.if_icmp .gt 7, 3) := by decide +kernel
theorem dX8_isWithin_10 : decode cX8_isWithin 10 = .ok (.iconst 1, 1) := by decide +kernel
theorem dX8_isWithin_11 : decode cX8_isWithin 11 = .ok (.goto 4, 3) := by decide +kernel
theorem dX8_isWithin_14 : decode cX8_isWithin 14 = .ok (.iconst 0, 1) := by decide +kernel
theorem dX8_isWithin_15 : decode cX8_isWithin 15 = .ok (.ireturn, 1) := by decide +kernel
set_option maxRecDepth 20000 in
theorem ggX8_isSaying_X8_isWithin : GoodIn wsX8_isSaying wsX8_isWithin := goodIn_r _ [4] (by decide +kernel) (by decide +kernel)
set_option maxRecDepth 20000 in
theorem gX8_isSaying_X8_isWithin : GoodIn wsX8_isSaying (va_wsS RX8 59 yX8_isWithin wsX8_isWithin) := goodIn_app (goodIn_of _ (by decide +kernel)) ggX8_isSaying_X8_isWithin
theorem dX8_isSaying_0 : decode cX8_isSaying 0 = .ok (.iload_n 0, 1) := by decide +kernel
theorem dX8_isSaying_1 : decode cX8_isSaying 1 = .ok (.iconst 0, 1) := by decide +kernel
theorem dX8_isSaying_2 : decode cX8_isSaying 2 = .ok (.bipush 9, 2) := by decide +kernel
theorem dX8_isSaying_4 : decode cX8_isSaying 4 = .ok (.invokestatic 59, 3) := by decide +kernel
theorem dX8_isSaying_7 : decode cX8_isSaying 7 = .ok (.ifCond .eq 27, 3) := by decide +kernel
theorem dX8_isSaying_10 : decode cX8_isSaying 10 = .ok (.iload_n 1, 1) := by decide +kernel
theorem dX8_isSaying_11 : decode cX8_isSaying 11 = .ok (.iload_n 0, 1) := by decide +kernel
theorem dX8_isSaying_12 : decode cX8_isSaying 12 = .ok (.bipush 9, 2) := by decide +kernel
theorem dX8_isSaying_14 : decode cX8_isSaying 14 = .ok (.invokestatic 59, 3) := by decide +kernel
theorem dX8_isSaying_17 : decode cX8_isSaying 17 = .ok (.ifCond .eq 17, 3) := by decide +kernel
theorem dX8_isSaying_20 : decode cX8_isSaying 20 = .ok (.iload_n 2, 1) := by decide +kernel
theorem dX8_isSaying_21 : decode cX8_isSaying 21 = .ok (.iconst 1, 1) := by decide +kernel
theorem dX8_isSaying_22 : decode cX8_isSaying 22 = .ok (.bipush 9, 2) := by decide +kernel
theorem dX8_isSaying_24 : decode cX8_isSaying 24 = .ok (.invokestatic 59, 3) := by decide +kernel
theorem dX8_isSaying_27 : decode cX8_isSaying 27 = .ok (.ifCond .eq 7, 3) := by decide +kernel
theorem dX8_isSaying_30 : decode cX8_isSaying 30 = .ok (.iconst 1, 1) := by decide +kernel
theorem dX8_isSaying_31 : decode cX8_isSaying 31 = .ok (.goto 4, 3) := by decide +kernel
theorem dX8_isSaying_34 : decode cX8_isSaying 34 = .ok (.iconst 0, 1) := by decide +kernel
theorem dX8_isSaying_35 : decode cX8_isSaying 35 = .ok (.ireturn, 1) := by decide +kernel
set_option maxRecDepth 20000 in
theorem ggX8_isRow_X8_power : GoodIn wsX8_isRow wsX8_power := goodIn_r _ [5] (by decide +kernel) (by decide +kernel)
set_option maxRecDepth 20000 in
theorem gX8_isRow_X8_power : GoodIn wsX8_isRow (va_wsS RX8 158 yX8_power wsX8_power) := goodIn_app (goodIn_of _ (by decide +kernel)) ggX8_isRow_X8_power
set_option maxRecDepth 20000 in
theorem ggX8_isRow_X8_figureOf : GoodIn wsX8_isRow wsX8_figureOf := goodIn_r _ [8, 1, 2, 3, 4, 5] (by decide +kernel) (by decide +kernel)
set_option maxRecDepth 20000 in
theorem gX8_isRow_X8_figureOf : GoodIn wsX8_isRow (va_wsS RX8 212 yX8_figureOf wsX8_figureOf) := goodIn_app (goodIn_of _ (by decide +kernel)) ggX8_isRow_X8_figureOf
theorem dX8_isRow_0 : decode cX8_isRow 0 = .ok (.iload_n 1, 1) := by decide +kernel
theorem dX8_isRow_1 : decode cX8_isRow 1 = .ok (.ifCond .lt 16, 3) := by decide +kernel
theorem dX8_isRow_4 : decode cX8_isRow 4 = .ok (.iload_n 1, 1) := by decide +kernel
theorem dX8_isRow_5 : decode cX8_isRow 5 = .ok (.i2l, 1) := by decide +kernel
theorem dX8_isRow_6 : decode cX8_isRow 6 = .ok (.ldc2_w 179, 3) := by decide +kernel
theorem dX8_isRow_9 : decode cX8_isRow 9 = .ok (.iload_n 0, 1) := by decide +kernel
theorem dX8_isRow_10 : decode cX8_isRow 10 = .ok (.invokestatic 158, 3) := by decide +kernel
theorem dX8_isRow_13 : decode cX8_isRow 13 = .ok (.lcmp, 1) := by decide +kernel
theorem dX8_isRow_14 : decode cX8_isRow 14 = .ok (.ifCond .lt 5, 3) := by decide +kernel
theorem dX8_isRow_17 : decode cX8_isRow 17 = .ok (.iconst 0, 1) := by decide +kernel
theorem dX8_isRow_18 : decode cX8_isRow 18 = .ok (.ireturn, 1) := by decide +kernel
theorem dX8_isRow_19 : decode cX8_isRow 19 = .ok (.iconst 0, 1) := by decide +kernel
theorem dX8_isRow_20 : decode cX8_isRow 20 = .ok (.istore_n 2, 1) := by decide +kernel
theorem dX8_isRow_21 : decode cX8_isRow 21 = .ok (.iload_n 2, 1) := by decide +kernel
theorem dX8_isRow_22 : decode cX8_isRow 22 = .ok (.iload_n 0, 1) := by decide +kernel
theorem dX8_isRow_23 : decode cX8_isRow 23 = .ok (.if_icmp .ge 21, 3) := by decide +kernel
theorem dX8_isRow_26 : decode cX8_isRow 26 = .ok (.iload_n 0, 1) := by decide +kernel
theorem dX8_isRow_27 : decode cX8_isRow 27 = .ok (.iload_n 1, 1) := by decide +kernel
theorem dX8_isRow_28 : decode cX8_isRow 28 = .ok (.iload_n 2, 1) := by decide +kernel
theorem dX8_isRow_29 : decode cX8_isRow 29 = .ok (.invokestatic 212, 3) := by decide +kernel
theorem dX8_isRow_32 : decode cX8_isRow 32 = .ok (.iconst 3, 1) := by decide +kernel
theorem dX8_isRow_33 : decode cX8_isRow 33 = .ok (.if_icmp .le 5, 3) := by decide +kernel
theorem dX8_isRow_36 : decode cX8_isRow 36 = .ok (.iconst 0, 1) := by decide +kernel
theorem dX8_isRow_37 : decode cX8_isRow 37 = .ok (.ireturn, 1) := by decide +kernel
theorem dX8_isRow_38 : decode cX8_isRow 38 = .ok (.iinc 2 1, 3) := by decide +kernel
theorem dX8_isRow_41 : decode cX8_isRow 41 = .ok (.goto (-20), 3) := by decide +kernel
theorem dX8_isRow_44 : decode cX8_isRow 44 = .ok (.iconst 1, 1) := by decide +kernel
theorem dX8_isRow_45 : decode cX8_isRow 45 = .ok (.ireturn, 1) := by decide +kernel
set_option maxRecDepth 20000 in
theorem ggX8_figureOf_X8_power : GoodIn wsX8_figureOf wsX8_power := goodIn_r _ [5] (by decide +kernel) (by decide +kernel)
set_option maxRecDepth 20000 in
theorem gX8_figureOf_X8_power : GoodIn wsX8_figureOf (va_wsS RX8 158 yX8_power wsX8_power) := goodIn_app (goodIn_of _ (by decide +kernel)) ggX8_figureOf_X8_power
theorem dX8_figureOf_0 : decode cX8_figureOf 0 = .ok (.ldc2_w 179, 3) := by decide +kernel
theorem dX8_figureOf_3 : decode cX8_figureOf 3 = .ok (.iload_n 0, 1) := by decide +kernel
theorem dX8_figureOf_4 : decode cX8_figureOf 4 = .ok (.iconst 1, 1) := by decide +kernel
theorem dX8_figureOf_5 : decode cX8_figureOf 5 = .ok (.isub, 1) := by decide +kernel
theorem dX8_figureOf_6 : decode cX8_figureOf 6 = .ok (.iload_n 2, 1) := by decide +kernel
theorem dX8_figureOf_7 : decode cX8_figureOf 7 = .ok (.isub, 1) := by decide +kernel
theorem dX8_figureOf_8 : decode cX8_figureOf 8 = .ok (.invokestatic 158, 3) := by decide +kernel
theorem dX8_figureOf_11 : decode cX8_figureOf 11 = .ok (.lstore_n 3, 1) := by decide +kernel
theorem dX8_figureOf_12 : decode cX8_figureOf 12 = .ok (.lload_n 3, 1) := by decide +kernel
theorem dX8_figureOf_13 : decode cX8_figureOf 13 = .ok (.lconst 0, 1) := by decide +kernel
theorem dX8_figureOf_14 : decode cX8_figureOf 14 = .ok (.lcmp, 1) := by decide +kernel
theorem dX8_figureOf_15 : decode cX8_figureOf 15 = .ok (.ifCond .gt 7, 3) := by decide +kernel
theorem dX8_figureOf_18 : decode cX8_figureOf 18 = .ok (.iconst 0, 1) := by decide +kernel
theorem dX8_figureOf_19 : decode cX8_figureOf 19 = .ok (.goto 12, 3) := by decide +kernel
theorem dX8_figureOf_22 : decode cX8_figureOf 22 = .ok (.iload_n 1, 1) := by decide +kernel
theorem dX8_figureOf_23 : decode cX8_figureOf 23 = .ok (.i2l, 1) := by decide +kernel
theorem dX8_figureOf_24 : decode cX8_figureOf 24 = .ok (.lload_n 3, 1) := by decide +kernel
theorem dX8_figureOf_25 : decode cX8_figureOf 25 = .ok (.ldiv, 1) := by decide +kernel
theorem dX8_figureOf_26 : decode cX8_figureOf 26 = .ok (.ldc2_w 179, 3) := by decide +kernel
theorem dX8_figureOf_29 : decode cX8_figureOf 29 = .ok (.lrem, 1) := by decide +kernel
theorem dX8_figureOf_30 : decode cX8_figureOf 30 = .ok (.l2i, 1) := by decide +kernel
theorem dX8_figureOf_31 : decode cX8_figureOf 31 = .ok (.ireturn, 1) := by decide +kernel
theorem dX8_power_0 : decode cX8_power 0 = .ok (.lconst 1, 1) := by decide +kernel
theorem dX8_power_1 : decode cX8_power 1 = .ok (.lstore_n 3, 1) := by decide +kernel
theorem dX8_power_2 : decode cX8_power 2 = .ok (.iconst 0, 1) := by decide +kernel
theorem dX8_power_3 : decode cX8_power 3 = .ok (.istore 5, 2) := by decide +kernel
theorem dX8_power_5 : decode cX8_power 5 = .ok (.iload 5, 2) := by decide +kernel
theorem dX8_power_7 : decode cX8_power 7 = .ok (.iload_n 2, 1) := by decide +kernel
theorem dX8_power_8 : decode cX8_power 8 = .ok (.if_icmp .ge 20, 3) := by decide +kernel
theorem dX8_power_11 : decode cX8_power 11 = .ok (.iload 5, 2) := by decide +kernel
theorem dX8_power_13 : decode cX8_power 13 = .ok (.bipush 8, 2) := by decide +kernel
theorem dX8_power_15 : decode cX8_power 15 = .ok (.if_icmp .ge 13, 3) := by decide +kernel
theorem dX8_power_18 : decode cX8_power 18 = .ok (.lload_n 3, 1) := by decide +kernel
theorem dX8_power_19 : decode cX8_power 19 = .ok (.lload_n 0, 1) := by decide +kernel
theorem dX8_power_20 : decode cX8_power 20 = .ok (.lmul, 1) := by decide +kernel
theorem dX8_power_21 : decode cX8_power 21 = .ok (.lstore_n 3, 1) := by decide +kernel
theorem dX8_power_22 : decode cX8_power 22 = .ok (.iinc 5 1, 3) := by decide +kernel
theorem dX8_power_25 : decode cX8_power 25 = .ok (.goto (-20), 3) := by decide +kernel
theorem dX8_power_28 : decode cX8_power 28 = .ok (.lload_n 3, 1) := by decide +kernel
theorem dX8_power_29 : decode cX8_power 29 = .ok (.lreturn, 1) := by decide +kernel
theorem dX8_moved_0 : decode cX8_moved 0 = .ok (.iload_n 1, 1) := by decide +kernel
theorem dX8_moved_1 : decode cX8_moved 1 = .ok (.iconst 1, 1) := by decide +kernel
theorem dX8_moved_2 : decode cX8_moved 2 = .ok (.if_icmp .ne 12, 3) := by decide +kernel
theorem dX8_moved_5 : decode cX8_moved 5 = .ok (.iload_n 0, 1) := by decide +kernel
theorem dX8_moved_6 : decode cX8_moved 6 = .ok (.iconst 1, 1) := by decide +kernel
theorem dX8_moved_7 : decode cX8_moved 7 = .ok (.iadd, 1) := by decide +kernel
theorem dX8_moved_8 : decode cX8_moved 8 = .ok (.bipush 9, 2) := by decide +kernel
theorem dX8_moved_10 : decode cX8_moved 10 = .ok (.invokestatic 205, 3) := by decide +kernel
theorem dX8_moved_13 : decode cX8_moved 13 = .ok (.ireturn, 1) := by decide +kernel
theorem dX8_moved_14 : decode cX8_moved 14 = .ok (.iload_n 1, 1) := by decide +kernel
theorem dX8_moved_15 : decode cX8_moved 15 = .ok (.iconst 2, 1) := by decide +kernel
theorem dX8_moved_16 : decode cX8_moved 16 = .ok (.if_icmp .ne 13, 3) := by decide +kernel
theorem dX8_moved_19 : decode cX8_moved 19 = .ok (.iload_n 0, 1) := by decide +kernel
theorem dX8_moved_20 : decode cX8_moved 20 = .ok (.iconst 1, 1) := by decide +kernel
theorem dX8_moved_21 : decode cX8_moved 21 = .ok (.isub, 1) := by decide +kernel
theorem dX8_moved_22 : decode cX8_moved 22 = .ok (.iconst 0, 1) := by decide +kernel
theorem dX8_moved_23 : decode cX8_moved 23 = .ok (.invokestatic 199, 3) := by decide +kernel
theorem dX8_moved_26 : decode cX8_moved 26 = .ok (.goto 4, 3) := by decide +kernel
theorem dX8_moved_29 : decode cX8_moved 29 = .ok (.iload_n 0, 1) := by decide +kernel
theorem dX8_moved_30 : decode cX8_moved 30 = .ok (.ireturn, 1) := by decide +kernel
theorem dX9_init_0 : decode cX9_init 0 = .ok (.aload_n 0, 1) := by decide +kernel
theorem dX9_init_1 : decode cX9_init 1 = .ok (.invokespecial 1, 3) := by decide +kernel
theorem dX9_init_4 : decode cX9_init 4 = .ok (.aload_n 0, 1) := by decide +kernel
theorem dX9_init_5 : decode cX9_init 5 = .ok (.bipush 11, 2) := by decide +kernel
theorem dX9_init_7 : decode cX9_init 7 = .ok (.newarray .int, 2) := by decide +kernel
theorem dX9_init_9 : decode cX9_init 9 = .ok (.putfield 7, 3) := by decide +kernel
theorem dX9_init_12 : decode cX9_init 12 = .ok (.aload_n 0, 1) := by decide +kernel
theorem dX9_init_13 : decode cX9_init 13 = .ok (.bipush 7, 2) := by decide +kernel
theorem dX9_init_15 : decode cX9_init 15 = .ok (.newarray .int, 2) := by decide +kernel
theorem dX9_init_17 : decode cX9_init 17 = .ok (.putfield 13, 3) := by decide +kernel
theorem dX9_init_20 : decode cX9_init 20 = .ok (.aload_n 0, 1) := by decide +kernel
theorem dX9_init_21 : decode cX9_init 21 = .ok (.bipush 11, 2) := by decide +kernel
theorem dX9_init_23 : decode cX9_init 23 = .ok (.newarray .int, 2) := by decide +kernel
theorem dX9_init_25 : decode cX9_init 25 = .ok (.putfield 16, 3) := by decide +kernel
theorem dX9_init_28 : decode cX9_init 28 = .ok (.aload_n 0, 1) := by decide +kernel
theorem dX9_init_29 : decode cX9_init 29 = .ok (.bipush 33, 2) := by decide +kernel
theorem dX9_init_31 : decode cX9_init 31 = .ok (.newarray .long, 2) := by decide +kernel
theorem dX9_init_33 : decode cX9_init 33 = .ok (.putfield 19, 3) := by decide +kernel
theorem dX9_init_36 : decode cX9_init 36 = .ok (.aload_n 0, 1) := by decide +kernel
theorem dX9_init_37 : decode cX9_init 37 = .ok (.bipush 9, 2) := by decide +kernel
theorem dX9_init_39 : decode cX9_init 39 = .ok (.newarray .int, 2) := by decide +kernel
theorem dX9_init_41 : decode cX9_init 41 = .ok (.putfield 23, 3) := by decide +kernel
theorem dX9_init_44 : decode cX9_init 44 = .ok (.aload_n 0, 1) := by decide +kernel
theorem dX9_init_45 : decode cX9_init 45 = .ok (.bipush 40, 2) := by decide +kernel
theorem dX9_init_47 : decode cX9_init 47 = .ok (.newarray .int, 2) := by decide +kernel
theorem dX9_init_49 : decode cX9_init 49 = .ok (.putfield 26, 3) := by decide +kernel
theorem dX9_init_52 : decode cX9_init 52 = .ok (.aload_n 0, 1) := by decide +kernel
theorem dX9_init_53 : decode cX9_init 53 = .ok (.bipush 10, 2) := by decide +kernel
theorem dX9_init_55 : decode cX9_init 55 = .ok (.newarray .long, 2) := by decide +kernel
theorem dX9_init_57 : decode cX9_init 57 = .ok (.putfield 29, 3) := by decide +kernel
theorem dX9_init_60 : decode cX9_init 60 = .ok (.aload_n 0, 1) := by decide +kernel
theorem dX9_init_61 : decode cX9_init 61 = .ok (.bipush 99, 2) := by decide +kernel
theorem dX9_init_63 : decode cX9_init 63 = .ok (.newarray .long, 2) := by decide +kernel
theorem dX9_init_65 : decode cX9_init 65 = .ok (.putfield 32, 3) := by decide +kernel
theorem dX9_init_68 : decode cX9_init 68 = .ok (.aload_n 0, 1) := by decide +kernel
theorem dX9_init_69 : decode cX9_init 69 = .ok (.bipush 81, 2) := by decide +kernel
theorem dX9_init_71 : decode cX9_init 71 = .ok (.newarray .int, 2) := by decide +kernel
theorem dX9_init_73 : decode cX9_init 73 = .ok (.putfield 35, 3) := by decide +kernel
theorem dX9_init_76 : decode cX9_init 76 = .ok (.aload_n 0, 1) := by decide +kernel
theorem dX9_init_77 : decode cX9_init 77 = .ok (.iconst 2, 1) := by decide +kernel
theorem dX9_init_78 : decode cX9_init 78 = .ok (.newarray .boolean, 2) := by decide +kernel
theorem dX9_init_80 : decode cX9_init 80 = .ok (.putfield 38, 3) := by decide +kernel
theorem dX9_init_83 : decode cX9_init 83 = .ok (.aload_n 0, 1) := by decide +kernel
theorem dX9_init_84 : decode cX9_init 84 = .ok (.bipush 22, 2) := by decide +kernel
theorem dX9_init_86 : decode cX9_init 86 = .ok (.newarray .long, 2) := by decide +kernel
theorem dX9_init_88 : decode cX9_init 88 = .ok (.putfield 42, 3) := by decide +kernel
theorem dX9_init_91 : decode cX9_init 91 = .ok (.aload_n 0, 1) := by decide +kernel
theorem dX9_init_92 : decode cX9_init 92 = .ok (.bipush 18, 2) := by decide +kernel
theorem dX9_init_94 : decode cX9_init 94 = .ok (.newarray .int, 2) := by decide +kernel
theorem dX9_init_96 : decode cX9_init 96 = .ok (.putfield 45, 3) := by decide +kernel
theorem dX9_init_99 : decode cX9_init 99 = .ok (.aload_n 0, 1) := by decide +kernel
theorem dX9_init_100 : decode cX9_init 100 = .ok (.iconst 1, 1) := by decide +kernel
theorem dX9_init_101 : decode cX9_init 101 = .ok (.putfield 48, 3) := by decide +kernel
theorem dX9_init_104 : decode cX9_init 104 = .ok (.return_, 1) := by decide +kernel
theorem dX9_in_0 : decode cX9_in 0 = .ok (.lload_n 0, 1) := by decide +kernel
theorem dX9_in_1 : decode cX9_in 1 = .ok (.lload_n 2, 1) := by decide +kernel
theorem dX9_in_2 : decode cX9_in 2 = .ok (.lcmp, 1) := by decide +kernel
theorem dX9_in_3 : decode cX9_in 3 = .ok (.ifCond .lt 14, 3) := by decide +kernel
theorem dX9_in_6 : decode cX9_in 6 = .ok (.lload_n 0, 1) := by decide +kernel
theorem dX9_in_7 : decode cX9_in 7 = .ok (.lload 4, 2) := by decide +kernel
theorem dX9_in_9 : decode cX9_in 9 = .ok (.lcmp, 1) := by decide +kernel
theorem dX9_in_10 : decode cX9_in 10 = .ok (.ifCond .gt 7, 3) := by decide +kernel
theorem dX9_in_13 : decode cX9_in 13 = .ok (.iconst 1, 1) := by decide +kernel
theorem dX9_in_14 : decode cX9_in 14 = .ok (.goto 4, 3) := by decide +kernel
theorem dX9_in_17 : decode cX9_in 17 = .ok (.iconst 0, 1) := by decide +kernel
theorem dX9_in_18 : decode cX9_in 18 = .ok (.ireturn, 1) := by decide +kernel
set_option maxRecDepth 20000 in
theorem ggX9_write_X9_in : GoodIn wsX9_write wsX9_in := goodIn_r _ [7] (by decide +kernel) (by decide +kernel)
set_option maxRecDepth 20000 in
theorem gX9_write_X9_in : GoodIn wsX9_write (va_wsS RX9 54 yX9_in wsX9_in) := goodIn_app (goodIn_of _ (by decide +kernel)) ggX9_write_X9_in
theorem dX9_write_0 : decode cX9_write 0 = .ok (.iload_n 1, 1) := by decide +kernel
theorem dX9_write_1 : decode cX9_write 1 = .ok (.i2l, 1) := by decide +kernel
theorem dX9_write_2 : decode cX9_write 2 = .ok (.lconst 0, 1) := by decide +kernel
theorem dX9_write_3 : decode cX9_write 3 = .ok (.ldc2_w 52, 3) := by decide +kernel
theorem dX9_write_6 : decode cX9_write 6 = .ok (.invokestatic 54, 3) := by decide +kernel
theorem dX9_write_9 : decode cX9_write 9 = .ok (.ifCond .ne 6, 3) := by decide +kernel
theorem dX9_write_12 : decode cX9_write 12 = .ok (.bipush (-2), 2) := by decide +kernel
theorem dX9_write_14 : decode cX9_write 14 = .ok (.ireturn, 1) := by decide +kernel
theorem dX9_write_15 : decode cX9_write 15 = .ok (.aload_n 0, 1) := by decide +kernel
theorem dX9_write_16 : decode cX9_write 16 = .ok (.getfield 58, 3) := by decide +kernel
theorem dX9_write_19 : decode cX9_write 19 = .ok (.bipush 40, 2) := by decide +kernel
theorem dX9_write_21 : decode cX9_write 21 = .ok (.if_icmp .ne 6, 3) := by decide +kernel
theorem dX9_write_24 : decode cX9_write 24 = .ok (.bipush (-4), 2) := by decide +kernel
theorem dX9_write_26 : decode cX9_write 26 = .ok (.ireturn, 1) := by decide +kernel
theorem dX9_write_27 : decode cX9_write 27 = .ok (.aload_n 0, 1) := by decide +kernel
theorem dX9_write_28 : decode cX9_write 28 = .ok (.getfield 26, 3) := by decide +kernel
theorem dX9_write_31 : decode cX9_write 31 = .ok (.aload_n 0, 1) := by decide +kernel
theorem dX9_write_32 : decode cX9_write 32 = .ok (.getfield 58, 3) := by decide +kernel
theorem dX9_write_35 : decode cX9_write 35 = .ok (.iload_n 1, 1) := by decide +kernel
theorem dX9_write_36 : decode cX9_write 36 = .ok (.iastore, 1) := by decide +kernel
theorem dX9_write_37 : decode cX9_write 37 = .ok (.aload_n 0, 1) := by decide +kernel
theorem dX9_write_38 : decode cX9_write 38 = .ok (.dup, 1) := by decide +kernel
theorem dX9_write_39 : decode cX9_write 39 = .ok (.getfield 58, 3) := by decide +kernel
theorem dX9_write_42 : decode cX9_write 42 = .ok (.iconst 1, 1) := by decide +kernel
theorem dX9_write_43 : decode cX9_write 43 = .ok (.iadd, 1) := by decide +kernel
theorem dX9_write_44 : decode cX9_write 44 = .ok (.putfield 58, 3) := by decide +kernel
theorem dX9_write_47 : decode cX9_write 47 = .ok (.aload_n 0, 1) := by decide +kernel
theorem dX9_write_48 : decode cX9_write 48 = .ok (.getfield 58, 3) := by decide +kernel
theorem dX9_write_51 : decode cX9_write 51 = .ok (.ireturn, 1) := by decide +kernel
theorem dX9_wipe_0 : decode cX9_wipe 0 = .ok (.aload_n 0, 1) := by decide +kernel
theorem dX9_wipe_1 : decode cX9_wipe 1 = .ok (.getfield 58, 3) := by decide +kernel
theorem dX9_wipe_4 : decode cX9_wipe 4 = .ok (.istore_n 1, 1) := by decide +kernel
theorem dX9_wipe_5 : decode cX9_wipe 5 = .ok (.aload_n 0, 1) := by decide +kernel
theorem dX9_wipe_6 : decode cX9_wipe 6 = .ok (.iconst 0, 1) := by decide +kernel
theorem dX9_wipe_7 : decode cX9_wipe 7 = .ok (.putfield 58, 3) := by decide +kernel
theorem dX9_wipe_10 : decode cX9_wipe 10 = .ok (.iload_n 1, 1) := by decide +kernel
theorem dX9_wipe_11 : decode cX9_wipe 11 = .ok (.ireturn, 1) := by decide +kernel
set_option maxRecDepth 20000 in
theorem ggX9_figure_X9_in : GoodIn wsX9_figure wsX9_in := goodIn_r _ [8] (by decide +kernel) (by decide +kernel)
set_option maxRecDepth 20000 in
theorem gX9_figure_X9_in : GoodIn wsX9_figure (va_wsS RX9 54 yX9_in wsX9_in) := goodIn_app (goodIn_of _ (by decide +kernel)) ggX9_figure_X9_in
theorem dX9_figure_0 : decode cX9_figure 0 = .ok (.aload_n 0, 1) := by decide +kernel
theorem dX9_figure_1 : decode cX9_figure 1 = .ok (.getfield 61, 3) := by decide +kernel
theorem dX9_figure_4 : decode cX9_figure 4 = .ok (.bipush (-9), 2) := by decide +kernel
theorem dX9_figure_6 : decode cX9_figure 6 = .ok (.if_icmp .ne 29, 3) := by decide +kernel
theorem dX9_figure_9 : decode cX9_figure 9 = .ok (.aload_n 0, 1) := by decide +kernel
theorem dX9_figure_10 : decode cX9_figure 10 = .ok (.getfield 64, 3) := by decide +kernel
theorem dX9_figure_13 : decode cX9_figure 13 = .ok (.aload_n 0, 1) := by decide +kernel
theorem dX9_figure_14 : decode cX9_figure 14 = .ok (.getfield 58, 3) := by decide +kernel
theorem dX9_figure_17 : decode cX9_figure 17 = .ok (.if_icmp .ge 18, 3) := by decide +kernel
theorem dX9_figure_20 : decode cX9_figure 20 = .ok (.aload_n 0, 1) := by decide +kernel
theorem dX9_figure_21 : decode cX9_figure 21 = .ok (.getfield 26, 3) := by decide +kernel
theorem dX9_figure_24 : decode cX9_figure 24 = .ok (.aload_n 0, 1) := by decide +kernel
theorem dX9_figure_25 : decode cX9_figure 25 = .ok (.getfield 64, 3) := by decide +kernel
theorem dX9_figure_28 : decode cX9_figure 28 = .ok (.iaload, 1) := by decide +kernel
theorem dX9_figure_29 : decode cX9_figure 29 = .ok (.bipush 48, 2) := by decide +kernel
theorem dX9_figure_31 : decode cX9_figure 31 = .ok (.isub, 1) := by decide +kernel
theorem dX9_figure_32 : decode cX9_figure 32 = .ok (.goto 5, 3) := by decide +kernel
theorem dX9_figure_35 : decode cX9_figure 35 = .ok (.bipush (-9), 2) := by decide +kernel
theorem dX9_figure_37 : decode cX9_figure 37 = .ok (.istore_n 3, 1) := by decide +kernel
theorem dX9_figure_38 : decode cX9_figure 38 = .ok (.iload_n 3, 1) := by decide +kernel
theorem dX9_figure_39 : decode cX9_figure 39 = .ok (.i2l, 1) := by decide +kernel
theorem dX9_figure_40 : decode cX9_figure 40 = .ok (.iload_n 1, 1) := by decide +kernel
theorem dX9_figure_41 : decode cX9_figure 41 = .ok (.i2l, 1) := by decide +kernel
theorem dX9_figure_42 : decode cX9_figure 42 = .ok (.iload_n 2, 1) := by decide +kernel
theorem dX9_figure_43 : decode cX9_figure 43 = .ok (.i2l, 1) := by decide +kernel
theorem dX9_figure_44 : decode cX9_figure 44 = .ok (.invokestatic 54, 3) := by decide +kernel
theorem dX9_figure_47 : decode cX9_figure 47 = .ok (.ifCond .ne 29, 3) := by decide +kernel
theorem dX9_figure_50 : decode cX9_figure 50 = .ok (.aload_n 0, 1) := by decide +kernel
theorem dX9_figure_51 : decode cX9_figure 51 = .ok (.aload_n 0, 1) := by decide +kernel
theorem dX9_figure_52 : decode cX9_figure 52 = .ok (.getfield 61, 3) := by decide +kernel
theorem dX9_figure_55 : decode cX9_figure 55 = .ok (.bipush (-9), 2) := by decide +kernel
theorem dX9_figure_57 : decode cX9_figure 57 = .ok (.if_icmp .ne 10, 3) := by decide +kernel
theorem dX9_figure_60 : decode cX9_figure 60 = .ok (.aload_n 0, 1) := by decide +kernel
theorem dX9_figure_61 : decode cX9_figure 61 = .ok (.getfield 64, 3) := by decide +kernel
theorem dX9_figure_64 : decode cX9_figure 64 = .ok (.goto 7, 3) := by decide +kernel
theorem dX9_figure_67 : decode cX9_figure 67 = .ok (.aload_n 0, 1) := by decide +kernel
theorem dX9_figure_68 : decode cX9_figure 68 = .ok (.getfield 61, 3) := by decide +kernel
theorem dX9_figure_71 : decode cX9_figure 71 = .ok (.putfield 61, 3) := by decide +kernel
theorem dX9_figure_74 : decode cX9_figure 74 = .ok (.iload_n 1, 1) := by decide +kernel
theorem dX9_figure_75 : decode cX9_figure 75 = .ok (.ireturn, 1) := by decide +kernel
theorem dX9_figure_76 : decode cX9_figure 76 = .ok (.aload_n 0, 1) := by decide +kernel
theorem dX9_figure_77 : decode cX9_figure 77 = .ok (.dup, 1) := by decide +kernel
theorem dX9_figure_78 : decode cX9_figure 78 = .ok (.getfield 64, 3) := by decide +kernel
theorem dX9_figure_81 : decode cX9_figure 81 = .ok (.iconst 1, 1) := by decide +kernel
theorem dX9_figure_82 : decode cX9_figure 82 = .ok (.iadd, 1) := by decide +kernel
theorem dX9_figure_83 : decode cX9_figure 83 = .ok (.putfield 64, 3) := by decide +kernel
theorem dX9_figure_86 : decode cX9_figure 86 = .ok (.iload_n 3, 1) := by decide +kernel
theorem dX9_figure_87 : decode cX9_figure 87 = .ok (.ireturn, 1) := by decide +kernel
set_option maxRecDepth 20000 in
theorem ggX9_freshCell_X9_in : GoodIn wsX9_freshCell wsX9_in := goodIn_r _ [10] (by decide +kernel) (by decide +kernel)
set_option maxRecDepth 20000 in
theorem gX9_freshCell_X9_in : GoodIn wsX9_freshCell (va_wsS RX9 54 yX9_in wsX9_in) := goodIn_app (goodIn_of _ (by decide +kernel)) ggX9_freshCell_X9_in
theorem dX9_freshCell_0 : decode cX9_freshCell 0 = .ok (.aload_n 0, 1) := by decide +kernel
theorem dX9_freshCell_1 : decode cX9_freshCell 1 = .ok (.getfield 61, 3) := by decide +kernel
theorem dX9_freshCell_4 : decode cX9_freshCell 4 = .ok (.bipush (-9), 2) := by decide +kernel
theorem dX9_freshCell_6 : decode cX9_freshCell 6 = .ok (.if_icmp .ne 29, 3) := by decide +kernel
theorem dX9_freshCell_9 : decode cX9_freshCell 9 = .ok (.aload_n 0, 1) := by decide +kernel
theorem dX9_freshCell_10 : decode cX9_freshCell 10 = .ok (.getfield 64, 3) := by decide +kernel
theorem dX9_freshCell_13 : decode cX9_freshCell 13 = .ok (.aload_n 0, 1) := by decide +kernel
theorem dX9_freshCell_14 : decode cX9_freshCell 14 = .ok (.getfield 58, 3) := by decide +kernel
theorem dX9_freshCell_17 : decode cX9_freshCell 17 = .ok (.if_icmp .ge 18, 3) := by decide +kernel
theorem dX9_freshCell_20 : decode cX9_freshCell 20 = .ok (.aload_n 0, 1) := by decide +kernel
theorem dX9_freshCell_21 : decode cX9_freshCell 21 = .ok (.getfield 26, 3) := by decide +kernel
theorem dX9_freshCell_24 : decode cX9_freshCell 24 = .ok (.aload_n 0, 1) := by decide +kernel
theorem dX9_freshCell_25 : decode cX9_freshCell 25 = .ok (.getfield 64, 3) := by decide +kernel
theorem dX9_freshCell_28 : decode cX9_freshCell 28 = .ok (.iaload, 1) := by decide +kernel
theorem dX9_freshCell_29 : decode cX9_freshCell 29 = .ok (.bipush 48, 2) := by decide +kernel
theorem dX9_freshCell_31 : decode cX9_freshCell 31 = .ok (.isub, 1) := by decide +kernel
theorem dX9_freshCell_32 : decode cX9_freshCell 32 = .ok (.goto 5, 3) := by decide +kernel
theorem dX9_freshCell_35 : decode cX9_freshCell 35 = .ok (.bipush (-9), 2) := by decide +kernel
theorem dX9_freshCell_37 : decode cX9_freshCell 37 = .ok (.istore_n 1, 1) := by decide +kernel
theorem dX9_freshCell_38 : decode cX9_freshCell 38 = .ok (.iload_n 1, 1) := by decide +kernel
theorem dX9_freshCell_39 : decode cX9_freshCell 39 = .ok (.i2l, 1) := by decide +kernel
theorem dX9_freshCell_40 : decode cX9_freshCell 40 = .ok (.lconst 0, 1) := by decide +kernel
theorem dX9_freshCell_41 : decode cX9_freshCell 41 = .ok (.ldc2_w 67, 3) := by decide +kernel
theorem dX9_freshCell_44 : decode cX9_freshCell 44 = .ok (.invokestatic 54, 3) := by decide +kernel
theorem dX9_freshCell_47 : decode cX9_freshCell 47 = .ok (.ifCond .eq 12, 3) := by decide +kernel
theorem dX9_freshCell_50 : decode cX9_freshCell 50 = .ok (.aload_n 0, 1) := by decide +kernel
theorem dX9_freshCell_51 : decode cX9_freshCell 51 = .ok (.getfield 16, 3) := by decide +kernel
theorem dX9_freshCell_54 : decode cX9_freshCell 54 = .ok (.iload_n 1, 1) := by decide +kernel
theorem dX9_freshCell_55 : decode cX9_freshCell 55 = .ok (.iaload, 1) := by decide +kernel
theorem dX9_freshCell_56 : decode cX9_freshCell 56 = .ok (.ifCond .le 29, 3) := by decide +kernel
theorem dX9_freshCell_59 : decode cX9_freshCell 59 = .ok (.aload_n 0, 1) := by decide +kernel
theorem dX9_freshCell_60 : decode cX9_freshCell 60 = .ok (.aload_n 0, 1) := by decide +kernel
theorem dX9_freshCell_61 : decode cX9_freshCell 61 = .ok (.getfield 61, 3) := by decide +kernel
theorem dX9_freshCell_64 : decode cX9_freshCell 64 = .ok (.bipush (-9), 2) := by decide +kernel
theorem dX9_freshCell_66 : decode cX9_freshCell 66 = .ok (.if_icmp .ne 10, 3) := by decide +kernel
theorem dX9_freshCell_69 : decode cX9_freshCell 69 = .ok (.aload_n 0, 1) := by decide +kernel
theorem dX9_freshCell_70 : decode cX9_freshCell 70 = .ok (.getfield 64, 3) := by decide +kernel
theorem dX9_freshCell_73 : decode cX9_freshCell 73 = .ok (.goto 7, 3) := by decide +kernel
theorem dX9_freshCell_76 : decode cX9_freshCell 76 = .ok (.aload_n 0, 1) := by decide +kernel
theorem dX9_freshCell_77 : decode cX9_freshCell 77 = .ok (.getfield 61, 3) := by decide +kernel
theorem dX9_freshCell_80 : decode cX9_freshCell 80 = .ok (.putfield 61, 3) := by decide +kernel
theorem dX9_freshCell_83 : decode cX9_freshCell 83 = .ok (.iconst 0, 1) := by decide +kernel
theorem dX9_freshCell_84 : decode cX9_freshCell 84 = .ok (.ireturn, 1) := by decide +kernel
theorem dX9_freshCell_85 : decode cX9_freshCell 85 = .ok (.aload_n 0, 1) := by decide +kernel
theorem dX9_freshCell_86 : decode cX9_freshCell 86 = .ok (.dup, 1) := by decide +kernel
theorem dX9_freshCell_87 : decode cX9_freshCell 87 = .ok (.getfield 64, 3) := by decide +kernel
theorem dX9_freshCell_90 : decode cX9_freshCell 90 = .ok (.iconst 1, 1) := by decide +kernel
theorem dX9_freshCell_91 : decode cX9_freshCell 91 = .ok (.iadd, 1) := by decide +kernel
theorem dX9_freshCell_92 : decode cX9_freshCell 92 = .ok (.putfield 64, 3) := by decide +kernel
theorem dX9_freshCell_95 : decode cX9_freshCell 95 = .ok (.iload_n 1, 1) := by decide +kernel
theorem dX9_freshCell_96 : decode cX9_freshCell 96 = .ok (.ireturn, 1) := by decide +kernel
theorem dX9_isCellLeft_0 : decode cX9_isCellLeft 0 = .ok (.iconst 0, 1) := by decide +kernel
theorem dX9_isCellLeft_1 : decode cX9_isCellLeft 1 = .ok (.istore_n 1, 1) := by decide +kernel
theorem dX9_isCellLeft_2 : decode cX9_isCellLeft 2 = .ok (.iconst 0, 1) := by decide +kernel
theorem dX9_isCellLeft_3 : decode cX9_isCellLeft 3 = .ok (.istore_n 2, 1) := by decide +kernel
theorem dX9_isCellLeft_4 : decode cX9_isCellLeft 4 = .ok (.iload_n 2, 1) := by decide +kernel
theorem dX9_isCellLeft_5 : decode cX9_isCellLeft 5 = .ok (.bipush 10, 2) := by decide +kernel
theorem dX9_isCellLeft_7 : decode cX9_isCellLeft 7 = .ok (.if_icmp .ge 28, 3) := by decide +kernel
theorem dX9_isCellLeft_10 : decode cX9_isCellLeft 10 = .ok (.iload_n 1, 1) := by decide +kernel
theorem dX9_isCellLeft_11 : decode cX9_isCellLeft 11 = .ok (.ifCond .ne 12, 3) := by decide +kernel
theorem dX9_isCellLeft_14 : decode cX9_isCellLeft 14 = .ok (.aload_n 0, 1) := by decide +kernel
theorem dX9_isCellLeft_15 : decode cX9_isCellLeft 15 = .ok (.getfield 16, 3) := by decide +kernel
theorem dX9_isCellLeft_18 : decode cX9_isCellLeft 18 = .ok (.iload_n 2, 1) := by decide +kernel
theorem dX9_isCellLeft_19 : decode cX9_isCellLeft 19 = .ok (.iaload, 1) := by decide +kernel
theorem dX9_isCellLeft_20 : decode cX9_isCellLeft 20 = .ok (.ifCond .ne 7, 3) := by decide +kernel
theorem dX9_isCellLeft_23 : decode cX9_isCellLeft 23 = .ok (.iconst 1, 1) := by decide +kernel
theorem dX9_isCellLeft_24 : decode cX9_isCellLeft 24 = .ok (.goto 4, 3) := by decide +kernel
theorem dX9_isCellLeft_27 : decode cX9_isCellLeft 27 = .ok (.iconst 0, 1) := by decide +kernel
theorem dX9_isCellLeft_28 : decode cX9_isCellLeft 28 = .ok (.istore_n 1, 1) := by decide +kernel
theorem dX9_isCellLeft_29 : decode cX9_isCellLeft 29 = .ok (.iinc 2 1, 3) := by decide +kernel
theorem dX9_isCellLeft_32 : decode cX9_isCellLeft 32 = .ok (.goto (-28), 3) := by decide +kernel
theorem dX9_isCellLeft_35 : decode cX9_isCellLeft 35 = .ok (.iload_n 1, 1) := by decide +kernel
theorem dX9_isCellLeft_36 : decode cX9_isCellLeft 36 = .ok (.ireturn, 1) := by decide +kernel
set_option maxRecDepth 20000 in
theorem ggX9_readText_X9_figure : GoodIn wsX9_readText wsX9_figure := goodIn_r _ [12, 2, 1, 5, 6, 13, 14, 11, 15, 30, 31, 32, 33, 34, 35, 36, 37, 38, 39, 40, 41, 42, 43, 44, 45, 46, 47, 48, 49, 50, 51, 52, 53, 54, 55, 56, 57, 58] (by decide +kernel) (by decide +kernel)
set_option maxRecDepth 20000 in
theorem gX9_readText_X9_figure : GoodIn wsX9_readText (wsV RX9 72 RX9 yX9_figure wsX9_figure) := goodIn_app (goodIn_of _ (by decide +kernel)) ggX9_readText_X9_figure
set_option maxRecDepth 20000 in
theorem ggX9_readText_X9_readPart : GoodIn wsX9_readText wsX9_readPart := goodIn_r _ [19, 1, 4, 2, 3, 20, 21, 22, 23, 11, 24, 25, 26, 27, 28, 5, 6, 29, 13, 14, 15, 8, 9, 10, 12, 30, 31, 32, 33, 34, 35, 36, 37, 38, 39, 40, 41, 42, 43, 44, 45, 46, 47, 48, 49, 50, 51, 52, 53, 54, 55, 56, 57, 58] (by decide +kernel) (by decide +kernel)
set_option maxRecDepth 20000 in
theorem gX9_readText_X9_readPart : GoodIn wsX9_readText (wsV RX9 76 RX9 yX9_readPart wsX9_readPart) := goodIn_app (goodIn_of _ (by decide +kernel)) ggX9_readText_X9_readPart
theorem dX9_readText_0 : decode cX9_readText 0 = .ok (.aload_n 0, 1) := by decide +kernel
theorem dX9_readText_1 : decode cX9_readText 1 = .ok (.iconst 0, 1) := by decide +kernel
theorem dX9_readText_2 : decode cX9_readText 2 = .ok (.putfield 64, 3) := by decide +kernel
theorem dX9_readText_5 : decode cX9_readText 5 = .ok (.aload_n 0, 1) := by decide +kernel
theorem dX9_readText_6 : decode cX9_readText 6 = .ok (.bipush (-9), 2) := by decide +kernel
theorem dX9_readText_8 : decode cX9_readText 8 = .ok (.putfield 61, 3) := by decide +kernel
theorem dX9_readText_11 : decode cX9_readText 11 = .ok (.aload_n 0, 1) := by decide +kernel
theorem dX9_readText_12 : decode cX9_readText 12 = .ok (.bipush (-9), 2) := by decide +kernel
theorem dX9_readText_14 : decode cX9_readText 14 = .ok (.putfield 69, 3) := by decide +kernel
theorem dX9_readText_17 : decode cX9_readText 17 = .ok (.iconst 0, 1) := by decide +kernel
theorem dX9_readText_18 : decode cX9_readText 18 = .ok (.istore_n 1, 1) := by decide +kernel
theorem dX9_readText_19 : decode cX9_readText 19 = .ok (.iload_n 1, 1) := by decide +kernel
theorem dX9_readText_20 : decode cX9_readText 20 = .ok (.bipush 11, 2) := by decide +kernel
theorem dX9_readText_22 : decode cX9_readText 22 = .ok (.if_icmp .ge 16, 3) := by decide +kernel
theorem dX9_readText_25 : decode cX9_readText 25 = .ok (.aload_n 0, 1) := by decide +kernel
theorem dX9_readText_26 : decode cX9_readText 26 = .ok (.getfield 16, 3) := by decide +kernel
theorem dX9_readText_29 : decode cX9_readText 29 = .ok (.iload_n 1, 1) := by decide +kernel
theorem dX9_readText_30 : decode cX9_readText 30 = .ok (.iconst 0, 1) := by decide +kernel
theorem dX9_readText_31 : decode cX9_readText 31 = .ok (.iastore, 1) := by decide +kernel
theorem dX9_readText_32 : decode cX9_readText 32 = .ok (.iinc 1 1, 3) := by decide +kernel
theorem dX9_readText_35 : decode cX9_readText 35 = .ok (.goto (-16), 3) := by decide +kernel
theorem dX9_readText_38 : decode cX9_readText 38 = .ok (.aload_n 0, 1) := by decide +kernel
theorem dX9_readText_39 : decode cX9_readText 39 = .ok (.getfield 58, 3) := by decide +kernel
theorem dX9_readText_42 : decode cX9_readText 42 = .ok (.ifCond .eq 14, 3) := by decide +kernel
theorem dX9_readText_45 : decode cX9_readText 45 = .ok (.aload_n 0, 1) := by decide +kernel
theorem dX9_readText_46 : decode cX9_readText 46 = .ok (.getfield 26, 3) := by decide +kernel
theorem dX9_readText_49 : decode cX9_readText 49 = .ok (.iconst 0, 1) := by decide +kernel
theorem dX9_readText_50 : decode cX9_readText 50 = .ok (.iaload, 1) := by decide +kernel
theorem dX9_readText_51 : decode cX9_readText 51 = .ok (.bipush 83, 2) := by decide +kernel
theorem dX9_readText_53 : decode cX9_readText 53 = .ok (.if_icmp .eq 5, 3) := by decide +kernel
theorem dX9_readText_56 : decode cX9_readText 56 = .ok (.iconst 0, 1) := by decide +kernel
theorem dX9_readText_57 : decode cX9_readText 57 = .ok (.ireturn, 1) := by decide +kernel
theorem dX9_readText_58 : decode cX9_readText 58 = .ok (.aload_n 0, 1) := by decide +kernel
theorem dX9_readText_59 : decode cX9_readText 59 = .ok (.iconst 1, 1) := by decide +kernel
theorem dX9_readText_60 : decode cX9_readText 60 = .ok (.putfield 64, 3) := by decide +kernel
theorem dX9_readText_63 : decode cX9_readText 63 = .ok (.aload_n 0, 1) := by decide +kernel
theorem dX9_readText_64 : decode cX9_readText 64 = .ok (.getfield 13, 3) := by decide +kernel
theorem dX9_readText_67 : decode cX9_readText 67 = .ok (.iconst 1, 1) := by decide +kernel
theorem dX9_readText_68 : decode cX9_readText 68 = .ok (.aload_n 0, 1) := by decide +kernel
theorem dX9_readText_69 : decode cX9_readText 69 = .ok (.iconst 0, 1) := by decide +kernel
theorem dX9_readText_70 : decode cX9_readText 70 = .ok (.bipush 9, 2) := by decide +kernel
theorem dX9_readText_72 : decode cX9_readText 72 = .ok (.invokevirtual 72, 3) := by decide +kernel
theorem dX9_readText_75 : decode cX9_readText 75 = .ok (.iastore, 1) := by decide +kernel
theorem dX9_readText_76 : decode cX9_readText 76 = .ok (.aload_n 0, 1) := by decide +kernel
theorem dX9_readText_77 : decode cX9_readText 77 = .ok (.getfield 13, 3) := by decide +kernel
theorem dX9_readText_80 : decode cX9_readText 80 = .ok (.iconst 2, 1) := by decide +kernel
theorem dX9_readText_81 : decode cX9_readText 81 = .ok (.aload_n 0, 1) := by decide +kernel
theorem dX9_readText_82 : decode cX9_readText 82 = .ok (.iconst 0, 1) := by decide +kernel
theorem dX9_readText_83 : decode cX9_readText 83 = .ok (.aload_n 0, 1) := by decide +kernel
theorem dX9_readText_84 : decode cX9_readText 84 = .ok (.getfield 13, 3) := by decide +kernel
theorem dX9_readText_87 : decode cX9_readText 87 = .ok (.iconst 1, 1) := by decide +kernel
theorem dX9_readText_88 : decode cX9_readText 88 = .ok (.iaload, 1) := by decide +kernel
theorem dX9_readText_89 : decode cX9_readText 89 = .ok (.ifCond .ne 8, 3) := by decide +kernel
theorem dX9_readText_92 : decode cX9_readText 92 = .ok (.bipush 9, 2) := by decide +kernel
theorem dX9_readText_94 : decode cX9_readText 94 = .ok (.goto 12, 3) := by decide +kernel
theorem dX9_readText_97 : decode cX9_readText 97 = .ok (.bipush 10, 2) := by decide +kernel
theorem dX9_readText_99 : decode cX9_readText 99 = .ok (.aload_n 0, 1) := by decide +kernel
theorem dX9_readText_100 : decode cX9_readText 100 = .ok (.getfield 13, 3) := by decide +kernel
theorem dX9_readText_103 : decode cX9_readText 103 = .ok (.iconst 1, 1) := by decide +kernel
theorem dX9_readText_104 : decode cX9_readText 104 = .ok (.iaload, 1) := by decide +kernel
theorem dX9_readText_105 : decode cX9_readText 105 = .ok (.isub, 1) := by decide +kernel
theorem dX9_readText_106 : decode cX9_readText 106 = .ok (.invokevirtual 72, 3) := by decide +kernel
theorem dX9_readText_109 : decode cX9_readText 109 = .ok (.iastore, 1) := by decide +kernel
theorem dX9_readText_110 : decode cX9_readText 110 = .ok (.aload_n 0, 1) := by decide +kernel
theorem dX9_readText_111 : decode cX9_readText 111 = .ok (.getfield 13, 3) := by decide +kernel
theorem dX9_readText_114 : decode cX9_readText 114 = .ok (.iconst 3, 1) := by decide +kernel
theorem dX9_readText_115 : decode cX9_readText 115 = .ok (.aload_n 0, 1) := by decide +kernel
theorem dX9_readText_116 : decode cX9_readText 116 = .ok (.iconst 0, 1) := by decide +kernel
theorem dX9_readText_117 : decode cX9_readText 117 = .ok (.bipush 9, 2) := by decide +kernel
theorem dX9_readText_119 : decode cX9_readText 119 = .ok (.invokevirtual 72, 3) := by decide +kernel
theorem dX9_readText_122 : decode cX9_readText 122 = .ok (.iastore, 1) := by decide +kernel
theorem dX9_readText_123 : decode cX9_readText 123 = .ok (.aload_n 0, 1) := by decide +kernel
theorem dX9_readText_124 : decode cX9_readText 124 = .ok (.getfield 13, 3) := by decide +kernel
theorem dX9_readText_127 : decode cX9_readText 127 = .ok (.iconst 4, 1) := by decide +kernel
theorem dX9_readText_128 : decode cX9_readText 128 = .ok (.aload_n 0, 1) := by decide +kernel
theorem dX9_readText_129 : decode cX9_readText 129 = .ok (.iconst 0, 1) := by decide +kernel
theorem dX9_readText_130 : decode cX9_readText 130 = .ok (.bipush 9, 2) := by decide +kernel
theorem dX9_readText_132 : decode cX9_readText 132 = .ok (.invokevirtual 72, 3) := by decide +kernel
theorem dX9_readText_135 : decode cX9_readText 135 = .ok (.iastore, 1) := by decide +kernel
theorem dX9_readText_136 : decode cX9_readText 136 = .ok (.aload_n 0, 1) := by decide +kernel
theorem dX9_readText_137 : decode cX9_readText 137 = .ok (.getfield 13, 3) := by decide +kernel
theorem dX9_readText_140 : decode cX9_readText 140 = .ok (.iconst 5, 1) := by decide +kernel
theorem dX9_readText_141 : decode cX9_readText 141 = .ok (.aload_n 0, 1) := by decide +kernel
theorem dX9_readText_142 : decode cX9_readText 142 = .ok (.iconst 0, 1) := by decide +kernel
theorem dX9_readText_143 : decode cX9_readText 143 = .ok (.bipush 9, 2) := by decide +kernel
theorem dX9_readText_145 : decode cX9_readText 145 = .ok (.invokevirtual 72, 3) := by decide +kernel
theorem dX9_readText_148 : decode cX9_readText 148 = .ok (.iastore, 1) := by decide +kernel
theorem dX9_readText_149 : decode cX9_readText 149 = .ok (.aload_n 0, 1) := by decide +kernel
theorem dX9_readText_150 : decode cX9_readText 150 = .ok (.getfield 13, 3) := by decide +kernel
theorem dX9_readText_153 : decode cX9_readText 153 = .ok (.bipush 6, 2) := by decide +kernel
theorem dX9_readText_155 : decode cX9_readText 155 = .ok (.aload_n 0, 1) := by decide +kernel
theorem dX9_readText_156 : decode cX9_readText 156 = .ok (.iconst 1, 1) := by decide +kernel
theorem dX9_readText_157 : decode cX9_readText 157 = .ok (.bipush 6, 2) := by decide +kernel
theorem dX9_readText_159 : decode cX9_readText 159 = .ok (.invokevirtual 72, 3) := by decide +kernel
theorem dX9_readText_162 : decode cX9_readText 162 = .ok (.iastore, 1) := by decide +kernel
theorem dX9_readText_163 : decode cX9_readText 163 = .ok (.aload_n 0, 1) := by decide +kernel
theorem dX9_readText_164 : decode cX9_readText 164 = .ok (.getfield 61, 3) := by decide +kernel
theorem dX9_readText_167 : decode cX9_readText 167 = .ok (.bipush (-9), 2) := by decide +kernel
theorem dX9_readText_169 : decode cX9_readText 169 = .ok (.if_icmp .ne 30, 3) := by decide +kernel
theorem dX9_readText_172 : decode cX9_readText 172 = .ok (.aload_n 0, 1) := by decide +kernel
theorem dX9_readText_173 : decode cX9_readText 173 = .ok (.getfield 64, 3) := by decide +kernel
theorem dX9_readText_176 : decode cX9_readText 176 = .ok (.aload_n 0, 1) := by decide +kernel
theorem dX9_readText_177 : decode cX9_readText 177 = .ok (.getfield 58, 3) := by decide +kernel
theorem dX9_readText_180 : decode cX9_readText 180 = .ok (.if_icmp .ge 19, 3) := by decide +kernel
theorem dX9_readText_183 : decode cX9_readText 183 = .ok (.aload_n 0, 1) := by decide +kernel
theorem dX9_readText_184 : decode cX9_readText 184 = .ok (.aload_n 0, 1) := by decide +kernel
theorem dX9_readText_185 : decode cX9_readText 185 = .ok (.getfield 26, 3) := by decide +kernel
theorem dX9_readText_188 : decode cX9_readText 188 = .ok (.aload_n 0, 1) := by decide +kernel
theorem dX9_readText_189 : decode cX9_readText 189 = .ok (.getfield 64, 3) := by decide +kernel
theorem dX9_readText_192 : decode cX9_readText 192 = .ok (.iaload, 1) := by decide +kernel
theorem dX9_readText_193 : decode cX9_readText 193 = .ok (.invokevirtual 76, 3) := by decide +kernel
theorem dX9_readText_196 : decode cX9_readText 196 = .ok (.goto (-33), 3) := by decide +kernel
theorem dX9_readText_199 : decode cX9_readText 199 = .ok (.aload_n 0, 1) := by decide +kernel
theorem dX9_readText_200 : decode cX9_readText 200 = .ok (.getfield 61, 3) := by decide +kernel
theorem dX9_readText_203 : decode cX9_readText 203 = .ok (.ireturn, 1) := by decide +kernel
set_option maxRecDepth 20000 in
theorem ggX9_readPart_X9_isCellLeft : GoodIn wsX9_readPart wsX9_isCellLeft := goodIn_r _ [10, 2, 25, 26, 27, 28, 29, 30, 31, 32, 33, 34, 35, 36, 37, 38, 39, 40, 41, 42, 43, 44, 45, 46, 47, 48, 49, 50, 51, 52, 53] (by decide +kernel) (by decide +kernel)
set_option maxRecDepth 20000 in
theorem gX9_readPart_X9_isCellLeft : GoodIn wsX9_readPart (wsV RX9 80 RX9 yX9_isCellLeft wsX9_isCellLeft) := goodIn_app (goodIn_of _ (by decide +kernel)) ggX9_readPart_X9_isCellLeft
set_option maxRecDepth 20000 in
theorem ggX9_readPart_X9_freshCell : GoodIn wsX9_readPart wsX9_freshCell := goodIn_r _ [14, 3, 1, 15, 16, 17, 2, 18, 19, 9, 20, 25, 26, 27, 28, 29, 30, 31, 32, 33, 34, 35, 36, 37, 38, 39, 40, 41, 42, 43, 44, 45, 46, 47, 48, 49, 50, 51, 52, 53] (by decide +kernel) (by decide +kernel)
set_option maxRecDepth 20000 in
theorem gX9_readPart_X9_freshCell : GoodIn wsX9_readPart (wsV RX9 84 RX9 yX9_freshCell wsX9_freshCell) := goodIn_app (goodIn_of _ (by decide +kernel)) ggX9_readPart_X9_freshCell
set_option maxRecDepth 20000 in
theorem ggX9_readPart_X9_figure : GoodIn wsX9_readPart wsX9_figure := goodIn_r _ [24, 3, 1, 15, 16, 18, 19, 9, 20, 25, 26, 27, 28, 29, 30, 31, 32, 33, 34, 35, 36, 37, 38, 39, 40, 41, 42, 43, 44, 45, 46, 47, 48, 49, 50, 51, 52, 53] (by decide +kernel) (by decide +kernel)
set_option maxRecDepth 20000 in
theorem gX9_readPart_X9_figure : GoodIn wsX9_readPart (wsV RX9 72 RX9 yX9_figure wsX9_figure) := goodIn_app (goodIn_of _ (by decide +kernel)) ggX9_readPart_X9_figure
theorem dX9_readPart_0 : decode cX9_readPart 0 = .ok (.iload_n 1, 1) := by decide +kernel
theorem dX9_readPart_1 : decode cX9_readPart 1 = .ok (.bipush 70, 2) := by decide +kernel
theorem dX9_readPart_3 : decode cX9_readPart 3 = .ok (.if_icmp .ne 61, 3) := by decide +kernel
theorem dX9_readPart_6 : decode cX9_readPart 6 = .ok (.aload_n 0, 1) := by decide +kernel
theorem dX9_readPart_7 : decode cX9_readPart 7 = .ok (.invokevirtual 80, 3) := by decide +kernel
theorem dX9_readPart_10 : decode cX9_readPart 10 = .ok (.ifCond .eq 54, 3) := by decide +kernel
theorem dX9_readPart_13 : decode cX9_readPart 13 = .ok (.aload_n 0, 1) := by decide +kernel
theorem dX9_readPart_14 : decode cX9_readPart 14 = .ok (.dup, 1) := by decide +kernel
theorem dX9_readPart_15 : decode cX9_readPart 15 = .ok (.getfield 64, 3) := by decide +kernel
theorem dX9_readPart_18 : decode cX9_readPart 18 = .ok (.iconst 1, 1) := by decide +kernel
theorem dX9_readPart_19 : decode cX9_readPart 19 = .ok (.iadd, 1) := by decide +kernel
theorem dX9_readPart_20 : decode cX9_readPart 20 = .ok (.putfield 64, 3) := by decide +kernel
theorem dX9_readPart_23 : decode cX9_readPart 23 = .ok (.aload_n 0, 1) := by decide +kernel
theorem dX9_readPart_24 : decode cX9_readPart 24 = .ok (.invokevirtual 84, 3) := by decide +kernel
theorem dX9_readPart_27 : decode cX9_readPart 27 = .ok (.istore_n 2, 1) := by decide +kernel
theorem dX9_readPart_28 : decode cX9_readPart 28 = .ok (.aload_n 0, 1) := by decide +kernel
theorem dX9_readPart_29 : decode cX9_readPart 29 = .ok (.iconst 1, 1) := by decide +kernel
theorem dX9_readPart_30 : decode cX9_readPart 30 = .ok (.bipush 9, 2) := by decide +kernel
theorem dX9_readPart_32 : decode cX9_readPart 32 = .ok (.invokevirtual 72, 3) := by decide +kernel
theorem dX9_readPart_35 : decode cX9_readPart 35 = .ok (.istore_n 3, 1) := by decide +kernel
theorem dX9_readPart_36 : decode cX9_readPart 36 = .ok (.aload_n 0, 1) := by decide +kernel
theorem dX9_readPart_37 : decode cX9_readPart 37 = .ok (.getfield 16, 3) := by decide +kernel
theorem dX9_readPart_40 : decode cX9_readPart 40 = .ok (.iload_n 2, 1) := by decide +kernel
theorem dX9_readPart_41 : decode cX9_readPart 41 = .ok (.aload_n 0, 1) := by decide +kernel
theorem dX9_readPart_42 : decode cX9_readPart 42 = .ok (.getfield 61, 3) := by decide +kernel
theorem dX9_readPart_45 : decode cX9_readPart 45 = .ok (.bipush (-9), 2) := by decide +kernel
theorem dX9_readPart_47 : decode cX9_readPart 47 = .ok (.if_icmp .ne 7, 3) := by decide +kernel
theorem dX9_readPart_50 : decode cX9_readPart 50 = .ok (.iload_n 3, 1) := by decide +kernel
theorem dX9_readPart_51 : decode cX9_readPart 51 = .ok (.goto 9, 3) := by decide +kernel
theorem dX9_readPart_54 : decode cX9_readPart 54 = .ok (.aload_n 0, 1) := by decide +kernel
theorem dX9_readPart_55 : decode cX9_readPart 55 = .ok (.getfield 16, 3) := by decide +kernel
theorem dX9_readPart_58 : decode cX9_readPart 58 = .ok (.iload_n 2, 1) := by decide +kernel
theorem dX9_readPart_59 : decode cX9_readPart 59 = .ok (.iaload, 1) := by decide +kernel
theorem dX9_readPart_60 : decode cX9_readPart 60 = .ok (.iastore, 1) := by decide +kernel
theorem dX9_readPart_61 : decode cX9_readPart 61 = .ok (.goto 135, 3) := by decide +kernel
theorem dX9_readPart_64 : decode cX9_readPart 64 = .ok (.iload_n 1, 1) := by decide +kernel
theorem dX9_readPart_65 : decode cX9_readPart 65 = .ok (.bipush 65, 2) := by decide +kernel
theorem dX9_readPart_67 : decode cX9_readPart 67 = .ok (.if_icmp .ne 55, 3) := by decide +kernel
theorem dX9_readPart_70 : decode cX9_readPart 70 = .ok (.aload_n 0, 1) := by decide +kernel
theorem dX9_readPart_71 : decode cX9_readPart 71 = .ok (.getfield 16, 3) := by decide +kernel
theorem dX9_readPart_74 : decode cX9_readPart 74 = .ok (.bipush 10, 2) := by decide +kernel
theorem dX9_readPart_76 : decode cX9_readPart 76 = .ok (.iaload, 1) := by decide +kernel
theorem dX9_readPart_77 : decode cX9_readPart 77 = .ok (.ifCond .ne 45, 3) := by decide +kernel
theorem dX9_readPart_80 : decode cX9_readPart 80 = .ok (.aload_n 0, 1) := by decide +kernel
theorem dX9_readPart_81 : decode cX9_readPart 81 = .ok (.dup, 1) := by decide +kernel
theorem dX9_readPart_82 : decode cX9_readPart 82 = .ok (.getfield 64, 3) := by decide +kernel
theorem dX9_readPart_85 : decode cX9_readPart 85 = .ok (.iconst 1, 1) := by decide +kernel
theorem dX9_readPart_86 : decode cX9_readPart 86 = .ok (.iadd, 1) := by decide +kernel
theorem dX9_readPart_87 : decode cX9_readPart 87 = .ok (.putfield 64, 3) := by decide +kernel
theorem dX9_readPart_90 : decode cX9_readPart 90 = .ok (.aload_n 0, 1) := by decide +kernel
theorem dX9_readPart_91 : decode cX9_readPart 91 = .ok (.iconst 1, 1) := by decide +kernel
theorem dX9_readPart_92 : decode cX9_readPart 92 = .ok (.bipush 9, 2) := by decide +kernel
theorem dX9_readPart_94 : decode cX9_readPart 94 = .ok (.invokevirtual 72, 3) := by decide +kernel
theorem dX9_readPart_97 : decode cX9_readPart 97 = .ok (.istore_n 2, 1) := by decide +kernel
theorem dX9_readPart_98 : decode cX9_readPart 98 = .ok (.aload_n 0, 1) := by decide +kernel
theorem dX9_readPart_99 : decode cX9_readPart 99 = .ok (.getfield 16, 3) := by decide +kernel
theorem dX9_readPart_102 : decode cX9_readPart 102 = .ok (.bipush 10, 2) := by decide +kernel
theorem dX9_readPart_104 : decode cX9_readPart 104 = .ok (.aload_n 0, 1) := by decide +kernel
theorem dX9_readPart_105 : decode cX9_readPart 105 = .ok (.getfield 61, 3) := by decide +kernel
theorem dX9_readPart_108 : decode cX9_readPart 108 = .ok (.bipush (-9), 2) := by decide +kernel
theorem dX9_readPart_110 : decode cX9_readPart 110 = .ok (.if_icmp .ne 7, 3) := by decide +kernel
theorem dX9_readPart_113 : decode cX9_readPart 113 = .ok (.iload_n 2, 1) := by decide +kernel
theorem dX9_readPart_114 : decode cX9_readPart 114 = .ok (.goto 4, 3) := by decide +kernel
theorem dX9_readPart_117 : decode cX9_readPart 117 = .ok (.iconst 0, 1) := by decide +kernel
theorem dX9_readPart_118 : decode cX9_readPart 118 = .ok (.iastore, 1) := by decide +kernel
theorem dX9_readPart_119 : decode cX9_readPart 119 = .ok (.goto 77, 3) := by decide +kernel
theorem dX9_readPart_122 : decode cX9_readPart 122 = .ok (.iload_n 1, 1) := by decide +kernel
theorem dX9_readPart_123 : decode cX9_readPart 123 = .ok (.bipush 84, 2) := by decide +kernel
theorem dX9_readPart_125 : decode cX9_readPart 125 = .ok (.if_icmp .ne 63, 3) := by decide +kernel
theorem dX9_readPart_128 : decode cX9_readPart 128 = .ok (.aload_n 0, 1) := by decide +kernel
theorem dX9_readPart_129 : decode cX9_readPart 129 = .ok (.getfield 69, 3) := by decide +kernel
theorem dX9_readPart_132 : decode cX9_readPart 132 = .ok (.bipush (-9), 2) := by decide +kernel
theorem dX9_readPart_134 : decode cX9_readPart 134 = .ok (.if_icmp .ne 54, 3) := by decide +kernel
theorem dX9_readPart_137 : decode cX9_readPart 137 = .ok (.aload_n 0, 1) := by decide +kernel
theorem dX9_readPart_138 : decode cX9_readPart 138 = .ok (.dup, 1) := by decide +kernel
theorem dX9_readPart_139 : decode cX9_readPart 139 = .ok (.getfield 64, 3) := by decide +kernel
theorem dX9_readPart_142 : decode cX9_readPart 142 = .ok (.iconst 1, 1) := by decide +kernel
theorem dX9_readPart_143 : decode cX9_readPart 143 = .ok (.iadd, 1) := by decide +kernel
theorem dX9_readPart_144 : decode cX9_readPart 144 = .ok (.putfield 64, 3) := by decide +kernel
theorem dX9_readPart_147 : decode cX9_readPart 147 = .ok (.aload_n 0, 1) := by decide +kernel
theorem dX9_readPart_148 : decode cX9_readPart 148 = .ok (.iconst 0, 1) := by decide +kernel
theorem dX9_readPart_149 : decode cX9_readPart 149 = .ok (.bipush 9, 2) := by decide +kernel
theorem dX9_readPart_151 : decode cX9_readPart 151 = .ok (.invokevirtual 72, 3) := by decide +kernel
theorem dX9_readPart_154 : decode cX9_readPart 154 = .ok (.istore_n 2, 1) := by decide +kernel
theorem dX9_readPart_155 : decode cX9_readPart 155 = .ok (.aload_n 0, 1) := by decide +kernel
theorem dX9_readPart_156 : decode cX9_readPart 156 = .ok (.aload_n 0, 1) := by decide +kernel
theorem dX9_readPart_157 : decode cX9_readPart 157 = .ok (.iconst 0, 1) := by decide +kernel
theorem dX9_readPart_158 : decode cX9_readPart 158 = .ok (.bipush 6, 2) := by decide +kernel
theorem dX9_readPart_160 : decode cX9_readPart 160 = .ok (.invokevirtual 72, 3) := by decide +kernel
theorem dX9_readPart_163 : decode cX9_readPart 163 = .ok (.putfield 88, 3) := by decide +kernel
theorem dX9_readPart_166 : decode cX9_readPart 166 = .ok (.aload_n 0, 1) := by decide +kernel
theorem dX9_readPart_167 : decode cX9_readPart 167 = .ok (.aload_n 0, 1) := by decide +kernel
theorem dX9_readPart_168 : decode cX9_readPart 168 = .ok (.getfield 61, 3) := by decide +kernel
theorem dX9_readPart_171 : decode cX9_readPart 171 = .ok (.bipush (-9), 2) := by decide +kernel
theorem dX9_readPart_173 : decode cX9_readPart 173 = .ok (.if_icmp .ne 7, 3) := by decide +kernel
theorem dX9_readPart_176 : decode cX9_readPart 176 = .ok (.iload_n 2, 1) := by decide +kernel
theorem dX9_readPart_177 : decode cX9_readPart 177 = .ok (.goto 5, 3) := by decide +kernel
theorem dX9_readPart_180 : decode cX9_readPart 180 = .ok (.bipush (-9), 2) := by decide +kernel
theorem dX9_readPart_182 : decode cX9_readPart 182 = .ok (.putfield 69, 3) := by decide +kernel
theorem dX9_readPart_185 : decode cX9_readPart 185 = .ok (.goto 11, 3) := by decide +kernel
theorem dX9_readPart_188 : decode cX9_readPart 188 = .ok (.aload_n 0, 1) := by decide +kernel
theorem dX9_readPart_189 : decode cX9_readPart 189 = .ok (.aload_n 0, 1) := by decide +kernel
theorem dX9_readPart_190 : decode cX9_readPart 190 = .ok (.getfield 64, 3) := by decide +kernel
theorem dX9_readPart_193 : decode cX9_readPart 193 = .ok (.putfield 61, 3) := by decide +kernel
theorem dX9_readPart_196 : decode cX9_readPart 196 = .ok (.return_, 1) := by decide +kernel
set_option maxRecDepth 20000 in
theorem ggX9_fault_X9_readText : GoodIn wsX9_fault wsX9_readText := goodIn_r _ [5, 6, 7, 8, 9, 10, 11, 12, 13, 14, 15, 4, 16, 17, 18, 19, 20, 21, 22, 23, 24, 25, 26, 27, 28, 29, 30, 31, 32, 33, 34, 35, 36, 37, 38, 39, 40, 41, 42, 43, 44, 45, 46, 47, 48, 49, 50, 51, 52, 53, 54, 55, 56, 57, 58, 59, 60, 61, 62] (by decide +kernel) (by decide +kernel)
set_option maxRecDepth 20000 in
theorem gX9_fault_X9_readText : GoodIn wsX9_fault (wsV RX9 91 RX9 yX9_readText wsX9_readText) := goodIn_app (goodIn_of _ (by decide +kernel)) ggX9_fault_X9_readText
theorem dX9_fault_0 : decode cX9_fault 0 = .ok (.aload_n 0, 1) := by decide +kernel
theorem dX9_fault_1 : decode cX9_fault 1 = .ok (.invokevirtual 91, 3) := by decide +kernel
theorem dX9_fault_4 : decode cX9_fault 4 = .ok (.ireturn, 1) := by decide +kernel
theorem dX9_allParts_0 : decode cX9_allParts 0 = .ok (.iconst 0, 1) := by decide +kernel
theorem dX9_allParts_1 : decode cX9_allParts 1 = .ok (.istore_n 1, 1) := by decide +kernel
theorem dX9_allParts_2 : decode cX9_allParts 2 = .ok (.iconst 0, 1) := by decide +kernel
theorem dX9_allParts_3 : decode cX9_allParts 3 = .ok (.istore_n 2, 1) := by decide +kernel
theorem dX9_allParts_4 : decode cX9_allParts 4 = .ok (.iload_n 2, 1) := by decide +kernel
theorem dX9_allParts_5 : decode cX9_allParts 5 = .ok (.bipush 11, 2) := by decide +kernel
theorem dX9_allParts_7 : decode cX9_allParts 7 = .ok (.if_icmp .ge 18, 3) := by decide +kernel
theorem dX9_allParts_10 : decode cX9_allParts 10 = .ok (.iload_n 1, 1) := by decide +kernel
theorem dX9_allParts_11 : decode cX9_allParts 11 = .ok (.aload_n 0, 1) := by decide +kernel
theorem dX9_allParts_12 : decode cX9_allParts 12 = .ok (.getfield 7, 3) := by decide +kernel
theorem dX9_allParts_15 : decode cX9_allParts 15 = .ok (.iload_n 2, 1) := by decide +kernel
theorem dX9_allParts_16 : decode cX9_allParts 16 = .ok (.iaload, 1) := by decide +kernel
theorem dX9_allParts_17 : decode cX9_allParts 17 = .ok (.iadd, 1) := by decide +kernel
theorem dX9_allParts_18 : decode cX9_allParts 18 = .ok (.istore_n 1, 1) := by decide +kernel
theorem dX9_allParts_19 : decode cX9_allParts 19 = .ok (.iinc 2 1, 3) := by decide +kernel
theorem dX9_allParts_22 : decode cX9_allParts 22 = .ok (.goto (-18), 3) := by decide +kernel
theorem dX9_allParts_25 : decode cX9_allParts 25 = .ok (.iload_n 1, 1) := by decide +kernel
theorem dX9_allParts_26 : decode cX9_allParts 26 = .ok (.ireturn, 1) := by decide +kernel
set_option maxRecDepth 20000 in
theorem ggX9_search_X9_readText : GoodIn wsX9_search wsX9_readText := goodIn_r _ [23, 24, 25, 8, 14, 26, 27, 1, 28, 29, 30, 22, 31, 32, 33, 34, 35, 36, 37, 38, 11, 39, 40, 41, 42, 43, 44, 45, 46, 47, 52, 53, 54, 55, 56, 57, 58, 59, 60, 61, 62, 63, 64, 65, 66, 67, 68, 69, 70, 71, 72, 73, 74, 75, 76, 77, 78, 79, 80] (by decide +kernel) (by decide +kernel)
set_option maxRecDepth 20000 in
theorem gX9_search_X9_readText : GoodIn wsX9_search (wsV RX9 91 RX9 yX9_readText wsX9_readText) := goodIn_app (goodIn_of _ (by decide +kernel)) ggX9_search_X9_readText
set_option maxRecDepth 20000 in
theorem ggX9_search_X9_allParts : GoodIn wsX9_search wsX9_allParts := goodIn_r _ [51, 13, 52, 53, 54, 55, 56, 57, 58, 59, 60, 61, 62, 63, 64, 65, 66, 67, 68, 69, 70, 71, 72, 73, 74, 75, 76, 77, 78, 79, 80] (by decide +kernel) (by decide +kernel)
set_option maxRecDepth 20000 in
theorem gX9_search_X9_allParts : GoodIn wsX9_search (wsV RX9 122 RX9 yX9_allParts wsX9_allParts) := goodIn_app (goodIn_of _ (by decide +kernel)) ggX9_search_X9_allParts
theorem dX9_search_0 : decode cX9_search 0 = .ok (.aload_n 0, 1) := by decide +kernel
theorem dX9_search_1 : decode cX9_search 1 = .ok (.invokevirtual 91, 3) := by decide +kernel
theorem dX9_search_4 : decode cX9_search 4 = .ok (.bipush (-9), 2) := by decide +kernel
theorem dX9_search_6 : decode cX9_search 6 = .ok (.if_icmp .eq 6, 3) := by decide +kernel
theorem dX9_search_9 : decode cX9_search 9 = .ok (.bipush (-3), 2) := by decide +kernel
theorem dX9_search_11 : decode cX9_search 11 = .ok (.ireturn, 1) := by decide +kernel
theorem dX9_search_12 : decode cX9_search 12 = .ok (.aload_n 0, 1) := by decide +kernel
theorem dX9_search_13 : decode cX9_search 13 = .ok (.aload_n 0, 1) := by decide +kernel
theorem dX9_search_14 : decode cX9_search 14 = .ok (.getfield 13, 3) := by decide +kernel
theorem dX9_search_17 : decode cX9_search 17 = .ok (.iconst 1, 1) := by decide +kernel
theorem dX9_search_18 : decode cX9_search 18 = .ok (.iaload, 1) := by decide +kernel
theorem dX9_search_19 : decode cX9_search 19 = .ok (.putfield 94, 3) := by decide +kernel
theorem dX9_search_22 : decode cX9_search 22 = .ok (.aload_n 0, 1) := by decide +kernel
theorem dX9_search_23 : decode cX9_search 23 = .ok (.aload_n 0, 1) := by decide +kernel
theorem dX9_search_24 : decode cX9_search 24 = .ok (.getfield 13, 3) := by decide +kernel
theorem dX9_search_27 : decode cX9_search 27 = .ok (.iconst 2, 1) := by decide +kernel
theorem dX9_search_28 : decode cX9_search 28 = .ok (.iaload, 1) := by decide +kernel
theorem dX9_search_29 : decode cX9_search 29 = .ok (.putfield 97, 3) := by decide +kernel
theorem dX9_search_32 : decode cX9_search 32 = .ok (.aload_n 0, 1) := by decide +kernel
theorem dX9_search_33 : decode cX9_search 33 = .ok (.aload_n 0, 1) := by decide +kernel
theorem dX9_search_34 : decode cX9_search 34 = .ok (.getfield 13, 3) := by decide +kernel
theorem dX9_search_37 : decode cX9_search 37 = .ok (.iconst 3, 1) := by decide +kernel
theorem dX9_search_38 : decode cX9_search 38 = .ok (.iaload, 1) := by decide +kernel
theorem dX9_search_39 : decode cX9_search 39 = .ok (.putfield 100, 3) := by decide +kernel
theorem dX9_search_42 : decode cX9_search 42 = .ok (.aload_n 0, 1) := by decide +kernel
theorem dX9_search_43 : decode cX9_search 43 = .ok (.aload_n 0, 1) := by decide +kernel
theorem dX9_search_44 : decode cX9_search 44 = .ok (.getfield 13, 3) := by decide +kernel
theorem dX9_search_47 : decode cX9_search 47 = .ok (.iconst 4, 1) := by decide +kernel
theorem dX9_search_48 : decode cX9_search 48 = .ok (.iaload, 1) := by decide +kernel
theorem dX9_search_49 : decode cX9_search 49 = .ok (.putfield 103, 3) := by decide +kernel
theorem dX9_search_52 : decode cX9_search 52 = .ok (.aload_n 0, 1) := by decide +kernel
theorem dX9_search_53 : decode cX9_search 53 = .ok (.aload_n 0, 1) := by decide +kernel
theorem dX9_search_54 : decode cX9_search 54 = .ok (.getfield 13, 3) := by decide +kernel
theorem dX9_search_57 : decode cX9_search 57 = .ok (.iconst 5, 1) := by decide +kernel
theorem dX9_search_58 : decode cX9_search 58 = .ok (.iaload, 1) := by decide +kernel
theorem dX9_search_59 : decode cX9_search 59 = .ok (.putfield 106, 3) := by decide +kernel
theorem dX9_search_62 : decode cX9_search 62 = .ok (.aload_n 0, 1) := by decide +kernel
theorem dX9_search_63 : decode cX9_search 63 = .ok (.aload_n 0, 1) := by decide +kernel
theorem dX9_search_64 : decode cX9_search 64 = .ok (.getfield 13, 3) := by decide +kernel
theorem dX9_search_67 : decode cX9_search 67 = .ok (.bipush 6, 2) := by decide +kernel
theorem dX9_search_69 : decode cX9_search 69 = .ok (.iaload, 1) := by decide +kernel
theorem dX9_search_70 : decode cX9_search 70 = .ok (.putfield 48, 3) := by decide +kernel
theorem dX9_search_73 : decode cX9_search 73 = .ok (.aload_n 0, 1) := by decide +kernel
theorem dX9_search_74 : decode cX9_search 74 = .ok (.aload_n 0, 1) := by decide +kernel
theorem dX9_search_75 : decode cX9_search 75 = .ok (.getfield 69, 3) := by decide +kernel
theorem dX9_search_78 : decode cX9_search 78 = .ok (.putfield 109, 3) := by decide +kernel
theorem dX9_search_81 : decode cX9_search 81 = .ok (.aload_n 0, 1) := by decide +kernel
theorem dX9_search_82 : decode cX9_search 82 = .ok (.aload_n 0, 1) := by decide +kernel
theorem dX9_search_83 : decode cX9_search 83 = .ok (.getfield 69, 3) := by decide +kernel
theorem dX9_search_86 : decode cX9_search 86 = .ok (.bipush (-9), 2) := by decide +kernel
theorem dX9_search_88 : decode cX9_search 88 = .ok (.if_icmp .eq 7, 3) := by decide +kernel
theorem dX9_search_91 : decode cX9_search 91 = .ok (.iconst 1, 1) := by decide +kernel
theorem dX9_search_92 : decode cX9_search 92 = .ok (.goto 4, 3) := by decide +kernel
theorem dX9_search_95 : decode cX9_search 95 = .ok (.iconst 0, 1) := by decide +kernel
theorem dX9_search_96 : decode cX9_search 96 = .ok (.putfield 112, 3) := by decide +kernel
theorem dX9_search_99 : decode cX9_search 99 = .ok (.aload_n 0, 1) := by decide +kernel
theorem dX9_search_100 : decode cX9_search 100 = .ok (.aload_n 0, 1) := by decide +kernel
theorem dX9_search_101 : decode cX9_search 101 = .ok (.getfield 88, 3) := by decide +kernel
theorem dX9_search_104 : decode cX9_search 104 = .ok (.putfield 116, 3) := by decide +kernel
theorem dX9_search_107 : decode cX9_search 107 = .ok (.iconst 0, 1) := by decide +kernel
theorem dX9_search_108 : decode cX9_search 108 = .ok (.istore_n 1, 1) := by decide +kernel
theorem dX9_search_109 : decode cX9_search 109 = .ok (.iload_n 1, 1) := by decide +kernel
theorem dX9_search_110 : decode cX9_search 110 = .ok (.bipush 11, 2) := by decide +kernel
theorem dX9_search_112 : decode cX9_search 112 = .ok (.if_icmp .ge 34, 3) := by decide +kernel
theorem dX9_search_115 : decode cX9_search 115 = .ok (.aload_n 0, 1) := by decide +kernel
theorem dX9_search_116 : decode cX9_search 116 = .ok (.getfield 7, 3) := by decide +kernel
theorem dX9_search_119 : decode cX9_search 119 = .ok (.iload_n 1, 1) := by decide +kernel
theorem dX9_search_120 : decode cX9_search 120 = .ok (.aload_n 0, 1) := by decide +kernel
theorem dX9_search_121 : decode cX9_search 121 = .ok (.getfield 16, 3) := by decide +kernel
theorem dX9_search_124 : decode cX9_search 124 = .ok (.iload_n 1, 1) := by decide +kernel
theorem dX9_search_125 : decode cX9_search 125 = .ok (.iaload, 1) := by decide +kernel
theorem dX9_search_126 : decode cX9_search 126 = .ok (.iastore, 1) := by decide +kernel
theorem dX9_search_127 : decode cX9_search 127 = .ok (.aload_n 0, 1) := by decide +kernel
theorem dX9_search_128 : decode cX9_search 128 = .ok (.getfield 19, 3) := by decide +kernel
theorem dX9_search_131 : decode cX9_search 131 = .ok (.iload_n 1, 1) := by decide +kernel
theorem dX9_search_132 : decode cX9_search 132 = .ok (.aload_n 0, 1) := by decide +kernel
theorem dX9_search_133 : decode cX9_search 133 = .ok (.getfield 7, 3) := by decide +kernel
theorem dX9_search_136 : decode cX9_search 136 = .ok (.iload_n 1, 1) := by decide +kernel
theorem dX9_search_137 : decode cX9_search 137 = .ok (.iaload, 1) := by decide +kernel
theorem dX9_search_138 : decode cX9_search 138 = .ok (.i2l, 1) := by decide +kernel
theorem dX9_search_139 : decode cX9_search 139 = .ok (.lastore, 1) := by decide +kernel
theorem dX9_search_140 : decode cX9_search 140 = .ok (.iinc 1 1, 3) := by decide +kernel
theorem dX9_search_143 : decode cX9_search 143 = .ok (.goto (-34), 3) := by decide +kernel
theorem dX9_search_146 : decode cX9_search 146 = .ok (.iconst 0, 1) := by decide +kernel
theorem dX9_search_147 : decode cX9_search 147 = .ok (.istore_n 1, 1) := by decide +kernel
theorem dX9_search_148 : decode cX9_search 148 = .ok (.iload_n 1, 1) := by decide +kernel
theorem dX9_search_149 : decode cX9_search 149 = .ok (.bipush 9, 2) := by decide +kernel
theorem dX9_search_151 : decode cX9_search 151 = .ok (.if_icmp .ge 16, 3) := by decide +kernel
theorem dX9_search_154 : decode cX9_search 154 = .ok (.aload_n 0, 1) := by decide +kernel
theorem dX9_search_155 : decode cX9_search 155 = .ok (.getfield 23, 3) := by decide +kernel
theorem dX9_search_158 : decode cX9_search 158 = .ok (.iload_n 1, 1) := by decide +kernel
theorem dX9_search_159 : decode cX9_search 159 = .ok (.iconst 0, 1) := by decide +kernel
theorem dX9_search_160 : decode cX9_search 160 = .ok (.iastore, 1) := by decide +kernel
theorem dX9_search_161 : decode cX9_search 161 = .ok (.iinc 1 1, 3) := by decide +kernel
theorem dX9_search_164 : decode cX9_search 164 = .ok (.goto (-16), 3) := by decide +kernel
theorem dX9_search_167 : decode cX9_search 167 = .ok (.aload_n 0, 1) := by decide +kernel
theorem dX9_search_168 : decode cX9_search 168 = .ok (.getfield 23, 3) := by decide +kernel
theorem dX9_search_171 : decode cX9_search 171 = .ok (.iconst 0, 1) := by decide +kernel
theorem dX9_search_172 : decode cX9_search 172 = .ok (.aload_n 0, 1) := by decide +kernel
theorem dX9_search_173 : decode cX9_search 173 = .ok (.getfield 106, 3) := by decide +kernel
theorem dX9_search_176 : decode cX9_search 176 = .ok (.iastore, 1) := by decide +kernel
theorem dX9_search_177 : decode cX9_search 177 = .ok (.aload_n 0, 1) := by decide +kernel
theorem dX9_search_178 : decode cX9_search 178 = .ok (.iconst 0, 1) := by decide +kernel
theorem dX9_search_179 : decode cX9_search 179 = .ok (.putfield 119, 3) := by decide +kernel
theorem dX9_search_182 : decode cX9_search 182 = .ok (.aload_n 0, 1) := by decide +kernel
theorem dX9_search_183 : decode cX9_search 183 = .ok (.getfield 38, 3) := by decide +kernel
theorem dX9_search_186 : decode cX9_search 186 = .ok (.iconst 0, 1) := by decide +kernel
theorem dX9_search_187 : decode cX9_search 187 = .ok (.iconst 0, 1) := by decide +kernel
theorem dX9_search_188 : decode cX9_search 188 = .ok (.bastore, 1) := by decide +kernel
theorem dX9_search_189 : decode cX9_search 189 = .ok (.aload_n 0, 1) := by decide +kernel
theorem dX9_search_190 : decode cX9_search 190 = .ok (.getfield 38, 3) := by decide +kernel
theorem dX9_search_193 : decode cX9_search 193 = .ok (.iconst 1, 1) := by decide +kernel
theorem dX9_search_194 : decode cX9_search 194 = .ok (.iconst 0, 1) := by decide +kernel
theorem dX9_search_195 : decode cX9_search 195 = .ok (.bastore, 1) := by decide +kernel
theorem dX9_search_196 : decode cX9_search 196 = .ok (.aload_n 0, 1) := by decide +kernel
theorem dX9_search_197 : decode cX9_search 197 = .ok (.invokevirtual 122, 3) := by decide +kernel
theorem dX9_search_200 : decode cX9_search 200 = .ok (.ireturn, 1) := by decide +kernel
theorem dX9_lay_0 : decode cX9_lay 0 = .ok (.iconst 0, 1) := by decide +kernel
theorem dX9_lay_1 : decode cX9_lay 1 = .ok (.istore_n 3, 1) := by decide +kernel
theorem dX9_lay_2 : decode cX9_lay 2 = .ok (.iload_n 3, 1) := by decide +kernel
theorem dX9_lay_3 : decode cX9_lay 3 = .ok (.bipush 11, 2) := by decide +kernel
theorem dX9_lay_5 : decode cX9_lay 5 = .ok (.if_icmp .ge 31, 3) := by decide +kernel
theorem dX9_lay_8 : decode cX9_lay 8 = .ok (.aload_n 0, 1) := by decide +kernel
theorem dX9_lay_9 : decode cX9_lay 9 = .ok (.getfield 19, 3) := by decide +kernel
theorem dX9_lay_12 : decode cX9_lay 12 = .ok (.bipush 11, 2) := by decide +kernel
theorem dX9_lay_14 : decode cX9_lay 14 = .ok (.iload_n 2, 1) := by decide +kernel
theorem dX9_lay_15 : decode cX9_lay 15 = .ok (.imul, 1) := by decide +kernel
theorem dX9_lay_16 : decode cX9_lay 16 = .ok (.iload_n 3, 1) := by decide +kernel
theorem dX9_lay_17 : decode cX9_lay 17 = .ok (.iadd, 1) := by decide +kernel
theorem dX9_lay_18 : decode cX9_lay 18 = .ok (.aload_n 0, 1) := by decide +kernel
theorem dX9_lay_19 : decode cX9_lay 19 = .ok (.getfield 19, 3) := by decide +kernel
theorem dX9_lay_22 : decode cX9_lay 22 = .ok (.bipush 11, 2) := by decide +kernel
theorem dX9_lay_24 : decode cX9_lay 24 = .ok (.iload_n 1, 1) := by decide +kernel
theorem dX9_lay_25 : decode cX9_lay 25 = .ok (.imul, 1) := by decide +kernel
theorem dX9_lay_26 : decode cX9_lay 26 = .ok (.iload_n 3, 1) := by decide +kernel
theorem dX9_lay_27 : decode cX9_lay 27 = .ok (.iadd, 1) := by decide +kernel
theorem dX9_lay_28 : decode cX9_lay 28 = .ok (.laload, 1) := by decide +kernel
theorem dX9_lay_29 : decode cX9_lay 29 = .ok (.lastore, 1) := by decide +kernel
theorem dX9_lay_30 : decode cX9_lay 30 = .ok (.iinc 3 1, 3) := by decide +kernel
theorem dX9_lay_33 : decode cX9_lay 33 = .ok (.goto (-31), 3) := by decide +kernel
theorem dX9_lay_36 : decode cX9_lay 36 = .ok (.return_, 1) := by decide +kernel
theorem dX9_sumOf_0 : decode cX9_sumOf 0 = .ok (.lconst 0, 1) := by decide +kernel
theorem dX9_sumOf_1 : decode cX9_sumOf 1 = .ok (.lstore_n 2, 1) := by decide +kernel
theorem dX9_sumOf_2 : decode cX9_sumOf 2 = .ok (.iconst 0, 1) := by decide +kernel
theorem dX9_sumOf_3 : decode cX9_sumOf 3 = .ok (.istore 4, 2) := by decide +kernel
theorem dX9_sumOf_5 : decode cX9_sumOf 5 = .ok (.iload 4, 2) := by decide +kernel
theorem dX9_sumOf_7 : decode cX9_sumOf 7 = .ok (.bipush 11, 2) := by decide +kernel
theorem dX9_sumOf_9 : decode cX9_sumOf 9 = .ok (.if_icmp .ge 24, 3) := by decide +kernel
theorem dX9_sumOf_12 : decode cX9_sumOf 12 = .ok (.lload_n 2, 1) := by decide +kernel
theorem dX9_sumOf_13 : decode cX9_sumOf 13 = .ok (.aload_n 0, 1) := by decide +kernel
theorem dX9_sumOf_14 : decode cX9_sumOf 14 = .ok (.getfield 19, 3) := by decide +kernel
theorem dX9_sumOf_17 : decode cX9_sumOf 17 = .ok (.bipush 11, 2) := by decide +kernel
theorem dX9_sumOf_19 : decode cX9_sumOf 19 = .ok (.iload_n 1, 1) := by decide +kernel
theorem dX9_sumOf_20 : decode cX9_sumOf 20 = .ok (.imul, 1) := by decide +kernel
theorem dX9_sumOf_21 : decode cX9_sumOf 21 = .ok (.iload 4, 2) := by decide +kernel
theorem dX9_sumOf_23 : decode cX9_sumOf 23 = .ok (.iadd, 1) := by decide +kernel
theorem dX9_sumOf_24 : decode cX9_sumOf 24 = .ok (.laload, 1) := by decide +kernel
theorem dX9_sumOf_25 : decode cX9_sumOf 25 = .ok (.ladd, 1) := by decide +kernel
theorem dX9_sumOf_26 : decode cX9_sumOf 26 = .ok (.lstore_n 2, 1) := by decide +kernel
theorem dX9_sumOf_27 : decode cX9_sumOf 27 = .ok (.iinc 4 1, 3) := by decide +kernel
theorem dX9_sumOf_30 : decode cX9_sumOf 30 = .ok (.goto (-25), 3) := by decide +kernel
theorem dX9_sumOf_33 : decode cX9_sumOf 33 = .ok (.lload_n 2, 1) := by decide +kernel
theorem dX9_sumOf_34 : decode cX9_sumOf 34 = .ok (.lreturn, 1) := by decide +kernel
theorem dX9_to_0 : decode cX9_to 0 = .ok (.iload_n 1, 1) := by decide +kernel
theorem dX9_to_1 : decode cX9_to 1 = .ok (.iconst 1, 1) := by decide +kernel
theorem dX9_to_2 : decode cX9_to 2 = .ok (.if_icmp .ne 9, 3) := by decide +kernel
theorem dX9_to_5 : decode cX9_to 5 = .ok (.iload_n 0, 1) := by decide +kernel
theorem dX9_to_6 : decode cX9_to 6 = .ok (.iconst 1, 1) := by decide +kernel
theorem dX9_to_7 : decode cX9_to 7 = .ok (.iadd, 1) := by decide +kernel
theorem dX9_to_8 : decode cX9_to 8 = .ok (.goto 15, 3) := by decide +kernel
theorem dX9_to_11 : decode cX9_to 11 = .ok (.iload_n 1, 1) := by decide +kernel
theorem dX9_to_12 : decode cX9_to 12 = .ok (.iconst 2, 1) := by decide +kernel
theorem dX9_to_13 : decode cX9_to 13 = .ok (.if_icmp .ne 9, 3) := by decide +kernel
theorem dX9_to_16 : decode cX9_to 16 = .ok (.iload_n 0, 1) := by decide +kernel
theorem dX9_to_17 : decode cX9_to 17 = .ok (.iconst 1, 1) := by decide +kernel
theorem dX9_to_18 : decode cX9_to 18 = .ok (.isub, 1) := by decide +kernel
theorem dX9_to_19 : decode cX9_to 19 = .ok (.goto 4, 3) := by decide +kernel
theorem dX9_to_22 : decode cX9_to 22 = .ok (.iload_n 0, 1) := by decide +kernel
theorem dX9_to_23 : decode cX9_to 23 = .ok (.istore_n 2, 1) := by decide +kernel
theorem dX9_to_24 : decode cX9_to 24 = .ok (.iload_n 2, 1) := by decide +kernel
theorem dX9_to_25 : decode cX9_to 25 = .ok (.ifCond .ge 7, 3) := by decide +kernel
theorem dX9_to_28 : decode cX9_to 28 = .ok (.iconst 0, 1) := by decide +kernel
theorem dX9_to_29 : decode cX9_to 29 = .ok (.goto 15, 3) := by decide +kernel
theorem dX9_to_32 : decode cX9_to 32 = .ok (.iload_n 2, 1) := by decide +kernel
theorem dX9_to_33 : decode cX9_to 33 = .ok (.bipush 9, 2) := by decide +kernel
theorem dX9_to_35 : decode cX9_to 35 = .ok (.if_icmp .le 8, 3) := by decide +kernel
theorem dX9_to_38 : decode cX9_to 38 = .ok (.bipush 9, 2) := by decide +kernel
theorem dX9_to_40 : decode cX9_to 40 = .ok (.goto 4, 3) := by decide +kernel
theorem dX9_to_43 : decode cX9_to 43 = .ok (.iload_n 2, 1) := by decide +kernel
theorem dX9_to_44 : decode cX9_to 44 = .ok (.ireturn, 1) := by decide +kernel
theorem dX9_lookAt_0 : decode cX9_lookAt 0 = .ok (.lconst 0, 1) := by decide +kernel
theorem dX9_lookAt_1 : decode cX9_lookAt 1 = .ok (.lstore_n 3, 1) := by decide +kernel
theorem dX9_lookAt_2 : decode cX9_lookAt 2 = .ok (.iconst 0, 1) := by decide +kernel
theorem dX9_lookAt_3 : decode cX9_lookAt 3 = .ok (.istore 5, 2) := by decide +kernel
theorem dX9_lookAt_5 : decode cX9_lookAt 5 = .ok (.iload 5, 2) := by decide +kernel
theorem dX9_lookAt_7 : decode cX9_lookAt 7 = .ok (.bipush 11, 2) := by decide +kernel
theorem dX9_lookAt_9 : decode cX9_lookAt 9 = .ok (.if_icmp .ge 79, 3) := by decide +kernel
theorem dX9_lookAt_12 : decode cX9_lookAt 12 = .ok (.iload 5, 2) := by decide +kernel
theorem dX9_lookAt_14 : decode cX9_lookAt 14 = .ok (.iload_n 2, 1) := by decide +kernel
theorem dX9_lookAt_15 : decode cX9_lookAt 15 = .ok (.if_icmp .eq 7, 3) := by decide +kernel
theorem dX9_lookAt_18 : decode cX9_lookAt 18 = .ok (.iconst 0, 1) := by decide +kernel
theorem dX9_lookAt_19 : decode cX9_lookAt 19 = .ok (.goto 21, 3) := by decide +kernel
theorem dX9_lookAt_22 : decode cX9_lookAt 22 = .ok (.iload 5, 2) := by decide +kernel
theorem dX9_lookAt_24 : decode cX9_lookAt 24 = .ok (.bipush 10, 2) := by decide +kernel
theorem dX9_lookAt_26 : decode cX9_lookAt 26 = .ok (.if_icmp .ne 10, 3) := by decide +kernel
theorem dX9_lookAt_29 : decode cX9_lookAt 29 = .ok (.aload_n 0, 1) := by decide +kernel
theorem dX9_lookAt_30 : decode cX9_lookAt 30 = .ok (.getfield 103, 3) := by decide +kernel
theorem dX9_lookAt_33 : decode cX9_lookAt 33 = .ok (.goto 7, 3) := by decide +kernel
theorem dX9_lookAt_36 : decode cX9_lookAt 36 = .ok (.aload_n 0, 1) := by decide +kernel
theorem dX9_lookAt_37 : decode cX9_lookAt 37 = .ok (.getfield 100, 3) := by decide +kernel
theorem dX9_lookAt_40 : decode cX9_lookAt 40 = .ok (.istore 6, 2) := by decide +kernel
theorem dX9_lookAt_42 : decode cX9_lookAt 42 = .ok (.lload_n 3, 1) := by decide +kernel
theorem dX9_lookAt_43 : decode cX9_lookAt 43 = .ok (.aload_n 0, 1) := by decide +kernel
theorem dX9_lookAt_44 : decode cX9_lookAt 44 = .ok (.getfield 19, 3) := by decide +kernel
theorem dX9_lookAt_47 : decode cX9_lookAt 47 = .ok (.bipush 11, 2) := by decide +kernel
theorem dX9_lookAt_49 : decode cX9_lookAt 49 = .ok (.iload_n 1, 1) := by decide +kernel
theorem dX9_lookAt_50 : decode cX9_lookAt 50 = .ok (.imul, 1) := by decide +kernel
theorem dX9_lookAt_51 : decode cX9_lookAt 51 = .ok (.iload 5, 2) := by decide +kernel
theorem dX9_lookAt_53 : decode cX9_lookAt 53 = .ok (.iadd, 1) := by decide +kernel
theorem dX9_lookAt_54 : decode cX9_lookAt 54 = .ok (.laload, 1) := by decide +kernel
theorem dX9_lookAt_55 : decode cX9_lookAt 55 = .ok (.iload 6, 2) := by decide +kernel
theorem dX9_lookAt_57 : decode cX9_lookAt 57 = .ok (.i2l, 1) := by decide +kernel
theorem dX9_lookAt_58 : decode cX9_lookAt 58 = .ok (.lmul, 1) := by decide +kernel
theorem dX9_lookAt_59 : decode cX9_lookAt 59 = .ok (.ladd, 1) := by decide +kernel
theorem dX9_lookAt_60 : decode cX9_lookAt 60 = .ok (.lstore_n 3, 1) := by decide +kernel
theorem dX9_lookAt_61 : decode cX9_lookAt 61 = .ok (.aload_n 0, 1) := by decide +kernel
theorem dX9_lookAt_62 : decode cX9_lookAt 62 = .ok (.getfield 19, 3) := by decide +kernel
theorem dX9_lookAt_65 : decode cX9_lookAt 65 = .ok (.bipush 11, 2) := by decide +kernel
theorem dX9_lookAt_67 : decode cX9_lookAt 67 = .ok (.iload_n 1, 1) := by decide +kernel
theorem dX9_lookAt_68 : decode cX9_lookAt 68 = .ok (.imul, 1) := by decide +kernel
theorem dX9_lookAt_69 : decode cX9_lookAt 69 = .ok (.iload 5, 2) := by decide +kernel
theorem dX9_lookAt_71 : decode cX9_lookAt 71 = .ok (.iadd, 1) := by decide +kernel
theorem dX9_lookAt_72 : decode cX9_lookAt 72 = .ok (.dup2, 1) := by decide +kernel
theorem dX9_lookAt_73 : decode cX9_lookAt 73 = .ok (.laload, 1) := by decide +kernel
theorem dX9_lookAt_74 : decode cX9_lookAt 74 = .ok (.bipush 10, 2) := by decide +kernel
theorem dX9_lookAt_76 : decode cX9_lookAt 76 = .ok (.iload 6, 2) := by decide +kernel
theorem dX9_lookAt_78 : decode cX9_lookAt 78 = .ok (.isub, 1) := by decide +kernel
theorem dX9_lookAt_79 : decode cX9_lookAt 79 = .ok (.i2l, 1) := by decide +kernel
theorem dX9_lookAt_80 : decode cX9_lookAt 80 = .ok (.lmul, 1) := by decide +kernel
theorem dX9_lookAt_81 : decode cX9_lookAt 81 = .ok (.lastore, 1) := by decide +kernel
theorem dX9_lookAt_82 : decode cX9_lookAt 82 = .ok (.iinc 5 1, 3) := by decide +kernel
theorem dX9_lookAt_85 : decode cX9_lookAt 85 = .ok (.goto (-80), 3) := by decide +kernel
theorem dX9_lookAt_88 : decode cX9_lookAt 88 = .ok (.lload_n 3, 1) := by decide +kernel
theorem dX9_lookAt_89 : decode cX9_lookAt 89 = .ok (.lreturn, 1) := by decide +kernel
set_option maxRecDepth 20000 in
theorem ggX9_drift_X9_to : GoodIn wsX9_drift wsX9_to := goodIn_r _ [10] (by decide +kernel) (by decide +kernel)
set_option maxRecDepth 20000 in
theorem gX9_drift_X9_to : GoodIn wsX9_drift (va_wsS RX9 125 yX9_to wsX9_to) := goodIn_app (goodIn_of _ (by decide +kernel)) ggX9_drift_X9_to
theorem dX9_drift_0 : decode cX9_drift 0 = .ok (.bipush 11, 2) := by decide +kernel
theorem dX9_drift_2 : decode cX9_drift 2 = .ok (.iload_n 1, 1) := by decide +kernel
theorem dX9_drift_3 : decode cX9_drift 3 = .ok (.imul, 1) := by decide +kernel
theorem dX9_drift_4 : decode cX9_drift 4 = .ok (.istore_n 3, 1) := by decide +kernel
theorem dX9_drift_5 : decode cX9_drift 5 = .ok (.iconst 0, 1) := by decide +kernel
theorem dX9_drift_6 : decode cX9_drift 6 = .ok (.istore 4, 2) := by decide +kernel
theorem dX9_drift_8 : decode cX9_drift 8 = .ok (.iload 4, 2) := by decide +kernel
theorem dX9_drift_10 : decode cX9_drift 10 = .ok (.bipush 10, 2) := by decide +kernel
theorem dX9_drift_12 : decode cX9_drift 12 = .ok (.if_icmp .ge 17, 3) := by decide +kernel
theorem dX9_drift_15 : decode cX9_drift 15 = .ok (.aload_n 0, 1) := by decide +kernel
theorem dX9_drift_16 : decode cX9_drift 16 = .ok (.getfield 29, 3) := by decide +kernel
theorem dX9_drift_19 : decode cX9_drift 19 = .ok (.iload 4, 2) := by decide +kernel
theorem dX9_drift_21 : decode cX9_drift 21 = .ok (.lconst 0, 1) := by decide +kernel
theorem dX9_drift_22 : decode cX9_drift 22 = .ok (.lastore, 1) := by decide +kernel
theorem dX9_drift_23 : decode cX9_drift 23 = .ok (.iinc 4 1, 3) := by decide +kernel
theorem dX9_drift_26 : decode cX9_drift 26 = .ok (.goto (-18), 3) := by decide +kernel
theorem dX9_drift_29 : decode cX9_drift 29 = .ok (.iconst 0, 1) := by decide +kernel
theorem dX9_drift_30 : decode cX9_drift 30 = .ok (.istore 4, 2) := by decide +kernel
theorem dX9_drift_32 : decode cX9_drift 32 = .ok (.iload 4, 2) := by decide +kernel
theorem dX9_drift_34 : decode cX9_drift 34 = .ok (.bipush 10, 2) := by decide +kernel
theorem dX9_drift_36 : decode cX9_drift 36 = .ok (.if_icmp .ge 100, 3) := by decide +kernel
theorem dX9_drift_39 : decode cX9_drift 39 = .ok (.aload_n 0, 1) := by decide +kernel
theorem dX9_drift_40 : decode cX9_drift 40 = .ok (.getfield 29, 3) := by decide +kernel
theorem dX9_drift_43 : decode cX9_drift 43 = .ok (.iload 4, 2) := by decide +kernel
theorem dX9_drift_45 : decode cX9_drift 45 = .ok (.iconst 1, 1) := by decide +kernel
theorem dX9_drift_46 : decode cX9_drift 46 = .ok (.invokestatic 125, 3) := by decide +kernel
theorem dX9_drift_49 : decode cX9_drift 49 = .ok (.dup2, 1) := by decide +kernel
theorem dX9_drift_50 : decode cX9_drift 50 = .ok (.laload, 1) := by decide +kernel
theorem dX9_drift_51 : decode cX9_drift 51 = .ok (.aload_n 0, 1) := by decide +kernel
theorem dX9_drift_52 : decode cX9_drift 52 = .ok (.getfield 19, 3) := by decide +kernel
theorem dX9_drift_55 : decode cX9_drift 55 = .ok (.iload_n 3, 1) := by decide +kernel
theorem dX9_drift_56 : decode cX9_drift 56 = .ok (.iload 4, 2) := by decide +kernel
theorem dX9_drift_58 : decode cX9_drift 58 = .ok (.iadd, 1) := by decide +kernel
theorem dX9_drift_59 : decode cX9_drift 59 = .ok (.laload, 1) := by decide +kernel
theorem dX9_drift_60 : decode cX9_drift 60 = .ok (.aload_n 0, 1) := by decide +kernel
theorem dX9_drift_61 : decode cX9_drift 61 = .ok (.getfield 94, 3) := by decide +kernel
theorem dX9_drift_64 : decode cX9_drift 64 = .ok (.i2l, 1) := by decide +kernel
theorem dX9_drift_65 : decode cX9_drift 65 = .ok (.lmul, 1) := by decide +kernel
theorem dX9_drift_66 : decode cX9_drift 66 = .ok (.ladd, 1) := by decide +kernel
theorem dX9_drift_67 : decode cX9_drift 67 = .ok (.lastore, 1) := by decide +kernel
theorem dX9_drift_68 : decode cX9_drift 68 = .ok (.aload_n 0, 1) := by decide +kernel
theorem dX9_drift_69 : decode cX9_drift 69 = .ok (.getfield 29, 3) := by decide +kernel
theorem dX9_drift_72 : decode cX9_drift 72 = .ok (.iload 4, 2) := by decide +kernel
theorem dX9_drift_74 : decode cX9_drift 74 = .ok (.iconst 2, 1) := by decide +kernel
theorem dX9_drift_75 : decode cX9_drift 75 = .ok (.invokestatic 125, 3) := by decide +kernel
theorem dX9_drift_78 : decode cX9_drift 78 = .ok (.dup2, 1) := by decide +kernel
theorem dX9_drift_79 : decode cX9_drift 79 = .ok (.laload, 1) := by decide +kernel
theorem dX9_drift_80 : decode cX9_drift 80 = .ok (.aload_n 0, 1) := by decide +kernel
theorem dX9_drift_81 : decode cX9_drift 81 = .ok (.getfield 19, 3) := by decide +kernel
theorem dX9_drift_84 : decode cX9_drift 84 = .ok (.iload_n 3, 1) := by decide +kernel
theorem dX9_drift_85 : decode cX9_drift 85 = .ok (.iload 4, 2) := by decide +kernel
theorem dX9_drift_87 : decode cX9_drift 87 = .ok (.iadd, 1) := by decide +kernel
theorem dX9_drift_88 : decode cX9_drift 88 = .ok (.laload, 1) := by decide +kernel
theorem dX9_drift_89 : decode cX9_drift 89 = .ok (.aload_n 0, 1) := by decide +kernel
theorem dX9_drift_90 : decode cX9_drift 90 = .ok (.getfield 97, 3) := by decide +kernel
theorem dX9_drift_93 : decode cX9_drift 93 = .ok (.i2l, 1) := by decide +kernel
theorem dX9_drift_94 : decode cX9_drift 94 = .ok (.lmul, 1) := by decide +kernel
theorem dX9_drift_95 : decode cX9_drift 95 = .ok (.ladd, 1) := by decide +kernel
theorem dX9_drift_96 : decode cX9_drift 96 = .ok (.lastore, 1) := by decide +kernel
theorem dX9_drift_97 : decode cX9_drift 97 = .ok (.aload_n 0, 1) := by decide +kernel
theorem dX9_drift_98 : decode cX9_drift 98 = .ok (.getfield 29, 3) := by decide +kernel
theorem dX9_drift_101 : decode cX9_drift 101 = .ok (.iload 4, 2) := by decide +kernel
theorem dX9_drift_103 : decode cX9_drift 103 = .ok (.dup2, 1) := by decide +kernel
theorem dX9_drift_104 : decode cX9_drift 104 = .ok (.laload, 1) := by decide +kernel
theorem dX9_drift_105 : decode cX9_drift 105 = .ok (.aload_n 0, 1) := by decide +kernel
theorem dX9_drift_106 : decode cX9_drift 106 = .ok (.getfield 19, 3) := by decide +kernel
theorem dX9_drift_109 : decode cX9_drift 109 = .ok (.iload_n 3, 1) := by decide +kernel
theorem dX9_drift_110 : decode cX9_drift 110 = .ok (.iload 4, 2) := by decide +kernel
theorem dX9_drift_112 : decode cX9_drift 112 = .ok (.iadd, 1) := by decide +kernel
theorem dX9_drift_113 : decode cX9_drift 113 = .ok (.laload, 1) := by decide +kernel
theorem dX9_drift_114 : decode cX9_drift 114 = .ok (.bipush 10, 2) := by decide +kernel
theorem dX9_drift_116 : decode cX9_drift 116 = .ok (.aload_n 0, 1) := by decide +kernel
theorem dX9_drift_117 : decode cX9_drift 117 = .ok (.getfield 94, 3) := by decide +kernel
theorem dX9_drift_120 : decode cX9_drift 120 = .ok (.isub, 1) := by decide +kernel
theorem dX9_drift_121 : decode cX9_drift 121 = .ok (.aload_n 0, 1) := by decide +kernel
theorem dX9_drift_122 : decode cX9_drift 122 = .ok (.getfield 97, 3) := by decide +kernel
theorem dX9_drift_125 : decode cX9_drift 125 = .ok (.isub, 1) := by decide +kernel
theorem dX9_drift_126 : decode cX9_drift 126 = .ok (.i2l, 1) := by decide +kernel
theorem dX9_drift_127 : decode cX9_drift 127 = .ok (.lmul, 1) := by decide +kernel
theorem dX9_drift_128 : decode cX9_drift 128 = .ok (.ladd, 1) := by decide +kernel
theorem dX9_drift_129 : decode cX9_drift 129 = .ok (.lastore, 1) := by decide +kernel
theorem dX9_drift_130 : decode cX9_drift 130 = .ok (.iinc 4 1, 3) := by decide +kernel
theorem dX9_drift_133 : decode cX9_drift 133 = .ok (.goto (-101), 3) := by decide +kernel
theorem dX9_drift_136 : decode cX9_drift 136 = .ok (.iconst 0, 1) := by decide +kernel
theorem dX9_drift_137 : decode cX9_drift 137 = .ok (.istore 4, 2) := by decide +kernel
theorem dX9_drift_139 : decode cX9_drift 139 = .ok (.iload 4, 2) := by decide +kernel
theorem dX9_drift_141 : decode cX9_drift 141 = .ok (.bipush 10, 2) := by decide +kernel
theorem dX9_drift_143 : decode cX9_drift 143 = .ok (.if_icmp .ge 39, 3) := by decide +kernel
theorem dX9_drift_146 : decode cX9_drift 146 = .ok (.aload_n 0, 1) := by decide +kernel
theorem dX9_drift_147 : decode cX9_drift 147 = .ok (.getfield 19, 3) := by decide +kernel
theorem dX9_drift_150 : decode cX9_drift 150 = .ok (.iload_n 3, 1) := by decide +kernel
theorem dX9_drift_151 : decode cX9_drift 151 = .ok (.iload 4, 2) := by decide +kernel
theorem dX9_drift_153 : decode cX9_drift 153 = .ok (.iadd, 1) := by decide +kernel
theorem dX9_drift_154 : decode cX9_drift 154 = .ok (.iload_n 2, 1) := by decide +kernel
theorem dX9_drift_155 : decode cX9_drift 155 = .ok (.iconst 1, 1) := by decide +kernel
theorem dX9_drift_156 : decode cX9_drift 156 = .ok (.iadd, 1) := by decide +kernel
theorem dX9_drift_157 : decode cX9_drift 157 = .ok (.aload_n 0, 1) := by decide +kernel
theorem dX9_drift_158 : decode cX9_drift 158 = .ok (.getfield 48, 3) := by decide +kernel
theorem dX9_drift_161 : decode cX9_drift 161 = .ok (.if_icmp .ne 7, 3) := by decide +kernel
theorem dX9_drift_164 : decode cX9_drift 164 = .ok (.lconst 0, 1) := by decide +kernel
theorem dX9_drift_165 : decode cX9_drift 165 = .ok (.goto 10, 3) := by decide +kernel
theorem dX9_drift_168 : decode cX9_drift 168 = .ok (.aload_n 0, 1) := by decide +kernel
theorem dX9_drift_169 : decode cX9_drift 169 = .ok (.getfield 29, 3) := by decide +kernel
theorem dX9_drift_172 : decode cX9_drift 172 = .ok (.iload 4, 2) := by decide +kernel
theorem dX9_drift_174 : decode cX9_drift 174 = .ok (.laload, 1) := by decide +kernel
theorem dX9_drift_175 : decode cX9_drift 175 = .ok (.lastore, 1) := by decide +kernel
theorem dX9_drift_176 : decode cX9_drift 176 = .ok (.iinc 4 1, 3) := by decide +kernel
theorem dX9_drift_179 : decode cX9_drift 179 = .ok (.goto (-40), 3) := by decide +kernel
theorem dX9_drift_182 : decode cX9_drift 182 = .ok (.aload_n 0, 1) := by decide +kernel
theorem dX9_drift_183 : decode cX9_drift 183 = .ok (.getfield 19, 3) := by decide +kernel
theorem dX9_drift_186 : decode cX9_drift 186 = .ok (.iload_n 3, 1) := by decide +kernel
theorem dX9_drift_187 : decode cX9_drift 187 = .ok (.bipush 10, 2) := by decide +kernel
theorem dX9_drift_189 : decode cX9_drift 189 = .ok (.iadd, 1) := by decide +kernel
theorem dX9_drift_190 : decode cX9_drift 190 = .ok (.dup2, 1) := by decide +kernel
theorem dX9_drift_191 : decode cX9_drift 191 = .ok (.laload, 1) := by decide +kernel
theorem dX9_drift_192 : decode cX9_drift 192 = .ok (.ldc2_w 128, 3) := by decide +kernel
theorem dX9_drift_195 : decode cX9_drift 195 = .ok (.lmul, 1) := by decide +kernel
theorem dX9_drift_196 : decode cX9_drift 196 = .ok (.lastore, 1) := by decide +kernel
theorem dX9_drift_197 : decode cX9_drift 197 = .ok (.return_, 1) := by decide +kernel
theorem dX9_keepAct_0 : decode cX9_keepAct 0 = .ok (.iconst 0, 1) := by decide +kernel
theorem dX9_keepAct_1 : decode cX9_keepAct 1 = .ok (.istore_n 1, 1) := by decide +kernel
theorem dX9_keepAct_2 : decode cX9_keepAct 2 = .ok (.iload_n 1, 1) := by decide +kernel
theorem dX9_keepAct_3 : decode cX9_keepAct 3 = .ok (.bipush 11, 2) := by decide +kernel
theorem dX9_keepAct_5 : decode cX9_keepAct 5 = .ok (.if_icmp .ge 29, 3) := by decide +kernel
theorem dX9_keepAct_8 : decode cX9_keepAct 8 = .ok (.aload_n 0, 1) := by decide +kernel
theorem dX9_keepAct_9 : decode cX9_keepAct 9 = .ok (.getfield 32, 3) := by decide +kernel
theorem dX9_keepAct_12 : decode cX9_keepAct 12 = .ok (.bipush 11, 2) := by decide +kernel
theorem dX9_keepAct_14 : decode cX9_keepAct 14 = .ok (.aload_n 0, 1) := by decide +kernel
theorem dX9_keepAct_15 : decode cX9_keepAct 15 = .ok (.getfield 119, 3) := by decide +kernel
theorem dX9_keepAct_18 : decode cX9_keepAct 18 = .ok (.imul, 1) := by decide +kernel
theorem dX9_keepAct_19 : decode cX9_keepAct 19 = .ok (.iload_n 1, 1) := by decide +kernel
theorem dX9_keepAct_20 : decode cX9_keepAct 20 = .ok (.iadd, 1) := by decide +kernel
theorem dX9_keepAct_21 : decode cX9_keepAct 21 = .ok (.aload_n 0, 1) := by decide +kernel
theorem dX9_keepAct_22 : decode cX9_keepAct 22 = .ok (.getfield 19, 3) := by decide +kernel
theorem dX9_keepAct_25 : decode cX9_keepAct 25 = .ok (.iload_n 1, 1) := by decide +kernel
theorem dX9_keepAct_26 : decode cX9_keepAct 26 = .ok (.laload, 1) := by decide +kernel
theorem dX9_keepAct_27 : decode cX9_keepAct 27 = .ok (.lastore, 1) := by decide +kernel
theorem dX9_keepAct_28 : decode cX9_keepAct 28 = .ok (.iinc 1 1, 3) := by decide +kernel
theorem dX9_keepAct_31 : decode cX9_keepAct 31 = .ok (.goto (-29), 3) := by decide +kernel
theorem dX9_keepAct_34 : decode cX9_keepAct 34 = .ok (.iconst 0, 1) := by decide +kernel
theorem dX9_keepAct_35 : decode cX9_keepAct 35 = .ok (.istore_n 1, 1) := by decide +kernel
theorem dX9_keepAct_36 : decode cX9_keepAct 36 = .ok (.iload_n 1, 1) := by decide +kernel
theorem dX9_keepAct_37 : decode cX9_keepAct 37 = .ok (.bipush 9, 2) := by decide +kernel
theorem dX9_keepAct_39 : decode cX9_keepAct 39 = .ok (.if_icmp .ge 29, 3) := by decide +kernel
theorem dX9_keepAct_42 : decode cX9_keepAct 42 = .ok (.aload_n 0, 1) := by decide +kernel
theorem dX9_keepAct_43 : decode cX9_keepAct 43 = .ok (.getfield 35, 3) := by decide +kernel
theorem dX9_keepAct_46 : decode cX9_keepAct 46 = .ok (.bipush 9, 2) := by decide +kernel
theorem dX9_keepAct_48 : decode cX9_keepAct 48 = .ok (.aload_n 0, 1) := by decide +kernel
theorem dX9_keepAct_49 : decode cX9_keepAct 49 = .ok (.getfield 119, 3) := by decide +kernel
theorem dX9_keepAct_52 : decode cX9_keepAct 52 = .ok (.imul, 1) := by decide +kernel
theorem dX9_keepAct_53 : decode cX9_keepAct 53 = .ok (.iload_n 1, 1) := by decide +kernel
theorem dX9_keepAct_54 : decode cX9_keepAct 54 = .ok (.iadd, 1) := by decide +kernel
theorem dX9_keepAct_55 : decode cX9_keepAct 55 = .ok (.aload_n 0, 1) := by decide +kernel
theorem dX9_keepAct_56 : decode cX9_keepAct 56 = .ok (.getfield 23, 3) := by decide +kernel
theorem dX9_keepAct_59 : decode cX9_keepAct 59 = .ok (.iload_n 1, 1) := by decide +kernel
theorem dX9_keepAct_60 : decode cX9_keepAct 60 = .ok (.iaload, 1) := by decide +kernel
theorem dX9_keepAct_61 : decode cX9_keepAct 61 = .ok (.iastore, 1) := by decide +kernel
theorem dX9_keepAct_62 : decode cX9_keepAct 62 = .ok (.iinc 1 1, 3) := by decide +kernel
theorem dX9_keepAct_65 : decode cX9_keepAct 65 = .ok (.goto (-29), 3) := by decide +kernel
theorem dX9_keepAct_68 : decode cX9_keepAct 68 = .ok (.aload_n 0, 1) := by decide +kernel
theorem dX9_keepAct_69 : decode cX9_keepAct 69 = .ok (.dup, 1) := by decide +kernel
theorem dX9_keepAct_70 : decode cX9_keepAct 70 = .ok (.getfield 119, 3) := by decide +kernel
theorem dX9_keepAct_73 : decode cX9_keepAct 73 = .ok (.iconst 1, 1) := by decide +kernel
theorem dX9_keepAct_74 : decode cX9_keepAct 74 = .ok (.iadd, 1) := by decide +kernel
theorem dX9_keepAct_75 : decode cX9_keepAct 75 = .ok (.putfield 119, 3) := by decide +kernel
theorem dX9_keepAct_78 : decode cX9_keepAct 78 = .ok (.return_, 1) := by decide +kernel
set_option maxRecDepth 20000 in
theorem ggX9_look_X9_in : GoodIn wsX9_look wsX9_in := goodIn_r _ [7] (by decide +kernel) (by decide +kernel)
set_option maxRecDepth 20000 in
theorem gX9_look_X9_in : GoodIn wsX9_look (va_wsS RX9 54 yX9_in wsX9_in) := goodIn_app (goodIn_of _ (by decide +kernel)) ggX9_look_X9_in
set_option maxRecDepth 20000 in
theorem ggX9_look_X9_keepAct : GoodIn wsX9_look wsX9_keepAct := goodIn_r _ [11, 12, 13, 14, 15, 2, 33, 34, 35, 36, 37, 38, 39, 40, 41, 42, 43, 44, 45, 46, 47, 48, 49, 50, 51, 52, 53, 54, 55, 56, 57, 58, 59, 60, 61] (by decide +kernel) (by decide +kernel)
set_option maxRecDepth 20000 in
theorem gX9_look_X9_keepAct : GoodIn wsX9_look (wsV RX9 132 RX9 yX9_keepAct wsX9_keepAct) := goodIn_app (goodIn_of _ (by decide +kernel)) ggX9_look_X9_keepAct
set_option maxRecDepth 20000 in
theorem ggX9_look_X9_to : GoodIn wsX9_look wsX9_to := goodIn_r _ [18] (by decide +kernel) (by decide +kernel)
set_option maxRecDepth 20000 in
theorem gX9_look_X9_to : GoodIn wsX9_look (va_wsS RX9 125 yX9_to wsX9_to) := goodIn_app (goodIn_of _ (by decide +kernel)) ggX9_look_X9_to
set_option maxRecDepth 20000 in
theorem ggX9_look_X9_lookAt : GoodIn wsX9_look wsX9_lookAt := goodIn_r _ [22, 23, 24, 14, 33, 34, 35, 36, 37, 38, 39, 40, 41, 42, 43, 44, 45, 46, 47, 48, 49, 50, 51, 52, 53, 54, 55, 56, 57, 58, 59, 60, 61] (by decide +kernel) (by decide +kernel)
set_option maxRecDepth 20000 in
theorem gX9_look_X9_lookAt : GoodIn wsX9_look (wsV RX9 135 RX9 yX9_lookAt wsX9_lookAt) := goodIn_app (goodIn_of _ (by decide +kernel)) ggX9_look_X9_lookAt
set_option maxRecDepth 20000 in
theorem ggX9_look_X9_drift : GoodIn wsX9_look wsX9_drift := goodIn_r _ [28, 29, 14, 30, 31, 3, 32, 16, 17, 6, 18, 33, 34, 35, 36, 37, 38, 39, 40, 41, 42, 43, 44, 45, 46, 47, 48, 49, 50, 51, 52, 53, 54, 55, 56, 57, 58, 59, 60, 61] (by decide +kernel) (by decide +kernel)
set_option maxRecDepth 20000 in
theorem gX9_look_X9_drift : GoodIn wsX9_look (wsV RX9 139 RX9 yX9_drift wsX9_drift) := goodIn_app (goodIn_of _ (by decide +kernel)) ggX9_look_X9_drift
theorem dX9_look_0 : decode cX9_look 0 = .ok (.iload_n 1, 1) := by decide +kernel
theorem dX9_look_1 : decode cX9_look 1 = .ok (.i2l, 1) := by decide +kernel
theorem dX9_look_2 : decode cX9_look 2 = .ok (.lconst 0, 1) := by decide +kernel
theorem dX9_look_3 : decode cX9_look 3 = .ok (.ldc2_w 130, 3) := by decide +kernel
theorem dX9_look_6 : decode cX9_look 6 = .ok (.invokestatic 54, 3) := by decide +kernel
theorem dX9_look_9 : decode cX9_look 9 = .ok (.ifCond .ne 6, 3) := by decide +kernel
theorem dX9_look_12 : decode cX9_look 12 = .ok (.bipush (-2), 2) := by decide +kernel
theorem dX9_look_14 : decode cX9_look 14 = .ok (.ireturn, 1) := by decide +kernel
theorem dX9_look_15 : decode cX9_look 15 = .ok (.aload_n 0, 1) := by decide +kernel
theorem dX9_look_16 : decode cX9_look 16 = .ok (.getfield 23, 3) := by decide +kernel
theorem dX9_look_19 : decode cX9_look 19 = .ok (.iconst 1, 1) := by decide +kernel
theorem dX9_look_20 : decode cX9_look 20 = .ok (.iaload, 1) := by decide +kernel
theorem dX9_look_21 : decode cX9_look 21 = .ok (.aload_n 0, 1) := by decide +kernel
theorem dX9_look_22 : decode cX9_look 22 = .ok (.getfield 48, 3) := by decide +kernel
theorem dX9_look_25 : decode cX9_look 25 = .ok (.if_icmp .ne 6, 3) := by decide +kernel
theorem dX9_look_28 : decode cX9_look 28 = .ok (.bipush (-3), 2) := by decide +kernel
theorem dX9_look_30 : decode cX9_look 30 = .ok (.ireturn, 1) := by decide +kernel
theorem dX9_look_31 : decode cX9_look 31 = .ok (.aload_n 0, 1) := by decide +kernel
theorem dX9_look_32 : decode cX9_look 32 = .ok (.invokevirtual 132, 3) := by decide +kernel
theorem dX9_look_35 : decode cX9_look 35 = .ok (.aload_n 0, 1) := by decide +kernel
theorem dX9_look_36 : decode cX9_look 36 = .ok (.getfield 23, 3) := by decide +kernel
theorem dX9_look_39 : decode cX9_look 39 = .ok (.iconst 0, 1) := by decide +kernel
theorem dX9_look_40 : decode cX9_look 40 = .ok (.aload_n 0, 1) := by decide +kernel
theorem dX9_look_41 : decode cX9_look 41 = .ok (.getfield 23, 3) := by decide +kernel
theorem dX9_look_44 : decode cX9_look 44 = .ok (.iconst 0, 1) := by decide +kernel
theorem dX9_look_45 : decode cX9_look 45 = .ok (.iaload, 1) := by decide +kernel
theorem dX9_look_46 : decode cX9_look 46 = .ok (.iload_n 1, 1) := by decide +kernel
theorem dX9_look_47 : decode cX9_look 47 = .ok (.invokestatic 125, 3) := by decide +kernel
theorem dX9_look_50 : decode cX9_look 50 = .ok (.iastore, 1) := by decide +kernel
theorem dX9_look_51 : decode cX9_look 51 = .ok (.aload_n 0, 1) := by decide +kernel
theorem dX9_look_52 : decode cX9_look 52 = .ok (.iconst 0, 1) := by decide +kernel
theorem dX9_look_53 : decode cX9_look 53 = .ok (.aload_n 0, 1) := by decide +kernel
theorem dX9_look_54 : decode cX9_look 54 = .ok (.getfield 23, 3) := by decide +kernel
theorem dX9_look_57 : decode cX9_look 57 = .ok (.iconst 0, 1) := by decide +kernel
theorem dX9_look_58 : decode cX9_look 58 = .ok (.iaload, 1) := by decide +kernel
theorem dX9_look_59 : decode cX9_look 59 = .ok (.invokevirtual 135, 3) := by decide +kernel
theorem dX9_look_62 : decode cX9_look 62 = .ok (.pop2, 1) := by decide +kernel
theorem dX9_look_63 : decode cX9_look 63 = .ok (.aload_n 0, 1) := by decide +kernel
theorem dX9_look_64 : decode cX9_look 64 = .ok (.iconst 0, 1) := by decide +kernel
theorem dX9_look_65 : decode cX9_look 65 = .ok (.aload_n 0, 1) := by decide +kernel
theorem dX9_look_66 : decode cX9_look 66 = .ok (.getfield 23, 3) := by decide +kernel
theorem dX9_look_69 : decode cX9_look 69 = .ok (.iconst 1, 1) := by decide +kernel
theorem dX9_look_70 : decode cX9_look 70 = .ok (.iaload, 1) := by decide +kernel
theorem dX9_look_71 : decode cX9_look 71 = .ok (.invokevirtual 139, 3) := by decide +kernel
theorem dX9_look_74 : decode cX9_look 74 = .ok (.aload_n 0, 1) := by decide +kernel
theorem dX9_look_75 : decode cX9_look 75 = .ok (.getfield 23, 3) := by decide +kernel
theorem dX9_look_78 : decode cX9_look 78 = .ok (.iconst 1, 1) := by decide +kernel
theorem dX9_look_79 : decode cX9_look 79 = .ok (.dup2, 1) := by decide +kernel
theorem dX9_look_80 : decode cX9_look 80 = .ok (.iaload, 1) := by decide +kernel
theorem dX9_look_81 : decode cX9_look 81 = .ok (.iconst 1, 1) := by decide +kernel
theorem dX9_look_82 : decode cX9_look 82 = .ok (.iadd, 1) := by decide +kernel
theorem dX9_look_83 : decode cX9_look 83 = .ok (.iastore, 1) := by decide +kernel
theorem dX9_look_84 : decode cX9_look 84 = .ok (.aload_n 0, 1) := by decide +kernel
theorem dX9_look_85 : decode cX9_look 85 = .ok (.getfield 23, 3) := by decide +kernel
theorem dX9_look_88 : decode cX9_look 88 = .ok (.iconst 0, 1) := by decide +kernel
theorem dX9_look_89 : decode cX9_look 89 = .ok (.iaload, 1) := by decide +kernel
theorem dX9_look_90 : decode cX9_look 90 = .ok (.ireturn, 1) := by decide +kernel
set_option maxRecDepth 20000 in
theorem ggX9_lookAboard_X9_keepAct : GoodIn wsX9_lookAboard wsX9_keepAct := goodIn_r _ [7, 8, 9, 10, 11, 1, 29, 30, 31, 32, 33, 34, 35, 36, 37, 38, 39, 40, 41, 42, 43, 44, 45, 46, 47, 48, 49, 50, 51, 52, 53, 54, 55, 56, 57] (by decide +kernel) (by decide +kernel)
set_option maxRecDepth 20000 in
theorem gX9_lookAboard_X9_keepAct : GoodIn wsX9_lookAboard (wsV RX9 132 RX9 yX9_keepAct wsX9_keepAct) := goodIn_app (goodIn_of _ (by decide +kernel)) ggX9_lookAboard_X9_keepAct
set_option maxRecDepth 20000 in
theorem ggX9_lookAboard_X9_lookAt : GoodIn wsX9_lookAboard wsX9_lookAt := goodIn_r _ [15, 16, 17, 10, 29, 30, 31, 32, 33, 34, 35, 36, 37, 38, 39, 40, 41, 42, 43, 44, 45, 46, 47, 48, 49, 50, 51, 52, 53, 54, 55, 56, 57] (by decide +kernel) (by decide +kernel)
set_option maxRecDepth 20000 in
theorem gX9_lookAboard_X9_lookAt : GoodIn wsX9_lookAboard (wsV RX9 135 RX9 yX9_lookAt wsX9_lookAt) := goodIn_app (goodIn_of _ (by decide +kernel)) ggX9_lookAboard_X9_lookAt
set_option maxRecDepth 20000 in
theorem ggX9_lookAboard_X9_drift : GoodIn wsX9_lookAboard wsX9_drift := goodIn_r _ [21, 22, 10, 23, 24, 2, 25, 26, 27, 6, 28, 29, 30, 31, 32, 33, 34, 35, 36, 37, 38, 39, 40, 41, 42, 43, 44, 45, 46, 47, 48, 49, 50, 51, 52, 53, 54, 55, 56, 57] (by decide +kernel) (by decide +kernel)
set_option maxRecDepth 20000 in
theorem gX9_lookAboard_X9_drift : GoodIn wsX9_lookAboard (wsV RX9 139 RX9 yX9_drift wsX9_drift) := goodIn_app (goodIn_of _ (by decide +kernel)) ggX9_lookAboard_X9_drift
theorem dX9_lookAboard_0 : decode cX9_lookAboard 0 = .ok (.aload_n 0, 1) := by decide +kernel
theorem dX9_lookAboard_1 : decode cX9_lookAboard 1 = .ok (.getfield 23, 3) := by decide +kernel
theorem dX9_lookAboard_4 : decode cX9_lookAboard 4 = .ok (.iconst 1, 1) := by decide +kernel
theorem dX9_lookAboard_5 : decode cX9_lookAboard 5 = .ok (.iaload, 1) := by decide +kernel
theorem dX9_lookAboard_6 : decode cX9_lookAboard 6 = .ok (.aload_n 0, 1) := by decide +kernel
theorem dX9_lookAboard_7 : decode cX9_lookAboard 7 = .ok (.getfield 48, 3) := by decide +kernel
theorem dX9_lookAboard_10 : decode cX9_lookAboard 10 = .ok (.if_icmp .ne 6, 3) := by decide +kernel
theorem dX9_lookAboard_13 : decode cX9_lookAboard 13 = .ok (.bipush (-3), 2) := by decide +kernel
theorem dX9_lookAboard_15 : decode cX9_lookAboard 15 = .ok (.ireturn, 1) := by decide +kernel
theorem dX9_lookAboard_16 : decode cX9_lookAboard 16 = .ok (.aload_n 0, 1) := by decide +kernel
theorem dX9_lookAboard_17 : decode cX9_lookAboard 17 = .ok (.invokevirtual 132, 3) := by decide +kernel
theorem dX9_lookAboard_20 : decode cX9_lookAboard 20 = .ok (.aload_n 0, 1) := by decide +kernel
theorem dX9_lookAboard_21 : decode cX9_lookAboard 21 = .ok (.iconst 0, 1) := by decide +kernel
theorem dX9_lookAboard_22 : decode cX9_lookAboard 22 = .ok (.bipush 10, 2) := by decide +kernel
theorem dX9_lookAboard_24 : decode cX9_lookAboard 24 = .ok (.invokevirtual 135, 3) := by decide +kernel
theorem dX9_lookAboard_27 : decode cX9_lookAboard 27 = .ok (.pop2, 1) := by decide +kernel
theorem dX9_lookAboard_28 : decode cX9_lookAboard 28 = .ok (.aload_n 0, 1) := by decide +kernel
theorem dX9_lookAboard_29 : decode cX9_lookAboard 29 = .ok (.iconst 0, 1) := by decide +kernel
theorem dX9_lookAboard_30 : decode cX9_lookAboard 30 = .ok (.aload_n 0, 1) := by decide +kernel
theorem dX9_lookAboard_31 : decode cX9_lookAboard 31 = .ok (.getfield 23, 3) := by decide +kernel
theorem dX9_lookAboard_34 : decode cX9_lookAboard 34 = .ok (.iconst 1, 1) := by decide +kernel
theorem dX9_lookAboard_35 : decode cX9_lookAboard 35 = .ok (.iaload, 1) := by decide +kernel
theorem dX9_lookAboard_36 : decode cX9_lookAboard 36 = .ok (.invokevirtual 139, 3) := by decide +kernel
theorem dX9_lookAboard_39 : decode cX9_lookAboard 39 = .ok (.aload_n 0, 1) := by decide +kernel
theorem dX9_lookAboard_40 : decode cX9_lookAboard 40 = .ok (.getfield 23, 3) := by decide +kernel
theorem dX9_lookAboard_43 : decode cX9_lookAboard 43 = .ok (.iconst 1, 1) := by decide +kernel
theorem dX9_lookAboard_44 : decode cX9_lookAboard 44 = .ok (.dup2, 1) := by decide +kernel
theorem dX9_lookAboard_45 : decode cX9_lookAboard 45 = .ok (.iaload, 1) := by decide +kernel
theorem dX9_lookAboard_46 : decode cX9_lookAboard 46 = .ok (.iconst 1, 1) := by decide +kernel
theorem dX9_lookAboard_47 : decode cX9_lookAboard 47 = .ok (.iadd, 1) := by decide +kernel
theorem dX9_lookAboard_48 : decode cX9_lookAboard 48 = .ok (.iastore, 1) := by decide +kernel
theorem dX9_lookAboard_49 : decode cX9_lookAboard 49 = .ok (.aload_n 0, 1) := by decide +kernel
theorem dX9_lookAboard_50 : decode cX9_lookAboard 50 = .ok (.getfield 23, 3) := by decide +kernel
theorem dX9_lookAboard_53 : decode cX9_lookAboard 53 = .ok (.iconst 1, 1) := by decide +kernel
theorem dX9_lookAboard_54 : decode cX9_lookAboard 54 = .ok (.iaload, 1) := by decide +kernel
theorem dX9_lookAboard_55 : decode cX9_lookAboard 55 = .ok (.ireturn, 1) := by decide +kernel
set_option maxRecDepth 20000 in
theorem ggX9_isWitness_X9_in : GoodIn wsX9_isWitness wsX9_in := goodIn_r _ [5] (by decide +kernel) (by decide +kernel)
set_option maxRecDepth 20000 in
theorem gX9_isWitness_X9_in : GoodIn wsX9_isWitness (va_wsS RX9 54 yX9_in wsX9_in) := goodIn_app (goodIn_of _ (by decide +kernel)) ggX9_isWitness_X9_in
theorem dX9_isWitness_0 : decode cX9_isWitness 0 = .ok (.iload_n 0, 1) := by decide +kernel
theorem dX9_isWitness_1 : decode cX9_isWitness 1 = .ok (.i2l, 1) := by decide +kernel
theorem dX9_isWitness_2 : decode cX9_isWitness 2 = .ok (.lconst 0, 1) := by decide +kernel
theorem dX9_isWitness_3 : decode cX9_isWitness 3 = .ok (.ldc2_w 67, 3) := by decide +kernel
theorem dX9_isWitness_6 : decode cX9_isWitness 6 = .ok (.invokestatic 54, 3) := by decide +kernel
theorem dX9_isWitness_9 : decode cX9_isWitness 9 = .ok (.ifCond .eq 32, 3) := by decide +kernel
theorem dX9_isWitness_12 : decode cX9_isWitness 12 = .ok (.iload_n 1, 1) := by decide +kernel
theorem dX9_isWitness_13 : decode cX9_isWitness 13 = .ok (.i2l, 1) := by decide +kernel
theorem dX9_isWitness_14 : decode cX9_isWitness 14 = .ok (.iload_n 0, 1) := by decide +kernel
theorem dX9_isWitness_15 : decode cX9_isWitness 15 = .ok (.i2l, 1) := by decide +kernel
theorem dX9_isWitness_16 : decode cX9_isWitness 16 = .ok (.ldc2_w 67, 3) := by decide +kernel
theorem dX9_isWitness_19 : decode cX9_isWitness 19 = .ok (.invokestatic 54, 3) := by decide +kernel
theorem dX9_isWitness_22 : decode cX9_isWitness 22 = .ok (.ifCond .eq 19, 3) := by decide +kernel
theorem dX9_isWitness_25 : decode cX9_isWitness 25 = .ok (.iload_n 2, 1) := by decide +kernel
theorem dX9_isWitness_26 : decode cX9_isWitness 26 = .ok (.i2l, 1) := by decide +kernel
theorem dX9_isWitness_27 : decode cX9_isWitness 27 = .ok (.lconst 1, 1) := by decide +kernel
theorem dX9_isWitness_28 : decode cX9_isWitness 28 = .ok (.ldc2_w 67, 3) := by decide +kernel
theorem dX9_isWitness_31 : decode cX9_isWitness 31 = .ok (.invokestatic 54, 3) := by decide +kernel
theorem dX9_isWitness_34 : decode cX9_isWitness 34 = .ok (.ifCond .eq 7, 3) := by decide +kernel
theorem dX9_isWitness_37 : decode cX9_isWitness 37 = .ok (.iconst 1, 1) := by decide +kernel
theorem dX9_isWitness_38 : decode cX9_isWitness 38 = .ok (.goto 4, 3) := by decide +kernel
theorem dX9_isWitness_41 : decode cX9_isWitness 41 = .ok (.iconst 0, 1) := by decide +kernel
theorem dX9_isWitness_42 : decode cX9_isWitness 42 = .ok (.ireturn, 1) := by decide +kernel
set_option maxRecDepth 20000 in
theorem ggX9_hear_X9_isWitness : GoodIn wsX9_hear wsX9_isWitness := goodIn_r _ [7, 8, 9, 10, 6, 11] (by decide +kernel) (by decide +kernel)
set_option maxRecDepth 20000 in
theorem gX9_hear_X9_isWitness : GoodIn wsX9_hear (va_wsS RX9 143 yX9_isWitness wsX9_isWitness) := goodIn_app (goodIn_of _ (by decide +kernel)) ggX9_hear_X9_isWitness
set_option maxRecDepth 20000 in
theorem ggX9_hear_X9_keepAct : GoodIn wsX9_hear wsX9_keepAct := goodIn_r _ [15, 16, 17, 2, 18, 1, 19, 20, 21, 22, 23, 24, 25, 26, 27, 28, 29, 30, 31, 32, 33, 34, 35, 36, 37, 38, 39, 40, 41, 42, 43, 44, 45, 46, 47] (by decide +kernel) (by decide +kernel)
set_option maxRecDepth 20000 in
theorem gX9_hear_X9_keepAct : GoodIn wsX9_hear (wsV RX9 132 RX9 yX9_keepAct wsX9_keepAct) := goodIn_app (goodIn_of _ (by decide +kernel)) ggX9_hear_X9_keepAct
set_option maxRecDepth 20000 in
theorem ggX9_hear_X9_in : GoodIn wsX9_hear wsX9_in := goodIn_r _ [11] (by decide +kernel) (by decide +kernel)
set_option maxRecDepth 20000 in
theorem gX9_hear_X9_in : GoodIn wsX9_hear (va_wsS RX9 54 yX9_in wsX9_in) := goodIn_app (goodIn_of _ (by decide +kernel)) ggX9_hear_X9_in
theorem dX9_hear_0 : decode cX9_hear 0 = .ok (.iload_n 1, 1) := by decide +kernel
theorem dX9_hear_1 : decode cX9_hear 1 = .ok (.iload_n 2, 1) := by decide +kernel
theorem dX9_hear_2 : decode cX9_hear 2 = .ok (.iload_n 3, 1) := by decide +kernel
theorem dX9_hear_3 : decode cX9_hear 3 = .ok (.invokestatic 143, 3) := by decide +kernel
theorem dX9_hear_6 : decode cX9_hear 6 = .ok (.ifCond .ne 6, 3) := by decide +kernel
theorem dX9_hear_9 : decode cX9_hear 9 = .ok (.bipush (-2), 2) := by decide +kernel
theorem dX9_hear_11 : decode cX9_hear 11 = .ok (.ireturn, 1) := by decide +kernel
theorem dX9_hear_12 : decode cX9_hear 12 = .ok (.aload_n 0, 1) := by decide +kernel
theorem dX9_hear_13 : decode cX9_hear 13 = .ok (.getfield 23, 3) := by decide +kernel
theorem dX9_hear_16 : decode cX9_hear 16 = .ok (.iconst 1, 1) := by decide +kernel
theorem dX9_hear_17 : decode cX9_hear 17 = .ok (.iaload, 1) := by decide +kernel
theorem dX9_hear_18 : decode cX9_hear 18 = .ok (.ifCond .le 6, 3) := by decide +kernel
theorem dX9_hear_21 : decode cX9_hear 21 = .ok (.bipush (-3), 2) := by decide +kernel
theorem dX9_hear_23 : decode cX9_hear 23 = .ok (.ireturn, 1) := by decide +kernel
theorem dX9_hear_24 : decode cX9_hear 24 = .ok (.aload_n 0, 1) := by decide +kernel
theorem dX9_hear_25 : decode cX9_hear 25 = .ok (.getfield 23, 3) := by decide +kernel
theorem dX9_hear_28 : decode cX9_hear 28 = .ok (.iconst 2, 1) := by decide +kernel
theorem dX9_hear_29 : decode cX9_hear 29 = .ok (.iaload, 1) := by decide +kernel
theorem dX9_hear_30 : decode cX9_hear 30 = .ok (.iconst 2, 1) := by decide +kernel
theorem dX9_hear_31 : decode cX9_hear 31 = .ok (.if_icmp .ne 6, 3) := by decide +kernel
theorem dX9_hear_34 : decode cX9_hear 34 = .ok (.bipush (-4), 2) := by decide +kernel
theorem dX9_hear_36 : decode cX9_hear 36 = .ok (.ireturn, 1) := by decide +kernel
theorem dX9_hear_37 : decode cX9_hear 37 = .ok (.aload_n 0, 1) := by decide +kernel
theorem dX9_hear_38 : decode cX9_hear 38 = .ok (.invokevirtual 132, 3) := by decide +kernel
theorem dX9_hear_41 : decode cX9_hear 41 = .ok (.iconst 0, 1) := by decide +kernel
theorem dX9_hear_42 : decode cX9_hear 42 = .ok (.istore 4, 2) := by decide +kernel
theorem dX9_hear_44 : decode cX9_hear 44 = .ok (.iload 4, 2) := by decide +kernel
theorem dX9_hear_46 : decode cX9_hear 46 = .ok (.bipush 10, 2) := by decide +kernel
theorem dX9_hear_48 : decode cX9_hear 48 = .ok (.if_icmp .ge 42, 3) := by decide +kernel
theorem dX9_hear_51 : decode cX9_hear 51 = .ok (.aload_n 0, 1) := by decide +kernel
theorem dX9_hear_52 : decode cX9_hear 52 = .ok (.getfield 19, 3) := by decide +kernel
theorem dX9_hear_55 : decode cX9_hear 55 = .ok (.iload 4, 2) := by decide +kernel
theorem dX9_hear_57 : decode cX9_hear 57 = .ok (.dup2, 1) := by decide +kernel
theorem dX9_hear_58 : decode cX9_hear 58 = .ok (.laload, 1) := by decide +kernel
theorem dX9_hear_59 : decode cX9_hear 59 = .ok (.iload 4, 2) := by decide +kernel
theorem dX9_hear_61 : decode cX9_hear 61 = .ok (.i2l, 1) := by decide +kernel
theorem dX9_hear_62 : decode cX9_hear 62 = .ok (.iload_n 1, 1) := by decide +kernel
theorem dX9_hear_63 : decode cX9_hear 63 = .ok (.i2l, 1) := by decide +kernel
theorem dX9_hear_64 : decode cX9_hear 64 = .ok (.iload_n 2, 1) := by decide +kernel
theorem dX9_hear_65 : decode cX9_hear 65 = .ok (.i2l, 1) := by decide +kernel
theorem dX9_hear_66 : decode cX9_hear 66 = .ok (.invokestatic 54, 3) := by decide +kernel
theorem dX9_hear_69 : decode cX9_hear 69 = .ok (.ifCond .eq 8, 3) := by decide +kernel
theorem dX9_hear_72 : decode cX9_hear 72 = .ok (.iload_n 3, 1) := by decide +kernel
theorem dX9_hear_73 : decode cX9_hear 73 = .ok (.i2l, 1) := by decide +kernel
theorem dX9_hear_74 : decode cX9_hear 74 = .ok (.goto 8, 3) := by decide +kernel
theorem dX9_hear_77 : decode cX9_hear 77 = .ok (.bipush 10, 2) := by decide +kernel
theorem dX9_hear_79 : decode cX9_hear 79 = .ok (.iload_n 3, 1) := by decide +kernel
theorem dX9_hear_80 : decode cX9_hear 80 = .ok (.isub, 1) := by decide +kernel
theorem dX9_hear_81 : decode cX9_hear 81 = .ok (.i2l, 1) := by decide +kernel
theorem dX9_hear_82 : decode cX9_hear 82 = .ok (.lmul, 1) := by decide +kernel
theorem dX9_hear_83 : decode cX9_hear 83 = .ok (.lastore, 1) := by decide +kernel
theorem dX9_hear_84 : decode cX9_hear 84 = .ok (.iinc 4 1, 3) := by decide +kernel
theorem dX9_hear_87 : decode cX9_hear 87 = .ok (.goto (-43), 3) := by decide +kernel
theorem dX9_hear_90 : decode cX9_hear 90 = .ok (.aload_n 0, 1) := by decide +kernel
theorem dX9_hear_91 : decode cX9_hear 91 = .ok (.getfield 19, 3) := by decide +kernel
theorem dX9_hear_94 : decode cX9_hear 94 = .ok (.bipush 10, 2) := by decide +kernel
theorem dX9_hear_96 : decode cX9_hear 96 = .ok (.dup2, 1) := by decide +kernel
theorem dX9_hear_97 : decode cX9_hear 97 = .ok (.laload, 1) := by decide +kernel
theorem dX9_hear_98 : decode cX9_hear 98 = .ok (.ldc2_w 147, 3) := by decide +kernel
theorem dX9_hear_101 : decode cX9_hear 101 = .ok (.lmul, 1) := by decide +kernel
theorem dX9_hear_102 : decode cX9_hear 102 = .ok (.lastore, 1) := by decide +kernel
theorem dX9_hear_103 : decode cX9_hear 103 = .ok (.iconst 3, 1) := by decide +kernel
theorem dX9_hear_104 : decode cX9_hear 104 = .ok (.iconst 3, 1) := by decide +kernel
theorem dX9_hear_105 : decode cX9_hear 105 = .ok (.aload_n 0, 1) := by decide +kernel
theorem dX9_hear_106 : decode cX9_hear 106 = .ok (.getfield 23, 3) := by decide +kernel
theorem dX9_hear_109 : decode cX9_hear 109 = .ok (.iconst 2, 1) := by decide +kernel
theorem dX9_hear_110 : decode cX9_hear 110 = .ok (.iaload, 1) := by decide +kernel
theorem dX9_hear_111 : decode cX9_hear 111 = .ok (.imul, 1) := by decide +kernel
theorem dX9_hear_112 : decode cX9_hear 112 = .ok (.iadd, 1) := by decide +kernel
theorem dX9_hear_113 : decode cX9_hear 113 = .ok (.istore 4, 2) := by decide +kernel
theorem dX9_hear_115 : decode cX9_hear 115 = .ok (.aload_n 0, 1) := by decide +kernel
theorem dX9_hear_116 : decode cX9_hear 116 = .ok (.getfield 23, 3) := by decide +kernel
theorem dX9_hear_119 : decode cX9_hear 119 = .ok (.iload 4, 2) := by decide +kernel
theorem dX9_hear_121 : decode cX9_hear 121 = .ok (.iload_n 1, 1) := by decide +kernel
theorem dX9_hear_122 : decode cX9_hear 122 = .ok (.iastore, 1) := by decide +kernel
theorem dX9_hear_123 : decode cX9_hear 123 = .ok (.aload_n 0, 1) := by decide +kernel
theorem dX9_hear_124 : decode cX9_hear 124 = .ok (.getfield 23, 3) := by decide +kernel
theorem dX9_hear_127 : decode cX9_hear 127 = .ok (.iload 4, 2) := by decide +kernel
theorem dX9_hear_129 : decode cX9_hear 129 = .ok (.iconst 1, 1) := by decide +kernel
theorem dX9_hear_130 : decode cX9_hear 130 = .ok (.iadd, 1) := by decide +kernel
theorem dX9_hear_131 : decode cX9_hear 131 = .ok (.iload_n 2, 1) := by decide +kernel
theorem dX9_hear_132 : decode cX9_hear 132 = .ok (.iastore, 1) := by decide +kernel
theorem dX9_hear_133 : decode cX9_hear 133 = .ok (.aload_n 0, 1) := by decide +kernel
theorem dX9_hear_134 : decode cX9_hear 134 = .ok (.getfield 23, 3) := by decide +kernel
theorem dX9_hear_137 : decode cX9_hear 137 = .ok (.iload 4, 2) := by decide +kernel
theorem dX9_hear_139 : decode cX9_hear 139 = .ok (.iconst 2, 1) := by decide +kernel
theorem dX9_hear_140 : decode cX9_hear 140 = .ok (.iadd, 1) := by decide +kernel
theorem dX9_hear_141 : decode cX9_hear 141 = .ok (.iload_n 3, 1) := by decide +kernel
theorem dX9_hear_142 : decode cX9_hear 142 = .ok (.iastore, 1) := by decide +kernel
theorem dX9_hear_143 : decode cX9_hear 143 = .ok (.aload_n 0, 1) := by decide +kernel
theorem dX9_hear_144 : decode cX9_hear 144 = .ok (.getfield 23, 3) := by decide +kernel
theorem dX9_hear_147 : decode cX9_hear 147 = .ok (.iconst 2, 1) := by decide +kernel
theorem dX9_hear_148 : decode cX9_hear 148 = .ok (.dup2, 1) := by decide +kernel
theorem dX9_hear_149 : decode cX9_hear 149 = .ok (.iaload, 1) := by decide +kernel
theorem dX9_hear_150 : decode cX9_hear 150 = .ok (.iconst 1, 1) := by decide +kernel
theorem dX9_hear_151 : decode cX9_hear 151 = .ok (.iadd, 1) := by decide +kernel
theorem dX9_hear_152 : decode cX9_hear 152 = .ok (.iastore, 1) := by decide +kernel
theorem dX9_hear_153 : decode cX9_hear 153 = .ok (.aload_n 0, 1) := by decide +kernel
theorem dX9_hear_154 : decode cX9_hear 154 = .ok (.getfield 23, 3) := by decide +kernel
theorem dX9_hear_157 : decode cX9_hear 157 = .ok (.iconst 2, 1) := by decide +kernel
theorem dX9_hear_158 : decode cX9_hear 158 = .ok (.iaload, 1) := by decide +kernel
theorem dX9_hear_159 : decode cX9_hear 159 = .ok (.ireturn, 1) := by decide +kernel
theorem dX9_undo_0 : decode cX9_undo 0 = .ok (.aload_n 0, 1) := by decide +kernel
theorem dX9_undo_1 : decode cX9_undo 1 = .ok (.getfield 119, 3) := by decide +kernel
theorem dX9_undo_4 : decode cX9_undo 4 = .ok (.ifCond .ne 6, 3) := by decide +kernel
theorem dX9_undo_7 : decode cX9_undo 7 = .ok (.bipush (-3), 2) := by decide +kernel
theorem dX9_undo_9 : decode cX9_undo 9 = .ok (.ireturn, 1) := by decide +kernel
theorem dX9_undo_10 : decode cX9_undo 10 = .ok (.aload_n 0, 1) := by decide +kernel
theorem dX9_undo_11 : decode cX9_undo 11 = .ok (.dup, 1) := by decide +kernel
theorem dX9_undo_12 : decode cX9_undo 12 = .ok (.getfield 119, 3) := by decide +kernel
theorem dX9_undo_15 : decode cX9_undo 15 = .ok (.iconst 1, 1) := by decide +kernel
theorem dX9_undo_16 : decode cX9_undo 16 = .ok (.isub, 1) := by decide +kernel
theorem dX9_undo_17 : decode cX9_undo 17 = .ok (.putfield 119, 3) := by decide +kernel
theorem dX9_undo_20 : decode cX9_undo 20 = .ok (.iconst 0, 1) := by decide +kernel
theorem dX9_undo_21 : decode cX9_undo 21 = .ok (.istore_n 1, 1) := by decide +kernel
theorem dX9_undo_22 : decode cX9_undo 22 = .ok (.iload_n 1, 1) := by decide +kernel
theorem dX9_undo_23 : decode cX9_undo 23 = .ok (.bipush 11, 2) := by decide +kernel
theorem dX9_undo_25 : decode cX9_undo 25 = .ok (.if_icmp .ge 29, 3) := by decide +kernel
theorem dX9_undo_28 : decode cX9_undo 28 = .ok (.aload_n 0, 1) := by decide +kernel
theorem dX9_undo_29 : decode cX9_undo 29 = .ok (.getfield 19, 3) := by decide +kernel
theorem dX9_undo_32 : decode cX9_undo 32 = .ok (.iload_n 1, 1) := by decide +kernel
theorem dX9_undo_33 : decode cX9_undo 33 = .ok (.aload_n 0, 1) := by decide +kernel
theorem dX9_undo_34 : decode cX9_undo 34 = .ok (.getfield 32, 3) := by decide +kernel
theorem dX9_undo_37 : decode cX9_undo 37 = .ok (.bipush 11, 2) := by decide +kernel
theorem dX9_undo_39 : decode cX9_undo 39 = .ok (.aload_n 0, 1) := by decide +kernel
theorem dX9_undo_40 : decode cX9_undo 40 = .ok (.getfield 119, 3) := by decide +kernel
theorem dX9_undo_43 : decode cX9_undo 43 = .ok (.imul, 1) := by decide +kernel
theorem dX9_undo_44 : decode cX9_undo 44 = .ok (.iload_n 1, 1) := by decide +kernel
theorem dX9_undo_45 : decode cX9_undo 45 = .ok (.iadd, 1) := by decide +kernel
theorem dX9_undo_46 : decode cX9_undo 46 = .ok (.laload, 1) := by decide +kernel
theorem dX9_undo_47 : decode cX9_undo 47 = .ok (.lastore, 1) := by decide +kernel
theorem dX9_undo_48 : decode cX9_undo 48 = .ok (.iinc 1 1, 3) := by decide +kernel
theorem dX9_undo_51 : decode cX9_undo 51 = .ok (.goto (-29), 3) := by decide +kernel
theorem dX9_undo_54 : decode cX9_undo 54 = .ok (.iconst 0, 1) := by decide +kernel
theorem dX9_undo_55 : decode cX9_undo 55 = .ok (.istore_n 1, 1) := by decide +kernel
theorem dX9_undo_56 : decode cX9_undo 56 = .ok (.iload_n 1, 1) := by decide +kernel
theorem dX9_undo_57 : decode cX9_undo 57 = .ok (.bipush 9, 2) := by decide +kernel
theorem dX9_undo_59 : decode cX9_undo 59 = .ok (.if_icmp .ge 29, 3) := by decide +kernel
theorem dX9_undo_62 : decode cX9_undo 62 = .ok (.aload_n 0, 1) := by decide +kernel
theorem dX9_undo_63 : decode cX9_undo 63 = .ok (.getfield 23, 3) := by decide +kernel
theorem dX9_undo_66 : decode cX9_undo 66 = .ok (.iload_n 1, 1) := by decide +kernel
theorem dX9_undo_67 : decode cX9_undo 67 = .ok (.aload_n 0, 1) := by decide +kernel
theorem dX9_undo_68 : decode cX9_undo 68 = .ok (.getfield 35, 3) := by decide +kernel
theorem dX9_undo_71 : decode cX9_undo 71 = .ok (.bipush 9, 2) := by decide +kernel
theorem dX9_undo_73 : decode cX9_undo 73 = .ok (.aload_n 0, 1) := by decide +kernel
theorem dX9_undo_74 : decode cX9_undo 74 = .ok (.getfield 119, 3) := by decide +kernel
theorem dX9_undo_77 : decode cX9_undo 77 = .ok (.imul, 1) := by decide +kernel
theorem dX9_undo_78 : decode cX9_undo 78 = .ok (.iload_n 1, 1) := by decide +kernel
theorem dX9_undo_79 : decode cX9_undo 79 = .ok (.iadd, 1) := by decide +kernel
theorem dX9_undo_80 : decode cX9_undo 80 = .ok (.iaload, 1) := by decide +kernel
theorem dX9_undo_81 : decode cX9_undo 81 = .ok (.iastore, 1) := by decide +kernel
theorem dX9_undo_82 : decode cX9_undo 82 = .ok (.iinc 1 1, 3) := by decide +kernel
theorem dX9_undo_85 : decode cX9_undo 85 = .ok (.goto (-29), 3) := by decide +kernel
theorem dX9_undo_88 : decode cX9_undo 88 = .ok (.aload_n 0, 1) := by decide +kernel
theorem dX9_undo_89 : decode cX9_undo 89 = .ok (.getfield 119, 3) := by decide +kernel
theorem dX9_undo_92 : decode cX9_undo 92 = .ok (.ireturn, 1) := by decide +kernel
set_option maxRecDepth 20000 in
theorem ggX9_weight_X9_in : GoodIn wsX9_weight wsX9_in := goodIn_r _ [7] (by decide +kernel) (by decide +kernel)
set_option maxRecDepth 20000 in
theorem gX9_weight_X9_in : GoodIn wsX9_weight (va_wsS RX9 54 yX9_in wsX9_in) := goodIn_app (goodIn_of _ (by decide +kernel)) ggX9_weight_X9_in
theorem dX9_weight_0 : decode cX9_weight 0 = .ok (.iload_n 1, 1) := by decide +kernel
theorem dX9_weight_1 : decode cX9_weight 1 = .ok (.i2l, 1) := by decide +kernel
theorem dX9_weight_2 : decode cX9_weight 2 = .ok (.lconst 0, 1) := by decide +kernel
theorem dX9_weight_3 : decode cX9_weight 3 = .ok (.ldc2_w 128, 3) := by decide +kernel
theorem dX9_weight_6 : decode cX9_weight 6 = .ok (.invokestatic 54, 3) := by decide +kernel
theorem dX9_weight_9 : decode cX9_weight 9 = .ok (.ifCond .eq 12, 3) := by decide +kernel
theorem dX9_weight_12 : decode cX9_weight 12 = .ok (.aload_n 0, 1) := by decide +kernel
theorem dX9_weight_13 : decode cX9_weight 13 = .ok (.getfield 19, 3) := by decide +kernel
theorem dX9_weight_16 : decode cX9_weight 16 = .ok (.iload_n 1, 1) := by decide +kernel
theorem dX9_weight_17 : decode cX9_weight 17 = .ok (.laload, 1) := by decide +kernel
theorem dX9_weight_18 : decode cX9_weight 18 = .ok (.goto 6, 3) := by decide +kernel
theorem dX9_weight_21 : decode cX9_weight 21 = .ok (.ldc2_w 149, 3) := by decide +kernel
theorem dX9_weight_24 : decode cX9_weight 24 = .ok (.lreturn, 1) := by decide +kernel
theorem dX9_common_0 : decode cX9_common 0 = .ok (.lload_n 0, 1) := by decide +kernel
theorem dX9_common_1 : decode cX9_common 1 = .ok (.lconst 0, 1) := by decide +kernel
theorem dX9_common_2 : decode cX9_common 2 = .ok (.lcmp, 1) := by decide +kernel
theorem dX9_common_3 : decode cX9_common 3 = .ok (.ifCond .ge 8, 3) := by decide +kernel
theorem dX9_common_6 : decode cX9_common 6 = .ok (.lload_n 0, 1) := by decide +kernel
theorem dX9_common_7 : decode cX9_common 7 = .ok (.lneg, 1) := by decide +kernel
theorem dX9_common_8 : decode cX9_common 8 = .ok (.goto 4, 3) := by decide +kernel
theorem dX9_common_11 : decode cX9_common 11 = .ok (.lload_n 0, 1) := by decide +kernel
theorem dX9_common_12 : decode cX9_common 12 = .ok (.lstore 4, 2) := by decide +kernel
theorem dX9_common_14 : decode cX9_common 14 = .ok (.lload_n 2, 1) := by decide +kernel
theorem dX9_common_15 : decode cX9_common 15 = .ok (.lstore 6, 2) := by decide +kernel
theorem dX9_common_17 : decode cX9_common 17 = .ok (.lload 6, 2) := by decide +kernel
theorem dX9_common_19 : decode cX9_common 19 = .ok (.lconst 0, 1) := by decide +kernel
theorem dX9_common_20 : decode cX9_common 20 = .ok (.lcmp, 1) := by decide +kernel
theorem dX9_common_21 : decode cX9_common 21 = .ok (.ifCond .eq 21, 3) := by decide +kernel
theorem dX9_common_24 : decode cX9_common 24 = .ok (.lload 4, 2) := by decide +kernel
theorem dX9_common_26 : decode cX9_common 26 = .ok (.lload 6, 2) := by decide +kernel
theorem dX9_common_28 : decode cX9_common 28 = .ok (.lrem, 1) := by decide +kernel
theorem dX9_common_29 : decode cX9_common 29 = .ok (.lstore 8, 2) := by decide +kernel
theorem dX9_common_31 : decode cX9_common 31 = .ok (.lload 6, 2) := by decide +kernel
theorem dX9_common_33 : decode cX9_common 33 = .ok (.lstore 4, 2) := by decide +kernel
theorem dX9_common_35 : decode cX9_common 35 = .ok (.lload 8, 2) := by decide +kernel
theorem dX9_common_37 : decode cX9_common 37 = .ok (.lstore 6, 2) := by decide +kernel
theorem dX9_common_39 : decode cX9_common 39 = .ok (.goto (-22), 3) := by decide +kernel
theorem dX9_common_42 : decode cX9_common 42 = .ok (.lload 4, 2) := by decide +kernel
theorem dX9_common_44 : decode cX9_common 44 = .ok (.lreturn, 1) := by decide +kernel
set_option maxRecDepth 20000 in
theorem ggX9_likely_X9_in : GoodIn wsX9_likely wsX9_in := goodIn_r _ [8] (by decide +kernel) (by decide +kernel)
set_option maxRecDepth 20000 in
theorem gX9_likely_X9_in : GoodIn wsX9_likely (va_wsS RX9 54 yX9_in wsX9_in) := goodIn_app (goodIn_of _ (by decide +kernel)) ggX9_likely_X9_in
set_option maxRecDepth 20000 in
theorem ggX9_likely_X9_sumOf : GoodIn wsX9_likely wsX9_sumOf := goodIn_r _ [12, 4, 16, 17, 18, 19, 20, 21, 22, 23, 24, 25, 26, 27, 28, 29, 30, 31, 32, 33, 34, 35, 36, 37, 38, 39, 40, 41, 42, 43, 44] (by decide +kernel) (by decide +kernel)
set_option maxRecDepth 20000 in
theorem gX9_likely_X9_sumOf : GoodIn wsX9_likely (wsV RX9 151 RX9 yX9_sumOf wsX9_sumOf) := goodIn_app (goodIn_of _ (by decide +kernel)) ggX9_likely_X9_sumOf
set_option maxRecDepth 20000 in
theorem ggX9_likely_X9_common : GoodIn wsX9_likely wsX9_common := goodIn_r _ [15] (by decide +kernel) (by decide +kernel)
set_option maxRecDepth 20000 in
theorem gX9_likely_X9_common : GoodIn wsX9_likely (va_wsS RX9 157 yX9_common wsX9_common) := goodIn_app (goodIn_of _ (by decide +kernel)) ggX9_likely_X9_common
theorem dX9_likely_0 : decode cX9_likely 0 = .ok (.iload_n 1, 1) := by decide +kernel
theorem dX9_likely_1 : decode cX9_likely 1 = .ok (.i2l, 1) := by decide +kernel
theorem dX9_likely_2 : decode cX9_likely 2 = .ok (.lconst 0, 1) := by decide +kernel
theorem dX9_likely_3 : decode cX9_likely 3 = .ok (.ldc2_w 128, 3) := by decide +kernel
theorem dX9_likely_6 : decode cX9_likely 6 = .ok (.invokestatic 54, 3) := by decide +kernel
theorem dX9_likely_9 : decode cX9_likely 9 = .ok (.ifCond .ne 7, 3) := by decide +kernel
theorem dX9_likely_12 : decode cX9_likely 12 = .ok (.ldc2_w 149, 3) := by decide +kernel
theorem dX9_likely_15 : decode cX9_likely 15 = .ok (.lreturn, 1) := by decide +kernel
theorem dX9_likely_16 : decode cX9_likely 16 = .ok (.aload_n 0, 1) := by decide +kernel
theorem dX9_likely_17 : decode cX9_likely 17 = .ok (.iconst 0, 1) := by decide +kernel
theorem dX9_likely_18 : decode cX9_likely 18 = .ok (.invokevirtual 151, 3) := by decide +kernel
theorem dX9_likely_21 : decode cX9_likely 21 = .ok (.lstore_n 3, 1) := by decide +kernel
theorem dX9_likely_22 : decode cX9_likely 22 = .ok (.lload_n 3, 1) := by decide +kernel
theorem dX9_likely_23 : decode cX9_likely 23 = .ok (.lconst 0, 1) := by decide +kernel
theorem dX9_likely_24 : decode cX9_likely 24 = .ok (.lcmp, 1) := by decide +kernel
theorem dX9_likely_25 : decode cX9_likely 25 = .ok (.ifCond .ne 7, 3) := by decide +kernel
theorem dX9_likely_28 : decode cX9_likely 28 = .ok (.ldc2_w 155, 3) := by decide +kernel
theorem dX9_likely_31 : decode cX9_likely 31 = .ok (.lreturn, 1) := by decide +kernel
theorem dX9_likely_32 : decode cX9_likely 32 = .ok (.aload_n 0, 1) := by decide +kernel
theorem dX9_likely_33 : decode cX9_likely 33 = .ok (.getfield 19, 3) := by decide +kernel
theorem dX9_likely_36 : decode cX9_likely 36 = .ok (.iload_n 1, 1) := by decide +kernel
theorem dX9_likely_37 : decode cX9_likely 37 = .ok (.laload, 1) := by decide +kernel
theorem dX9_likely_38 : decode cX9_likely 38 = .ok (.lload_n 3, 1) := by decide +kernel
theorem dX9_likely_39 : decode cX9_likely 39 = .ok (.invokestatic 157, 3) := by decide +kernel
theorem dX9_likely_42 : decode cX9_likely 42 = .ok (.lstore 5, 2) := by decide +kernel
theorem dX9_likely_44 : decode cX9_likely 44 = .ok (.iload_n 2, 1) := by decide +kernel
theorem dX9_likely_45 : decode cX9_likely 45 = .ok (.ifCond .eq 15, 3) := by decide +kernel
theorem dX9_likely_48 : decode cX9_likely 48 = .ok (.aload_n 0, 1) := by decide +kernel
theorem dX9_likely_49 : decode cX9_likely 49 = .ok (.getfield 19, 3) := by decide +kernel
theorem dX9_likely_52 : decode cX9_likely 52 = .ok (.iload_n 1, 1) := by decide +kernel
theorem dX9_likely_53 : decode cX9_likely 53 = .ok (.laload, 1) := by decide +kernel
theorem dX9_likely_54 : decode cX9_likely 54 = .ok (.lload 5, 2) := by decide +kernel
theorem dX9_likely_56 : decode cX9_likely 56 = .ok (.ldiv, 1) := by decide +kernel
theorem dX9_likely_57 : decode cX9_likely 57 = .ok (.goto 7, 3) := by decide +kernel
theorem dX9_likely_60 : decode cX9_likely 60 = .ok (.lload_n 3, 1) := by decide +kernel
theorem dX9_likely_61 : decode cX9_likely 61 = .ok (.lload 5, 2) := by decide +kernel
theorem dX9_likely_63 : decode cX9_likely 63 = .ok (.ldiv, 1) := by decide +kernel
theorem dX9_likely_64 : decode cX9_likely 64 = .ok (.lreturn, 1) := by decide +kernel
theorem dX9_likeliest_0 : decode cX9_likeliest 0 = .ok (.iconst 0, 1) := by decide +kernel
theorem dX9_likeliest_1 : decode cX9_likeliest 1 = .ok (.istore_n 1, 1) := by decide +kernel
theorem dX9_likeliest_2 : decode cX9_likeliest 2 = .ok (.iconst 1, 1) := by decide +kernel
theorem dX9_likeliest_3 : decode cX9_likeliest 3 = .ok (.istore_n 2, 1) := by decide +kernel
theorem dX9_likeliest_4 : decode cX9_likeliest 4 = .ok (.iload_n 2, 1) := by decide +kernel
theorem dX9_likeliest_5 : decode cX9_likeliest 5 = .ok (.bipush 11, 2) := by decide +kernel
theorem dX9_likeliest_7 : decode cX9_likeliest 7 = .ok (.if_icmp .ge 31, 3) := by decide +kernel
theorem dX9_likeliest_10 : decode cX9_likeliest 10 = .ok (.aload_n 0, 1) := by decide +kernel
theorem dX9_likeliest_11 : decode cX9_likeliest 11 = .ok (.getfield 19, 3) := by decide +kernel
theorem dX9_likeliest_14 : decode cX9_likeliest 14 = .ok (.iload_n 2, 1) := by decide +kernel
theorem dX9_likeliest_15 : decode cX9_likeliest 15 = .ok (.laload, 1) := by decide +kernel
theorem dX9_likeliest_16 : decode cX9_likeliest 16 = .ok (.aload_n 0, 1) := by decide +kernel
theorem dX9_likeliest_17 : decode cX9_likeliest 17 = .ok (.getfield 19, 3) := by decide +kernel
theorem dX9_likeliest_20 : decode cX9_likeliest 20 = .ok (.iload_n 1, 1) := by decide +kernel
theorem dX9_likeliest_21 : decode cX9_likeliest 21 = .ok (.laload, 1) := by decide +kernel
theorem dX9_likeliest_22 : decode cX9_likeliest 22 = .ok (.lcmp, 1) := by decide +kernel
theorem dX9_likeliest_23 : decode cX9_likeliest 23 = .ok (.ifCond .le 7, 3) := by decide +kernel
theorem dX9_likeliest_26 : decode cX9_likeliest 26 = .ok (.iload_n 2, 1) := by decide +kernel
theorem dX9_likeliest_27 : decode cX9_likeliest 27 = .ok (.goto 4, 3) := by decide +kernel
theorem dX9_likeliest_30 : decode cX9_likeliest 30 = .ok (.iload_n 1, 1) := by decide +kernel
theorem dX9_likeliest_31 : decode cX9_likeliest 31 = .ok (.istore_n 1, 1) := by decide +kernel
theorem dX9_likeliest_32 : decode cX9_likeliest 32 = .ok (.iinc 2 1, 3) := by decide +kernel
theorem dX9_likeliest_35 : decode cX9_likeliest 35 = .ok (.goto (-31), 3) := by decide +kernel
theorem dX9_likeliest_38 : decode cX9_likeliest 38 = .ok (.aload_n 0, 1) := by decide +kernel
theorem dX9_likeliest_39 : decode cX9_likeliest 39 = .ok (.getfield 19, 3) := by decide +kernel
theorem dX9_likeliest_42 : decode cX9_likeliest 42 = .ok (.iload_n 1, 1) := by decide +kernel
theorem dX9_likeliest_43 : decode cX9_likeliest 43 = .ok (.laload, 1) := by decide +kernel
theorem dX9_likeliest_44 : decode cX9_likeliest 44 = .ok (.lconst 0, 1) := by decide +kernel
theorem dX9_likeliest_45 : decode cX9_likeliest 45 = .ok (.lcmp, 1) := by decide +kernel
theorem dX9_likeliest_46 : decode cX9_likeliest 46 = .ok (.ifCond .ne 8, 3) := by decide +kernel
theorem dX9_likeliest_49 : decode cX9_likeliest 49 = .ok (.bipush (-9), 2) := by decide +kernel
theorem dX9_likeliest_51 : decode cX9_likeliest 51 = .ok (.goto 4, 3) := by decide +kernel
theorem dX9_likeliest_54 : decode cX9_likeliest 54 = .ok (.iload_n 1, 1) := by decide +kernel
theorem dX9_likeliest_55 : decode cX9_likeliest 55 = .ok (.ireturn, 1) := by decide +kernel
theorem dX9_tenTo_0 : decode cX9_tenTo 0 = .ok (.iconst 1, 1) := by decide +kernel
theorem dX9_tenTo_1 : decode cX9_tenTo 1 = .ok (.istore_n 1, 1) := by decide +kernel
theorem dX9_tenTo_2 : decode cX9_tenTo 2 = .ok (.iconst 0, 1) := by decide +kernel
theorem dX9_tenTo_3 : decode cX9_tenTo 3 = .ok (.istore_n 2, 1) := by decide +kernel
theorem dX9_tenTo_4 : decode cX9_tenTo 4 = .ok (.iload_n 2, 1) := by decide +kernel
theorem dX9_tenTo_5 : decode cX9_tenTo 5 = .ok (.iload_n 0, 1) := by decide +kernel
theorem dX9_tenTo_6 : decode cX9_tenTo 6 = .ok (.if_icmp .ge 14, 3) := by decide +kernel
theorem dX9_tenTo_9 : decode cX9_tenTo 9 = .ok (.iload_n 1, 1) := by decide +kernel
theorem dX9_tenTo_10 : decode cX9_tenTo 10 = .ok (.bipush 10, 2) := by decide +kernel
theorem dX9_tenTo_12 : decode cX9_tenTo 12 = .ok (.imul, 1) := by decide +kernel
theorem dX9_tenTo_13 : decode cX9_tenTo 13 = .ok (.istore_n 1, 1) := by decide +kernel
theorem dX9_tenTo_14 : decode cX9_tenTo 14 = .ok (.iinc 2 1, 3) := by decide +kernel
theorem dX9_tenTo_17 : decode cX9_tenTo 17 = .ok (.goto (-13), 3) := by decide +kernel
theorem dX9_tenTo_20 : decode cX9_tenTo 20 = .ok (.iload_n 1, 1) := by decide +kernel
theorem dX9_tenTo_21 : decode cX9_tenTo 21 = .ok (.ireturn, 1) := by decide +kernel
set_option maxRecDepth 20000 in
theorem ggX9_isRow_X9_in : GoodIn wsX9_isRow wsX9_in := goodIn_r _ [5] (by decide +kernel) (by decide +kernel)
set_option maxRecDepth 20000 in
theorem gX9_isRow_X9_in : GoodIn wsX9_isRow (va_wsS RX9 54 yX9_in wsX9_in) := goodIn_app (goodIn_of _ (by decide +kernel)) ggX9_isRow_X9_in
set_option maxRecDepth 20000 in
theorem ggX9_isRow_X9_tenTo : GoodIn wsX9_isRow wsX9_tenTo := goodIn_r _ [8] (by decide +kernel) (by decide +kernel)
set_option maxRecDepth 20000 in
theorem gX9_isRow_X9_tenTo : GoodIn wsX9_isRow (va_wsS RX9 163 yX9_tenTo wsX9_tenTo) := goodIn_app (goodIn_of _ (by decide +kernel)) ggX9_isRow_X9_tenTo
theorem dX9_isRow_0 : decode cX9_isRow 0 = .ok (.iload_n 0, 1) := by decide +kernel
theorem dX9_isRow_1 : decode cX9_isRow 1 = .ok (.i2l, 1) := by decide +kernel
theorem dX9_isRow_2 : decode cX9_isRow 2 = .ok (.lconst 1, 1) := by decide +kernel
theorem dX9_isRow_3 : decode cX9_isRow 3 = .ok (.ldc2_w 161, 3) := by decide +kernel
theorem dX9_isRow_6 : decode cX9_isRow 6 = .ok (.invokestatic 54, 3) := by decide +kernel
theorem dX9_isRow_9 : decode cX9_isRow 9 = .ok (.ifCond .eq 23, 3) := by decide +kernel
theorem dX9_isRow_12 : decode cX9_isRow 12 = .ok (.iload_n 1, 1) := by decide +kernel
theorem dX9_isRow_13 : decode cX9_isRow 13 = .ok (.i2l, 1) := by decide +kernel
theorem dX9_isRow_14 : decode cX9_isRow 14 = .ok (.lconst 0, 1) := by decide +kernel
theorem dX9_isRow_15 : decode cX9_isRow 15 = .ok (.iload_n 0, 1) := by decide +kernel
theorem dX9_isRow_16 : decode cX9_isRow 16 = .ok (.invokestatic 163, 3) := by decide +kernel
theorem dX9_isRow_19 : decode cX9_isRow 19 = .ok (.iconst 1, 1) := by decide +kernel
theorem dX9_isRow_20 : decode cX9_isRow 20 = .ok (.isub, 1) := by decide +kernel
theorem dX9_isRow_21 : decode cX9_isRow 21 = .ok (.i2l, 1) := by decide +kernel
theorem dX9_isRow_22 : decode cX9_isRow 22 = .ok (.invokestatic 54, 3) := by decide +kernel
theorem dX9_isRow_25 : decode cX9_isRow 25 = .ok (.ifCond .eq 7, 3) := by decide +kernel
theorem dX9_isRow_28 : decode cX9_isRow 28 = .ok (.iconst 1, 1) := by decide +kernel
theorem dX9_isRow_29 : decode cX9_isRow 29 = .ok (.goto 4, 3) := by decide +kernel
theorem dX9_isRow_32 : decode cX9_isRow 32 = .ok (.iconst 0, 1) := by decide +kernel
theorem dX9_isRow_33 : decode cX9_isRow 33 = .ok (.istore_n 2, 1) := by decide +kernel
theorem dX9_isRow_34 : decode cX9_isRow 34 = .ok (.iconst 0, 1) := by decide +kernel
theorem dX9_isRow_35 : decode cX9_isRow 35 = .ok (.istore_n 3, 1) := by decide +kernel
theorem dX9_isRow_36 : decode cX9_isRow 36 = .ok (.iload_n 3, 1) := by decide +kernel
theorem dX9_isRow_37 : decode cX9_isRow 37 = .ok (.iload_n 0, 1) := by decide +kernel
theorem dX9_isRow_38 : decode cX9_isRow 38 = .ok (.if_icmp .ge 32, 3) := by decide +kernel
theorem dX9_isRow_41 : decode cX9_isRow 41 = .ok (.iload_n 2, 1) := by decide +kernel
theorem dX9_isRow_42 : decode cX9_isRow 42 = .ok (.ifCond .eq 28, 3) := by decide +kernel
theorem dX9_isRow_45 : decode cX9_isRow 45 = .ok (.iload_n 1, 1) := by decide +kernel
theorem dX9_isRow_46 : decode cX9_isRow 46 = .ok (.iload_n 3, 1) := by decide +kernel
theorem dX9_isRow_47 : decode cX9_isRow 47 = .ok (.invokestatic 163, 3) := by decide +kernel
theorem dX9_isRow_50 : decode cX9_isRow 50 = .ok (.idiv, 1) := by decide +kernel
theorem dX9_isRow_51 : decode cX9_isRow 51 = .ok (.bipush 10, 2) := by decide +kernel
theorem dX9_isRow_53 : decode cX9_isRow 53 = .ok (.irem, 1) := by decide +kernel
theorem dX9_isRow_54 : decode cX9_isRow 54 = .ok (.iconst 4, 1) := by decide +kernel
theorem dX9_isRow_55 : decode cX9_isRow 55 = .ok (.if_icmp .ge 7, 3) := by decide +kernel
theorem dX9_isRow_58 : decode cX9_isRow 58 = .ok (.iconst 1, 1) := by decide +kernel
theorem dX9_isRow_59 : decode cX9_isRow 59 = .ok (.goto 4, 3) := by decide +kernel
theorem dX9_isRow_62 : decode cX9_isRow 62 = .ok (.iconst 0, 1) := by decide +kernel
theorem dX9_isRow_63 : decode cX9_isRow 63 = .ok (.istore_n 2, 1) := by decide +kernel
theorem dX9_isRow_64 : decode cX9_isRow 64 = .ok (.iinc 3 1, 3) := by decide +kernel
theorem dX9_isRow_67 : decode cX9_isRow 67 = .ok (.goto (-31), 3) := by decide +kernel
theorem dX9_isRow_70 : decode cX9_isRow 70 = .ok (.iload_n 2, 1) := by decide +kernel
theorem dX9_isRow_71 : decode cX9_isRow 71 = .ok (.ireturn, 1) := by decide +kernel
set_option maxRecDepth 20000 in
theorem ggX9_canLook_X9_sumOf : GoodIn wsX9_canLook wsX9_sumOf := goodIn_r _ [7, 8, 9, 10, 11, 12, 13, 14, 15, 16, 17, 18, 19, 20, 21, 22, 23, 24, 25, 26, 27, 28, 29, 30, 31, 32, 33, 34, 35, 36, 37] (by decide +kernel) (by decide +kernel)
set_option maxRecDepth 20000 in
theorem gX9_canLook_X9_sumOf : GoodIn wsX9_canLook (wsV RX9 151 RX9 yX9_sumOf wsX9_sumOf) := goodIn_app (goodIn_of _ (by decide +kernel)) ggX9_canLook_X9_sumOf
theorem dX9_canLook_0 : decode cX9_canLook 0 = .ok (.aload_n 0, 1) := by decide +kernel
theorem dX9_canLook_1 : decode cX9_canLook 1 = .ok (.iconst 0, 1) := by decide +kernel
theorem dX9_canLook_2 : decode cX9_canLook 2 = .ok (.invokevirtual 151, 3) := by decide +kernel
theorem dX9_canLook_5 : decode cX9_canLook 5 = .ok (.lconst 0, 1) := by decide +kernel
theorem dX9_canLook_6 : decode cX9_canLook 6 = .ok (.lcmp, 1) := by decide +kernel
theorem dX9_canLook_7 : decode cX9_canLook 7 = .ok (.ifCond .le 22, 3) := by decide +kernel
theorem dX9_canLook_10 : decode cX9_canLook 10 = .ok (.aload_n 0, 1) := by decide +kernel
theorem dX9_canLook_11 : decode cX9_canLook 11 = .ok (.getfield 23, 3) := by decide +kernel
theorem dX9_canLook_14 : decode cX9_canLook 14 = .ok (.iconst 1, 1) := by decide +kernel
theorem dX9_canLook_15 : decode cX9_canLook 15 = .ok (.iaload, 1) := by decide +kernel
theorem dX9_canLook_16 : decode cX9_canLook 16 = .ok (.iload_n 1, 1) := by decide +kernel
theorem dX9_canLook_17 : decode cX9_canLook 17 = .ok (.iadd, 1) := by decide +kernel
theorem dX9_canLook_18 : decode cX9_canLook 18 = .ok (.aload_n 0, 1) := by decide +kernel
theorem dX9_canLook_19 : decode cX9_canLook 19 = .ok (.getfield 48, 3) := by decide +kernel
theorem dX9_canLook_22 : decode cX9_canLook 22 = .ok (.if_icmp .gt 7, 3) := by decide +kernel
theorem dX9_canLook_25 : decode cX9_canLook 25 = .ok (.iconst 1, 1) := by decide +kernel
theorem dX9_canLook_26 : decode cX9_canLook 26 = .ok (.goto 4, 3) := by decide +kernel
theorem dX9_canLook_29 : decode cX9_canLook 29 = .ok (.iconst 0, 1) := by decide +kernel
theorem dX9_canLook_30 : decode cX9_canLook 30 = .ok (.ireturn, 1) := by decide +kernel
set_option maxRecDepth 20000 in
theorem ggX9_foundBy_X9_lay : GoodIn wsX9_foundBy wsX9_lay := goodIn_r _ [8, 9, 30, 31, 32, 33, 34, 35, 36, 37, 38, 39, 40, 41, 42, 43, 44, 45, 46, 47, 48, 49, 50, 51, 52, 53, 54, 55, 56, 57, 58] (by decide +kernel) (by decide +kernel)
set_option maxRecDepth 20000 in
theorem gX9_foundBy_X9_lay : GoodIn wsX9_foundBy (wsV RX9 167 RX9 yX9_lay wsX9_lay) := goodIn_app (goodIn_of _ (by decide +kernel)) ggX9_foundBy_X9_lay
set_option maxRecDepth 20000 in
theorem ggX9_foundBy_X9_tenTo : GoodIn wsX9_foundBy wsX9_tenTo := goodIn_r _ [12] (by decide +kernel) (by decide +kernel)
set_option maxRecDepth 20000 in
theorem gX9_foundBy_X9_tenTo : GoodIn wsX9_foundBy (va_wsS RX9 163 yX9_tenTo wsX9_tenTo) := goodIn_app (goodIn_of _ (by decide +kernel)) ggX9_foundBy_X9_tenTo
set_option maxRecDepth 20000 in
theorem ggX9_foundBy_X9_to : GoodIn wsX9_foundBy wsX9_to := goodIn_r _ [15] (by decide +kernel) (by decide +kernel)
set_option maxRecDepth 20000 in
theorem gX9_foundBy_X9_to : GoodIn wsX9_foundBy (va_wsS RX9 125 yX9_to wsX9_to) := goodIn_app (goodIn_of _ (by decide +kernel)) ggX9_foundBy_X9_to
set_option maxRecDepth 20000 in
theorem ggX9_foundBy_X9_lookAt : GoodIn wsX9_foundBy wsX9_lookAt := goodIn_r _ [19, 20, 21, 9, 30, 31, 32, 33, 34, 35, 36, 37, 38, 39, 40, 41, 42, 43, 44, 45, 46, 47, 48, 49, 50, 51, 52, 53, 54, 55, 56, 57, 58] (by decide +kernel) (by decide +kernel)
set_option maxRecDepth 20000 in
theorem gX9_foundBy_X9_lookAt : GoodIn wsX9_foundBy (wsV RX9 135 RX9 yX9_lookAt wsX9_lookAt) := goodIn_app (goodIn_of _ (by decide +kernel)) ggX9_foundBy_X9_lookAt
set_option maxRecDepth 20000 in
theorem ggX9_foundBy_X9_drift : GoodIn wsX9_foundBy wsX9_drift := goodIn_r _ [25, 26, 9, 27, 28, 29, 3, 13, 14, 7, 15, 30, 31, 32, 33, 34, 35, 36, 37, 38, 39, 40, 41, 42, 43, 44, 45, 46, 47, 48, 49, 50, 51, 52, 53, 54, 55, 56, 57, 58] (by decide +kernel) (by decide +kernel)
set_option maxRecDepth 20000 in
theorem gX9_foundBy_X9_drift : GoodIn wsX9_foundBy (wsV RX9 139 RX9 yX9_drift wsX9_drift) := goodIn_app (goodIn_of _ (by decide +kernel)) ggX9_foundBy_X9_drift
theorem dX9_foundBy_0 : decode cX9_foundBy 0 = .ok (.aload_n 0, 1) := by decide +kernel
theorem dX9_foundBy_1 : decode cX9_foundBy 1 = .ok (.iconst 0, 1) := by decide +kernel
theorem dX9_foundBy_2 : decode cX9_foundBy 2 = .ok (.iconst 1, 1) := by decide +kernel
theorem dX9_foundBy_3 : decode cX9_foundBy 3 = .ok (.invokevirtual 167, 3) := by decide +kernel
theorem dX9_foundBy_6 : decode cX9_foundBy 6 = .ok (.aload_n 0, 1) := by decide +kernel
theorem dX9_foundBy_7 : decode cX9_foundBy 7 = .ok (.getfield 23, 3) := by decide +kernel
theorem dX9_foundBy_10 : decode cX9_foundBy 10 = .ok (.iconst 0, 1) := by decide +kernel
theorem dX9_foundBy_11 : decode cX9_foundBy 11 = .ok (.iaload, 1) := by decide +kernel
theorem dX9_foundBy_12 : decode cX9_foundBy 12 = .ok (.istore_n 3, 1) := by decide +kernel
theorem dX9_foundBy_13 : decode cX9_foundBy 13 = .ok (.lconst 0, 1) := by decide +kernel
theorem dX9_foundBy_14 : decode cX9_foundBy 14 = .ok (.lstore 4, 2) := by decide +kernel
theorem dX9_foundBy_16 : decode cX9_foundBy 16 = .ok (.iconst 0, 1) := by decide +kernel
theorem dX9_foundBy_17 : decode cX9_foundBy 17 = .ok (.istore 6, 2) := by decide +kernel
theorem dX9_foundBy_19 : decode cX9_foundBy 19 = .ok (.iload 6, 2) := by decide +kernel
theorem dX9_foundBy_21 : decode cX9_foundBy 21 = .ok (.iload_n 1, 1) := by decide +kernel
theorem dX9_foundBy_22 : decode cX9_foundBy 22 = .ok (.if_icmp .ge 86, 3) := by decide +kernel
theorem dX9_foundBy_25 : decode cX9_foundBy 25 = .ok (.iload_n 2, 1) := by decide +kernel
theorem dX9_foundBy_26 : decode cX9_foundBy 26 = .ok (.iload_n 1, 1) := by decide +kernel
theorem dX9_foundBy_27 : decode cX9_foundBy 27 = .ok (.iconst 1, 1) := by decide +kernel
theorem dX9_foundBy_28 : decode cX9_foundBy 28 = .ok (.isub, 1) := by decide +kernel
theorem dX9_foundBy_29 : decode cX9_foundBy 29 = .ok (.iload 6, 2) := by decide +kernel
theorem dX9_foundBy_31 : decode cX9_foundBy 31 = .ok (.isub, 1) := by decide +kernel
theorem dX9_foundBy_32 : decode cX9_foundBy 32 = .ok (.invokestatic 163, 3) := by decide +kernel
theorem dX9_foundBy_35 : decode cX9_foundBy 35 = .ok (.idiv, 1) := by decide +kernel
theorem dX9_foundBy_36 : decode cX9_foundBy 36 = .ok (.bipush 10, 2) := by decide +kernel
theorem dX9_foundBy_38 : decode cX9_foundBy 38 = .ok (.irem, 1) := by decide +kernel
theorem dX9_foundBy_39 : decode cX9_foundBy 39 = .ok (.istore 7, 2) := by decide +kernel
theorem dX9_foundBy_41 : decode cX9_foundBy 41 = .ok (.iload 7, 2) := by decide +kernel
theorem dX9_foundBy_43 : decode cX9_foundBy 43 = .ok (.iconst 3, 1) := by decide +kernel
theorem dX9_foundBy_44 : decode cX9_foundBy 44 = .ok (.if_icmp .ne 7, 3) := by decide +kernel
theorem dX9_foundBy_47 : decode cX9_foundBy 47 = .ok (.iload_n 3, 1) := by decide +kernel
theorem dX9_foundBy_48 : decode cX9_foundBy 48 = .ok (.goto 9, 3) := by decide +kernel
theorem dX9_foundBy_51 : decode cX9_foundBy 51 = .ok (.iload_n 3, 1) := by decide +kernel
theorem dX9_foundBy_52 : decode cX9_foundBy 52 = .ok (.iload 7, 2) := by decide +kernel
theorem dX9_foundBy_54 : decode cX9_foundBy 54 = .ok (.invokestatic 125, 3) := by decide +kernel
theorem dX9_foundBy_57 : decode cX9_foundBy 57 = .ok (.istore_n 3, 1) := by decide +kernel
theorem dX9_foundBy_58 : decode cX9_foundBy 58 = .ok (.ldc2_w 170, 3) := by decide +kernel
theorem dX9_foundBy_61 : decode cX9_foundBy 61 = .ok (.lload 4, 2) := by decide +kernel
theorem dX9_foundBy_63 : decode cX9_foundBy 63 = .ok (.lmul, 1) := by decide +kernel
theorem dX9_foundBy_64 : decode cX9_foundBy 64 = .ok (.ldc2_w 128, 3) := by decide +kernel
theorem dX9_foundBy_67 : decode cX9_foundBy 67 = .ok (.aload_n 0, 1) := by decide +kernel
theorem dX9_foundBy_68 : decode cX9_foundBy 68 = .ok (.iconst 1, 1) := by decide +kernel
theorem dX9_foundBy_69 : decode cX9_foundBy 69 = .ok (.iload 7, 2) := by decide +kernel
theorem dX9_foundBy_71 : decode cX9_foundBy 71 = .ok (.iconst 3, 1) := by decide +kernel
theorem dX9_foundBy_72 : decode cX9_foundBy 72 = .ok (.if_icmp .ne 8, 3) := by decide +kernel
theorem dX9_foundBy_75 : decode cX9_foundBy 75 = .ok (.bipush 10, 2) := by decide +kernel
theorem dX9_foundBy_77 : decode cX9_foundBy 77 = .ok (.goto 4, 3) := by decide +kernel
theorem dX9_foundBy_80 : decode cX9_foundBy 80 = .ok (.iload_n 3, 1) := by decide +kernel
theorem dX9_foundBy_81 : decode cX9_foundBy 81 = .ok (.invokevirtual 135, 3) := by decide +kernel
theorem dX9_foundBy_84 : decode cX9_foundBy 84 = .ok (.lmul, 1) := by decide +kernel
theorem dX9_foundBy_85 : decode cX9_foundBy 85 = .ok (.ladd, 1) := by decide +kernel
theorem dX9_foundBy_86 : decode cX9_foundBy 86 = .ok (.lstore 4, 2) := by decide +kernel
theorem dX9_foundBy_88 : decode cX9_foundBy 88 = .ok (.aload_n 0, 1) := by decide +kernel
theorem dX9_foundBy_89 : decode cX9_foundBy 89 = .ok (.iconst 1, 1) := by decide +kernel
theorem dX9_foundBy_90 : decode cX9_foundBy 90 = .ok (.aload_n 0, 1) := by decide +kernel
theorem dX9_foundBy_91 : decode cX9_foundBy 91 = .ok (.getfield 23, 3) := by decide +kernel
theorem dX9_foundBy_94 : decode cX9_foundBy 94 = .ok (.iconst 1, 1) := by decide +kernel
theorem dX9_foundBy_95 : decode cX9_foundBy 95 = .ok (.iaload, 1) := by decide +kernel
theorem dX9_foundBy_96 : decode cX9_foundBy 96 = .ok (.iload 6, 2) := by decide +kernel
theorem dX9_foundBy_98 : decode cX9_foundBy 98 = .ok (.iadd, 1) := by decide +kernel
theorem dX9_foundBy_99 : decode cX9_foundBy 99 = .ok (.invokevirtual 139, 3) := by decide +kernel
theorem dX9_foundBy_102 : decode cX9_foundBy 102 = .ok (.iinc 6 1, 3) := by decide +kernel
theorem dX9_foundBy_105 : decode cX9_foundBy 105 = .ok (.goto (-86), 3) := by decide +kernel
theorem dX9_foundBy_108 : decode cX9_foundBy 108 = .ok (.lload 4, 2) := by decide +kernel
theorem dX9_foundBy_110 : decode cX9_foundBy 110 = .ok (.lreturn, 1) := by decide +kernel
set_option maxRecDepth 20000 in
theorem ggX9_allTimes_X9_sumOf : GoodIn wsX9_allTimes wsX9_sumOf := goodIn_r _ [5, 6, 7, 8, 9, 10, 11, 12, 13, 14, 15, 16, 17, 18, 19, 20, 21, 22, 23, 24, 25, 26, 27, 28, 29, 30, 31, 32, 33, 34, 35] (by decide +kernel) (by decide +kernel)
set_option maxRecDepth 20000 in
theorem gX9_allTimes_X9_sumOf : GoodIn wsX9_allTimes (wsV RX9 151 RX9 yX9_sumOf wsX9_sumOf) := goodIn_app (goodIn_of _ (by decide +kernel)) ggX9_allTimes_X9_sumOf
theorem dX9_allTimes_0 : decode cX9_allTimes 0 = .ok (.aload_n 0, 1) := by decide +kernel
theorem dX9_allTimes_1 : decode cX9_allTimes 1 = .ok (.iconst 0, 1) := by decide +kernel
theorem dX9_allTimes_2 : decode cX9_allTimes 2 = .ok (.invokevirtual 151, 3) := by decide +kernel
theorem dX9_allTimes_5 : decode cX9_allTimes 5 = .ok (.lstore_n 3, 1) := by decide +kernel
theorem dX9_allTimes_6 : decode cX9_allTimes 6 = .ok (.iconst 0, 1) := by decide +kernel
theorem dX9_allTimes_7 : decode cX9_allTimes 7 = .ok (.istore 5, 2) := by decide +kernel
theorem dX9_allTimes_9 : decode cX9_allTimes 9 = .ok (.iload 5, 2) := by decide +kernel
theorem dX9_allTimes_11 : decode cX9_allTimes 11 = .ok (.iload_n 1, 1) := by decide +kernel
theorem dX9_allTimes_12 : decode cX9_allTimes 12 = .ok (.if_icmp .ge 14, 3) := by decide +kernel
theorem dX9_allTimes_15 : decode cX9_allTimes 15 = .ok (.lload_n 3, 1) := by decide +kernel
theorem dX9_allTimes_16 : decode cX9_allTimes 16 = .ok (.iload_n 2, 1) := by decide +kernel
theorem dX9_allTimes_17 : decode cX9_allTimes 17 = .ok (.i2l, 1) := by decide +kernel
theorem dX9_allTimes_18 : decode cX9_allTimes 18 = .ok (.lmul, 1) := by decide +kernel
theorem dX9_allTimes_19 : decode cX9_allTimes 19 = .ok (.lstore_n 3, 1) := by decide +kernel
theorem dX9_allTimes_20 : decode cX9_allTimes 20 = .ok (.iinc 5 1, 3) := by decide +kernel
theorem dX9_allTimes_23 : decode cX9_allTimes 23 = .ok (.goto (-14), 3) := by decide +kernel
theorem dX9_allTimes_26 : decode cX9_allTimes 26 = .ok (.lload_n 3, 1) := by decide +kernel
theorem dX9_allTimes_27 : decode cX9_allTimes 27 = .ok (.lreturn, 1) := by decide +kernel
set_option maxRecDepth 20000 in
theorem ggX9_part_X9_common : GoodIn wsX9_part wsX9_common := goodIn_r _ [4] (by decide +kernel) (by decide +kernel)
set_option maxRecDepth 20000 in
theorem gX9_part_X9_common : GoodIn wsX9_part (va_wsS RX9 157 yX9_common wsX9_common) := goodIn_app (goodIn_of _ (by decide +kernel)) ggX9_part_X9_common
theorem dX9_part_0 : decode cX9_part 0 = .ok (.lload_n 0, 1) := by decide +kernel
theorem dX9_part_1 : decode cX9_part 1 = .ok (.lload_n 2, 1) := by decide +kernel
theorem dX9_part_2 : decode cX9_part 2 = .ok (.invokestatic 157, 3) := by decide +kernel
theorem dX9_part_5 : decode cX9_part 5 = .ok (.lstore 5, 2) := by decide +kernel
theorem dX9_part_7 : decode cX9_part 7 = .ok (.iload 4, 2) := by decide +kernel
theorem dX9_part_9 : decode cX9_part 9 = .ok (.ifCond .eq 10, 3) := by decide +kernel
theorem dX9_part_12 : decode cX9_part 12 = .ok (.lload_n 0, 1) := by decide +kernel
theorem dX9_part_13 : decode cX9_part 13 = .ok (.lload 5, 2) := by decide +kernel
theorem dX9_part_15 : decode cX9_part 15 = .ok (.ldiv, 1) := by decide +kernel
theorem dX9_part_16 : decode cX9_part 16 = .ok (.goto 7, 3) := by decide +kernel
theorem dX9_part_19 : decode cX9_part 19 = .ok (.lload_n 2, 1) := by decide +kernel
theorem dX9_part_20 : decode cX9_part 20 = .ok (.lload 5, 2) := by decide +kernel
theorem dX9_part_22 : decode cX9_part 22 = .ok (.ldiv, 1) := by decide +kernel
theorem dX9_part_23 : decode cX9_part 23 = .ok (.lreturn, 1) := by decide +kernel
set_option maxRecDepth 20000 in
theorem ggX9_by_X9_isRow : GoodIn wsX9_by wsX9_isRow := goodIn_r _ [6, 7, 8, 9, 5, 10, 11, 12, 13] (by decide +kernel) (by decide +kernel)
set_option maxRecDepth 20000 in
theorem gX9_by_X9_isRow : GoodIn wsX9_by (va_wsS RX9 172 yX9_isRow wsX9_isRow) := goodIn_app (goodIn_of _ (by decide +kernel)) ggX9_by_X9_isRow
set_option maxRecDepth 20000 in
theorem ggX9_by_X9_canLook : GoodIn wsX9_by wsX9_canLook := goodIn_r _ [17, 18, 19, 20, 21, 22, 5, 23, 24, 61, 62, 63, 64, 65, 66, 67, 68, 69, 70, 71, 72, 73, 74, 75, 76, 77, 78, 79, 80, 81, 82, 83, 84, 85, 86, 87, 88, 89] (by decide +kernel) (by decide +kernel)
set_option maxRecDepth 20000 in
theorem gX9_by_X9_canLook : GoodIn wsX9_by (wsV RX9 176 RX9 yX9_canLook wsX9_canLook) := goodIn_app (goodIn_of _ (by decide +kernel)) ggX9_by_X9_canLook
set_option maxRecDepth 20000 in
theorem ggX9_by_X9_foundBy : GoodIn wsX9_by wsX9_foundBy := goodIn_r _ [28, 18, 29, 30, 31, 32, 33, 5, 34, 24, 11, 12, 13, 35, 36, 37, 38, 39, 40, 41, 42, 43, 44, 45, 46, 47, 48, 49, 50, 19, 61, 62, 63, 64, 65, 66, 67, 68, 69, 70, 71, 72, 73, 74, 75, 76, 77, 78, 79, 80, 81, 82, 83, 84, 85, 86, 87, 88, 89] (by decide +kernel) (by decide +kernel)
set_option maxRecDepth 20000 in
theorem gX9_by_X9_foundBy : GoodIn wsX9_by (wsV RX9 180 RX9 yX9_foundBy wsX9_foundBy) := goodIn_app (goodIn_of _ (by decide +kernel)) ggX9_by_X9_foundBy
set_option maxRecDepth 20000 in
theorem ggX9_by_X9_allTimes : GoodIn wsX9_by wsX9_allTimes := goodIn_r _ [54, 20, 21, 22, 5, 23, 24, 61, 62, 63, 64, 65, 66, 67, 68, 69, 70, 71, 72, 73, 74, 75, 76, 77, 78, 79, 80, 81, 82, 83, 84, 85, 86, 87, 88, 89] (by decide +kernel) (by decide +kernel)
set_option maxRecDepth 20000 in
theorem gX9_by_X9_allTimes : GoodIn wsX9_by (wsV RX9 183 RX9 yX9_allTimes wsX9_allTimes) := goodIn_app (goodIn_of _ (by decide +kernel)) ggX9_by_X9_allTimes
set_option maxRecDepth 20000 in
theorem ggX9_by_X9_part : GoodIn wsX9_by wsX9_part := goodIn_r _ [57, 58, 59, 5, 60] (by decide +kernel) (by decide +kernel)
set_option maxRecDepth 20000 in
theorem gX9_by_X9_part : GoodIn wsX9_by (va_wsS RX9 186 yX9_part wsX9_part) := goodIn_app (goodIn_of _ (by decide +kernel)) ggX9_by_X9_part
theorem dX9_by_0 : decode cX9_by 0 = .ok (.iload_n 1, 1) := by decide +kernel
theorem dX9_by_1 : decode cX9_by 1 = .ok (.iload_n 2, 1) := by decide +kernel
theorem dX9_by_2 : decode cX9_by 2 = .ok (.invokestatic 172, 3) := by decide +kernel
theorem dX9_by_5 : decode cX9_by 5 = .ok (.ifCond .ne 7, 3) := by decide +kernel
theorem dX9_by_8 : decode cX9_by 8 = .ok (.ldc2_w 149, 3) := by decide +kernel
theorem dX9_by_11 : decode cX9_by 11 = .ok (.lreturn, 1) := by decide +kernel
theorem dX9_by_12 : decode cX9_by 12 = .ok (.aload_n 0, 1) := by decide +kernel
theorem dX9_by_13 : decode cX9_by 13 = .ok (.iload_n 1, 1) := by decide +kernel
theorem dX9_by_14 : decode cX9_by 14 = .ok (.invokevirtual 176, 3) := by decide +kernel
theorem dX9_by_17 : decode cX9_by 17 = .ok (.ifCond .eq 23, 3) := by decide +kernel
theorem dX9_by_20 : decode cX9_by 20 = .ok (.aload_n 0, 1) := by decide +kernel
theorem dX9_by_21 : decode cX9_by 21 = .ok (.iload_n 1, 1) := by decide +kernel
theorem dX9_by_22 : decode cX9_by 22 = .ok (.iload_n 2, 1) := by decide +kernel
theorem dX9_by_23 : decode cX9_by 23 = .ok (.invokevirtual 180, 3) := by decide +kernel
theorem dX9_by_26 : decode cX9_by 26 = .ok (.aload_n 0, 1) := by decide +kernel
theorem dX9_by_27 : decode cX9_by 27 = .ok (.iload_n 1, 1) := by decide +kernel
theorem dX9_by_28 : decode cX9_by 28 = .ok (.bipush 100, 2) := by decide +kernel
theorem dX9_by_30 : decode cX9_by 30 = .ok (.invokevirtual 183, 3) := by decide +kernel
theorem dX9_by_33 : decode cX9_by 33 = .ok (.iload_n 3, 1) := by decide +kernel
theorem dX9_by_34 : decode cX9_by 34 = .ok (.invokestatic 186, 3) := by decide +kernel
theorem dX9_by_37 : decode cX9_by 37 = .ok (.goto 6, 3) := by decide +kernel
theorem dX9_by_40 : decode cX9_by 40 = .ok (.ldc2_w 155, 3) := by decide +kernel
theorem dX9_by_43 : decode cX9_by 43 = .ok (.lreturn, 1) := by decide +kernel
set_option maxRecDepth 20000 in
theorem ggX9_bestBy_X9_tenTo : GoodIn wsX9_bestBy wsX9_tenTo := goodIn_r _ [6] (by decide +kernel) (by decide +kernel)
set_option maxRecDepth 20000 in
theorem gX9_bestBy_X9_tenTo : GoodIn wsX9_bestBy (va_wsS RX9 163 yX9_tenTo wsX9_tenTo) := goodIn_app (goodIn_of _ (by decide +kernel)) ggX9_bestBy_X9_tenTo
set_option maxRecDepth 20000 in
theorem ggX9_bestBy_X9_isRow : GoodIn wsX9_bestBy wsX9_isRow := goodIn_r _ [9, 10, 11, 12, 5, 13, 3, 4, 6] (by decide +kernel) (by decide +kernel)
set_option maxRecDepth 20000 in
theorem gX9_bestBy_X9_isRow : GoodIn wsX9_bestBy (va_wsS RX9 172 yX9_isRow wsX9_isRow) := goodIn_app (goodIn_of _ (by decide +kernel)) ggX9_bestBy_X9_isRow
set_option maxRecDepth 20000 in
theorem ggX9_bestBy_X9_foundBy : GoodIn wsX9_bestBy wsX9_foundBy := goodIn_r _ [17, 18, 19, 20, 21, 22, 23, 5, 24, 25, 3, 4, 6, 26, 27, 28, 29, 30, 31, 32, 33, 34, 35, 36, 37, 38, 39, 40, 41, 42, 43, 44, 45, 46, 47, 48, 49, 50, 51, 52, 53, 54, 55, 56, 57, 58, 59, 60, 61, 62, 63, 64, 65, 66, 67, 68, 69, 70, 71] (by decide +kernel) (by decide +kernel)
set_option maxRecDepth 20000 in
theorem gX9_bestBy_X9_foundBy : GoodIn wsX9_bestBy (wsV RX9 180 RX9 yX9_foundBy wsX9_foundBy) := goodIn_app (goodIn_of _ (by decide +kernel)) ggX9_bestBy_X9_foundBy
theorem dX9_bestBy_0 : decode cX9_bestBy 0 = .ok (.ldc2_w 190, 3) := by decide +kernel
theorem dX9_bestBy_3 : decode cX9_bestBy 3 = .ok (.lstore_n 3, 1) := by decide +kernel
theorem dX9_bestBy_4 : decode cX9_bestBy 4 = .ok (.aload_n 0, 1) := by decide +kernel
theorem dX9_bestBy_5 : decode cX9_bestBy 5 = .ok (.iconst 0, 1) := by decide +kernel
theorem dX9_bestBy_6 : decode cX9_bestBy 6 = .ok (.putfield 192, 3) := by decide +kernel
theorem dX9_bestBy_9 : decode cX9_bestBy 9 = .ok (.iconst 0, 1) := by decide +kernel
theorem dX9_bestBy_10 : decode cX9_bestBy 10 = .ok (.istore 5, 2) := by decide +kernel
theorem dX9_bestBy_12 : decode cX9_bestBy 12 = .ok (.iload 5, 2) := by decide +kernel
theorem dX9_bestBy_14 : decode cX9_bestBy 14 = .ok (.iload_n 1, 1) := by decide +kernel
theorem dX9_bestBy_15 : decode cX9_bestBy 15 = .ok (.invokestatic 163, 3) := by decide +kernel
theorem dX9_bestBy_18 : decode cX9_bestBy 18 = .ok (.if_icmp .ge 118, 3) := by decide +kernel
theorem dX9_bestBy_21 : decode cX9_bestBy 21 = .ok (.iload 5, 2) := by decide +kernel
theorem dX9_bestBy_23 : decode cX9_bestBy 23 = .ok (.iload_n 1, 1) := by decide +kernel
theorem dX9_bestBy_24 : decode cX9_bestBy 24 = .ok (.iconst 1, 1) := by decide +kernel
theorem dX9_bestBy_25 : decode cX9_bestBy 25 = .ok (.isub, 1) := by decide +kernel
theorem dX9_bestBy_26 : decode cX9_bestBy 26 = .ok (.invokestatic 163, 3) := by decide +kernel
theorem dX9_bestBy_29 : decode cX9_bestBy 29 = .ok (.idiv, 1) := by decide +kernel
theorem dX9_bestBy_30 : decode cX9_bestBy 30 = .ok (.iconst 3, 1) := by decide +kernel
theorem dX9_bestBy_31 : decode cX9_bestBy 31 = .ok (.if_icmp .ne 7, 3) := by decide +kernel
theorem dX9_bestBy_34 : decode cX9_bestBy 34 = .ok (.iconst 1, 1) := by decide +kernel
theorem dX9_bestBy_35 : decode cX9_bestBy 35 = .ok (.goto 4, 3) := by decide +kernel
theorem dX9_bestBy_38 : decode cX9_bestBy 38 = .ok (.iconst 0, 1) := by decide +kernel
theorem dX9_bestBy_39 : decode cX9_bestBy 39 = .ok (.istore 6, 2) := by decide +kernel
theorem dX9_bestBy_41 : decode cX9_bestBy 41 = .ok (.iload_n 1, 1) := by decide +kernel
theorem dX9_bestBy_42 : decode cX9_bestBy 42 = .ok (.iload 5, 2) := by decide +kernel
theorem dX9_bestBy_44 : decode cX9_bestBy 44 = .ok (.invokestatic 172, 3) := by decide +kernel
theorem dX9_bestBy_47 : decode cX9_bestBy 47 = .ok (.ifCond .eq 26, 3) := by decide +kernel
theorem dX9_bestBy_50 : decode cX9_bestBy 50 = .ok (.iload_n 2, 1) := by decide +kernel
theorem dX9_bestBy_51 : decode cX9_bestBy 51 = .ok (.ifCond .eq 18, 3) := by decide +kernel
theorem dX9_bestBy_54 : decode cX9_bestBy 54 = .ok (.iload_n 2, 1) := by decide +kernel
theorem dX9_bestBy_55 : decode cX9_bestBy 55 = .ok (.iconst 1, 1) := by decide +kernel
theorem dX9_bestBy_56 : decode cX9_bestBy 56 = .ok (.if_icmp .ne 7, 3) := by decide +kernel
theorem dX9_bestBy_59 : decode cX9_bestBy 59 = .ok (.iconst 1, 1) := by decide +kernel
theorem dX9_bestBy_60 : decode cX9_bestBy 60 = .ok (.goto 4, 3) := by decide +kernel
theorem dX9_bestBy_63 : decode cX9_bestBy 63 = .ok (.iconst 0, 1) := by decide +kernel
theorem dX9_bestBy_64 : decode cX9_bestBy 64 = .ok (.iload 6, 2) := by decide +kernel
theorem dX9_bestBy_66 : decode cX9_bestBy 66 = .ok (.if_icmp .ne 7, 3) := by decide +kernel
theorem dX9_bestBy_69 : decode cX9_bestBy 69 = .ok (.iconst 1, 1) := by decide +kernel
theorem dX9_bestBy_70 : decode cX9_bestBy 70 = .ok (.goto 4, 3) := by decide +kernel
theorem dX9_bestBy_73 : decode cX9_bestBy 73 = .ok (.iconst 0, 1) := by decide +kernel
theorem dX9_bestBy_74 : decode cX9_bestBy 74 = .ok (.istore 7, 2) := by decide +kernel
theorem dX9_bestBy_76 : decode cX9_bestBy 76 = .ok (.iload 7, 2) := by decide +kernel
theorem dX9_bestBy_78 : decode cX9_bestBy 78 = .ok (.ifCond .eq 13, 3) := by decide +kernel
theorem dX9_bestBy_81 : decode cX9_bestBy 81 = .ok (.aload_n 0, 1) := by decide +kernel
theorem dX9_bestBy_82 : decode cX9_bestBy 82 = .ok (.iload_n 1, 1) := by decide +kernel
theorem dX9_bestBy_83 : decode cX9_bestBy 83 = .ok (.iload 5, 2) := by decide +kernel
theorem dX9_bestBy_85 : decode cX9_bestBy 85 = .ok (.invokevirtual 180, 3) := by decide +kernel
theorem dX9_bestBy_88 : decode cX9_bestBy 88 = .ok (.goto 6, 3) := by decide +kernel
theorem dX9_bestBy_91 : decode cX9_bestBy 91 = .ok (.ldc2_w 190, 3) := by decide +kernel
theorem dX9_bestBy_94 : decode cX9_bestBy 94 = .ok (.lstore 8, 2) := by decide +kernel
theorem dX9_bestBy_96 : decode cX9_bestBy 96 = .ok (.aload_n 0, 1) := by decide +kernel
theorem dX9_bestBy_97 : decode cX9_bestBy 97 = .ok (.lload 8, 2) := by decide +kernel
theorem dX9_bestBy_99 : decode cX9_bestBy 99 = .ok (.lload_n 3, 1) := by decide +kernel
theorem dX9_bestBy_100 : decode cX9_bestBy 100 = .ok (.lcmp, 1) := by decide +kernel
theorem dX9_bestBy_101 : decode cX9_bestBy 101 = .ok (.ifCond .le 8, 3) := by decide +kernel
theorem dX9_bestBy_104 : decode cX9_bestBy 104 = .ok (.iload 5, 2) := by decide +kernel
theorem dX9_bestBy_106 : decode cX9_bestBy 106 = .ok (.goto 7, 3) := by decide +kernel
theorem dX9_bestBy_109 : decode cX9_bestBy 109 = .ok (.aload_n 0, 1) := by decide +kernel
theorem dX9_bestBy_110 : decode cX9_bestBy 110 = .ok (.getfield 192, 3) := by decide +kernel
theorem dX9_bestBy_113 : decode cX9_bestBy 113 = .ok (.putfield 192, 3) := by decide +kernel
theorem dX9_bestBy_116 : decode cX9_bestBy 116 = .ok (.lload 8, 2) := by decide +kernel
theorem dX9_bestBy_118 : decode cX9_bestBy 118 = .ok (.lload_n 3, 1) := by decide +kernel
theorem dX9_bestBy_119 : decode cX9_bestBy 119 = .ok (.lcmp, 1) := by decide +kernel
theorem dX9_bestBy_120 : decode cX9_bestBy 120 = .ok (.ifCond .le 8, 3) := by decide +kernel
theorem dX9_bestBy_123 : decode cX9_bestBy 123 = .ok (.lload 8, 2) := by decide +kernel
theorem dX9_bestBy_125 : decode cX9_bestBy 125 = .ok (.goto 4, 3) := by decide +kernel
theorem dX9_bestBy_128 : decode cX9_bestBy 128 = .ok (.lload_n 3, 1) := by decide +kernel
theorem dX9_bestBy_129 : decode cX9_bestBy 129 = .ok (.lstore_n 3, 1) := by decide +kernel
theorem dX9_bestBy_130 : decode cX9_bestBy 130 = .ok (.iinc 5 1, 3) := by decide +kernel
theorem dX9_bestBy_133 : decode cX9_bestBy 133 = .ok (.goto (-121), 3) := by decide +kernel
theorem dX9_bestBy_136 : decode cX9_bestBy 136 = .ok (.lload_n 3, 1) := by decide +kernel
theorem dX9_bestBy_137 : decode cX9_bestBy 137 = .ok (.lreturn, 1) := by decide +kernel
set_option maxRecDepth 20000 in
theorem ggX9_best_X9_in : GoodIn wsX9_best wsX9_in := goodIn_r _ [7] (by decide +kernel) (by decide +kernel)
set_option maxRecDepth 20000 in
theorem gX9_best_X9_in : GoodIn wsX9_best (va_wsS RX9 54 yX9_in wsX9_in) := goodIn_app (goodIn_of _ (by decide +kernel)) ggX9_best_X9_in
set_option maxRecDepth 20000 in
theorem ggX9_best_X9_canLook : GoodIn wsX9_best wsX9_canLook := goodIn_r _ [11, 12, 13, 14, 15, 16, 6, 17, 18, 67, 68, 69, 70, 71, 72, 73, 74, 75, 76, 77, 78, 79, 80, 81, 82, 83, 84, 85, 86, 87, 88, 89, 90, 91, 92, 93, 94, 95] (by decide +kernel) (by decide +kernel)
set_option maxRecDepth 20000 in
theorem gX9_best_X9_canLook : GoodIn wsX9_best (wsV RX9 176 RX9 yX9_canLook wsX9_canLook) := goodIn_app (goodIn_of _ (by decide +kernel)) ggX9_best_X9_canLook
set_option maxRecDepth 20000 in
theorem ggX9_best_X9_bestBy : GoodIn wsX9_best wsX9_bestBy := goodIn_r _ [22, 23, 24, 25, 26, 6, 27, 28, 29, 30, 1, 4, 5, 7, 31, 32, 33, 34, 12, 35, 36, 37, 38, 39, 40, 18, 41, 42, 43, 44, 45, 46, 47, 48, 49, 50, 51, 52, 53, 54, 55, 56, 13, 67, 68, 69, 70, 71, 72, 73, 74, 75, 76, 77, 78, 79, 80, 81, 82, 83, 84, 85, 86, 87, 88, 89, 90, 91, 92, 93, 94, 95] (by decide +kernel) (by decide +kernel)
set_option maxRecDepth 20000 in
theorem gX9_best_X9_bestBy : GoodIn wsX9_best (wsV RX9 195 RX9 yX9_bestBy wsX9_bestBy) := goodIn_app (goodIn_of _ (by decide +kernel)) ggX9_best_X9_bestBy
set_option maxRecDepth 20000 in
theorem ggX9_best_X9_allTimes : GoodIn wsX9_best wsX9_allTimes := goodIn_r _ [60, 14, 15, 16, 6, 17, 18, 67, 68, 69, 70, 71, 72, 73, 74, 75, 76, 77, 78, 79, 80, 81, 82, 83, 84, 85, 86, 87, 88, 89, 90, 91, 92, 93, 94, 95] (by decide +kernel) (by decide +kernel)
set_option maxRecDepth 20000 in
theorem gX9_best_X9_allTimes : GoodIn wsX9_best (wsV RX9 183 RX9 yX9_allTimes wsX9_allTimes) := goodIn_app (goodIn_of _ (by decide +kernel)) ggX9_best_X9_allTimes
set_option maxRecDepth 20000 in
theorem ggX9_best_X9_part : GoodIn wsX9_best wsX9_part := goodIn_r _ [63, 64, 65, 6, 66] (by decide +kernel) (by decide +kernel)
set_option maxRecDepth 20000 in
theorem gX9_best_X9_part : GoodIn wsX9_best (va_wsS RX9 186 yX9_part wsX9_part) := goodIn_app (goodIn_of _ (by decide +kernel)) ggX9_best_X9_part
theorem dX9_best_0 : decode cX9_best 0 = .ok (.iload_n 1, 1) := by decide +kernel
theorem dX9_best_1 : decode cX9_best 1 = .ok (.i2l, 1) := by decide +kernel
theorem dX9_best_2 : decode cX9_best 2 = .ok (.lconst 1, 1) := by decide +kernel
theorem dX9_best_3 : decode cX9_best 3 = .ok (.ldc2_w 161, 3) := by decide +kernel
theorem dX9_best_6 : decode cX9_best 6 = .ok (.invokestatic 54, 3) := by decide +kernel
theorem dX9_best_9 : decode cX9_best 9 = .ok (.ifCond .ne 7, 3) := by decide +kernel
theorem dX9_best_12 : decode cX9_best 12 = .ok (.ldc2_w 149, 3) := by decide +kernel
theorem dX9_best_15 : decode cX9_best 15 = .ok (.lreturn, 1) := by decide +kernel
theorem dX9_best_16 : decode cX9_best 16 = .ok (.aload_n 0, 1) := by decide +kernel
theorem dX9_best_17 : decode cX9_best 17 = .ok (.iload_n 1, 1) := by decide +kernel
theorem dX9_best_18 : decode cX9_best 18 = .ok (.invokevirtual 176, 3) := by decide +kernel
theorem dX9_best_21 : decode cX9_best 21 = .ok (.ifCond .eq 23, 3) := by decide +kernel
theorem dX9_best_24 : decode cX9_best 24 = .ok (.aload_n 0, 1) := by decide +kernel
theorem dX9_best_25 : decode cX9_best 25 = .ok (.iload_n 1, 1) := by decide +kernel
theorem dX9_best_26 : decode cX9_best 26 = .ok (.iconst 0, 1) := by decide +kernel
theorem dX9_best_27 : decode cX9_best 27 = .ok (.invokevirtual 195, 3) := by decide +kernel
theorem dX9_best_30 : decode cX9_best 30 = .ok (.aload_n 0, 1) := by decide +kernel
theorem dX9_best_31 : decode cX9_best 31 = .ok (.iload_n 1, 1) := by decide +kernel
theorem dX9_best_32 : decode cX9_best 32 = .ok (.bipush 100, 2) := by decide +kernel
theorem dX9_best_34 : decode cX9_best 34 = .ok (.invokevirtual 183, 3) := by decide +kernel
theorem dX9_best_37 : decode cX9_best 37 = .ok (.iload_n 2, 1) := by decide +kernel
theorem dX9_best_38 : decode cX9_best 38 = .ok (.invokestatic 186, 3) := by decide +kernel
theorem dX9_best_41 : decode cX9_best 41 = .ok (.goto 6, 3) := by decide +kernel
theorem dX9_best_44 : decode cX9_best 44 = .ok (.ldc2_w 155, 3) := by decide +kernel
theorem dX9_best_47 : decode cX9_best 47 = .ok (.lreturn, 1) := by decide +kernel
set_option maxRecDepth 20000 in
theorem ggX9_bestRow_X9_in : GoodIn wsX9_bestRow wsX9_in := goodIn_r _ [6] (by decide +kernel) (by decide +kernel)
set_option maxRecDepth 20000 in
theorem gX9_bestRow_X9_in : GoodIn wsX9_bestRow (va_wsS RX9 54 yX9_in wsX9_in) := goodIn_app (goodIn_of _ (by decide +kernel)) ggX9_bestRow_X9_in
set_option maxRecDepth 20000 in
theorem ggX9_bestRow_X9_canLook : GoodIn wsX9_bestRow wsX9_canLook := goodIn_r _ [10, 11, 12, 13, 14, 15, 5, 16, 17, 55, 56, 57, 58, 59, 60, 61, 62, 63, 64, 65, 66, 67, 68, 69, 70, 71, 72, 73, 74, 75, 76, 77, 78, 79, 80, 81, 82, 83] (by decide +kernel) (by decide +kernel)
set_option maxRecDepth 20000 in
theorem gX9_bestRow_X9_canLook : GoodIn wsX9_bestRow (wsV RX9 176 RX9 yX9_canLook wsX9_canLook) := goodIn_app (goodIn_of _ (by decide +kernel)) ggX9_bestRow_X9_canLook
set_option maxRecDepth 20000 in
theorem ggX9_bestRow_X9_bestBy : GoodIn wsX9_bestRow wsX9_bestBy := goodIn_r _ [21, 22, 2, 23, 24, 5, 25, 26, 27, 28, 1, 3, 4, 6, 29, 30, 31, 32, 11, 33, 34, 35, 36, 37, 38, 17, 39, 40, 41, 42, 43, 44, 45, 46, 47, 48, 49, 50, 51, 52, 53, 54, 12, 55, 56, 57, 58, 59, 60, 61, 62, 63, 64, 65, 66, 67, 68, 69, 70, 71, 72, 73, 74, 75, 76, 77, 78, 79, 80, 81, 82, 83] (by decide +kernel) (by decide +kernel)
set_option maxRecDepth 20000 in
theorem gX9_bestRow_X9_bestBy : GoodIn wsX9_bestRow (wsV RX9 195 RX9 yX9_bestBy wsX9_bestBy) := goodIn_app (goodIn_of _ (by decide +kernel)) ggX9_bestRow_X9_bestBy
theorem dX9_bestRow_0 : decode cX9_bestRow 0 = .ok (.iload_n 1, 1) := by decide +kernel
theorem dX9_bestRow_1 : decode cX9_bestRow 1 = .ok (.i2l, 1) := by decide +kernel
theorem dX9_bestRow_2 : decode cX9_bestRow 2 = .ok (.lconst 1, 1) := by decide +kernel
theorem dX9_bestRow_3 : decode cX9_bestRow 3 = .ok (.ldc2_w 161, 3) := by decide +kernel
theorem dX9_bestRow_6 : decode cX9_bestRow 6 = .ok (.invokestatic 54, 3) := by decide +kernel
theorem dX9_bestRow_9 : decode cX9_bestRow 9 = .ok (.ifCond .ne 6, 3) := by decide +kernel
theorem dX9_bestRow_12 : decode cX9_bestRow 12 = .ok (.bipush (-2), 2) := by decide +kernel
theorem dX9_bestRow_14 : decode cX9_bestRow 14 = .ok (.ireturn, 1) := by decide +kernel
theorem dX9_bestRow_15 : decode cX9_bestRow 15 = .ok (.aload_n 0, 1) := by decide +kernel
theorem dX9_bestRow_16 : decode cX9_bestRow 16 = .ok (.iload_n 1, 1) := by decide +kernel
theorem dX9_bestRow_17 : decode cX9_bestRow 17 = .ok (.invokevirtual 176, 3) := by decide +kernel
theorem dX9_bestRow_20 : decode cX9_bestRow 20 = .ok (.ifCond .ne 6, 3) := by decide +kernel
theorem dX9_bestRow_23 : decode cX9_bestRow 23 = .ok (.bipush (-3), 2) := by decide +kernel
theorem dX9_bestRow_25 : decode cX9_bestRow 25 = .ok (.ireturn, 1) := by decide +kernel
theorem dX9_bestRow_26 : decode cX9_bestRow 26 = .ok (.aload_n 0, 1) := by decide +kernel
theorem dX9_bestRow_27 : decode cX9_bestRow 27 = .ok (.iload_n 1, 1) := by decide +kernel
theorem dX9_bestRow_28 : decode cX9_bestRow 28 = .ok (.iconst 0, 1) := by decide +kernel
theorem dX9_bestRow_29 : decode cX9_bestRow 29 = .ok (.invokevirtual 195, 3) := by decide +kernel
theorem dX9_bestRow_32 : decode cX9_bestRow 32 = .ok (.pop2, 1) := by decide +kernel
theorem dX9_bestRow_33 : decode cX9_bestRow 33 = .ok (.aload_n 0, 1) := by decide +kernel
theorem dX9_bestRow_34 : decode cX9_bestRow 34 = .ok (.getfield 192, 3) := by decide +kernel
theorem dX9_bestRow_37 : decode cX9_bestRow 37 = .ok (.ireturn, 1) := by decide +kernel
set_option maxRecDepth 20000 in
theorem ggX9_soon_X9_in : GoodIn wsX9_soon wsX9_in := goodIn_r _ [5] (by decide +kernel) (by decide +kernel)
set_option maxRecDepth 20000 in
theorem gX9_soon_X9_in : GoodIn wsX9_soon (va_wsS RX9 54 yX9_in wsX9_in) := goodIn_app (goodIn_of _ (by decide +kernel)) ggX9_soon_X9_in
set_option maxRecDepth 20000 in
theorem ggX9_soon_X9_sumOf : GoodIn wsX9_soon wsX9_sumOf := goodIn_r _ [9, 10, 59, 60, 61, 62, 63, 64, 65, 66, 67, 68, 69, 70, 71, 72, 73, 74, 75, 76, 77, 78, 79, 80, 81, 82, 83, 84, 85, 86, 87] (by decide +kernel) (by decide +kernel)
set_option maxRecDepth 20000 in
theorem gX9_soon_X9_sumOf : GoodIn wsX9_soon (wsV RX9 151 RX9 yX9_sumOf wsX9_sumOf) := goodIn_app (goodIn_of _ (by decide +kernel)) ggX9_soon_X9_sumOf
set_option maxRecDepth 20000 in
theorem ggX9_soon_X9_canLook : GoodIn wsX9_soon wsX9_canLook := goodIn_r _ [14, 15, 16, 6, 7, 8, 4, 9, 10, 59, 60, 61, 62, 63, 64, 65, 66, 67, 68, 69, 70, 71, 72, 73, 74, 75, 76, 77, 78, 79, 80, 81, 82, 83, 84, 85, 86, 87] (by decide +kernel) (by decide +kernel)
set_option maxRecDepth 20000 in
theorem gX9_soon_X9_canLook : GoodIn wsX9_soon (wsV RX9 176 RX9 yX9_canLook wsX9_canLook) := goodIn_app (goodIn_of _ (by decide +kernel)) ggX9_soon_X9_canLook
set_option maxRecDepth 20000 in
theorem ggX9_soon_X9_bestBy : GoodIn wsX9_soon wsX9_bestBy := goodIn_r _ [20, 21, 22, 23, 24, 4, 25, 26, 27, 28, 29, 2, 3, 5, 30, 31, 32, 33, 15, 34, 1, 35, 36, 37, 38, 10, 39, 40, 41, 42, 43, 44, 45, 46, 47, 48, 49, 50, 51, 52, 53, 54, 16, 59, 60, 61, 62, 63, 64, 65, 66, 67, 68, 69, 70, 71, 72, 73, 74, 75, 76, 77, 78, 79, 80, 81, 82, 83, 84, 85, 86, 87] (by decide +kernel) (by decide +kernel)
set_option maxRecDepth 20000 in
theorem gX9_soon_X9_bestBy : GoodIn wsX9_soon (wsV RX9 195 RX9 yX9_bestBy wsX9_bestBy) := goodIn_app (goodIn_of _ (by decide +kernel)) ggX9_soon_X9_bestBy
set_option maxRecDepth 20000 in
theorem ggX9_soon_X9_allTimes : GoodIn wsX9_soon wsX9_allTimes := goodIn_r _ [58, 6, 7, 8, 4, 9, 10, 59, 60, 61, 62, 63, 64, 65, 66, 67, 68, 69, 70, 71, 72, 73, 74, 75, 76, 77, 78, 79, 80, 81, 82, 83, 84, 85, 86, 87] (by decide +kernel) (by decide +kernel)
set_option maxRecDepth 20000 in
theorem gX9_soon_X9_allTimes : GoodIn wsX9_soon (wsV RX9 183 RX9 yX9_allTimes wsX9_allTimes) := goodIn_app (goodIn_of _ (by decide +kernel)) ggX9_soon_X9_allTimes
theorem dX9_soon_0 : decode cX9_soon 0 = .ok (.iload_n 1, 1) := by decide +kernel
theorem dX9_soon_1 : decode cX9_soon 1 = .ok (.i2l, 1) := by decide +kernel
theorem dX9_soon_2 : decode cX9_soon 2 = .ok (.lconst 1, 1) := by decide +kernel
theorem dX9_soon_3 : decode cX9_soon 3 = .ok (.ldc2_w 128, 3) := by decide +kernel
theorem dX9_soon_6 : decode cX9_soon 6 = .ok (.invokestatic 54, 3) := by decide +kernel
theorem dX9_soon_9 : decode cX9_soon 9 = .ok (.ifCond .ne 6, 3) := by decide +kernel
theorem dX9_soon_12 : decode cX9_soon 12 = .ok (.bipush (-2), 2) := by decide +kernel
theorem dX9_soon_14 : decode cX9_soon 14 = .ok (.ireturn, 1) := by decide +kernel
theorem dX9_soon_15 : decode cX9_soon 15 = .ok (.aload_n 0, 1) := by decide +kernel
theorem dX9_soon_16 : decode cX9_soon 16 = .ok (.iconst 0, 1) := by decide +kernel
theorem dX9_soon_17 : decode cX9_soon 17 = .ok (.invokevirtual 151, 3) := by decide +kernel
theorem dX9_soon_20 : decode cX9_soon 20 = .ok (.lconst 0, 1) := by decide +kernel
theorem dX9_soon_21 : decode cX9_soon 21 = .ok (.lcmp, 1) := by decide +kernel
theorem dX9_soon_22 : decode cX9_soon 22 = .ok (.ifCond .ne 6, 3) := by decide +kernel
theorem dX9_soon_25 : decode cX9_soon 25 = .ok (.bipush (-3), 2) := by decide +kernel
theorem dX9_soon_27 : decode cX9_soon 27 = .ok (.ireturn, 1) := by decide +kernel
theorem dX9_soon_28 : decode cX9_soon 28 = .ok (.iconst 1, 1) := by decide +kernel
theorem dX9_soon_29 : decode cX9_soon 29 = .ok (.istore_n 2, 1) := by decide +kernel
theorem dX9_soon_30 : decode cX9_soon 30 = .ok (.iload_n 2, 1) := by decide +kernel
theorem dX9_soon_31 : decode cX9_soon 31 = .ok (.iconst 5, 1) := by decide +kernel
theorem dX9_soon_32 : decode cX9_soon 32 = .ok (.if_icmp .ge 43, 3) := by decide +kernel
theorem dX9_soon_35 : decode cX9_soon 35 = .ok (.aload_n 0, 1) := by decide +kernel
theorem dX9_soon_36 : decode cX9_soon 36 = .ok (.iload_n 2, 1) := by decide +kernel
theorem dX9_soon_37 : decode cX9_soon 37 = .ok (.invokevirtual 176, 3) := by decide +kernel
theorem dX9_soon_40 : decode cX9_soon 40 = .ok (.ifCond .eq 35, 3) := by decide +kernel
theorem dX9_soon_43 : decode cX9_soon 43 = .ok (.aload_n 0, 1) := by decide +kernel
theorem dX9_soon_44 : decode cX9_soon 44 = .ok (.iload_n 2, 1) := by decide +kernel
theorem dX9_soon_45 : decode cX9_soon 45 = .ok (.iconst 0, 1) := by decide +kernel
theorem dX9_soon_46 : decode cX9_soon 46 = .ok (.invokevirtual 195, 3) := by decide +kernel
theorem dX9_soon_49 : decode cX9_soon 49 = .ok (.aload_n 0, 1) := by decide +kernel
theorem dX9_soon_50 : decode cX9_soon 50 = .ok (.iload_n 2, 1) := by decide +kernel
theorem dX9_soon_51 : decode cX9_soon 51 = .ok (.bipush 100, 2) := by decide +kernel
theorem dX9_soon_53 : decode cX9_soon 53 = .ok (.invokevirtual 183, 3) := by decide +kernel
theorem dX9_soon_56 : decode cX9_soon 56 = .ok (.ldc2_w 128, 3) := by decide +kernel
theorem dX9_soon_59 : decode cX9_soon 59 = .ok (.ldiv, 1) := by decide +kernel
theorem dX9_soon_60 : decode cX9_soon 60 = .ok (.iload_n 1, 1) := by decide +kernel
theorem dX9_soon_61 : decode cX9_soon 61 = .ok (.i2l, 1) := by decide +kernel
theorem dX9_soon_62 : decode cX9_soon 62 = .ok (.lmul, 1) := by decide +kernel
theorem dX9_soon_63 : decode cX9_soon 63 = .ok (.lcmp, 1) := by decide +kernel
theorem dX9_soon_64 : decode cX9_soon 64 = .ok (.ifCond .lt 5, 3) := by decide +kernel
theorem dX9_soon_67 : decode cX9_soon 67 = .ok (.iload_n 2, 1) := by decide +kernel
theorem dX9_soon_68 : decode cX9_soon 68 = .ok (.ireturn, 1) := by decide +kernel
theorem dX9_soon_69 : decode cX9_soon 69 = .ok (.iinc 2 1, 3) := by decide +kernel
theorem dX9_soon_72 : decode cX9_soon 72 = .ok (.goto (-42), 3) := by decide +kernel
theorem dX9_soon_75 : decode cX9_soon 75 = .ok (.bipush (-9), 2) := by decide +kernel
theorem dX9_soon_77 : decode cX9_soon 77 = .ok (.ireturn, 1) := by decide +kernel
set_option maxRecDepth 20000 in
theorem ggX9_first_X9_in : GoodIn wsX9_first wsX9_in := goodIn_r _ [7] (by decide +kernel) (by decide +kernel)
set_option maxRecDepth 20000 in
theorem gX9_first_X9_in : GoodIn wsX9_first (va_wsS RX9 54 yX9_in wsX9_in) := goodIn_app (goodIn_of _ (by decide +kernel)) ggX9_first_X9_in
set_option maxRecDepth 20000 in
theorem ggX9_first_X9_canLook : GoodIn wsX9_first wsX9_canLook := goodIn_r _ [11, 12, 13, 14, 15, 16, 6, 17, 18, 67, 68, 69, 70, 71, 72, 73, 74, 75, 76, 77, 78, 79, 80, 81, 82, 83, 84, 85, 86, 87, 88, 89, 90, 91, 92, 93, 94, 95] (by decide +kernel) (by decide +kernel)
set_option maxRecDepth 20000 in
theorem gX9_first_X9_canLook : GoodIn wsX9_first (wsV RX9 176 RX9 yX9_canLook wsX9_canLook) := goodIn_app (goodIn_of _ (by decide +kernel)) ggX9_first_X9_canLook
set_option maxRecDepth 20000 in
theorem ggX9_first_X9_bestBy : GoodIn wsX9_first wsX9_bestBy := goodIn_r _ [22, 23, 24, 25, 26, 6, 27, 28, 29, 30, 1, 4, 5, 7, 31, 32, 33, 34, 12, 35, 36, 37, 38, 39, 40, 18, 41, 42, 43, 44, 45, 46, 47, 48, 49, 50, 51, 52, 53, 54, 55, 56, 13, 67, 68, 69, 70, 71, 72, 73, 74, 75, 76, 77, 78, 79, 80, 81, 82, 83, 84, 85, 86, 87, 88, 89, 90, 91, 92, 93, 94, 95] (by decide +kernel) (by decide +kernel)
set_option maxRecDepth 20000 in
theorem gX9_first_X9_bestBy : GoodIn wsX9_first (wsV RX9 195 RX9 yX9_bestBy wsX9_bestBy) := goodIn_app (goodIn_of _ (by decide +kernel)) ggX9_first_X9_bestBy
set_option maxRecDepth 20000 in
theorem ggX9_first_X9_allTimes : GoodIn wsX9_first wsX9_allTimes := goodIn_r _ [60, 14, 15, 16, 6, 17, 18, 67, 68, 69, 70, 71, 72, 73, 74, 75, 76, 77, 78, 79, 80, 81, 82, 83, 84, 85, 86, 87, 88, 89, 90, 91, 92, 93, 94, 95] (by decide +kernel) (by decide +kernel)
set_option maxRecDepth 20000 in
theorem gX9_first_X9_allTimes : GoodIn wsX9_first (wsV RX9 183 RX9 yX9_allTimes wsX9_allTimes) := goodIn_app (goodIn_of _ (by decide +kernel)) ggX9_first_X9_allTimes
set_option maxRecDepth 20000 in
theorem ggX9_first_X9_part : GoodIn wsX9_first wsX9_part := goodIn_r _ [63, 64, 65, 6, 66] (by decide +kernel) (by decide +kernel)
set_option maxRecDepth 20000 in
theorem gX9_first_X9_part : GoodIn wsX9_first (va_wsS RX9 186 yX9_part wsX9_part) := goodIn_app (goodIn_of _ (by decide +kernel)) ggX9_first_X9_part
theorem dX9_first_0 : decode cX9_first 0 = .ok (.iload_n 1, 1) := by decide +kernel
theorem dX9_first_1 : decode cX9_first 1 = .ok (.i2l, 1) := by decide +kernel
theorem dX9_first_2 : decode cX9_first 2 = .ok (.lconst 1, 1) := by decide +kernel
theorem dX9_first_3 : decode cX9_first 3 = .ok (.ldc2_w 161, 3) := by decide +kernel
theorem dX9_first_6 : decode cX9_first 6 = .ok (.invokestatic 54, 3) := by decide +kernel
theorem dX9_first_9 : decode cX9_first 9 = .ok (.ifCond .ne 7, 3) := by decide +kernel
theorem dX9_first_12 : decode cX9_first 12 = .ok (.ldc2_w 149, 3) := by decide +kernel
theorem dX9_first_15 : decode cX9_first 15 = .ok (.lreturn, 1) := by decide +kernel
theorem dX9_first_16 : decode cX9_first 16 = .ok (.aload_n 0, 1) := by decide +kernel
theorem dX9_first_17 : decode cX9_first 17 = .ok (.iload_n 1, 1) := by decide +kernel
theorem dX9_first_18 : decode cX9_first 18 = .ok (.invokevirtual 176, 3) := by decide +kernel
theorem dX9_first_21 : decode cX9_first 21 = .ok (.ifCond .eq 30, 3) := by decide +kernel
theorem dX9_first_24 : decode cX9_first 24 = .ok (.aload_n 0, 1) := by decide +kernel
theorem dX9_first_25 : decode cX9_first 25 = .ok (.iload_n 1, 1) := by decide +kernel
theorem dX9_first_26 : decode cX9_first 26 = .ok (.iconst 1, 1) := by decide +kernel
theorem dX9_first_27 : decode cX9_first 27 = .ok (.invokevirtual 195, 3) := by decide +kernel
theorem dX9_first_30 : decode cX9_first 30 = .ok (.aload_n 0, 1) := by decide +kernel
theorem dX9_first_31 : decode cX9_first 31 = .ok (.iload_n 1, 1) := by decide +kernel
theorem dX9_first_32 : decode cX9_first 32 = .ok (.iconst 2, 1) := by decide +kernel
theorem dX9_first_33 : decode cX9_first 33 = .ok (.invokevirtual 195, 3) := by decide +kernel
theorem dX9_first_36 : decode cX9_first 36 = .ok (.lsub, 1) := by decide +kernel
theorem dX9_first_37 : decode cX9_first 37 = .ok (.aload_n 0, 1) := by decide +kernel
theorem dX9_first_38 : decode cX9_first 38 = .ok (.iload_n 1, 1) := by decide +kernel
theorem dX9_first_39 : decode cX9_first 39 = .ok (.bipush 100, 2) := by decide +kernel
theorem dX9_first_41 : decode cX9_first 41 = .ok (.invokevirtual 183, 3) := by decide +kernel
theorem dX9_first_44 : decode cX9_first 44 = .ok (.iload_n 2, 1) := by decide +kernel
theorem dX9_first_45 : decode cX9_first 45 = .ok (.invokestatic 186, 3) := by decide +kernel
theorem dX9_first_48 : decode cX9_first 48 = .ok (.goto 6, 3) := by decide +kernel
theorem dX9_first_51 : decode cX9_first 51 = .ok (.ldc2_w 155, 3) := by decide +kernel
theorem dX9_first_54 : decode cX9_first 54 = .ok (.lreturn, 1) := by decide +kernel
set_option maxRecDepth 20000 in
theorem ggX9_lookTwice_X9_lookAt : GoodIn wsX9_lookTwice wsX9_lookAt := goodIn_r _ [6, 7, 8, 9, 10, 11, 12, 13, 14, 15, 16, 17, 18, 19, 20, 21, 22, 23, 24, 25, 26, 27, 28, 29, 30, 31, 32, 33, 34, 35, 36, 37, 38] (by decide +kernel) (by decide +kernel)
set_option maxRecDepth 20000 in
theorem gX9_lookTwice_X9_lookAt : GoodIn wsX9_lookTwice (wsV RX9 135 RX9 yX9_lookAt wsX9_lookAt) := goodIn_app (goodIn_of _ (by decide +kernel)) ggX9_lookTwice_X9_lookAt
theorem dX9_lookTwice_0 : decode cX9_lookTwice 0 = .ok (.ldc2_w 128, 3) := by decide +kernel
theorem dX9_lookTwice_3 : decode cX9_lookTwice 3 = .ok (.aload_n 0, 1) := by decide +kernel
theorem dX9_lookTwice_4 : decode cX9_lookTwice 4 = .ok (.iload_n 1, 1) := by decide +kernel
theorem dX9_lookTwice_5 : decode cX9_lookTwice 5 = .ok (.iload_n 2, 1) := by decide +kernel
theorem dX9_lookTwice_6 : decode cX9_lookTwice 6 = .ok (.invokevirtual 135, 3) := by decide +kernel
theorem dX9_lookTwice_9 : decode cX9_lookTwice 9 = .ok (.lmul, 1) := by decide +kernel
theorem dX9_lookTwice_10 : decode cX9_lookTwice 10 = .ok (.lstore 4, 2) := by decide +kernel
theorem dX9_lookTwice_12 : decode cX9_lookTwice 12 = .ok (.lload 4, 2) := by decide +kernel
theorem dX9_lookTwice_14 : decode cX9_lookTwice 14 = .ok (.aload_n 0, 1) := by decide +kernel
theorem dX9_lookTwice_15 : decode cX9_lookTwice 15 = .ok (.iload_n 1, 1) := by decide +kernel
theorem dX9_lookTwice_16 : decode cX9_lookTwice 16 = .ok (.iload_n 3, 1) := by decide +kernel
theorem dX9_lookTwice_17 : decode cX9_lookTwice 17 = .ok (.invokevirtual 135, 3) := by decide +kernel
theorem dX9_lookTwice_20 : decode cX9_lookTwice 20 = .ok (.ladd, 1) := by decide +kernel
theorem dX9_lookTwice_21 : decode cX9_lookTwice 21 = .ok (.lreturn, 1) := by decide +kernel
set_option maxRecDepth 20000 in
theorem ggX9_foundByTwo_X9_lay : GoodIn wsX9_foundByTwo wsX9_lay := goodIn_r _ [10, 11, 33, 34, 35, 36, 37, 38, 39, 40, 41, 42, 43, 44, 45, 46, 47, 48, 49, 50, 51, 52, 53, 54, 55, 56, 57, 58, 59, 60, 61] (by decide +kernel) (by decide +kernel)
set_option maxRecDepth 20000 in
theorem gX9_foundByTwo_X9_lay : GoodIn wsX9_foundByTwo (wsV RX9 167 RX9 yX9_lay wsX9_lay) := goodIn_app (goodIn_of _ (by decide +kernel)) ggX9_foundByTwo_X9_lay
set_option maxRecDepth 20000 in
theorem ggX9_foundByTwo_X9_to : GoodIn wsX9_foundByTwo wsX9_to := goodIn_r _ [14] (by decide +kernel) (by decide +kernel)
set_option maxRecDepth 20000 in
theorem gX9_foundByTwo_X9_to : GoodIn wsX9_foundByTwo (va_wsS RX9 125 yX9_to wsX9_to) := goodIn_app (goodIn_of _ (by decide +kernel)) ggX9_foundByTwo_X9_to
set_option maxRecDepth 20000 in
theorem ggX9_foundByTwo_X9_lookTwice : GoodIn wsX9_foundByTwo wsX9_lookTwice := goodIn_r _ [18, 5, 19, 20, 21, 9, 22, 23, 24, 11, 33, 34, 35, 36, 37, 38, 39, 40, 41, 42, 43, 44, 45, 46, 47, 48, 49, 50, 51, 52, 53, 54, 55, 56, 57, 58, 59, 60, 61] (by decide +kernel) (by decide +kernel)
set_option maxRecDepth 20000 in
theorem gX9_foundByTwo_X9_lookTwice : GoodIn wsX9_foundByTwo (wsV RX9 200 RX9 yX9_lookTwice wsX9_lookTwice) := goodIn_app (goodIn_of _ (by decide +kernel)) ggX9_foundByTwo_X9_lookTwice
set_option maxRecDepth 20000 in
theorem ggX9_foundByTwo_X9_drift : GoodIn wsX9_foundByTwo wsX9_drift := goodIn_r _ [28, 29, 11, 30, 31, 32, 5, 12, 13, 9, 14, 33, 34, 35, 36, 37, 38, 39, 40, 41, 42, 43, 44, 45, 46, 47, 48, 49, 50, 51, 52, 53, 54, 55, 56, 57, 58, 59, 60, 61] (by decide +kernel) (by decide +kernel)
set_option maxRecDepth 20000 in
theorem gX9_foundByTwo_X9_drift : GoodIn wsX9_foundByTwo (wsV RX9 139 RX9 yX9_drift wsX9_drift) := goodIn_app (goodIn_of _ (by decide +kernel)) ggX9_foundByTwo_X9_drift
theorem dX9_foundByTwo_0 : decode cX9_foundByTwo 0 = .ok (.aload_n 0, 1) := by decide +kernel
theorem dX9_foundByTwo_1 : decode cX9_foundByTwo 1 = .ok (.iconst 0, 1) := by decide +kernel
theorem dX9_foundByTwo_2 : decode cX9_foundByTwo 2 = .ok (.iconst 1, 1) := by decide +kernel
theorem dX9_foundByTwo_3 : decode cX9_foundByTwo 3 = .ok (.invokevirtual 167, 3) := by decide +kernel
theorem dX9_foundByTwo_6 : decode cX9_foundByTwo 6 = .ok (.aload_n 0, 1) := by decide +kernel
theorem dX9_foundByTwo_7 : decode cX9_foundByTwo 7 = .ok (.getfield 23, 3) := by decide +kernel
theorem dX9_foundByTwo_10 : decode cX9_foundByTwo 10 = .ok (.iconst 0, 1) := by decide +kernel
theorem dX9_foundByTwo_11 : decode cX9_foundByTwo 11 = .ok (.iaload, 1) := by decide +kernel
theorem dX9_foundByTwo_12 : decode cX9_foundByTwo 12 = .ok (.istore_n 3, 1) := by decide +kernel
theorem dX9_foundByTwo_13 : decode cX9_foundByTwo 13 = .ok (.aload_n 0, 1) := by decide +kernel
theorem dX9_foundByTwo_14 : decode cX9_foundByTwo 14 = .ok (.getfield 109, 3) := by decide +kernel
theorem dX9_foundByTwo_17 : decode cX9_foundByTwo 17 = .ok (.istore 4, 2) := by decide +kernel
theorem dX9_foundByTwo_19 : decode cX9_foundByTwo 19 = .ok (.lconst 0, 1) := by decide +kernel
theorem dX9_foundByTwo_20 : decode cX9_foundByTwo 20 = .ok (.lstore 5, 2) := by decide +kernel
theorem dX9_foundByTwo_22 : decode cX9_foundByTwo 22 = .ok (.iload_n 2, 1) := by decide +kernel
theorem dX9_foundByTwo_23 : decode cX9_foundByTwo 23 = .ok (.istore 7, 2) := by decide +kernel
theorem dX9_foundByTwo_25 : decode cX9_foundByTwo 25 = .ok (.iconst 0, 1) := by decide +kernel
theorem dX9_foundByTwo_26 : decode cX9_foundByTwo 26 = .ok (.istore 8, 2) := by decide +kernel
theorem dX9_foundByTwo_28 : decode cX9_foundByTwo 28 = .ok (.iload 8, 2) := by decide +kernel
theorem dX9_foundByTwo_30 : decode cX9_foundByTwo 30 = .ok (.iload_n 1, 1) := by decide +kernel
theorem dX9_foundByTwo_31 : decode cX9_foundByTwo 31 = .ok (.if_icmp .ge 145, 3) := by decide +kernel
theorem dX9_foundByTwo_34 : decode cX9_foundByTwo 34 = .ok (.iload 7, 2) := by decide +kernel
theorem dX9_foundByTwo_36 : decode cX9_foundByTwo 36 = .ok (.iconst 4, 1) := by decide +kernel
theorem dX9_foundByTwo_37 : decode cX9_foundByTwo 37 = .ok (.irem, 1) := by decide +kernel
theorem dX9_foundByTwo_38 : decode cX9_foundByTwo 38 = .ok (.istore 9, 2) := by decide +kernel
theorem dX9_foundByTwo_40 : decode cX9_foundByTwo 40 = .ok (.iload 7, 2) := by decide +kernel
theorem dX9_foundByTwo_42 : decode cX9_foundByTwo 42 = .ok (.iconst 4, 1) := by decide +kernel
theorem dX9_foundByTwo_43 : decode cX9_foundByTwo 43 = .ok (.idiv, 1) := by decide +kernel
theorem dX9_foundByTwo_44 : decode cX9_foundByTwo 44 = .ok (.iconst 3, 1) := by decide +kernel
theorem dX9_foundByTwo_45 : decode cX9_foundByTwo 45 = .ok (.irem, 1) := by decide +kernel
theorem dX9_foundByTwo_46 : decode cX9_foundByTwo 46 = .ok (.istore 10, 2) := by decide +kernel
theorem dX9_foundByTwo_48 : decode cX9_foundByTwo 48 = .ok (.iload 7, 2) := by decide +kernel
theorem dX9_foundByTwo_50 : decode cX9_foundByTwo 50 = .ok (.bipush 12, 2) := by decide +kernel
theorem dX9_foundByTwo_52 : decode cX9_foundByTwo 52 = .ok (.idiv, 1) := by decide +kernel
theorem dX9_foundByTwo_53 : decode cX9_foundByTwo 53 = .ok (.istore 7, 2) := by decide +kernel
theorem dX9_foundByTwo_55 : decode cX9_foundByTwo 55 = .ok (.aload_n 0, 1) := by decide +kernel
theorem dX9_foundByTwo_56 : decode cX9_foundByTwo 56 = .ok (.getfield 23, 3) := by decide +kernel
theorem dX9_foundByTwo_59 : decode cX9_foundByTwo 59 = .ok (.iconst 1, 1) := by decide +kernel
theorem dX9_foundByTwo_60 : decode cX9_foundByTwo 60 = .ok (.iaload, 1) := by decide +kernel
theorem dX9_foundByTwo_61 : decode cX9_foundByTwo 61 = .ok (.iload 8, 2) := by decide +kernel
theorem dX9_foundByTwo_63 : decode cX9_foundByTwo 63 = .ok (.iadd, 1) := by decide +kernel
theorem dX9_foundByTwo_64 : decode cX9_foundByTwo 64 = .ok (.aload_n 0, 1) := by decide +kernel
theorem dX9_foundByTwo_65 : decode cX9_foundByTwo 65 = .ok (.getfield 116, 3) := by decide +kernel
theorem dX9_foundByTwo_68 : decode cX9_foundByTwo 68 = .ok (.if_icmp .lt 7, 3) := by decide +kernel
theorem dX9_foundByTwo_71 : decode cX9_foundByTwo 71 = .ok (.iconst 1, 1) := by decide +kernel
theorem dX9_foundByTwo_72 : decode cX9_foundByTwo 72 = .ok (.goto 4, 3) := by decide +kernel
theorem dX9_foundByTwo_75 : decode cX9_foundByTwo 75 = .ok (.iconst 0, 1) := by decide +kernel
theorem dX9_foundByTwo_76 : decode cX9_foundByTwo 76 = .ok (.istore 11, 2) := by decide +kernel
theorem dX9_foundByTwo_78 : decode cX9_foundByTwo 78 = .ok (.iload 9, 2) := by decide +kernel
theorem dX9_foundByTwo_80 : decode cX9_foundByTwo 80 = .ok (.iconst 3, 1) := by decide +kernel
theorem dX9_foundByTwo_81 : decode cX9_foundByTwo 81 = .ok (.if_icmp .ne 7, 3) := by decide +kernel
theorem dX9_foundByTwo_84 : decode cX9_foundByTwo 84 = .ok (.iload_n 3, 1) := by decide +kernel
theorem dX9_foundByTwo_85 : decode cX9_foundByTwo 85 = .ok (.goto 9, 3) := by decide +kernel
theorem dX9_foundByTwo_88 : decode cX9_foundByTwo 88 = .ok (.iload_n 3, 1) := by decide +kernel
theorem dX9_foundByTwo_89 : decode cX9_foundByTwo 89 = .ok (.iload 9, 2) := by decide +kernel
theorem dX9_foundByTwo_91 : decode cX9_foundByTwo 91 = .ok (.invokestatic 125, 3) := by decide +kernel
theorem dX9_foundByTwo_94 : decode cX9_foundByTwo 94 = .ok (.istore_n 3, 1) := by decide +kernel
theorem dX9_foundByTwo_95 : decode cX9_foundByTwo 95 = .ok (.iload 11, 2) := by decide +kernel
theorem dX9_foundByTwo_97 : decode cX9_foundByTwo 97 = .ok (.ifCond .eq 13, 3) := by decide +kernel
theorem dX9_foundByTwo_100 : decode cX9_foundByTwo 100 = .ok (.iload 4, 2) := by decide +kernel
theorem dX9_foundByTwo_102 : decode cX9_foundByTwo 102 = .ok (.iload 10, 2) := by decide +kernel
theorem dX9_foundByTwo_104 : decode cX9_foundByTwo 104 = .ok (.invokestatic 125, 3) := by decide +kernel
theorem dX9_foundByTwo_107 : decode cX9_foundByTwo 107 = .ok (.goto 5, 3) := by decide +kernel
theorem dX9_foundByTwo_110 : decode cX9_foundByTwo 110 = .ok (.iload 4, 2) := by decide +kernel
theorem dX9_foundByTwo_112 : decode cX9_foundByTwo 112 = .ok (.istore 4, 2) := by decide +kernel
theorem dX9_foundByTwo_114 : decode cX9_foundByTwo 114 = .ok (.ldc2_w 198, 3) := by decide +kernel
theorem dX9_foundByTwo_117 : decode cX9_foundByTwo 117 = .ok (.lload 5, 2) := by decide +kernel
theorem dX9_foundByTwo_119 : decode cX9_foundByTwo 119 = .ok (.lmul, 1) := by decide +kernel
theorem dX9_foundByTwo_120 : decode cX9_foundByTwo 120 = .ok (.ldc2_w 128, 3) := by decide +kernel
theorem dX9_foundByTwo_123 : decode cX9_foundByTwo 123 = .ok (.aload_n 0, 1) := by decide +kernel
theorem dX9_foundByTwo_124 : decode cX9_foundByTwo 124 = .ok (.iconst 1, 1) := by decide +kernel
theorem dX9_foundByTwo_125 : decode cX9_foundByTwo 125 = .ok (.iload 9, 2) := by decide +kernel
theorem dX9_foundByTwo_127 : decode cX9_foundByTwo 127 = .ok (.iconst 3, 1) := by decide +kernel
theorem dX9_foundByTwo_128 : decode cX9_foundByTwo 128 = .ok (.if_icmp .ne 8, 3) := by decide +kernel
theorem dX9_foundByTwo_131 : decode cX9_foundByTwo 131 = .ok (.bipush 10, 2) := by decide +kernel
theorem dX9_foundByTwo_133 : decode cX9_foundByTwo 133 = .ok (.goto 4, 3) := by decide +kernel
theorem dX9_foundByTwo_136 : decode cX9_foundByTwo 136 = .ok (.iload_n 3, 1) := by decide +kernel
theorem dX9_foundByTwo_137 : decode cX9_foundByTwo 137 = .ok (.iload 11, 2) := by decide +kernel
theorem dX9_foundByTwo_139 : decode cX9_foundByTwo 139 = .ok (.ifCond .eq 8, 3) := by decide +kernel
theorem dX9_foundByTwo_142 : decode cX9_foundByTwo 142 = .ok (.iload 4, 2) := by decide +kernel
theorem dX9_foundByTwo_144 : decode cX9_foundByTwo 144 = .ok (.goto 5, 3) := by decide +kernel
theorem dX9_foundByTwo_147 : decode cX9_foundByTwo 147 = .ok (.bipush (-9), 2) := by decide +kernel
theorem dX9_foundByTwo_149 : decode cX9_foundByTwo 149 = .ok (.invokevirtual 200, 3) := by decide +kernel
theorem dX9_foundByTwo_152 : decode cX9_foundByTwo 152 = .ok (.lmul, 1) := by decide +kernel
theorem dX9_foundByTwo_153 : decode cX9_foundByTwo 153 = .ok (.ladd, 1) := by decide +kernel
theorem dX9_foundByTwo_154 : decode cX9_foundByTwo 154 = .ok (.lstore 5, 2) := by decide +kernel
theorem dX9_foundByTwo_156 : decode cX9_foundByTwo 156 = .ok (.aload_n 0, 1) := by decide +kernel
theorem dX9_foundByTwo_157 : decode cX9_foundByTwo 157 = .ok (.iconst 1, 1) := by decide +kernel
theorem dX9_foundByTwo_158 : decode cX9_foundByTwo 158 = .ok (.aload_n 0, 1) := by decide +kernel
theorem dX9_foundByTwo_159 : decode cX9_foundByTwo 159 = .ok (.getfield 23, 3) := by decide +kernel
theorem dX9_foundByTwo_162 : decode cX9_foundByTwo 162 = .ok (.iconst 1, 1) := by decide +kernel
theorem dX9_foundByTwo_163 : decode cX9_foundByTwo 163 = .ok (.iaload, 1) := by decide +kernel
theorem dX9_foundByTwo_164 : decode cX9_foundByTwo 164 = .ok (.iload 8, 2) := by decide +kernel
theorem dX9_foundByTwo_166 : decode cX9_foundByTwo 166 = .ok (.iadd, 1) := by decide +kernel
theorem dX9_foundByTwo_167 : decode cX9_foundByTwo 167 = .ok (.invokevirtual 139, 3) := by decide +kernel
theorem dX9_foundByTwo_170 : decode cX9_foundByTwo 170 = .ok (.iinc 8 1, 3) := by decide +kernel
theorem dX9_foundByTwo_173 : decode cX9_foundByTwo 173 = .ok (.goto (-145), 3) := by decide +kernel
theorem dX9_foundByTwo_176 : decode cX9_foundByTwo 176 = .ok (.lload 5, 2) := by decide +kernel
theorem dX9_foundByTwo_178 : decode cX9_foundByTwo 178 = .ok (.lreturn, 1) := by decide +kernel
set_option maxRecDepth 20000 in
theorem ggX9_withSecond_X9_in : GoodIn wsX9_withSecond wsX9_in := goodIn_r _ [8] (by decide +kernel) (by decide +kernel)
set_option maxRecDepth 20000 in
theorem gX9_withSecond_X9_in : GoodIn wsX9_withSecond (va_wsS RX9 54 yX9_in wsX9_in) := goodIn_app (goodIn_of _ (by decide +kernel)) ggX9_withSecond_X9_in
set_option maxRecDepth 20000 in
theorem ggX9_withSecond_X9_canLook : GoodIn wsX9_withSecond wsX9_canLook := goodIn_r _ [12, 13, 14, 15, 16, 17, 7, 18, 19, 62, 63, 64, 65, 66, 67, 68, 69, 70, 71, 72, 73, 74, 75, 76, 77, 78, 79, 80, 81, 82, 83, 84, 85, 86, 87, 88, 89, 90] (by decide +kernel) (by decide +kernel)
set_option maxRecDepth 20000 in
theorem gX9_withSecond_X9_canLook : GoodIn wsX9_withSecond (wsV RX9 176 RX9 yX9_canLook wsX9_canLook) := goodIn_app (goodIn_of _ (by decide +kernel)) ggX9_withSecond_X9_canLook
set_option maxRecDepth 20000 in
theorem ggX9_withSecond_X9_foundByTwo : GoodIn wsX9_withSecond wsX9_foundByTwo := goodIn_r _ [23, 13, 24, 25, 26, 27, 28, 29, 30, 7, 31, 19, 32, 33, 34, 35, 36, 37, 38, 39, 40, 41, 42, 43, 44, 45, 46, 47, 48, 49, 50, 51, 14, 62, 63, 64, 65, 66, 67, 68, 69, 70, 71, 72, 73, 74, 75, 76, 77, 78, 79, 80, 81, 82, 83, 84, 85, 86, 87, 88, 89, 90] (by decide +kernel) (by decide +kernel)
set_option maxRecDepth 20000 in
theorem gX9_withSecond_X9_foundByTwo : GoodIn wsX9_withSecond (wsV RX9 204 RX9 yX9_foundByTwo wsX9_foundByTwo) := goodIn_app (goodIn_of _ (by decide +kernel)) ggX9_withSecond_X9_foundByTwo
set_option maxRecDepth 20000 in
theorem ggX9_withSecond_X9_allTimes : GoodIn wsX9_withSecond wsX9_allTimes := goodIn_r _ [55, 15, 16, 17, 7, 18, 19, 62, 63, 64, 65, 66, 67, 68, 69, 70, 71, 72, 73, 74, 75, 76, 77, 78, 79, 80, 81, 82, 83, 84, 85, 86, 87, 88, 89, 90] (by decide +kernel) (by decide +kernel)
set_option maxRecDepth 20000 in
theorem gX9_withSecond_X9_allTimes : GoodIn wsX9_withSecond (wsV RX9 183 RX9 yX9_allTimes wsX9_allTimes) := goodIn_app (goodIn_of _ (by decide +kernel)) ggX9_withSecond_X9_allTimes
set_option maxRecDepth 20000 in
theorem ggX9_withSecond_X9_part : GoodIn wsX9_withSecond wsX9_part := goodIn_r _ [58, 59, 60, 7, 61] (by decide +kernel) (by decide +kernel)
set_option maxRecDepth 20000 in
theorem gX9_withSecond_X9_part : GoodIn wsX9_withSecond (va_wsS RX9 186 yX9_part wsX9_part) := goodIn_app (goodIn_of _ (by decide +kernel)) ggX9_withSecond_X9_part
theorem dX9_withSecond_0 : decode cX9_withSecond 0 = .ok (.iload_n 1, 1) := by decide +kernel
theorem dX9_withSecond_1 : decode cX9_withSecond 1 = .ok (.i2l, 1) := by decide +kernel
theorem dX9_withSecond_2 : decode cX9_withSecond 2 = .ok (.lconst 1, 1) := by decide +kernel
theorem dX9_withSecond_3 : decode cX9_withSecond 3 = .ok (.ldc2_w 130, 3) := by decide +kernel
theorem dX9_withSecond_6 : decode cX9_withSecond 6 = .ok (.invokestatic 54, 3) := by decide +kernel
theorem dX9_withSecond_9 : decode cX9_withSecond 9 = .ok (.ifCond .ne 7, 3) := by decide +kernel
theorem dX9_withSecond_12 : decode cX9_withSecond 12 = .ok (.ldc2_w 149, 3) := by decide +kernel
theorem dX9_withSecond_15 : decode cX9_withSecond 15 = .ok (.lreturn, 1) := by decide +kernel
theorem dX9_withSecond_16 : decode cX9_withSecond 16 = .ok (.aload_n 0, 1) := by decide +kernel
theorem dX9_withSecond_17 : decode cX9_withSecond 17 = .ok (.getfield 112, 3) := by decide +kernel
theorem dX9_withSecond_20 : decode cX9_withSecond 20 = .ok (.ifCond .eq 11, 3) := by decide +kernel
theorem dX9_withSecond_23 : decode cX9_withSecond 23 = .ok (.aload_n 0, 1) := by decide +kernel
theorem dX9_withSecond_24 : decode cX9_withSecond 24 = .ok (.iload_n 1, 1) := by decide +kernel
theorem dX9_withSecond_25 : decode cX9_withSecond 25 = .ok (.invokevirtual 176, 3) := by decide +kernel
theorem dX9_withSecond_28 : decode cX9_withSecond 28 = .ok (.ifCond .ne 7, 3) := by decide +kernel
theorem dX9_withSecond_31 : decode cX9_withSecond 31 = .ok (.ldc2_w 155, 3) := by decide +kernel
theorem dX9_withSecond_34 : decode cX9_withSecond 34 = .ok (.lreturn, 1) := by decide +kernel
theorem dX9_withSecond_35 : decode cX9_withSecond 35 = .ok (.lconst 0, 1) := by decide +kernel
theorem dX9_withSecond_36 : decode cX9_withSecond 36 = .ok (.lstore_n 3, 1) := by decide +kernel
theorem dX9_withSecond_37 : decode cX9_withSecond 37 = .ok (.iconst 0, 1) := by decide +kernel
theorem dX9_withSecond_38 : decode cX9_withSecond 38 = .ok (.istore 5, 2) := by decide +kernel
theorem dX9_withSecond_40 : decode cX9_withSecond 40 = .ok (.iload 5, 2) := by decide +kernel
theorem dX9_withSecond_42 : decode cX9_withSecond 42 = .ok (.iload_n 1, 1) := by decide +kernel
theorem dX9_withSecond_43 : decode cX9_withSecond 43 = .ok (.iconst 1, 1) := by decide +kernel
theorem dX9_withSecond_44 : decode cX9_withSecond 44 = .ok (.if_icmp .ne 8, 3) := by decide +kernel
theorem dX9_withSecond_47 : decode cX9_withSecond 47 = .ok (.bipush 12, 2) := by decide +kernel
theorem dX9_withSecond_49 : decode cX9_withSecond 49 = .ok (.goto 6, 3) := by decide +kernel
theorem dX9_withSecond_52 : decode cX9_withSecond 52 = .ok (.sipush 144, 3) := by decide +kernel
theorem dX9_withSecond_55 : decode cX9_withSecond 55 = .ok (.if_icmp .ge 32, 3) := by decide +kernel
theorem dX9_withSecond_58 : decode cX9_withSecond 58 = .ok (.aload_n 0, 1) := by decide +kernel
theorem dX9_withSecond_59 : decode cX9_withSecond 59 = .ok (.iload_n 1, 1) := by decide +kernel
theorem dX9_withSecond_60 : decode cX9_withSecond 60 = .ok (.iload 5, 2) := by decide +kernel
theorem dX9_withSecond_62 : decode cX9_withSecond 62 = .ok (.invokevirtual 204, 3) := by decide +kernel
theorem dX9_withSecond_65 : decode cX9_withSecond 65 = .ok (.lstore 6, 2) := by decide +kernel
theorem dX9_withSecond_67 : decode cX9_withSecond 67 = .ok (.lload 6, 2) := by decide +kernel
theorem dX9_withSecond_69 : decode cX9_withSecond 69 = .ok (.lload_n 3, 1) := by decide +kernel
theorem dX9_withSecond_70 : decode cX9_withSecond 70 = .ok (.lcmp, 1) := by decide +kernel
theorem dX9_withSecond_71 : decode cX9_withSecond 71 = .ok (.ifCond .le 8, 3) := by decide +kernel
theorem dX9_withSecond_74 : decode cX9_withSecond 74 = .ok (.lload 6, 2) := by decide +kernel
theorem dX9_withSecond_76 : decode cX9_withSecond 76 = .ok (.goto 4, 3) := by decide +kernel
theorem dX9_withSecond_79 : decode cX9_withSecond 79 = .ok (.lload_n 3, 1) := by decide +kernel
theorem dX9_withSecond_80 : decode cX9_withSecond 80 = .ok (.lstore_n 3, 1) := by decide +kernel
theorem dX9_withSecond_81 : decode cX9_withSecond 81 = .ok (.iinc 5 1, 3) := by decide +kernel
theorem dX9_withSecond_84 : decode cX9_withSecond 84 = .ok (.goto (-44), 3) := by decide +kernel
theorem dX9_withSecond_87 : decode cX9_withSecond 87 = .ok (.lload_n 3, 1) := by decide +kernel
theorem dX9_withSecond_88 : decode cX9_withSecond 88 = .ok (.aload_n 0, 1) := by decide +kernel
theorem dX9_withSecond_89 : decode cX9_withSecond 89 = .ok (.iload_n 1, 1) := by decide +kernel
theorem dX9_withSecond_90 : decode cX9_withSecond 90 = .ok (.sipush 1000, 3) := by decide +kernel
theorem dX9_withSecond_93 : decode cX9_withSecond 93 = .ok (.invokevirtual 183, 3) := by decide +kernel
theorem dX9_withSecond_96 : decode cX9_withSecond 96 = .ok (.iload_n 2, 1) := by decide +kernel
theorem dX9_withSecond_97 : decode cX9_withSecond 97 = .ok (.invokestatic 186, 3) := by decide +kernel
theorem dX9_withSecond_100 : decode cX9_withSecond 100 = .ok (.lreturn, 1) := by decide +kernel
theorem dX9_lanes_0 : decode cX9_lanes 0 = .ok (.bipush (-9), 2) := by decide +kernel
theorem dX9_lanes_2 : decode cX9_lanes 2 = .ok (.istore_n 1, 1) := by decide +kernel
theorem dX9_lanes_3 : decode cX9_lanes 3 = .ok (.bipush (-9), 2) := by decide +kernel
theorem dX9_lanes_5 : decode cX9_lanes 5 = .ok (.istore_n 2, 1) := by decide +kernel
theorem dX9_lanes_6 : decode cX9_lanes 6 = .ok (.iconst 0, 1) := by decide +kernel
theorem dX9_lanes_7 : decode cX9_lanes 7 = .ok (.istore_n 3, 1) := by decide +kernel
theorem dX9_lanes_8 : decode cX9_lanes 8 = .ok (.iload_n 3, 1) := by decide +kernel
theorem dX9_lanes_9 : decode cX9_lanes 9 = .ok (.bipush 10, 2) := by decide +kernel
theorem dX9_lanes_11 : decode cX9_lanes 11 = .ok (.if_icmp .ge 49, 3) := by decide +kernel
theorem dX9_lanes_14 : decode cX9_lanes 14 = .ok (.aload_n 0, 1) := by decide +kernel
theorem dX9_lanes_15 : decode cX9_lanes 15 = .ok (.getfield 19, 3) := by decide +kernel
theorem dX9_lanes_18 : decode cX9_lanes 18 = .ok (.iload_n 3, 1) := by decide +kernel
theorem dX9_lanes_19 : decode cX9_lanes 19 = .ok (.laload, 1) := by decide +kernel
theorem dX9_lanes_20 : decode cX9_lanes 20 = .ok (.lconst 0, 1) := by decide +kernel
theorem dX9_lanes_21 : decode cX9_lanes 21 = .ok (.lcmp, 1) := by decide +kernel
theorem dX9_lanes_22 : decode cX9_lanes 22 = .ok (.ifCond .le 13, 3) := by decide +kernel
theorem dX9_lanes_25 : decode cX9_lanes 25 = .ok (.iload_n 1, 1) := by decide +kernel
theorem dX9_lanes_26 : decode cX9_lanes 26 = .ok (.bipush (-9), 2) := by decide +kernel
theorem dX9_lanes_28 : decode cX9_lanes 28 = .ok (.if_icmp .ne 7, 3) := by decide +kernel
theorem dX9_lanes_31 : decode cX9_lanes 31 = .ok (.iload_n 3, 1) := by decide +kernel
theorem dX9_lanes_32 : decode cX9_lanes 32 = .ok (.goto 4, 3) := by decide +kernel
theorem dX9_lanes_35 : decode cX9_lanes 35 = .ok (.iload_n 1, 1) := by decide +kernel
theorem dX9_lanes_36 : decode cX9_lanes 36 = .ok (.istore_n 1, 1) := by decide +kernel
theorem dX9_lanes_37 : decode cX9_lanes 37 = .ok (.aload_n 0, 1) := by decide +kernel
theorem dX9_lanes_38 : decode cX9_lanes 38 = .ok (.getfield 19, 3) := by decide +kernel
theorem dX9_lanes_41 : decode cX9_lanes 41 = .ok (.iload_n 3, 1) := by decide +kernel
theorem dX9_lanes_42 : decode cX9_lanes 42 = .ok (.laload, 1) := by decide +kernel
theorem dX9_lanes_43 : decode cX9_lanes 43 = .ok (.lconst 0, 1) := by decide +kernel
theorem dX9_lanes_44 : decode cX9_lanes 44 = .ok (.lcmp, 1) := by decide +kernel
theorem dX9_lanes_45 : decode cX9_lanes 45 = .ok (.ifCond .le 7, 3) := by decide +kernel
theorem dX9_lanes_48 : decode cX9_lanes 48 = .ok (.iload_n 3, 1) := by decide +kernel
theorem dX9_lanes_49 : decode cX9_lanes 49 = .ok (.goto 4, 3) := by decide +kernel
theorem dX9_lanes_52 : decode cX9_lanes 52 = .ok (.iload_n 2, 1) := by decide +kernel
theorem dX9_lanes_53 : decode cX9_lanes 53 = .ok (.istore_n 2, 1) := by decide +kernel
theorem dX9_lanes_54 : decode cX9_lanes 54 = .ok (.iinc 3 1, 3) := by decide +kernel
theorem dX9_lanes_57 : decode cX9_lanes 57 = .ok (.goto (-49), 3) := by decide +kernel
theorem dX9_lanes_60 : decode cX9_lanes 60 = .ok (.iload_n 1, 1) := by decide +kernel
theorem dX9_lanes_61 : decode cX9_lanes 61 = .ok (.bipush (-9), 2) := by decide +kernel
theorem dX9_lanes_63 : decode cX9_lanes 63 = .ok (.if_icmp .ne 5, 3) := by decide +kernel
theorem dX9_lanes_66 : decode cX9_lanes 66 = .ok (.iconst 0, 1) := by decide +kernel
theorem dX9_lanes_67 : decode cX9_lanes 67 = .ok (.ireturn, 1) := by decide +kernel
theorem dX9_lanes_68 : decode cX9_lanes 68 = .ok (.aload_n 0, 1) := by decide +kernel
theorem dX9_lanes_69 : decode cX9_lanes 69 = .ok (.getfield 23, 3) := by decide +kernel
theorem dX9_lanes_72 : decode cX9_lanes 72 = .ok (.iconst 0, 1) := by decide +kernel
theorem dX9_lanes_73 : decode cX9_lanes 73 = .ok (.iaload, 1) := by decide +kernel
theorem dX9_lanes_74 : decode cX9_lanes 74 = .ok (.iload_n 1, 1) := by decide +kernel
theorem dX9_lanes_75 : decode cX9_lanes 75 = .ok (.if_icmp .le 14, 3) := by decide +kernel
theorem dX9_lanes_78 : decode cX9_lanes 78 = .ok (.aload_n 0, 1) := by decide +kernel
theorem dX9_lanes_79 : decode cX9_lanes 79 = .ok (.getfield 23, 3) := by decide +kernel
theorem dX9_lanes_82 : decode cX9_lanes 82 = .ok (.iconst 0, 1) := by decide +kernel
theorem dX9_lanes_83 : decode cX9_lanes 83 = .ok (.iaload, 1) := by decide +kernel
theorem dX9_lanes_84 : decode cX9_lanes 84 = .ok (.iload_n 1, 1) := by decide +kernel
theorem dX9_lanes_85 : decode cX9_lanes 85 = .ok (.isub, 1) := by decide +kernel
theorem dX9_lanes_86 : decode cX9_lanes 86 = .ok (.goto 4, 3) := by decide +kernel
theorem dX9_lanes_89 : decode cX9_lanes 89 = .ok (.iconst 0, 1) := by decide +kernel
theorem dX9_lanes_90 : decode cX9_lanes 90 = .ok (.istore_n 3, 1) := by decide +kernel
theorem dX9_lanes_91 : decode cX9_lanes 91 = .ok (.aload_n 0, 1) := by decide +kernel
theorem dX9_lanes_92 : decode cX9_lanes 92 = .ok (.getfield 23, 3) := by decide +kernel
theorem dX9_lanes_95 : decode cX9_lanes 95 = .ok (.iconst 0, 1) := by decide +kernel
theorem dX9_lanes_96 : decode cX9_lanes 96 = .ok (.iaload, 1) := by decide +kernel
theorem dX9_lanes_97 : decode cX9_lanes 97 = .ok (.iload_n 2, 1) := by decide +kernel
theorem dX9_lanes_98 : decode cX9_lanes 98 = .ok (.if_icmp .ge 14, 3) := by decide +kernel
theorem dX9_lanes_101 : decode cX9_lanes 101 = .ok (.iload_n 2, 1) := by decide +kernel
theorem dX9_lanes_102 : decode cX9_lanes 102 = .ok (.aload_n 0, 1) := by decide +kernel
theorem dX9_lanes_103 : decode cX9_lanes 103 = .ok (.getfield 23, 3) := by decide +kernel
theorem dX9_lanes_106 : decode cX9_lanes 106 = .ok (.iconst 0, 1) := by decide +kernel
theorem dX9_lanes_107 : decode cX9_lanes 107 = .ok (.iaload, 1) := by decide +kernel
theorem dX9_lanes_108 : decode cX9_lanes 108 = .ok (.isub, 1) := by decide +kernel
theorem dX9_lanes_109 : decode cX9_lanes 109 = .ok (.goto 4, 3) := by decide +kernel
theorem dX9_lanes_112 : decode cX9_lanes 112 = .ok (.iconst 0, 1) := by decide +kernel
theorem dX9_lanes_113 : decode cX9_lanes 113 = .ok (.istore 4, 2) := by decide +kernel
theorem dX9_lanes_115 : decode cX9_lanes 115 = .ok (.iload_n 3, 1) := by decide +kernel
theorem dX9_lanes_116 : decode cX9_lanes 116 = .ok (.iload 4, 2) := by decide +kernel
theorem dX9_lanes_118 : decode cX9_lanes 118 = .ok (.if_icmp .ge 7, 3) := by decide +kernel
theorem dX9_lanes_121 : decode cX9_lanes 121 = .ok (.iload_n 3, 1) := by decide +kernel
theorem dX9_lanes_122 : decode cX9_lanes 122 = .ok (.goto 5, 3) := by decide +kernel
theorem dX9_lanes_125 : decode cX9_lanes 125 = .ok (.iload 4, 2) := by decide +kernel
theorem dX9_lanes_127 : decode cX9_lanes 127 = .ok (.istore 5, 2) := by decide +kernel
theorem dX9_lanes_129 : decode cX9_lanes 129 = .ok (.aload_n 0, 1) := by decide +kernel
theorem dX9_lanes_130 : decode cX9_lanes 130 = .ok (.getfield 23, 3) := by decide +kernel
theorem dX9_lanes_133 : decode cX9_lanes 133 = .ok (.iconst 0, 1) := by decide +kernel
theorem dX9_lanes_134 : decode cX9_lanes 134 = .ok (.iaload, 1) := by decide +kernel
theorem dX9_lanes_135 : decode cX9_lanes 135 = .ok (.iload_n 1, 1) := by decide +kernel
theorem dX9_lanes_136 : decode cX9_lanes 136 = .ok (.if_icmp .ge 14, 3) := by decide +kernel
theorem dX9_lanes_139 : decode cX9_lanes 139 = .ok (.iload_n 2, 1) := by decide +kernel
theorem dX9_lanes_140 : decode cX9_lanes 140 = .ok (.aload_n 0, 1) := by decide +kernel
theorem dX9_lanes_141 : decode cX9_lanes 141 = .ok (.getfield 23, 3) := by decide +kernel
theorem dX9_lanes_144 : decode cX9_lanes 144 = .ok (.iconst 0, 1) := by decide +kernel
theorem dX9_lanes_145 : decode cX9_lanes 145 = .ok (.iaload, 1) := by decide +kernel
theorem dX9_lanes_146 : decode cX9_lanes 146 = .ok (.isub, 1) := by decide +kernel
theorem dX9_lanes_147 : decode cX9_lanes 147 = .ok (.goto 31, 3) := by decide +kernel
theorem dX9_lanes_150 : decode cX9_lanes 150 = .ok (.aload_n 0, 1) := by decide +kernel
theorem dX9_lanes_151 : decode cX9_lanes 151 = .ok (.getfield 23, 3) := by decide +kernel
theorem dX9_lanes_154 : decode cX9_lanes 154 = .ok (.iconst 0, 1) := by decide +kernel
theorem dX9_lanes_155 : decode cX9_lanes 155 = .ok (.iaload, 1) := by decide +kernel
theorem dX9_lanes_156 : decode cX9_lanes 156 = .ok (.iload_n 2, 1) := by decide +kernel
theorem dX9_lanes_157 : decode cX9_lanes 157 = .ok (.if_icmp .le 14, 3) := by decide +kernel
theorem dX9_lanes_160 : decode cX9_lanes 160 = .ok (.aload_n 0, 1) := by decide +kernel
theorem dX9_lanes_161 : decode cX9_lanes 161 = .ok (.getfield 23, 3) := by decide +kernel
theorem dX9_lanes_164 : decode cX9_lanes 164 = .ok (.iconst 0, 1) := by decide +kernel
theorem dX9_lanes_165 : decode cX9_lanes 165 = .ok (.iaload, 1) := by decide +kernel
theorem dX9_lanes_166 : decode cX9_lanes 166 = .ok (.iload_n 1, 1) := by decide +kernel
theorem dX9_lanes_167 : decode cX9_lanes 167 = .ok (.isub, 1) := by decide +kernel
theorem dX9_lanes_168 : decode cX9_lanes 168 = .ok (.goto 10, 3) := by decide +kernel
theorem dX9_lanes_171 : decode cX9_lanes 171 = .ok (.iload_n 3, 1) := by decide +kernel
theorem dX9_lanes_172 : decode cX9_lanes 172 = .ok (.iload 4, 2) := by decide +kernel
theorem dX9_lanes_174 : decode cX9_lanes 174 = .ok (.iadd, 1) := by decide +kernel
theorem dX9_lanes_175 : decode cX9_lanes 175 = .ok (.iload 5, 2) := by decide +kernel
theorem dX9_lanes_177 : decode cX9_lanes 177 = .ok (.iadd, 1) := by decide +kernel
theorem dX9_lanes_178 : decode cX9_lanes 178 = .ok (.ireturn, 1) := by decide +kernel
set_option maxRecDepth 20000 in
theorem ggX9_judge_X9_in : GoodIn wsX9_judge wsX9_in := goodIn_r _ [8] (by decide +kernel) (by decide +kernel)
set_option maxRecDepth 20000 in
theorem gX9_judge_X9_in : GoodIn wsX9_judge (va_wsS RX9 54 yX9_in wsX9_in) := goodIn_app (goodIn_of _ (by decide +kernel)) ggX9_judge_X9_in
set_option maxRecDepth 20000 in
theorem ggX9_judge_X9_tenTo : GoodIn wsX9_judge wsX9_tenTo := goodIn_r _ [11] (by decide +kernel) (by decide +kernel)
set_option maxRecDepth 20000 in
theorem gX9_judge_X9_tenTo : GoodIn wsX9_judge (va_wsS RX9 163 yX9_tenTo wsX9_tenTo) := goodIn_app (goodIn_of _ (by decide +kernel)) ggX9_judge_X9_tenTo
set_option maxRecDepth 20000 in
theorem ggX9_judge_X9_lay : GoodIn wsX9_judge wsX9_lay := goodIn_r _ [15, 4, 33, 34, 35, 36, 37, 38, 39, 40, 41, 42, 43, 44, 45, 46, 47, 48, 49, 50, 51, 52, 53, 54, 55, 56, 57, 58, 59, 60, 61] (by decide +kernel) (by decide +kernel)
set_option maxRecDepth 20000 in
theorem gX9_judge_X9_lay : GoodIn wsX9_judge (wsV RX9 167 RX9 yX9_lay wsX9_lay) := goodIn_app (goodIn_of _ (by decide +kernel)) ggX9_judge_X9_lay
set_option maxRecDepth 20000 in
theorem ggX9_judge_X9_to : GoodIn wsX9_judge wsX9_to := goodIn_r _ [18] (by decide +kernel) (by decide +kernel)
set_option maxRecDepth 20000 in
theorem gX9_judge_X9_to : GoodIn wsX9_judge (va_wsS RX9 125 yX9_to wsX9_to) := goodIn_app (goodIn_of _ (by decide +kernel)) ggX9_judge_X9_to
set_option maxRecDepth 20000 in
theorem ggX9_judge_X9_lookAt : GoodIn wsX9_judge wsX9_lookAt := goodIn_r _ [22, 23, 24, 4, 33, 34, 35, 36, 37, 38, 39, 40, 41, 42, 43, 44, 45, 46, 47, 48, 49, 50, 51, 52, 53, 54, 55, 56, 57, 58, 59, 60, 61] (by decide +kernel) (by decide +kernel)
set_option maxRecDepth 20000 in
theorem gX9_judge_X9_lookAt : GoodIn wsX9_judge (wsV RX9 135 RX9 yX9_lookAt wsX9_lookAt) := goodIn_app (goodIn_of _ (by decide +kernel)) ggX9_judge_X9_lookAt
set_option maxRecDepth 20000 in
theorem ggX9_judge_X9_drift : GoodIn wsX9_judge wsX9_drift := goodIn_r _ [28, 29, 4, 30, 31, 3, 32, 16, 17, 7, 18, 33, 34, 35, 36, 37, 38, 39, 40, 41, 42, 43, 44, 45, 46, 47, 48, 49, 50, 51, 52, 53, 54, 55, 56, 57, 58, 59, 60, 61] (by decide +kernel) (by decide +kernel)
set_option maxRecDepth 20000 in
theorem gX9_judge_X9_drift : GoodIn wsX9_judge (wsV RX9 139 RX9 yX9_drift wsX9_drift) := goodIn_app (goodIn_of _ (by decide +kernel)) ggX9_judge_X9_drift
theorem dX9_judge_0 : decode cX9_judge 0 = .ok (.iload_n 1, 1) := by decide +kernel
theorem dX9_judge_1 : decode cX9_judge 1 = .ok (.i2l, 1) := by decide +kernel
theorem dX9_judge_2 : decode cX9_judge 2 = .ok (.lconst 1, 1) := by decide +kernel
theorem dX9_judge_3 : decode cX9_judge 3 = .ok (.ldc2_w 207, 3) := by decide +kernel
theorem dX9_judge_6 : decode cX9_judge 6 = .ok (.invokestatic 54, 3) := by decide +kernel
theorem dX9_judge_9 : decode cX9_judge 9 = .ok (.ifCond .eq 19, 3) := by decide +kernel
theorem dX9_judge_12 : decode cX9_judge 12 = .ok (.iload_n 2, 1) := by decide +kernel
theorem dX9_judge_13 : decode cX9_judge 13 = .ok (.i2l, 1) := by decide +kernel
theorem dX9_judge_14 : decode cX9_judge 14 = .ok (.lconst 0, 1) := by decide +kernel
theorem dX9_judge_15 : decode cX9_judge 15 = .ok (.iload_n 1, 1) := by decide +kernel
theorem dX9_judge_16 : decode cX9_judge 16 = .ok (.invokestatic 163, 3) := by decide +kernel
theorem dX9_judge_19 : decode cX9_judge 19 = .ok (.iconst 1, 1) := by decide +kernel
theorem dX9_judge_20 : decode cX9_judge 20 = .ok (.isub, 1) := by decide +kernel
theorem dX9_judge_21 : decode cX9_judge 21 = .ok (.i2l, 1) := by decide +kernel
theorem dX9_judge_22 : decode cX9_judge 22 = .ok (.invokestatic 54, 3) := by decide +kernel
theorem dX9_judge_25 : decode cX9_judge 25 = .ok (.ifCond .ne 6, 3) := by decide +kernel
theorem dX9_judge_28 : decode cX9_judge 28 = .ok (.bipush (-2), 2) := by decide +kernel
theorem dX9_judge_30 : decode cX9_judge 30 = .ok (.ireturn, 1) := by decide +kernel
theorem dX9_judge_31 : decode cX9_judge 31 = .ok (.aload_n 0, 1) := by decide +kernel
theorem dX9_judge_32 : decode cX9_judge 32 = .ok (.iconst 0, 1) := by decide +kernel
theorem dX9_judge_33 : decode cX9_judge 33 = .ok (.iconst 1, 1) := by decide +kernel
theorem dX9_judge_34 : decode cX9_judge 34 = .ok (.invokevirtual 167, 3) := by decide +kernel
theorem dX9_judge_37 : decode cX9_judge 37 = .ok (.aload_n 0, 1) := by decide +kernel
theorem dX9_judge_38 : decode cX9_judge 38 = .ok (.getfield 23, 3) := by decide +kernel
theorem dX9_judge_41 : decode cX9_judge 41 = .ok (.iconst 0, 1) := by decide +kernel
theorem dX9_judge_42 : decode cX9_judge 42 = .ok (.iaload, 1) := by decide +kernel
theorem dX9_judge_43 : decode cX9_judge 43 = .ok (.istore_n 3, 1) := by decide +kernel
theorem dX9_judge_44 : decode cX9_judge 44 = .ok (.iconst 0, 1) := by decide +kernel
theorem dX9_judge_45 : decode cX9_judge 45 = .ok (.istore 4, 2) := by decide +kernel
theorem dX9_judge_47 : decode cX9_judge 47 = .ok (.iload 4, 2) := by decide +kernel
theorem dX9_judge_49 : decode cX9_judge 49 = .ok (.iload_n 1, 1) := by decide +kernel
theorem dX9_judge_50 : decode cX9_judge 50 = .ok (.if_icmp .ge 121, 3) := by decide +kernel
theorem dX9_judge_53 : decode cX9_judge 53 = .ok (.iload_n 2, 1) := by decide +kernel
theorem dX9_judge_54 : decode cX9_judge 54 = .ok (.iload_n 1, 1) := by decide +kernel
theorem dX9_judge_55 : decode cX9_judge 55 = .ok (.iconst 1, 1) := by decide +kernel
theorem dX9_judge_56 : decode cX9_judge 56 = .ok (.isub, 1) := by decide +kernel
theorem dX9_judge_57 : decode cX9_judge 57 = .ok (.iload 4, 2) := by decide +kernel
theorem dX9_judge_59 : decode cX9_judge 59 = .ok (.isub, 1) := by decide +kernel
theorem dX9_judge_60 : decode cX9_judge 60 = .ok (.invokestatic 163, 3) := by decide +kernel
theorem dX9_judge_63 : decode cX9_judge 63 = .ok (.idiv, 1) := by decide +kernel
theorem dX9_judge_64 : decode cX9_judge 64 = .ok (.bipush 10, 2) := by decide +kernel
theorem dX9_judge_66 : decode cX9_judge 66 = .ok (.irem, 1) := by decide +kernel
theorem dX9_judge_67 : decode cX9_judge 67 = .ok (.istore 5, 2) := by decide +kernel
theorem dX9_judge_69 : decode cX9_judge 69 = .ok (.iload 5, 2) := by decide +kernel
theorem dX9_judge_71 : decode cX9_judge 71 = .ok (.iconst 3, 1) := by decide +kernel
theorem dX9_judge_72 : decode cX9_judge 72 = .ok (.if_icmp .gt 19, 3) := by decide +kernel
theorem dX9_judge_75 : decode cX9_judge 75 = .ok (.aload_n 0, 1) := by decide +kernel
theorem dX9_judge_76 : decode cX9_judge 76 = .ok (.getfield 23, 3) := by decide +kernel
theorem dX9_judge_79 : decode cX9_judge 79 = .ok (.iconst 1, 1) := by decide +kernel
theorem dX9_judge_80 : decode cX9_judge 80 = .ok (.iaload, 1) := by decide +kernel
theorem dX9_judge_81 : decode cX9_judge 81 = .ok (.iload 4, 2) := by decide +kernel
theorem dX9_judge_83 : decode cX9_judge 83 = .ok (.iadd, 1) := by decide +kernel
theorem dX9_judge_84 : decode cX9_judge 84 = .ok (.aload_n 0, 1) := by decide +kernel
theorem dX9_judge_85 : decode cX9_judge 85 = .ok (.getfield 48, 3) := by decide +kernel
theorem dX9_judge_88 : decode cX9_judge 88 = .ok (.if_icmp .lt 6, 3) := by decide +kernel
theorem dX9_judge_91 : decode cX9_judge 91 = .ok (.iload 4, 2) := by decide +kernel
theorem dX9_judge_93 : decode cX9_judge 93 = .ok (.ireturn, 1) := by decide +kernel
theorem dX9_judge_94 : decode cX9_judge 94 = .ok (.iload 5, 2) := by decide +kernel
theorem dX9_judge_96 : decode cX9_judge 96 = .ok (.iconst 3, 1) := by decide +kernel
theorem dX9_judge_97 : decode cX9_judge 97 = .ok (.if_icmp .ne 7, 3) := by decide +kernel
theorem dX9_judge_100 : decode cX9_judge 100 = .ok (.iload_n 3, 1) := by decide +kernel
theorem dX9_judge_101 : decode cX9_judge 101 = .ok (.goto 9, 3) := by decide +kernel
theorem dX9_judge_104 : decode cX9_judge 104 = .ok (.iload_n 3, 1) := by decide +kernel
theorem dX9_judge_105 : decode cX9_judge 105 = .ok (.iload 5, 2) := by decide +kernel
theorem dX9_judge_107 : decode cX9_judge 107 = .ok (.invokestatic 125, 3) := by decide +kernel
theorem dX9_judge_110 : decode cX9_judge 110 = .ok (.istore_n 3, 1) := by decide +kernel
theorem dX9_judge_111 : decode cX9_judge 111 = .ok (.iload 5, 2) := by decide +kernel
theorem dX9_judge_113 : decode cX9_judge 113 = .ok (.iconst 3, 1) := by decide +kernel
theorem dX9_judge_114 : decode cX9_judge 114 = .ok (.if_icmp .ne 8, 3) := by decide +kernel
theorem dX9_judge_117 : decode cX9_judge 117 = .ok (.bipush 10, 2) := by decide +kernel
theorem dX9_judge_119 : decode cX9_judge 119 = .ok (.goto 4, 3) := by decide +kernel
theorem dX9_judge_122 : decode cX9_judge 122 = .ok (.iload_n 3, 1) := by decide +kernel
theorem dX9_judge_123 : decode cX9_judge 123 = .ok (.istore 6, 2) := by decide +kernel
theorem dX9_judge_125 : decode cX9_judge 125 = .ok (.aload_n 0, 1) := by decide +kernel
theorem dX9_judge_126 : decode cX9_judge 126 = .ok (.getfield 19, 3) := by decide +kernel
theorem dX9_judge_129 : decode cX9_judge 129 = .ok (.bipush 11, 2) := by decide +kernel
theorem dX9_judge_131 : decode cX9_judge 131 = .ok (.iload 6, 2) := by decide +kernel
theorem dX9_judge_133 : decode cX9_judge 133 = .ok (.iadd, 1) := by decide +kernel
theorem dX9_judge_134 : decode cX9_judge 134 = .ok (.laload, 1) := by decide +kernel
theorem dX9_judge_135 : decode cX9_judge 135 = .ok (.lconst 0, 1) := by decide +kernel
theorem dX9_judge_136 : decode cX9_judge 136 = .ok (.lcmp, 1) := by decide +kernel
theorem dX9_judge_137 : decode cX9_judge 137 = .ok (.ifCond .ne 6, 3) := by decide +kernel
theorem dX9_judge_140 : decode cX9_judge 140 = .ok (.iload 4, 2) := by decide +kernel
theorem dX9_judge_142 : decode cX9_judge 142 = .ok (.ireturn, 1) := by decide +kernel
theorem dX9_judge_143 : decode cX9_judge 143 = .ok (.aload_n 0, 1) := by decide +kernel
theorem dX9_judge_144 : decode cX9_judge 144 = .ok (.iconst 1, 1) := by decide +kernel
theorem dX9_judge_145 : decode cX9_judge 145 = .ok (.iload 6, 2) := by decide +kernel
theorem dX9_judge_147 : decode cX9_judge 147 = .ok (.invokevirtual 135, 3) := by decide +kernel
theorem dX9_judge_150 : decode cX9_judge 150 = .ok (.pop2, 1) := by decide +kernel
theorem dX9_judge_151 : decode cX9_judge 151 = .ok (.aload_n 0, 1) := by decide +kernel
theorem dX9_judge_152 : decode cX9_judge 152 = .ok (.iconst 1, 1) := by decide +kernel
theorem dX9_judge_153 : decode cX9_judge 153 = .ok (.aload_n 0, 1) := by decide +kernel
theorem dX9_judge_154 : decode cX9_judge 154 = .ok (.getfield 23, 3) := by decide +kernel
theorem dX9_judge_157 : decode cX9_judge 157 = .ok (.iconst 1, 1) := by decide +kernel
theorem dX9_judge_158 : decode cX9_judge 158 = .ok (.iaload, 1) := by decide +kernel
theorem dX9_judge_159 : decode cX9_judge 159 = .ok (.iload 4, 2) := by decide +kernel
theorem dX9_judge_161 : decode cX9_judge 161 = .ok (.iadd, 1) := by decide +kernel
theorem dX9_judge_162 : decode cX9_judge 162 = .ok (.invokevirtual 139, 3) := by decide +kernel
theorem dX9_judge_165 : decode cX9_judge 165 = .ok (.iinc 4 1, 3) := by decide +kernel
theorem dX9_judge_168 : decode cX9_judge 168 = .ok (.goto (-121), 3) := by decide +kernel
theorem dX9_judge_171 : decode cX9_judge 171 = .ok (.bipush (-9), 2) := by decide +kernel
theorem dX9_judge_173 : decode cX9_judge 173 = .ok (.ireturn, 1) := by decide +kernel
theorem dX9_partsIn_0 : decode cX9_partsIn 0 = .ok (.iconst 0, 1) := by decide +kernel
theorem dX9_partsIn_1 : decode cX9_partsIn 1 = .ok (.istore_n 3, 1) := by decide +kernel
theorem dX9_partsIn_2 : decode cX9_partsIn 2 = .ok (.iload_n 1, 1) := by decide +kernel
theorem dX9_partsIn_3 : decode cX9_partsIn 3 = .ok (.istore 4, 2) := by decide +kernel
theorem dX9_partsIn_5 : decode cX9_partsIn 5 = .ok (.iload 4, 2) := by decide +kernel
theorem dX9_partsIn_7 : decode cX9_partsIn 7 = .ok (.iload_n 2, 1) := by decide +kernel
theorem dX9_partsIn_8 : decode cX9_partsIn 8 = .ok (.if_icmp .gt 19, 3) := by decide +kernel
theorem dX9_partsIn_11 : decode cX9_partsIn 11 = .ok (.iload_n 3, 1) := by decide +kernel
theorem dX9_partsIn_12 : decode cX9_partsIn 12 = .ok (.aload_n 0, 1) := by decide +kernel
theorem dX9_partsIn_13 : decode cX9_partsIn 13 = .ok (.getfield 7, 3) := by decide +kernel
theorem dX9_partsIn_16 : decode cX9_partsIn 16 = .ok (.iload 4, 2) := by decide +kernel
theorem dX9_partsIn_18 : decode cX9_partsIn 18 = .ok (.iaload, 1) := by decide +kernel
theorem dX9_partsIn_19 : decode cX9_partsIn 19 = .ok (.iadd, 1) := by decide +kernel
theorem dX9_partsIn_20 : decode cX9_partsIn 20 = .ok (.istore_n 3, 1) := by decide +kernel
theorem dX9_partsIn_21 : decode cX9_partsIn 21 = .ok (.iinc 4 1, 3) := by decide +kernel
theorem dX9_partsIn_24 : decode cX9_partsIn 24 = .ok (.goto (-19), 3) := by decide +kernel
theorem dX9_partsIn_27 : decode cX9_partsIn 27 = .ok (.iload_n 3, 1) := by decide +kernel
theorem dX9_partsIn_28 : decode cX9_partsIn 28 = .ok (.ireturn, 1) := by decide +kernel
set_option maxRecDepth 20000 in
theorem ggX9_said_X9_in : GoodIn wsX9_said wsX9_in := goodIn_r _ [5] (by decide +kernel) (by decide +kernel)
set_option maxRecDepth 20000 in
theorem gX9_said_X9_in : GoodIn wsX9_said (va_wsS RX9 54 yX9_in wsX9_in) := goodIn_app (goodIn_of _ (by decide +kernel)) ggX9_said_X9_in
set_option maxRecDepth 20000 in
theorem ggX9_said_X9_partsIn : GoodIn wsX9_said wsX9_partsIn := goodIn_r _ [9, 10, 11, 12, 13, 14, 15, 16, 17, 18, 19, 20, 21, 22, 23, 24, 25, 26, 27, 28, 29, 30, 31, 32, 33, 34, 35, 36, 37, 38, 39] (by decide +kernel) (by decide +kernel)
set_option maxRecDepth 20000 in
theorem gX9_said_X9_partsIn : GoodIn wsX9_said (wsV RX9 209 RX9 yX9_partsIn wsX9_partsIn) := goodIn_app (goodIn_of _ (by decide +kernel)) ggX9_said_X9_partsIn
theorem dX9_said_0 : decode cX9_said 0 = .ok (.iload_n 1, 1) := by decide +kernel
theorem dX9_said_1 : decode cX9_said 1 = .ok (.i2l, 1) := by decide +kernel
theorem dX9_said_2 : decode cX9_said 2 = .ok (.lconst 0, 1) := by decide +kernel
theorem dX9_said_3 : decode cX9_said 3 = .ok (.lconst 1, 1) := by decide +kernel
theorem dX9_said_4 : decode cX9_said 4 = .ok (.invokestatic 54, 3) := by decide +kernel
theorem dX9_said_7 : decode cX9_said 7 = .ok (.ifCond .ne 6, 3) := by decide +kernel
theorem dX9_said_10 : decode cX9_said 10 = .ok (.bipush (-2), 2) := by decide +kernel
theorem dX9_said_12 : decode cX9_said 12 = .ok (.ireturn, 1) := by decide +kernel
theorem dX9_said_13 : decode cX9_said 13 = .ok (.iload_n 1, 1) := by decide +kernel
theorem dX9_said_14 : decode cX9_said 14 = .ok (.aload_n 0, 1) := by decide +kernel
theorem dX9_said_15 : decode cX9_said 15 = .ok (.getfield 23, 3) := by decide +kernel
theorem dX9_said_18 : decode cX9_said 18 = .ok (.iconst 2, 1) := by decide +kernel
theorem dX9_said_19 : decode cX9_said 19 = .ok (.iaload, 1) := by decide +kernel
theorem dX9_said_20 : decode cX9_said 20 = .ok (.if_icmp .lt 5, 3) := by decide +kernel
theorem dX9_said_23 : decode cX9_said 23 = .ok (.iconst 0, 1) := by decide +kernel
theorem dX9_said_24 : decode cX9_said 24 = .ok (.ireturn, 1) := by decide +kernel
theorem dX9_said_25 : decode cX9_said 25 = .ok (.aload_n 0, 1) := by decide +kernel
theorem dX9_said_26 : decode cX9_said 26 = .ok (.aload_n 0, 1) := by decide +kernel
theorem dX9_said_27 : decode cX9_said 27 = .ok (.getfield 23, 3) := by decide +kernel
theorem dX9_said_30 : decode cX9_said 30 = .ok (.iconst 3, 1) := by decide +kernel
theorem dX9_said_31 : decode cX9_said 31 = .ok (.iconst 3, 1) := by decide +kernel
theorem dX9_said_32 : decode cX9_said 32 = .ok (.iload_n 1, 1) := by decide +kernel
theorem dX9_said_33 : decode cX9_said 33 = .ok (.imul, 1) := by decide +kernel
theorem dX9_said_34 : decode cX9_said 34 = .ok (.iadd, 1) := by decide +kernel
theorem dX9_said_35 : decode cX9_said 35 = .ok (.iaload, 1) := by decide +kernel
theorem dX9_said_36 : decode cX9_said 36 = .ok (.aload_n 0, 1) := by decide +kernel
theorem dX9_said_37 : decode cX9_said 37 = .ok (.getfield 23, 3) := by decide +kernel
theorem dX9_said_40 : decode cX9_said 40 = .ok (.iconst 3, 1) := by decide +kernel
theorem dX9_said_41 : decode cX9_said 41 = .ok (.iconst 3, 1) := by decide +kernel
theorem dX9_said_42 : decode cX9_said 42 = .ok (.iload_n 1, 1) := by decide +kernel
theorem dX9_said_43 : decode cX9_said 43 = .ok (.imul, 1) := by decide +kernel
theorem dX9_said_44 : decode cX9_said 44 = .ok (.iadd, 1) := by decide +kernel
theorem dX9_said_45 : decode cX9_said 45 = .ok (.iconst 1, 1) := by decide +kernel
theorem dX9_said_46 : decode cX9_said 46 = .ok (.iadd, 1) := by decide +kernel
theorem dX9_said_47 : decode cX9_said 47 = .ok (.iaload, 1) := by decide +kernel
theorem dX9_said_48 : decode cX9_said 48 = .ok (.invokevirtual 209, 3) := by decide +kernel
theorem dX9_said_51 : decode cX9_said 51 = .ok (.istore_n 2, 1) := by decide +kernel
theorem dX9_said_52 : decode cX9_said 52 = .ok (.iconst 2, 1) := by decide +kernel
theorem dX9_said_53 : decode cX9_said 53 = .ok (.iload_n 2, 1) := by decide +kernel
theorem dX9_said_54 : decode cX9_said 54 = .ok (.imul, 1) := by decide +kernel
theorem dX9_said_55 : decode cX9_said 55 = .ok (.aload_n 0, 1) := by decide +kernel
theorem dX9_said_56 : decode cX9_said 56 = .ok (.iconst 0, 1) := by decide +kernel
theorem dX9_said_57 : decode cX9_said 57 = .ok (.bipush 9, 2) := by decide +kernel
theorem dX9_said_59 : decode cX9_said 59 = .ok (.invokevirtual 209, 3) := by decide +kernel
theorem dX9_said_62 : decode cX9_said 62 = .ok (.isub, 1) := by decide +kernel
theorem dX9_said_63 : decode cX9_said 63 = .ok (.ireturn, 1) := by decide +kernel
set_option maxRecDepth 20000 in
theorem ggX9_trust_X9_isWitness : GoodIn wsX9_trust wsX9_isWitness := goodIn_r _ [7, 8, 9, 10, 6, 11] (by decide +kernel) (by decide +kernel)
set_option maxRecDepth 20000 in
theorem gX9_trust_X9_isWitness : GoodIn wsX9_trust (va_wsS RX9 143 yX9_isWitness wsX9_isWitness) := goodIn_app (goodIn_of _ (by decide +kernel)) ggX9_trust_X9_isWitness
set_option maxRecDepth 20000 in
theorem ggX9_trust_X9_allParts : GoodIn wsX9_trust wsX9_allParts := goodIn_r _ [15, 3, 26, 27, 28, 29, 30, 31, 32, 33, 34, 35, 36, 37, 38, 39, 40, 41, 42, 43, 44, 45, 46, 47, 48, 49, 50, 51, 52, 53, 54] (by decide +kernel) (by decide +kernel)
set_option maxRecDepth 20000 in
theorem gX9_trust_X9_allParts : GoodIn wsX9_trust (wsV RX9 122 RX9 yX9_allParts wsX9_allParts) := goodIn_app (goodIn_of _ (by decide +kernel)) ggX9_trust_X9_allParts
set_option maxRecDepth 20000 in
theorem ggX9_trust_X9_partsIn : GoodIn wsX9_trust wsX9_partsIn := goodIn_r _ [19, 3, 26, 27, 28, 29, 30, 31, 32, 33, 34, 35, 36, 37, 38, 39, 40, 41, 42, 43, 44, 45, 46, 47, 48, 49, 50, 51, 52, 53, 54] (by decide +kernel) (by decide +kernel)
set_option maxRecDepth 20000 in
theorem gX9_trust_X9_partsIn : GoodIn wsX9_trust (wsV RX9 209 RX9 yX9_partsIn wsX9_partsIn) := goodIn_app (goodIn_of _ (by decide +kernel)) ggX9_trust_X9_partsIn
set_option maxRecDepth 20000 in
theorem ggX9_trust_X9_part : GoodIn wsX9_trust wsX9_part := goodIn_r _ [22, 23, 24, 6, 25] (by decide +kernel) (by decide +kernel)
set_option maxRecDepth 20000 in
theorem gX9_trust_X9_part : GoodIn wsX9_trust (va_wsS RX9 186 yX9_part wsX9_part) := goodIn_app (goodIn_of _ (by decide +kernel)) ggX9_trust_X9_part
theorem dX9_trust_0 : decode cX9_trust 0 = .ok (.iload_n 1, 1) := by decide +kernel
theorem dX9_trust_1 : decode cX9_trust 1 = .ok (.iload_n 2, 1) := by decide +kernel
theorem dX9_trust_2 : decode cX9_trust 2 = .ok (.iload_n 3, 1) := by decide +kernel
theorem dX9_trust_3 : decode cX9_trust 3 = .ok (.invokestatic 143, 3) := by decide +kernel
theorem dX9_trust_6 : decode cX9_trust 6 = .ok (.ifCond .ne 7, 3) := by decide +kernel
theorem dX9_trust_9 : decode cX9_trust 9 = .ok (.ldc2_w 149, 3) := by decide +kernel
theorem dX9_trust_12 : decode cX9_trust 12 = .ok (.lreturn, 1) := by decide +kernel
theorem dX9_trust_13 : decode cX9_trust 13 = .ok (.aload_n 0, 1) := by decide +kernel
theorem dX9_trust_14 : decode cX9_trust 14 = .ok (.invokevirtual 122, 3) := by decide +kernel
theorem dX9_trust_17 : decode cX9_trust 17 = .ok (.ifCond .ne 7, 3) := by decide +kernel
theorem dX9_trust_20 : decode cX9_trust 20 = .ok (.ldc2_w 155, 3) := by decide +kernel
theorem dX9_trust_23 : decode cX9_trust 23 = .ok (.lreturn, 1) := by decide +kernel
theorem dX9_trust_24 : decode cX9_trust 24 = .ok (.aload_n 0, 1) := by decide +kernel
theorem dX9_trust_25 : decode cX9_trust 25 = .ok (.iload_n 1, 1) := by decide +kernel
theorem dX9_trust_26 : decode cX9_trust 26 = .ok (.iload_n 2, 1) := by decide +kernel
theorem dX9_trust_27 : decode cX9_trust 27 = .ok (.invokevirtual 209, 3) := by decide +kernel
theorem dX9_trust_30 : decode cX9_trust 30 = .ok (.iload_n 3, 1) := by decide +kernel
theorem dX9_trust_31 : decode cX9_trust 31 = .ok (.imul, 1) := by decide +kernel
theorem dX9_trust_32 : decode cX9_trust 32 = .ok (.istore 5, 2) := by decide +kernel
theorem dX9_trust_34 : decode cX9_trust 34 = .ok (.iload 5, 2) := by decide +kernel
theorem dX9_trust_36 : decode cX9_trust 36 = .ok (.aload_n 0, 1) := by decide +kernel
theorem dX9_trust_37 : decode cX9_trust 37 = .ok (.iconst 0, 1) := by decide +kernel
theorem dX9_trust_38 : decode cX9_trust 38 = .ok (.bipush 9, 2) := by decide +kernel
theorem dX9_trust_40 : decode cX9_trust 40 = .ok (.invokevirtual 209, 3) := by decide +kernel
theorem dX9_trust_43 : decode cX9_trust 43 = .ok (.aload_n 0, 1) := by decide +kernel
theorem dX9_trust_44 : decode cX9_trust 44 = .ok (.iload_n 1, 1) := by decide +kernel
theorem dX9_trust_45 : decode cX9_trust 45 = .ok (.iload_n 2, 1) := by decide +kernel
theorem dX9_trust_46 : decode cX9_trust 46 = .ok (.invokevirtual 209, 3) := by decide +kernel
theorem dX9_trust_49 : decode cX9_trust 49 = .ok (.isub, 1) := by decide +kernel
theorem dX9_trust_50 : decode cX9_trust 50 = .ok (.bipush 10, 2) := by decide +kernel
theorem dX9_trust_52 : decode cX9_trust 52 = .ok (.iload_n 3, 1) := by decide +kernel
theorem dX9_trust_53 : decode cX9_trust 53 = .ok (.isub, 1) := by decide +kernel
theorem dX9_trust_54 : decode cX9_trust 54 = .ok (.imul, 1) := by decide +kernel
theorem dX9_trust_55 : decode cX9_trust 55 = .ok (.iadd, 1) := by decide +kernel
theorem dX9_trust_56 : decode cX9_trust 56 = .ok (.iconst 5, 1) := by decide +kernel
theorem dX9_trust_57 : decode cX9_trust 57 = .ok (.aload_n 0, 1) := by decide +kernel
theorem dX9_trust_58 : decode cX9_trust 58 = .ok (.getfield 7, 3) := by decide +kernel
theorem dX9_trust_61 : decode cX9_trust 61 = .ok (.bipush 10, 2) := by decide +kernel
theorem dX9_trust_63 : decode cX9_trust 63 = .ok (.iaload, 1) := by decide +kernel
theorem dX9_trust_64 : decode cX9_trust 64 = .ok (.imul, 1) := by decide +kernel
theorem dX9_trust_65 : decode cX9_trust 65 = .ok (.iadd, 1) := by decide +kernel
theorem dX9_trust_66 : decode cX9_trust 66 = .ok (.istore 6, 2) := by decide +kernel
theorem dX9_trust_68 : decode cX9_trust 68 = .ok (.iload 5, 2) := by decide +kernel
theorem dX9_trust_70 : decode cX9_trust 70 = .ok (.i2l, 1) := by decide +kernel
theorem dX9_trust_71 : decode cX9_trust 71 = .ok (.iload 6, 2) := by decide +kernel
theorem dX9_trust_73 : decode cX9_trust 73 = .ok (.i2l, 1) := by decide +kernel
theorem dX9_trust_74 : decode cX9_trust 74 = .ok (.iload 4, 2) := by decide +kernel
theorem dX9_trust_76 : decode cX9_trust 76 = .ok (.invokestatic 186, 3) := by decide +kernel
theorem dX9_trust_79 : decode cX9_trust 79 = .ok (.lreturn, 1) := by decide +kernel
theorem dX9_seed_0 : decode cX9_seed 0 = .ok (.aload_n 0, 1) := by decide +kernel
theorem dX9_seed_1 : decode cX9_seed 1 = .ok (.getfield 212, 3) := by decide +kernel
theorem dX9_seed_4 : decode cX9_seed 4 = .ok (.lstore_n 3, 1) := by decide +kernel
theorem dX9_seed_5 : decode cX9_seed 5 = .ok (.aload_n 0, 1) := by decide +kernel
theorem dX9_seed_6 : decode cX9_seed 6 = .ok (.lload_n 1, 1) := by decide +kernel
theorem dX9_seed_7 : decode cX9_seed 7 = .ok (.putfield 212, 3) := by decide +kernel
theorem dX9_seed_10 : decode cX9_seed 10 = .ok (.lload_n 3, 1) := by decide +kernel
theorem dX9_seed_11 : decode cX9_seed 11 = .ok (.lreturn, 1) := by decide +kernel
theorem dX9_drawn_0 : decode cX9_drawn 0 = .ok (.aload_n 0, 1) := by decide +kernel
theorem dX9_drawn_1 : decode cX9_drawn 1 = .ok (.aload_n 0, 1) := by decide +kernel
theorem dX9_drawn_2 : decode cX9_drawn 2 = .ok (.getfield 212, 3) := by decide +kernel
theorem dX9_drawn_5 : decode cX9_drawn 5 = .ok (.ldc2_w 216, 3) := by decide +kernel
theorem dX9_drawn_8 : decode cX9_drawn 8 = .ok (.lmul, 1) := by decide +kernel
theorem dX9_drawn_9 : decode cX9_drawn 9 = .ok (.ldc2_w 218, 3) := by decide +kernel
theorem dX9_drawn_12 : decode cX9_drawn 12 = .ok (.ladd, 1) := by decide +kernel
theorem dX9_drawn_13 : decode cX9_drawn 13 = .ok (.putfield 212, 3) := by decide +kernel
theorem dX9_drawn_16 : decode cX9_drawn 16 = .ok (.aload_n 0, 1) := by decide +kernel
theorem dX9_drawn_17 : decode cX9_drawn 17 = .ok (.getfield 212, 3) := by decide +kernel
theorem dX9_drawn_20 : decode cX9_drawn 20 = .ok (.bipush 33, 2) := by decide +kernel
theorem dX9_drawn_22 : decode cX9_drawn 22 = .ok (.lushr, 1) := by decide +kernel
theorem dX9_drawn_23 : decode cX9_drawn 23 = .ok (.iload_n 1, 1) := by decide +kernel
theorem dX9_drawn_24 : decode cX9_drawn 24 = .ok (.i2l, 1) := by decide +kernel
theorem dX9_drawn_25 : decode cX9_drawn 25 = .ok (.lrem, 1) := by decide +kernel
theorem dX9_drawn_26 : decode cX9_drawn 26 = .ok (.l2i, 1) := by decide +kernel
theorem dX9_drawn_27 : decode cX9_drawn 27 = .ok (.ireturn, 1) := by decide +kernel
set_option maxRecDepth 20000 in
theorem ggX9_isFound_X9_allParts : GoodIn wsX9_isFound wsX9_allParts := goodIn_r _ [12, 1, 26, 27, 28, 29, 30, 31, 32, 33, 34, 35, 36, 37, 38, 39, 40, 41, 42, 43, 44, 45, 46, 47, 48, 49, 50, 51, 52, 53, 54] (by decide +kernel) (by decide +kernel)
set_option maxRecDepth 20000 in
theorem gX9_isFound_X9_allParts : GoodIn wsX9_isFound (wsV RX9 122 RX9 yX9_allParts wsX9_allParts) := goodIn_app (goodIn_of _ (by decide +kernel)) ggX9_isFound_X9_allParts
set_option maxRecDepth 20000 in
theorem ggX9_isFound_X9_drawn : GoodIn wsX9_isFound wsX9_drawn := goodIn_r _ [16, 17, 18, 19, 26, 27, 28, 29, 30, 31, 32, 33, 34, 35, 36, 37, 38, 39, 40, 41, 42, 43, 44, 45, 46, 47, 48, 49, 50, 51, 52, 53, 54] (by decide +kernel) (by decide +kernel)
set_option maxRecDepth 20000 in
theorem gX9_isFound_X9_drawn : GoodIn wsX9_isFound (wsV RX9 220 RX9 yX9_drawn wsX9_drawn) := goodIn_app (goodIn_of _ (by decide +kernel)) ggX9_isFound_X9_drawn
set_option maxRecDepth 20000 in
theorem ggX9_isFound_X9_tenTo : GoodIn wsX9_isFound wsX9_tenTo := goodIn_r _ [22] (by decide +kernel) (by decide +kernel)
set_option maxRecDepth 20000 in
theorem gX9_isFound_X9_tenTo : GoodIn wsX9_isFound (va_wsS RX9 163 yX9_tenTo wsX9_tenTo) := goodIn_app (goodIn_of _ (by decide +kernel)) ggX9_isFound_X9_tenTo
set_option maxRecDepth 20000 in
theorem ggX9_isFound_X9_to : GoodIn wsX9_isFound wsX9_to := goodIn_r _ [25] (by decide +kernel) (by decide +kernel)
set_option maxRecDepth 20000 in
theorem gX9_isFound_X9_to : GoodIn wsX9_isFound (va_wsS RX9 125 yX9_to wsX9_to) := goodIn_app (goodIn_of _ (by decide +kernel)) ggX9_isFound_X9_to
theorem dX9_isFound_0 : decode cX9_isFound 0 = .ok (.iconst 0, 1) := by decide +kernel
theorem dX9_isFound_1 : decode cX9_isFound 1 = .ok (.istore_n 3, 1) := by decide +kernel
theorem dX9_isFound_2 : decode cX9_isFound 2 = .ok (.aload_n 0, 1) := by decide +kernel
theorem dX9_isFound_3 : decode cX9_isFound 3 = .ok (.aload_n 0, 1) := by decide +kernel
theorem dX9_isFound_4 : decode cX9_isFound 4 = .ok (.invokevirtual 122, 3) := by decide +kernel
theorem dX9_isFound_7 : decode cX9_isFound 7 = .ok (.invokevirtual 220, 3) := by decide +kernel
theorem dX9_isFound_10 : decode cX9_isFound 10 = .ok (.istore 4, 2) := by decide +kernel
theorem dX9_isFound_12 : decode cX9_isFound 12 = .ok (.iload 4, 2) := by decide +kernel
theorem dX9_isFound_14 : decode cX9_isFound 14 = .ok (.aload_n 0, 1) := by decide +kernel
theorem dX9_isFound_15 : decode cX9_isFound 15 = .ok (.getfield 7, 3) := by decide +kernel
theorem dX9_isFound_18 : decode cX9_isFound 18 = .ok (.iload_n 3, 1) := by decide +kernel
theorem dX9_isFound_19 : decode cX9_isFound 19 = .ok (.iaload, 1) := by decide +kernel
theorem dX9_isFound_20 : decode cX9_isFound 20 = .ok (.if_icmp .lt 20, 3) := by decide +kernel
theorem dX9_isFound_23 : decode cX9_isFound 23 = .ok (.iload 4, 2) := by decide +kernel
theorem dX9_isFound_25 : decode cX9_isFound 25 = .ok (.aload_n 0, 1) := by decide +kernel
theorem dX9_isFound_26 : decode cX9_isFound 26 = .ok (.getfield 7, 3) := by decide +kernel
theorem dX9_isFound_29 : decode cX9_isFound 29 = .ok (.iload_n 3, 1) := by decide +kernel
theorem dX9_isFound_30 : decode cX9_isFound 30 = .ok (.iaload, 1) := by decide +kernel
theorem dX9_isFound_31 : decode cX9_isFound 31 = .ok (.isub, 1) := by decide +kernel
theorem dX9_isFound_32 : decode cX9_isFound 32 = .ok (.istore 4, 2) := by decide +kernel
theorem dX9_isFound_34 : decode cX9_isFound 34 = .ok (.iinc 3 1, 3) := by decide +kernel
theorem dX9_isFound_37 : decode cX9_isFound 37 = .ok (.goto (-25), 3) := by decide +kernel
theorem dX9_isFound_40 : decode cX9_isFound 40 = .ok (.aload_n 0, 1) := by decide +kernel
theorem dX9_isFound_41 : decode cX9_isFound 41 = .ok (.getfield 106, 3) := by decide +kernel
theorem dX9_isFound_44 : decode cX9_isFound 44 = .ok (.istore 5, 2) := by decide +kernel
theorem dX9_isFound_46 : decode cX9_isFound 46 = .ok (.iconst 0, 1) := by decide +kernel
theorem dX9_isFound_47 : decode cX9_isFound 47 = .ok (.istore 6, 2) := by decide +kernel
theorem dX9_isFound_49 : decode cX9_isFound 49 = .ok (.iload 6, 2) := by decide +kernel
theorem dX9_isFound_51 : decode cX9_isFound 51 = .ok (.iload_n 1, 1) := by decide +kernel
theorem dX9_isFound_52 : decode cX9_isFound 52 = .ok (.if_icmp .ge 162, 3) := by decide +kernel
theorem dX9_isFound_55 : decode cX9_isFound 55 = .ok (.iload 6, 2) := by decide +kernel
theorem dX9_isFound_57 : decode cX9_isFound 57 = .ok (.aload_n 0, 1) := by decide +kernel
theorem dX9_isFound_58 : decode cX9_isFound 58 = .ok (.getfield 48, 3) := by decide +kernel
theorem dX9_isFound_61 : decode cX9_isFound 61 = .ok (.if_icmp .ge 153, 3) := by decide +kernel
theorem dX9_isFound_64 : decode cX9_isFound 64 = .ok (.iload_n 2, 1) := by decide +kernel
theorem dX9_isFound_65 : decode cX9_isFound 65 = .ok (.iload_n 1, 1) := by decide +kernel
theorem dX9_isFound_66 : decode cX9_isFound 66 = .ok (.iconst 1, 1) := by decide +kernel
theorem dX9_isFound_67 : decode cX9_isFound 67 = .ok (.isub, 1) := by decide +kernel
theorem dX9_isFound_68 : decode cX9_isFound 68 = .ok (.iload 6, 2) := by decide +kernel
theorem dX9_isFound_70 : decode cX9_isFound 70 = .ok (.isub, 1) := by decide +kernel
theorem dX9_isFound_71 : decode cX9_isFound 71 = .ok (.invokestatic 163, 3) := by decide +kernel
theorem dX9_isFound_74 : decode cX9_isFound 74 = .ok (.idiv, 1) := by decide +kernel
theorem dX9_isFound_75 : decode cX9_isFound 75 = .ok (.bipush 10, 2) := by decide +kernel
theorem dX9_isFound_77 : decode cX9_isFound 77 = .ok (.irem, 1) := by decide +kernel
theorem dX9_isFound_78 : decode cX9_isFound 78 = .ok (.istore 7, 2) := by decide +kernel
theorem dX9_isFound_80 : decode cX9_isFound 80 = .ok (.iload 7, 2) := by decide +kernel
theorem dX9_isFound_82 : decode cX9_isFound 82 = .ok (.iconst 3, 1) := by decide +kernel
theorem dX9_isFound_83 : decode cX9_isFound 83 = .ok (.if_icmp .ne 8, 3) := by decide +kernel
theorem dX9_isFound_86 : decode cX9_isFound 86 = .ok (.iload 5, 2) := by decide +kernel
theorem dX9_isFound_88 : decode cX9_isFound 88 = .ok (.goto 10, 3) := by decide +kernel
theorem dX9_isFound_91 : decode cX9_isFound 91 = .ok (.iload 5, 2) := by decide +kernel
theorem dX9_isFound_93 : decode cX9_isFound 93 = .ok (.iload 7, 2) := by decide +kernel
theorem dX9_isFound_95 : decode cX9_isFound 95 = .ok (.invokestatic 125, 3) := by decide +kernel
theorem dX9_isFound_98 : decode cX9_isFound 98 = .ok (.istore 5, 2) := by decide +kernel
theorem dX9_isFound_100 : decode cX9_isFound 100 = .ok (.iload_n 3, 1) := by decide +kernel
theorem dX9_isFound_101 : decode cX9_isFound 101 = .ok (.iload 7, 2) := by decide +kernel
theorem dX9_isFound_103 : decode cX9_isFound 103 = .ok (.iconst 3, 1) := by decide +kernel
theorem dX9_isFound_104 : decode cX9_isFound 104 = .ok (.if_icmp .ne 8, 3) := by decide +kernel
theorem dX9_isFound_107 : decode cX9_isFound 107 = .ok (.bipush 10, 2) := by decide +kernel
theorem dX9_isFound_109 : decode cX9_isFound 109 = .ok (.goto 5, 3) := by decide +kernel
theorem dX9_isFound_112 : decode cX9_isFound 112 = .ok (.iload 5, 2) := by decide +kernel
theorem dX9_isFound_114 : decode cX9_isFound 114 = .ok (.if_icmp .ne 7, 3) := by decide +kernel
theorem dX9_isFound_117 : decode cX9_isFound 117 = .ok (.iconst 1, 1) := by decide +kernel
theorem dX9_isFound_118 : decode cX9_isFound 118 = .ok (.goto 4, 3) := by decide +kernel
theorem dX9_isFound_121 : decode cX9_isFound 121 = .ok (.iconst 0, 1) := by decide +kernel
theorem dX9_isFound_122 : decode cX9_isFound 122 = .ok (.istore 8, 2) := by decide +kernel
theorem dX9_isFound_124 : decode cX9_isFound 124 = .ok (.aload_n 0, 1) := by decide +kernel
theorem dX9_isFound_125 : decode cX9_isFound 125 = .ok (.bipush 10, 2) := by decide +kernel
theorem dX9_isFound_127 : decode cX9_isFound 127 = .ok (.invokevirtual 220, 3) := by decide +kernel
theorem dX9_isFound_130 : decode cX9_isFound 130 = .ok (.iload 7, 2) := by decide +kernel
theorem dX9_isFound_132 : decode cX9_isFound 132 = .ok (.iconst 3, 1) := by decide +kernel
theorem dX9_isFound_133 : decode cX9_isFound 133 = .ok (.if_icmp .ne 10, 3) := by decide +kernel
theorem dX9_isFound_136 : decode cX9_isFound 136 = .ok (.aload_n 0, 1) := by decide +kernel
theorem dX9_isFound_137 : decode cX9_isFound 137 = .ok (.getfield 103, 3) := by decide +kernel
theorem dX9_isFound_140 : decode cX9_isFound 140 = .ok (.goto 7, 3) := by decide +kernel
theorem dX9_isFound_143 : decode cX9_isFound 143 = .ok (.aload_n 0, 1) := by decide +kernel
theorem dX9_isFound_144 : decode cX9_isFound 144 = .ok (.getfield 100, 3) := by decide +kernel
theorem dX9_isFound_147 : decode cX9_isFound 147 = .ok (.if_icmp .ge 10, 3) := by decide +kernel
theorem dX9_isFound_150 : decode cX9_isFound 150 = .ok (.iload 8, 2) := by decide +kernel
theorem dX9_isFound_152 : decode cX9_isFound 152 = .ok (.ifCond .eq 5, 3) := by decide +kernel
theorem dX9_isFound_155 : decode cX9_isFound 155 = .ok (.iconst 1, 1) := by decide +kernel
theorem dX9_isFound_156 : decode cX9_isFound 156 = .ok (.ireturn, 1) := by decide +kernel
theorem dX9_isFound_157 : decode cX9_isFound 157 = .ok (.iload_n 3, 1) := by decide +kernel
theorem dX9_isFound_158 : decode cX9_isFound 158 = .ok (.bipush 10, 2) := by decide +kernel
theorem dX9_isFound_160 : decode cX9_isFound 160 = .ok (.if_icmp .ge 48, 3) := by decide +kernel
theorem dX9_isFound_163 : decode cX9_isFound 163 = .ok (.aload_n 0, 1) := by decide +kernel
theorem dX9_isFound_164 : decode cX9_isFound 164 = .ok (.bipush 10, 2) := by decide +kernel
theorem dX9_isFound_166 : decode cX9_isFound 166 = .ok (.invokevirtual 220, 3) := by decide +kernel
theorem dX9_isFound_169 : decode cX9_isFound 169 = .ok (.istore 9, 2) := by decide +kernel
theorem dX9_isFound_171 : decode cX9_isFound 171 = .ok (.iload_n 3, 1) := by decide +kernel
theorem dX9_isFound_172 : decode cX9_isFound 172 = .ok (.iload 9, 2) := by decide +kernel
theorem dX9_isFound_174 : decode cX9_isFound 174 = .ok (.aload_n 0, 1) := by decide +kernel
theorem dX9_isFound_175 : decode cX9_isFound 175 = .ok (.getfield 94, 3) := by decide +kernel
theorem dX9_isFound_178 : decode cX9_isFound 178 = .ok (.if_icmp .ge 7, 3) := by decide +kernel
theorem dX9_isFound_181 : decode cX9_isFound 181 = .ok (.iconst 1, 1) := by decide +kernel
theorem dX9_isFound_182 : decode cX9_isFound 182 = .ok (.goto 22, 3) := by decide +kernel
theorem dX9_isFound_185 : decode cX9_isFound 185 = .ok (.iload 9, 2) := by decide +kernel
theorem dX9_isFound_187 : decode cX9_isFound 187 = .ok (.aload_n 0, 1) := by decide +kernel
theorem dX9_isFound_188 : decode cX9_isFound 188 = .ok (.getfield 94, 3) := by decide +kernel
theorem dX9_isFound_191 : decode cX9_isFound 191 = .ok (.aload_n 0, 1) := by decide +kernel
theorem dX9_isFound_192 : decode cX9_isFound 192 = .ok (.getfield 97, 3) := by decide +kernel
theorem dX9_isFound_195 : decode cX9_isFound 195 = .ok (.iadd, 1) := by decide +kernel
theorem dX9_isFound_196 : decode cX9_isFound 196 = .ok (.if_icmp .ge 7, 3) := by decide +kernel
theorem dX9_isFound_199 : decode cX9_isFound 199 = .ok (.iconst 2, 1) := by decide +kernel
theorem dX9_isFound_200 : decode cX9_isFound 200 = .ok (.goto 4, 3) := by decide +kernel
theorem dX9_isFound_203 : decode cX9_isFound 203 = .ok (.iconst 0, 1) := by decide +kernel
theorem dX9_isFound_204 : decode cX9_isFound 204 = .ok (.invokestatic 125, 3) := by decide +kernel
theorem dX9_isFound_207 : decode cX9_isFound 207 = .ok (.istore_n 3, 1) := by decide +kernel
theorem dX9_isFound_208 : decode cX9_isFound 208 = .ok (.iinc 6 1, 3) := by decide +kernel
theorem dX9_isFound_211 : decode cX9_isFound 211 = .ok (.goto (-162), 3) := by decide +kernel
theorem dX9_isFound_214 : decode cX9_isFound 214 = .ok (.iconst 0, 1) := by decide +kernel
theorem dX9_isFound_215 : decode cX9_isFound 215 = .ok (.ireturn, 1) := by decide +kernel
set_option maxRecDepth 20000 in
theorem ggX9_trials_X9_in : GoodIn wsX9_trials wsX9_in := goodIn_r _ [5] (by decide +kernel) (by decide +kernel)
set_option maxRecDepth 20000 in
theorem gX9_trials_X9_in : GoodIn wsX9_trials (va_wsS RX9 54 yX9_in wsX9_in) := goodIn_app (goodIn_of _ (by decide +kernel)) ggX9_trials_X9_in
set_option maxRecDepth 20000 in
theorem ggX9_trials_X9_isRow : GoodIn wsX9_trials wsX9_isRow := goodIn_r _ [8, 9, 2, 3, 4, 5, 10, 11, 12] (by decide +kernel) (by decide +kernel)
set_option maxRecDepth 20000 in
theorem gX9_trials_X9_isRow : GoodIn wsX9_trials (va_wsS RX9 172 yX9_isRow wsX9_isRow) := goodIn_app (goodIn_of _ (by decide +kernel)) ggX9_trials_X9_isRow
set_option maxRecDepth 20000 in
theorem ggX9_trials_X9_allParts : GoodIn wsX9_trials wsX9_allParts := goodIn_r _ [16, 17, 38, 39, 40, 41, 42, 43, 44, 45, 46, 47, 48, 49, 50, 51, 52, 53, 54, 55, 56, 57, 58, 59, 60, 61, 62, 63, 64, 65, 66] (by decide +kernel) (by decide +kernel)
set_option maxRecDepth 20000 in
theorem gX9_trials_X9_allParts : GoodIn wsX9_trials (wsV RX9 122 RX9 yX9_allParts wsX9_allParts) := goodIn_app (goodIn_of _ (by decide +kernel)) ggX9_trials_X9_allParts
set_option maxRecDepth 20000 in
theorem ggX9_trials_X9_isFound : GoodIn wsX9_trials wsX9_isFound := goodIn_r _ [21, 17, 22, 23, 24, 25, 26, 27, 13, 14, 15, 4, 16, 28, 29, 30, 31, 32, 33, 34, 10, 11, 12, 35, 36, 37, 38, 39, 40, 41, 42, 43, 44, 45, 46, 47, 48, 49, 50, 51, 52, 53, 54, 55, 56, 57, 58, 59, 60, 61, 62, 63, 64, 65, 66] (by decide +kernel) (by decide +kernel)
set_option maxRecDepth 20000 in
theorem gX9_trials_X9_isFound : GoodIn wsX9_trials (wsV RX9 225 RX9 yX9_isFound wsX9_isFound) := goodIn_app (goodIn_of _ (by decide +kernel)) ggX9_trials_X9_isFound
theorem dX9_trials_0 : decode cX9_trials 0 = .ok (.iload_n 1, 1) := by decide +kernel
theorem dX9_trials_1 : decode cX9_trials 1 = .ok (.i2l, 1) := by decide +kernel
theorem dX9_trials_2 : decode cX9_trials 2 = .ok (.lconst 1, 1) := by decide +kernel
theorem dX9_trials_3 : decode cX9_trials 3 = .ok (.ldc2_w 223, 3) := by decide +kernel
theorem dX9_trials_6 : decode cX9_trials 6 = .ok (.invokestatic 54, 3) := by decide +kernel
theorem dX9_trials_9 : decode cX9_trials 9 = .ok (.ifCond .eq 11, 3) := by decide +kernel
theorem dX9_trials_12 : decode cX9_trials 12 = .ok (.iload_n 2, 1) := by decide +kernel
theorem dX9_trials_13 : decode cX9_trials 13 = .ok (.iload_n 3, 1) := by decide +kernel
theorem dX9_trials_14 : decode cX9_trials 14 = .ok (.invokestatic 172, 3) := by decide +kernel
theorem dX9_trials_17 : decode cX9_trials 17 = .ok (.ifCond .ne 6, 3) := by decide +kernel
theorem dX9_trials_20 : decode cX9_trials 20 = .ok (.bipush (-2), 2) := by decide +kernel
theorem dX9_trials_22 : decode cX9_trials 22 = .ok (.ireturn, 1) := by decide +kernel
theorem dX9_trials_23 : decode cX9_trials 23 = .ok (.iconst 0, 1) := by decide +kernel
theorem dX9_trials_24 : decode cX9_trials 24 = .ok (.istore 4, 2) := by decide +kernel
theorem dX9_trials_26 : decode cX9_trials 26 = .ok (.iconst 0, 1) := by decide +kernel
theorem dX9_trials_27 : decode cX9_trials 27 = .ok (.istore 5, 2) := by decide +kernel
theorem dX9_trials_29 : decode cX9_trials 29 = .ok (.iload 5, 2) := by decide +kernel
theorem dX9_trials_31 : decode cX9_trials 31 = .ok (.iload_n 1, 1) := by decide +kernel
theorem dX9_trials_32 : decode cX9_trials 32 = .ok (.if_icmp .ge 35, 3) := by decide +kernel
theorem dX9_trials_35 : decode cX9_trials 35 = .ok (.aload_n 0, 1) := by decide +kernel
theorem dX9_trials_36 : decode cX9_trials 36 = .ok (.invokevirtual 122, 3) := by decide +kernel
theorem dX9_trials_39 : decode cX9_trials 39 = .ok (.ifCond .le 28, 3) := by decide +kernel
theorem dX9_trials_42 : decode cX9_trials 42 = .ok (.iload 4, 2) := by decide +kernel
theorem dX9_trials_44 : decode cX9_trials 44 = .ok (.aload_n 0, 1) := by decide +kernel
theorem dX9_trials_45 : decode cX9_trials 45 = .ok (.iload_n 2, 1) := by decide +kernel
theorem dX9_trials_46 : decode cX9_trials 46 = .ok (.iload_n 3, 1) := by decide +kernel
theorem dX9_trials_47 : decode cX9_trials 47 = .ok (.invokevirtual 225, 3) := by decide +kernel
theorem dX9_trials_50 : decode cX9_trials 50 = .ok (.ifCond .eq 7, 3) := by decide +kernel
theorem dX9_trials_53 : decode cX9_trials 53 = .ok (.iconst 1, 1) := by decide +kernel
theorem dX9_trials_54 : decode cX9_trials 54 = .ok (.goto 4, 3) := by decide +kernel
theorem dX9_trials_57 : decode cX9_trials 57 = .ok (.iconst 0, 1) := by decide +kernel
theorem dX9_trials_58 : decode cX9_trials 58 = .ok (.iadd, 1) := by decide +kernel
theorem dX9_trials_59 : decode cX9_trials 59 = .ok (.istore 4, 2) := by decide +kernel
theorem dX9_trials_61 : decode cX9_trials 61 = .ok (.iinc 5 1, 3) := by decide +kernel
theorem dX9_trials_64 : decode cX9_trials 64 = .ok (.goto (-35), 3) := by decide +kernel
theorem dX9_trials_67 : decode cX9_trials 67 = .ok (.iload 4, 2) := by decide +kernel
theorem dX9_trials_69 : decode cX9_trials 69 = .ok (.ireturn, 1) := by decide +kernel
set_option maxRecDepth 20000 in
theorem ggX9_keep_X9_in : GoodIn wsX9_keep wsX9_in := goodIn_r _ [9] (by decide +kernel) (by decide +kernel)
set_option maxRecDepth 20000 in
theorem gX9_keep_X9_in : GoodIn wsX9_keep (va_wsS RX9 54 yX9_in wsX9_in) := goodIn_app (goodIn_of _ (by decide +kernel)) ggX9_keep_X9_in
theorem dX9_keep_0 : decode cX9_keep 0 = .ok (.iload_n 1, 1) := by decide +kernel
theorem dX9_keep_1 : decode cX9_keep 1 = .ok (.i2l, 1) := by decide +kernel
theorem dX9_keep_2 : decode cX9_keep 2 = .ok (.lconst 0, 1) := by decide +kernel
theorem dX9_keep_3 : decode cX9_keep 3 = .ok (.lconst 1, 1) := by decide +kernel
theorem dX9_keep_4 : decode cX9_keep 4 = .ok (.invokestatic 54, 3) := by decide +kernel
theorem dX9_keep_7 : decode cX9_keep 7 = .ok (.ifCond .ne 5, 3) := by decide +kernel
theorem dX9_keep_10 : decode cX9_keep 10 = .ok (.iconst (-1), 1) := by decide +kernel
theorem dX9_keep_11 : decode cX9_keep 11 = .ok (.ireturn, 1) := by decide +kernel
theorem dX9_keep_12 : decode cX9_keep 12 = .ok (.aload_n 0, 1) := by decide +kernel
theorem dX9_keep_13 : decode cX9_keep 13 = .ok (.getfield 38, 3) := by decide +kernel
theorem dX9_keep_16 : decode cX9_keep 16 = .ok (.iload_n 1, 1) := by decide +kernel
theorem dX9_keep_17 : decode cX9_keep 17 = .ok (.iconst 1, 1) := by decide +kernel
theorem dX9_keep_18 : decode cX9_keep 18 = .ok (.bastore, 1) := by decide +kernel
theorem dX9_keep_19 : decode cX9_keep 19 = .ok (.iconst 0, 1) := by decide +kernel
theorem dX9_keep_20 : decode cX9_keep 20 = .ok (.istore_n 2, 1) := by decide +kernel
theorem dX9_keep_21 : decode cX9_keep 21 = .ok (.iload_n 2, 1) := by decide +kernel
theorem dX9_keep_22 : decode cX9_keep 22 = .ok (.bipush 11, 2) := by decide +kernel
theorem dX9_keep_24 : decode cX9_keep 24 = .ok (.if_icmp .ge 26, 3) := by decide +kernel
theorem dX9_keep_27 : decode cX9_keep 27 = .ok (.aload_n 0, 1) := by decide +kernel
theorem dX9_keep_28 : decode cX9_keep 28 = .ok (.getfield 42, 3) := by decide +kernel
theorem dX9_keep_31 : decode cX9_keep 31 = .ok (.bipush 11, 2) := by decide +kernel
theorem dX9_keep_33 : decode cX9_keep 33 = .ok (.iload_n 1, 1) := by decide +kernel
theorem dX9_keep_34 : decode cX9_keep 34 = .ok (.imul, 1) := by decide +kernel
theorem dX9_keep_35 : decode cX9_keep 35 = .ok (.iload_n 2, 1) := by decide +kernel
theorem dX9_keep_36 : decode cX9_keep 36 = .ok (.iadd, 1) := by decide +kernel
theorem dX9_keep_37 : decode cX9_keep 37 = .ok (.aload_n 0, 1) := by decide +kernel
theorem dX9_keep_38 : decode cX9_keep 38 = .ok (.getfield 19, 3) := by decide +kernel
theorem dX9_keep_41 : decode cX9_keep 41 = .ok (.iload_n 2, 1) := by decide +kernel
theorem dX9_keep_42 : decode cX9_keep 42 = .ok (.laload, 1) := by decide +kernel
theorem dX9_keep_43 : decode cX9_keep 43 = .ok (.lastore, 1) := by decide +kernel
theorem dX9_keep_44 : decode cX9_keep 44 = .ok (.iinc 2 1, 3) := by decide +kernel
theorem dX9_keep_47 : decode cX9_keep 47 = .ok (.goto (-26), 3) := by decide +kernel
theorem dX9_keep_50 : decode cX9_keep 50 = .ok (.iconst 0, 1) := by decide +kernel
theorem dX9_keep_51 : decode cX9_keep 51 = .ok (.istore_n 2, 1) := by decide +kernel
theorem dX9_keep_52 : decode cX9_keep 52 = .ok (.iload_n 2, 1) := by decide +kernel
theorem dX9_keep_53 : decode cX9_keep 53 = .ok (.bipush 9, 2) := by decide +kernel
theorem dX9_keep_55 : decode cX9_keep 55 = .ok (.if_icmp .ge 26, 3) := by decide +kernel
theorem dX9_keep_58 : decode cX9_keep 58 = .ok (.aload_n 0, 1) := by decide +kernel
theorem dX9_keep_59 : decode cX9_keep 59 = .ok (.getfield 45, 3) := by decide +kernel
theorem dX9_keep_62 : decode cX9_keep 62 = .ok (.bipush 9, 2) := by decide +kernel
theorem dX9_keep_64 : decode cX9_keep 64 = .ok (.iload_n 1, 1) := by decide +kernel
theorem dX9_keep_65 : decode cX9_keep 65 = .ok (.imul, 1) := by decide +kernel
theorem dX9_keep_66 : decode cX9_keep 66 = .ok (.iload_n 2, 1) := by decide +kernel
theorem dX9_keep_67 : decode cX9_keep 67 = .ok (.iadd, 1) := by decide +kernel
theorem dX9_keep_68 : decode cX9_keep 68 = .ok (.aload_n 0, 1) := by decide +kernel
theorem dX9_keep_69 : decode cX9_keep 69 = .ok (.getfield 23, 3) := by decide +kernel
theorem dX9_keep_72 : decode cX9_keep 72 = .ok (.iload_n 2, 1) := by decide +kernel
theorem dX9_keep_73 : decode cX9_keep 73 = .ok (.iaload, 1) := by decide +kernel
theorem dX9_keep_74 : decode cX9_keep 74 = .ok (.iastore, 1) := by decide +kernel
theorem dX9_keep_75 : decode cX9_keep 75 = .ok (.iinc 2 1, 3) := by decide +kernel
theorem dX9_keep_78 : decode cX9_keep 78 = .ok (.goto (-26), 3) := by decide +kernel
theorem dX9_keep_81 : decode cX9_keep 81 = .ok (.aload_n 0, 1) := by decide +kernel
theorem dX9_keep_82 : decode cX9_keep 82 = .ok (.getfield 23, 3) := by decide +kernel
theorem dX9_keep_85 : decode cX9_keep 85 = .ok (.iconst 1, 1) := by decide +kernel
theorem dX9_keep_86 : decode cX9_keep 86 = .ok (.iaload, 1) := by decide +kernel
theorem dX9_keep_87 : decode cX9_keep 87 = .ok (.ireturn, 1) := by decide +kernel
set_option maxRecDepth 20000 in
theorem ggX9_again_X9_in : GoodIn wsX9_again wsX9_in := goodIn_r _ [10] (by decide +kernel) (by decide +kernel)
set_option maxRecDepth 20000 in
theorem gX9_again_X9_in : GoodIn wsX9_again (va_wsS RX9 54 yX9_in wsX9_in) := goodIn_app (goodIn_of _ (by decide +kernel)) ggX9_again_X9_in
theorem dX9_again_0 : decode cX9_again 0 = .ok (.iload_n 1, 1) := by decide +kernel
theorem dX9_again_1 : decode cX9_again 1 = .ok (.i2l, 1) := by decide +kernel
theorem dX9_again_2 : decode cX9_again 2 = .ok (.lconst 0, 1) := by decide +kernel
theorem dX9_again_3 : decode cX9_again 3 = .ok (.lconst 1, 1) := by decide +kernel
theorem dX9_again_4 : decode cX9_again 4 = .ok (.invokestatic 54, 3) := by decide +kernel
theorem dX9_again_7 : decode cX9_again 7 = .ok (.ifCond .ne 5, 3) := by decide +kernel
theorem dX9_again_10 : decode cX9_again 10 = .ok (.iconst (-1), 1) := by decide +kernel
theorem dX9_again_11 : decode cX9_again 11 = .ok (.ireturn, 1) := by decide +kernel
theorem dX9_again_12 : decode cX9_again 12 = .ok (.aload_n 0, 1) := by decide +kernel
theorem dX9_again_13 : decode cX9_again 13 = .ok (.getfield 38, 3) := by decide +kernel
theorem dX9_again_16 : decode cX9_again 16 = .ok (.iload_n 1, 1) := by decide +kernel
theorem dX9_again_17 : decode cX9_again 17 = .ok (.baload, 1) := by decide +kernel
theorem dX9_again_18 : decode cX9_again 18 = .ok (.ifCond .ne 6, 3) := by decide +kernel
theorem dX9_again_21 : decode cX9_again 21 = .ok (.bipush (-3), 2) := by decide +kernel
theorem dX9_again_23 : decode cX9_again 23 = .ok (.ireturn, 1) := by decide +kernel
theorem dX9_again_24 : decode cX9_again 24 = .ok (.iconst 0, 1) := by decide +kernel
theorem dX9_again_25 : decode cX9_again 25 = .ok (.istore_n 2, 1) := by decide +kernel
theorem dX9_again_26 : decode cX9_again 26 = .ok (.iload_n 2, 1) := by decide +kernel
theorem dX9_again_27 : decode cX9_again 27 = .ok (.bipush 11, 2) := by decide +kernel
theorem dX9_again_29 : decode cX9_again 29 = .ok (.if_icmp .ge 26, 3) := by decide +kernel
theorem dX9_again_32 : decode cX9_again 32 = .ok (.aload_n 0, 1) := by decide +kernel
theorem dX9_again_33 : decode cX9_again 33 = .ok (.getfield 19, 3) := by decide +kernel
theorem dX9_again_36 : decode cX9_again 36 = .ok (.iload_n 2, 1) := by decide +kernel
theorem dX9_again_37 : decode cX9_again 37 = .ok (.aload_n 0, 1) := by decide +kernel
theorem dX9_again_38 : decode cX9_again 38 = .ok (.getfield 42, 3) := by decide +kernel
theorem dX9_again_41 : decode cX9_again 41 = .ok (.bipush 11, 2) := by decide +kernel
theorem dX9_again_43 : decode cX9_again 43 = .ok (.iload_n 1, 1) := by decide +kernel
theorem dX9_again_44 : decode cX9_again 44 = .ok (.imul, 1) := by decide +kernel
theorem dX9_again_45 : decode cX9_again 45 = .ok (.iload_n 2, 1) := by decide +kernel
theorem dX9_again_46 : decode cX9_again 46 = .ok (.iadd, 1) := by decide +kernel
theorem dX9_again_47 : decode cX9_again 47 = .ok (.laload, 1) := by decide +kernel
theorem dX9_again_48 : decode cX9_again 48 = .ok (.lastore, 1) := by decide +kernel
theorem dX9_again_49 : decode cX9_again 49 = .ok (.iinc 2 1, 3) := by decide +kernel
theorem dX9_again_52 : decode cX9_again 52 = .ok (.goto (-26), 3) := by decide +kernel
theorem dX9_again_55 : decode cX9_again 55 = .ok (.iconst 0, 1) := by decide +kernel
theorem dX9_again_56 : decode cX9_again 56 = .ok (.istore_n 2, 1) := by decide +kernel
theorem dX9_again_57 : decode cX9_again 57 = .ok (.iload_n 2, 1) := by decide +kernel
theorem dX9_again_58 : decode cX9_again 58 = .ok (.bipush 9, 2) := by decide +kernel
theorem dX9_again_60 : decode cX9_again 60 = .ok (.if_icmp .ge 26, 3) := by decide +kernel
theorem dX9_again_63 : decode cX9_again 63 = .ok (.aload_n 0, 1) := by decide +kernel
theorem dX9_again_64 : decode cX9_again 64 = .ok (.getfield 23, 3) := by decide +kernel
theorem dX9_again_67 : decode cX9_again 67 = .ok (.iload_n 2, 1) := by decide +kernel
theorem dX9_again_68 : decode cX9_again 68 = .ok (.aload_n 0, 1) := by decide +kernel
theorem dX9_again_69 : decode cX9_again 69 = .ok (.getfield 45, 3) := by decide +kernel
theorem dX9_again_72 : decode cX9_again 72 = .ok (.bipush 9, 2) := by decide +kernel
theorem dX9_again_74 : decode cX9_again 74 = .ok (.iload_n 1, 1) := by decide +kernel
theorem dX9_again_75 : decode cX9_again 75 = .ok (.imul, 1) := by decide +kernel
theorem dX9_again_76 : decode cX9_again 76 = .ok (.iload_n 2, 1) := by decide +kernel
theorem dX9_again_77 : decode cX9_again 77 = .ok (.iadd, 1) := by decide +kernel
theorem dX9_again_78 : decode cX9_again 78 = .ok (.iaload, 1) := by decide +kernel
theorem dX9_again_79 : decode cX9_again 79 = .ok (.iastore, 1) := by decide +kernel
theorem dX9_again_80 : decode cX9_again 80 = .ok (.iinc 2 1, 3) := by decide +kernel
theorem dX9_again_83 : decode cX9_again 83 = .ok (.goto (-26), 3) := by decide +kernel
theorem dX9_again_86 : decode cX9_again 86 = .ok (.aload_n 0, 1) := by decide +kernel
theorem dX9_again_87 : decode cX9_again 87 = .ok (.iconst 0, 1) := by decide +kernel
theorem dX9_again_88 : decode cX9_again 88 = .ok (.putfield 119, 3) := by decide +kernel
theorem dX9_again_91 : decode cX9_again 91 = .ok (.aload_n 0, 1) := by decide +kernel
theorem dX9_again_92 : decode cX9_again 92 = .ok (.getfield 23, 3) := by decide +kernel
theorem dX9_again_95 : decode cX9_again 95 = .ok (.iconst 1, 1) := by decide +kernel
theorem dX9_again_96 : decode cX9_again 96 = .ok (.iaload, 1) := by decide +kernel
theorem dX9_again_97 : decode cX9_again 97 = .ok (.ireturn, 1) := by decide +kernel
theorem dX9_count_0 : decode cX9_count 0 = .ok (.iconst 0, 1) := by decide +kernel
theorem dX9_count_1 : decode cX9_count 1 = .ok (.istore_n 2, 1) := by decide +kernel
theorem dX9_count_2 : decode cX9_count 2 = .ok (.iconst 0, 1) := by decide +kernel
theorem dX9_count_3 : decode cX9_count 3 = .ok (.istore_n 3, 1) := by decide +kernel
theorem dX9_count_4 : decode cX9_count 4 = .ok (.iload_n 3, 1) := by decide +kernel
theorem dX9_count_5 : decode cX9_count 5 = .ok (.bipush 10, 2) := by decide +kernel
theorem dX9_count_7 : decode cX9_count 7 = .ok (.if_icmp .ge 30, 3) := by decide +kernel
theorem dX9_count_10 : decode cX9_count 10 = .ok (.iload_n 2, 1) := by decide +kernel
theorem dX9_count_11 : decode cX9_count 11 = .ok (.aload_n 0, 1) := by decide +kernel
theorem dX9_count_12 : decode cX9_count 12 = .ok (.getfield 19, 3) := by decide +kernel
theorem dX9_count_15 : decode cX9_count 15 = .ok (.iload_n 3, 1) := by decide +kernel
theorem dX9_count_16 : decode cX9_count 16 = .ok (.laload, 1) := by decide +kernel
theorem dX9_count_17 : decode cX9_count 17 = .ok (.lconst 0, 1) := by decide +kernel
theorem dX9_count_18 : decode cX9_count 18 = .ok (.lcmp, 1) := by decide +kernel
theorem dX9_count_19 : decode cX9_count 19 = .ok (.ifCond .le 9, 3) := by decide +kernel
theorem dX9_count_22 : decode cX9_count 22 = .ok (.iconst 1, 1) := by decide +kernel
theorem dX9_count_23 : decode cX9_count 23 = .ok (.iload_n 3, 1) := by decide +kernel
theorem dX9_count_24 : decode cX9_count 24 = .ok (.ishl, 1) := by decide +kernel
theorem dX9_count_25 : decode cX9_count 25 = .ok (.goto 4, 3) := by decide +kernel
theorem dX9_count_28 : decode cX9_count 28 = .ok (.iconst 0, 1) := by decide +kernel
theorem dX9_count_29 : decode cX9_count 29 = .ok (.ior, 1) := by decide +kernel
theorem dX9_count_30 : decode cX9_count 30 = .ok (.istore_n 2, 1) := by decide +kernel
theorem dX9_count_31 : decode cX9_count 31 = .ok (.iinc 3 1, 3) := by decide +kernel
theorem dX9_count_34 : decode cX9_count 34 = .ok (.goto (-30), 3) := by decide +kernel
theorem dX9_count_37 : decode cX9_count 37 = .ok (.iload_n 1, 1) := by decide +kernel
theorem dX9_count_38 : decode cX9_count 38 = .ok (.tableswitch 137 0 11 #[62, 67, 72, 77, 82, 87, 92, 99, 106, 113, 118, 120], 62) := by decide +kernel
theorem dX9_count_100 : decode cX9_count 100 = .ok (.aload_n 0, 1) := by decide +kernel
theorem dX9_count_101 : decode cX9_count 101 = .ok (.getfield 58, 3) := by decide +kernel
theorem dX9_count_104 : decode cX9_count 104 = .ok (.ireturn, 1) := by decide +kernel
theorem dX9_count_105 : decode cX9_count 105 = .ok (.aload_n 0, 1) := by decide +kernel
theorem dX9_count_106 : decode cX9_count 106 = .ok (.getfield 94, 3) := by decide +kernel
theorem dX9_count_109 : decode cX9_count 109 = .ok (.ireturn, 1) := by decide +kernel
theorem dX9_count_110 : decode cX9_count 110 = .ok (.aload_n 0, 1) := by decide +kernel
theorem dX9_count_111 : decode cX9_count 111 = .ok (.getfield 97, 3) := by decide +kernel
theorem dX9_count_114 : decode cX9_count 114 = .ok (.ireturn, 1) := by decide +kernel
theorem dX9_count_115 : decode cX9_count 115 = .ok (.aload_n 0, 1) := by decide +kernel
theorem dX9_count_116 : decode cX9_count 116 = .ok (.getfield 100, 3) := by decide +kernel
theorem dX9_count_119 : decode cX9_count 119 = .ok (.ireturn, 1) := by decide +kernel
theorem dX9_count_120 : decode cX9_count 120 = .ok (.aload_n 0, 1) := by decide +kernel
theorem dX9_count_121 : decode cX9_count 121 = .ok (.getfield 103, 3) := by decide +kernel
theorem dX9_count_124 : decode cX9_count 124 = .ok (.ireturn, 1) := by decide +kernel
theorem dX9_count_125 : decode cX9_count 125 = .ok (.aload_n 0, 1) := by decide +kernel
theorem dX9_count_126 : decode cX9_count 126 = .ok (.getfield 48, 3) := by decide +kernel
theorem dX9_count_129 : decode cX9_count 129 = .ok (.ireturn, 1) := by decide +kernel
theorem dX9_count_130 : decode cX9_count 130 = .ok (.aload_n 0, 1) := by decide +kernel
theorem dX9_count_131 : decode cX9_count 131 = .ok (.getfield 23, 3) := by decide +kernel
theorem dX9_count_134 : decode cX9_count 134 = .ok (.iconst 0, 1) := by decide +kernel
theorem dX9_count_135 : decode cX9_count 135 = .ok (.iaload, 1) := by decide +kernel
theorem dX9_count_136 : decode cX9_count 136 = .ok (.ireturn, 1) := by decide +kernel
theorem dX9_count_137 : decode cX9_count 137 = .ok (.aload_n 0, 1) := by decide +kernel
theorem dX9_count_138 : decode cX9_count 138 = .ok (.getfield 23, 3) := by decide +kernel
theorem dX9_count_141 : decode cX9_count 141 = .ok (.iconst 1, 1) := by decide +kernel
theorem dX9_count_142 : decode cX9_count 142 = .ok (.iaload, 1) := by decide +kernel
theorem dX9_count_143 : decode cX9_count 143 = .ok (.ireturn, 1) := by decide +kernel
theorem dX9_count_144 : decode cX9_count 144 = .ok (.aload_n 0, 1) := by decide +kernel
theorem dX9_count_145 : decode cX9_count 145 = .ok (.getfield 23, 3) := by decide +kernel
theorem dX9_count_148 : decode cX9_count 148 = .ok (.iconst 2, 1) := by decide +kernel
theorem dX9_count_149 : decode cX9_count 149 = .ok (.iaload, 1) := by decide +kernel
theorem dX9_count_150 : decode cX9_count 150 = .ok (.ireturn, 1) := by decide +kernel
theorem dX9_count_151 : decode cX9_count 151 = .ok (.aload_n 0, 1) := by decide +kernel
theorem dX9_count_152 : decode cX9_count 152 = .ok (.getfield 119, 3) := by decide +kernel
theorem dX9_count_155 : decode cX9_count 155 = .ok (.ireturn, 1) := by decide +kernel
theorem dX9_count_156 : decode cX9_count 156 = .ok (.iload_n 2, 1) := by decide +kernel
theorem dX9_count_157 : decode cX9_count 157 = .ok (.ireturn, 1) := by decide +kernel
theorem dX9_count_158 : decode cX9_count 158 = .ok (.aload_n 0, 1) := by decide +kernel
theorem dX9_count_159 : decode cX9_count 159 = .ok (.getfield 112, 3) := by decide +kernel
theorem dX9_count_162 : decode cX9_count 162 = .ok (.ifCond .eq 10, 3) := by decide +kernel
theorem dX9_count_165 : decode cX9_count 165 = .ok (.aload_n 0, 1) := by decide +kernel
theorem dX9_count_166 : decode cX9_count 166 = .ok (.getfield 109, 3) := by decide +kernel
theorem dX9_count_169 : decode cX9_count 169 = .ok (.goto 5, 3) := by decide +kernel
theorem dX9_count_172 : decode cX9_count 172 = .ok (.bipush (-9), 2) := by decide +kernel
theorem dX9_count_174 : decode cX9_count 174 = .ok (.ireturn, 1) := by decide +kernel
theorem dX9_count_175 : decode cX9_count 175 = .ok (.bipush (-2), 2) := by decide +kernel
theorem dX9_count_177 : decode cX9_count 177 = .ok (.ireturn, 1) := by decide +kernel
theorem dJ9_abs_067f4_0 : decode cJ9_abs_067f4 0 = .ok (.lload_n 0, 1) := by decide +kernel
theorem dJ9_abs_067f4_1 : decode cJ9_abs_067f4 1 = .ok (.lconst 0, 1) := by decide +kernel
theorem dJ9_abs_067f4_2 : decode cJ9_abs_067f4 2 = .ok (.lcmp, 1) := by decide +kernel
theorem dJ9_abs_067f4_3 : decode cJ9_abs_067f4 3 = .ok (.ifCond .ge 8, 3) := by decide +kernel
theorem dJ9_abs_067f4_6 : decode cJ9_abs_067f4 6 = .ok (.lload_n 0, 1) := by decide +kernel
theorem dJ9_abs_067f4_7 : decode cJ9_abs_067f4 7 = .ok (.lneg, 1) := by decide +kernel
theorem dJ9_abs_067f4_8 : decode cJ9_abs_067f4 8 = .ok (.goto 4, 3) := by decide +kernel
theorem dJ9_abs_067f4_11 : decode cJ9_abs_067f4 11 = .ok (.lload_n 0, 1) := by decide +kernel
theorem dJ9_abs_067f4_12 : decode cJ9_abs_067f4 12 = .ok (.lreturn, 1) := by decide +kernel
theorem dJ9_max_7cf53_0 : decode cJ9_max_7cf53 0 = .ok (.iload_n 0, 1) := by decide +kernel
theorem dJ9_max_7cf53_1 : decode cJ9_max_7cf53 1 = .ok (.iload_n 1, 1) := by decide +kernel
theorem dJ9_max_7cf53_2 : decode cJ9_max_7cf53 2 = .ok (.if_icmp .lt 7, 3) := by decide +kernel
theorem dJ9_max_7cf53_5 : decode cJ9_max_7cf53 5 = .ok (.iload_n 0, 1) := by decide +kernel
theorem dJ9_max_7cf53_6 : decode cJ9_max_7cf53 6 = .ok (.goto 4, 3) := by decide +kernel
theorem dJ9_max_7cf53_9 : decode cJ9_max_7cf53 9 = .ok (.iload_n 1, 1) := by decide +kernel
theorem dJ9_max_7cf53_10 : decode cJ9_max_7cf53 10 = .ok (.ireturn, 1) := by decide +kernel
theorem dJ9_min_7cf53_0 : decode cJ9_min_7cf53 0 = .ok (.iload_n 0, 1) := by decide +kernel
theorem dJ9_min_7cf53_1 : decode cJ9_min_7cf53 1 = .ok (.iload_n 1, 1) := by decide +kernel
theorem dJ9_min_7cf53_2 : decode cJ9_min_7cf53 2 = .ok (.if_icmp .gt 7, 3) := by decide +kernel
theorem dJ9_min_7cf53_5 : decode cJ9_min_7cf53 5 = .ok (.iload_n 0, 1) := by decide +kernel
theorem dJ9_min_7cf53_6 : decode cJ9_min_7cf53 6 = .ok (.goto 4, 3) := by decide +kernel
theorem dJ9_min_7cf53_9 : decode cJ9_min_7cf53 9 = .ok (.iload_n 1, 1) := by decide +kernel
theorem dJ9_min_7cf53_10 : decode cJ9_min_7cf53 10 = .ok (.ireturn, 1) := by decide +kernel
set_option maxRecDepth 20000 in
theorem ggL_law_X8_init : GoodIn wsL_law wsX8_init := goodIn_r _ [9, 10, 11, 12, 13, 14, 15, 16, 17, 18, 19, 20, 21, 22, 23, 24, 25, 26, 27, 28, 29, 30, 31, 32, 33, 34, 35, 36, 37, 38, 39, 40, 41, 42, 43, 44, 45, 46, 47, 48, 49, 50, 51, 52, 53, 54, 55, 56, 57, 58, 59, 60, 61, 62, 63, 64, 65, 66, 67, 68, 69, 70, 71, 72, 73, 74, 75, 76, 77, 78, 79, 80, 81, 82, 83, 84, 85, 86, 87, 88, 89, 768, 769, 770, 771, 772, 773, 729, 730, 731, 732, 733, 734, 735, 736, 737, 738, 774, 775, 776, 777, 778, 779, 780, 781, 782, 783, 784, 785, 786, 787, 788, 789, 790, 791, 792, 793, 794, 795, 796, 797] (by decide +kernel) (by decide +kernel)
set_option maxRecDepth 20000 in
theorem gL_law_X8_init : GoodIn wsL_law (wsX8_init) := ggL_law_X8_init
set_option maxRecDepth 20000 in
theorem ggL_law_X9_init : GoodIn wsL_law wsX9_init := goodIn_r _ [92, 93, 11, 12, 43, 94, 95, 96, 56, 97, 98, 99, 100, 101, 102, 103, 104, 105, 106, 107, 739, 740, 741, 742, 743, 744, 745, 746, 747, 748, 749, 750, 751, 752, 753, 754, 755, 756, 757, 758, 759, 760, 761, 762, 763, 764, 765, 766, 767] (by decide +kernel) (by decide +kernel)
set_option maxRecDepth 20000 in
theorem gL_law_X9_init : GoodIn wsL_law (wsX9_init) := ggL_law_X9_init
set_option maxRecDepth 20000 in
theorem ggL_law_X8_write : GoodIn wsL_law wsX8_write := goodIn_r _ [111, 16, 112, 113, 2, 114, 115, 116, 117, 15, 118, 119, 44, 120, 121, 122, 123, 729, 730, 731, 732, 733, 734, 735, 736, 737, 738, 768, 769, 770, 771, 772, 773] (by decide +kernel) (by decide +kernel)
set_option maxRecDepth 20000 in
theorem gL_law_X8_write : GoodIn wsL_law (wsV RL 13 RX8 yX8_write wsX8_write) := goodIn_app (goodIn_of _ (by decide +kernel)) ggL_law_X8_write
set_option maxRecDepth 20000 in
theorem ggL_law_X9_write : GoodIn wsL_law wsX9_write := goodIn_r _ [127, 128, 129, 99, 130, 131, 5, 132, 739, 740, 741, 742, 743, 744, 745, 746, 747, 748, 749, 750, 751, 752, 753, 754, 755, 756, 757, 758, 759, 760, 761, 762, 763, 764, 765, 766, 767] (by decide +kernel) (by decide +kernel)
set_option maxRecDepth 20000 in
theorem gL_law_X9_write : GoodIn wsL_law (wsV RL 17 RX9 yX9_write wsX9_write) := goodIn_app (goodIn_of _ (by decide +kernel)) ggL_law_X9_write
set_option maxRecDepth 20000 in
theorem ggL_law_X8_wipe : GoodIn wsL_law wsX8_wipe := goodIn_r _ [136, 16, 137, 138, 139, 15, 140, 119, 729, 730, 731, 732, 733, 734, 735, 736, 737, 738, 768, 769, 770, 771, 772, 773] (by decide +kernel) (by decide +kernel)
set_option maxRecDepth 20000 in
theorem gL_law_X8_wipe : GoodIn wsL_law (wsV RL 18 RX8 yX8_wipe wsX8_wipe) := goodIn_app (goodIn_of _ (by decide +kernel)) ggL_law_X8_wipe
set_option maxRecDepth 20000 in
theorem ggL_law_X9_wipe : GoodIn wsL_law wsX9_wipe := goodIn_r _ [144, 129, 739, 740, 741, 742, 743, 744, 745, 746, 747, 748, 749, 750, 751, 752, 753, 754, 755, 756, 757, 758, 759, 760, 761, 762, 763, 764, 765, 766, 767] (by decide +kernel) (by decide +kernel)
set_option maxRecDepth 20000 in
theorem gL_law_X9_wipe : GoodIn wsL_law (wsV RL 22 RX9 yX9_wipe wsX9_wipe) := goodIn_app (goodIn_of _ (by decide +kernel)) ggL_law_X9_wipe
set_option maxRecDepth 20000 in
theorem ggL_law_X8_fault : GoodIn wsL_law wsX8_fault := goodIn_r _ [148, 16, 149, 150, 151, 15, 152, 153, 154, 155, 156, 119, 157, 158, 159, 160, 161, 162, 163, 164, 165, 166, 167, 168, 44, 169, 170, 171, 172, 173, 174, 175, 176, 177, 178, 179, 180, 729, 730, 731, 732, 733, 734, 735, 736, 737, 738, 768, 769, 770, 771, 772, 773] (by decide +kernel) (by decide +kernel)
set_option maxRecDepth 20000 in
theorem gL_law_X8_fault : GoodIn wsL_law (wsV RL 23 RX8 yX8_fault wsX8_fault) := goodIn_app (goodIn_of _ (by decide +kernel)) ggL_law_X8_fault
set_option maxRecDepth 20000 in
theorem ggL_law_X9_fault : GoodIn wsL_law wsX9_fault := goodIn_r _ [184, 185, 186, 187, 5, 188, 189, 190, 191, 96, 129, 99, 95, 192, 193, 194, 195, 130, 131, 132, 196, 197, 198, 199, 200, 201, 202, 203, 204, 205, 206, 207, 208, 209, 739, 740, 741, 742, 743, 744, 745, 746, 747, 748, 749, 750, 751, 752, 753, 754, 755, 756, 757, 758, 759, 760, 761, 762, 763, 764, 765, 766, 767] (by decide +kernel) (by decide +kernel)
set_option maxRecDepth 20000 in
theorem gL_law_X9_fault : GoodIn wsL_law (wsV RL 26 RX9 yX9_fault wsX9_fault) := goodIn_app (goodIn_of _ (by decide +kernel)) ggL_law_X9_fault
set_option maxRecDepth 20000 in
theorem ggL_law_X8_search : GoodIn wsL_law wsX8_search := goodIn_r _ [213, 16, 20, 24, 214, 215, 149, 150, 151, 15, 152, 153, 154, 155, 156, 119, 157, 158, 159, 160, 161, 162, 163, 164, 165, 166, 167, 168, 44, 169, 170, 171, 172, 173, 174, 175, 176, 177, 178, 179, 180, 216, 217, 218, 19, 219, 220, 221, 222, 223, 224, 50, 51, 225, 226, 227, 228, 229, 230, 49, 231, 232, 233, 234, 235, 236, 237, 238, 239, 240, 241, 242, 23, 243, 57, 244, 245, 246, 247, 248, 249, 250, 251, 252, 253, 254, 255, 256, 257, 258, 113, 2, 114, 259, 729, 730, 731, 732, 733, 734, 735, 736, 737, 738, 768, 769, 770, 771, 772, 773, 774, 775, 776, 777, 778, 779, 780, 781, 782, 783, 784, 785, 786, 787, 788] (by decide +kernel) (by decide +kernel)
set_option maxRecDepth 20000 in
theorem gL_law_X8_search : GoodIn wsL_law (wsV RL 27 RX8 yX8_search wsX8_search) := goodIn_app (goodIn_of _ (by decide +kernel)) ggL_law_X8_search
set_option maxRecDepth 20000 in
theorem ggL_law_X9_search : GoodIn wsL_law wsX9_search := goodIn_r _ [263, 95, 264, 265, 266, 267, 268, 107, 191, 269, 270, 200, 271, 94, 96, 97, 98, 272, 104, 185, 186, 187, 5, 188, 189, 190, 129, 99, 192, 193, 194, 195, 130, 131, 132, 196, 197, 198, 199, 201, 202, 203, 204, 205, 206, 207, 208, 209, 273, 274, 275, 276, 739, 740, 741, 742, 743, 744, 745, 746, 747, 748, 749, 750, 751, 752, 753, 754, 755, 756, 757, 758, 759, 760, 761, 762, 763, 764, 765, 766, 767] (by decide +kernel) (by decide +kernel)
set_option maxRecDepth 20000 in
theorem gL_law_X9_search : GoodIn wsL_law (wsV RL 30 RX9 yX9_search wsX9_search) := goodIn_app (goodIn_of _ (by decide +kernel)) ggL_law_X9_search
set_option maxRecDepth 20000 in
theorem ggL_law_X8_look : GoodIn wsL_law wsX8_look := goodIn_r _ [280, 24, 20, 112, 113, 2, 114, 281, 282, 283, 284, 29, 214, 285, 286, 287, 28, 288, 289, 290, 291, 292, 69, 293, 294, 295, 23, 296, 57, 58, 59, 244, 245, 246, 297, 298, 299, 300, 301, 302, 303, 304, 305, 306, 307, 308, 309, 310, 311, 312, 313, 314, 315, 316, 317, 318, 319, 320, 321, 322, 323, 324, 66, 325, 326, 65, 67, 327, 328, 329, 19, 330, 223, 222, 331, 332, 333, 334, 335, 336, 337, 338, 339, 729, 730, 731, 732, 733, 734, 735, 736, 737, 738, 783, 784, 785, 786, 787, 788, 774, 775, 776, 777, 778, 779, 780, 781, 782, 789] (by decide +kernel) (by decide +kernel)
set_option maxRecDepth 20000 in
theorem gL_law_X8_look : GoodIn wsL_law (wsV RL 31 RX8 yX8_look wsX8_look) := goodIn_app (goodIn_of _ (by decide +kernel)) ggL_law_X8_look
set_option maxRecDepth 20000 in
theorem ggL_law_X9_look : GoodIn wsL_law wsX9_look := goodIn_r _ [343, 344, 98, 107, 130, 131, 5, 132, 345, 346, 347, 348, 101, 272, 97, 102, 349, 350, 351, 352, 353, 354, 355, 267, 266, 356, 357, 358, 359, 100, 264, 265, 360, 739, 740, 741, 742, 743, 744, 745, 746, 747, 748, 749, 750, 751, 752, 753, 754, 755, 756, 757, 758, 759, 760, 761, 762, 763, 764, 765, 766, 767] (by decide +kernel) (by decide +kernel)
set_option maxRecDepth 20000 in
theorem gL_law_X9_look : GoodIn wsL_law (wsV RL 34 RX9 yX9_look wsX9_look) := goodIn_app (goodIn_of _ (by decide +kernel)) ggL_law_X9_look
set_option maxRecDepth 20000 in
theorem ggL_law_X8_lookAboard : GoodIn wsL_law wsX8_lookAboard := goodIn_r _ [364, 24, 20, 281, 282, 283, 2, 284, 29, 214, 285, 286, 287, 28, 288, 289, 290, 291, 292, 69, 293, 294, 295, 23, 296, 57, 58, 59, 244, 245, 246, 297, 298, 299, 300, 301, 302, 303, 304, 305, 306, 307, 308, 309, 310, 311, 312, 313, 314, 315, 316, 317, 318, 319, 320, 321, 322, 323, 324, 66, 325, 326, 65, 67, 327, 328, 329, 19, 330, 223, 222, 331, 332, 333, 334, 335, 336, 337, 338, 339, 729, 730, 731, 732, 733, 734, 735, 736, 737, 738, 783, 784, 785, 786, 787, 788, 774, 775, 776, 777, 778, 779, 780, 781, 782, 789] (by decide +kernel) (by decide +kernel)
set_option maxRecDepth 20000 in
theorem gL_law_X8_lookAboard : GoodIn wsL_law (wsV RL 35 RX8 yX8_lookAboard wsX8_lookAboard) := goodIn_app (goodIn_of _ (by decide +kernel)) ggL_law_X8_lookAboard
set_option maxRecDepth 20000 in
theorem ggL_law_X9_lookAboard : GoodIn wsL_law wsX9_lookAboard := goodIn_r _ [368, 98, 107, 345, 346, 347, 5, 348, 101, 272, 97, 102, 352, 353, 354, 355, 267, 266, 356, 357, 358, 359, 100, 264, 265, 360, 349, 350, 351, 739, 740, 741, 742, 743, 744, 745, 746, 747, 748, 749, 750, 751, 752, 753, 754, 755, 756, 757, 758, 759, 760, 761, 762, 763, 764, 765, 766, 767] (by decide +kernel) (by decide +kernel)
set_option maxRecDepth 20000 in
theorem gL_law_X9_lookAboard : GoodIn wsL_law (wsV RL 38 RX9 yX9_lookAboard wsX9_lookAboard) := goodIn_app (goodIn_of _ (by decide +kernel)) ggL_law_X9_lookAboard
set_option maxRecDepth 20000 in
theorem ggL_law_X8_hear : GoodIn wsL_law wsX8_hear := goodIn_r _ [372, 24, 373, 374, 2, 375, 112, 113, 114, 281, 282, 283, 284, 29, 214, 285, 286, 287, 28, 288, 289, 290, 291, 292, 69, 293, 294, 295, 23, 296, 57, 58, 59, 244, 245, 246, 297, 298, 299, 300, 301, 302, 303, 304, 305, 306, 307, 308, 376, 377, 378, 379, 380, 729, 730, 731, 732, 733, 734, 735, 736, 737, 738, 783, 784, 785, 786, 787, 788, 789] (by decide +kernel) (by decide +kernel)
set_option maxRecDepth 20000 in
theorem gL_law_X8_hear : GoodIn wsL_law (wsV RL 39 RX8 yX8_hear wsX8_hear) := goodIn_app (goodIn_of _ (by decide +kernel)) ggL_law_X8_hear
set_option maxRecDepth 20000 in
theorem ggL_law_X9_hear : GoodIn wsL_law wsX9_hear := goodIn_r _ [384, 98, 97, 385, 386, 387, 5, 388, 209, 130, 131, 132, 345, 346, 347, 348, 101, 272, 102, 739, 740, 741, 742, 743, 744, 745, 746, 747, 748, 749, 750, 751, 752, 753, 754, 755, 756, 757, 758, 759, 760, 761, 762, 763, 764, 765, 766, 767] (by decide +kernel) (by decide +kernel)
set_option maxRecDepth 20000 in
theorem gL_law_X9_hear : GoodIn wsL_law (wsV RL 43 RX9 yX9_hear wsX9_hear) := goodIn_app (goodIn_of _ (by decide +kernel)) ggL_law_X9_hear
set_option maxRecDepth 20000 in
theorem ggL_law_X8_undo : GoodIn wsL_law wsX8_undo := goodIn_r _ [392, 214, 29, 24, 393, 394, 395, 28, 396, 289, 290, 291, 292, 69, 293, 294, 295, 23, 296, 57, 58, 59, 244, 245, 246, 297, 298, 299, 300, 301, 302, 303, 304, 305, 306, 307, 308, 729, 730, 731, 732, 733, 734, 735, 736, 737, 738, 789, 783, 784, 785, 786, 787, 788] (by decide +kernel) (by decide +kernel)
set_option maxRecDepth 20000 in
theorem gL_law_X8_undo : GoodIn wsL_law (wsV RL 44 RX8 yX8_undo wsX8_undo) := goodIn_app (goodIn_of _ (by decide +kernel)) ggL_law_X8_undo
set_option maxRecDepth 20000 in
theorem ggL_law_X9_undo : GoodIn wsL_law wsX9_undo := goodIn_r _ [400, 272, 97, 101, 98, 102, 739, 740, 741, 742, 743, 744, 745, 746, 747, 748, 749, 750, 751, 752, 753, 754, 755, 756, 757, 758, 759, 760, 761, 762, 763, 764, 765, 766, 767] (by decide +kernel) (by decide +kernel)
set_option maxRecDepth 20000 in
theorem gL_law_X9_undo : GoodIn wsL_law (wsV RL 47 RX9 yX9_undo wsX9_undo) := goodIn_app (goodIn_of _ (by decide +kernel)) ggL_law_X9_undo
set_option maxRecDepth 20000 in
theorem ggL_law_X8_weight : GoodIn wsL_law wsX8_weight := goodIn_r _ [404, 24, 405, 112, 113, 2, 114, 406, 298, 299, 23, 300, 57, 729, 730, 731, 732, 733, 734, 735, 736, 737, 738, 783, 784, 785, 786, 787, 788] (by decide +kernel) (by decide +kernel)
set_option maxRecDepth 20000 in
theorem gL_law_X8_weight : GoodIn wsL_law (wsV RL 48 RX8 yX8_weight wsX8_weight) := goodIn_app (goodIn_of _ (by decide +kernel)) ggL_law_X8_weight
set_option maxRecDepth 20000 in
theorem ggL_law_X9_weight : GoodIn wsL_law wsX9_weight := goodIn_r _ [410, 360, 97, 411, 130, 131, 5, 132, 739, 740, 741, 742, 743, 744, 745, 746, 747, 748, 749, 750, 751, 752, 753, 754, 755, 756, 757, 758, 759, 760, 761, 762, 763, 764, 765, 766, 767] (by decide +kernel) (by decide +kernel)
set_option maxRecDepth 20000 in
theorem gL_law_X9_weight : GoodIn wsL_law (wsV RL 52 RX9 yX9_weight wsX9_weight) := goodIn_app (goodIn_of _ (by decide +kernel)) ggL_law_X9_weight
set_option maxRecDepth 20000 in
theorem ggL_law_X8_likely : GoodIn wsL_law wsX8_likely := goodIn_r _ [415, 405, 24, 416, 112, 113, 2, 114, 417, 418, 419, 23, 420, 57, 406, 298, 299, 300, 421, 422, 423, 424, 425, 426, 66, 427, 428, 429, 430, 729, 730, 731, 732, 733, 734, 735, 736, 737, 738, 783, 784, 785, 786, 787, 788] (by decide +kernel) (by decide +kernel)
set_option maxRecDepth 20000 in
theorem gL_law_X8_likely : GoodIn wsL_law (wsV RL 53 RX8 yX8_likely wsX8_likely) := goodIn_app (goodIn_of _ (by decide +kernel)) ggL_law_X8_likely
set_option maxRecDepth 20000 in
theorem ggL_law_X9_likely : GoodIn wsL_law wsX9_likely := goodIn_r _ [434, 360, 411, 435, 97, 130, 131, 5, 132, 436, 437, 438, 439, 440, 441, 442, 739, 740, 741, 742, 743, 744, 745, 746, 747, 748, 749, 750, 751, 752, 753, 754, 755, 756, 757, 758, 759, 760, 761, 762, 763, 764, 765, 766, 767] (by decide +kernel) (by decide +kernel)
set_option maxRecDepth 20000 in
theorem gL_law_X9_likely : GoodIn wsL_law (wsV RL 57 RX9 yX9_likely wsX9_likely) := goodIn_app (goodIn_of _ (by decide +kernel)) ggL_law_X9_likely
set_option maxRecDepth 20000 in
theorem ggL_law_X8_likeliest : GoodIn wsL_law wsX8_likeliest := goodIn_r _ [446, 24, 406, 298, 299, 23, 300, 57, 729, 730, 731, 732, 733, 734, 735, 736, 737, 738, 783, 784, 785, 786, 787, 788] (by decide +kernel) (by decide +kernel)
set_option maxRecDepth 20000 in
theorem gL_law_X8_likeliest : GoodIn wsL_law (wsV RL 58 RX8 yX8_likeliest wsX8_likeliest) := goodIn_app (goodIn_of _ (by decide +kernel)) ggL_law_X8_likeliest
set_option maxRecDepth 20000 in
theorem ggL_law_X9_likeliest : GoodIn wsL_law wsX9_likeliest := goodIn_r _ [450, 97, 739, 740, 741, 742, 743, 744, 745, 746, 747, 748, 749, 750, 751, 752, 753, 754, 755, 756, 757, 758, 759, 760, 761, 762, 763, 764, 765, 766, 767] (by decide +kernel) (by decide +kernel)
set_option maxRecDepth 20000 in
theorem gL_law_X9_likeliest : GoodIn wsL_law (wsV RL 61 RX9 yX9_likeliest wsX9_likeliest) := goodIn_app (goodIn_of _ (by decide +kernel)) ggL_law_X9_likeliest
set_option maxRecDepth 20000 in
theorem ggL_law_X8_by : GoodIn wsL_law wsX8_by := goodIn_r _ [454, 405, 416, 24, 455, 112, 113, 2, 114, 456, 457, 458, 459, 460, 461, 462, 463, 464, 465, 466, 467, 468, 469, 20, 417, 418, 419, 23, 420, 57, 470, 471, 472, 473, 25, 474, 294, 295, 296, 58, 59, 244, 245, 246, 297, 298, 299, 300, 301, 302, 303, 304, 305, 306, 307, 308, 475, 476, 477, 478, 317, 318, 319, 320, 321, 322, 323, 324, 66, 325, 326, 65, 67, 327, 328, 329, 19, 330, 223, 222, 309, 310, 311, 312, 313, 314, 315, 316, 331, 332, 333, 334, 335, 336, 337, 338, 339, 421, 422, 423, 424, 425, 426, 427, 428, 429, 430, 729, 730, 731, 732, 733, 734, 735, 736, 737, 738, 783, 784, 785, 786, 787, 788, 774, 775, 776, 777, 778, 779, 780, 781, 782] (by decide +kernel) (by decide +kernel)
set_option maxRecDepth 20000 in
theorem gL_law_X8_by : GoodIn wsL_law (wsV RL 62 RX8 yX8_by wsX8_by) := goodIn_app (goodIn_of _ (by decide +kernel)) ggL_law_X8_by
set_option maxRecDepth 20000 in
theorem ggL_law_X9_by : GoodIn wsL_law wsX9_by := goodIn_r _ [482, 411, 435, 483, 484, 5, 485, 486, 130, 131, 132, 487, 488, 489, 490, 491, 492, 493, 98, 107, 436, 437, 438, 439, 97, 494, 495, 496, 497, 498, 360, 499, 500, 501, 502, 349, 350, 351, 352, 353, 354, 355, 267, 266, 356, 357, 358, 359, 100, 264, 265, 503, 504, 505, 506, 507, 508, 509, 440, 441, 442, 739, 740, 741, 742, 743, 744, 745, 746, 747, 748, 749, 750, 751, 752, 753, 754, 755, 756, 757, 758, 759, 760, 761, 762, 763, 764, 765, 766, 767] (by decide +kernel) (by decide +kernel)
set_option maxRecDepth 20000 in
theorem gL_law_X9_by : GoodIn wsL_law (wsV RL 66 RX9 yX9_by wsX9_by) := goodIn_app (goodIn_of _ (by decide +kernel)) ggL_law_X9_by
set_option maxRecDepth 20000 in
theorem ggL_law_X8_best : GoodIn wsL_law wsX8_best := goodIn_r _ [513, 405, 416, 34, 20, 24, 455, 112, 113, 2, 114, 466, 467, 468, 469, 417, 418, 419, 23, 420, 57, 514, 515, 516, 33, 517, 518, 80, 81, 76, 519, 520, 521, 79, 522, 523, 524, 525, 526, 286, 287, 28, 288, 289, 290, 291, 292, 69, 293, 294, 295, 296, 58, 59, 244, 245, 246, 297, 298, 299, 300, 301, 302, 303, 304, 305, 306, 307, 308, 527, 528, 529, 530, 531, 532, 533, 534, 476, 477, 478, 317, 318, 319, 320, 321, 322, 323, 324, 66, 325, 326, 65, 67, 327, 328, 329, 19, 330, 223, 222, 535, 536, 537, 538, 539, 540, 310, 311, 312, 313, 314, 315, 316, 331, 332, 333, 334, 335, 336, 337, 338, 339, 541, 542, 543, 544, 460, 461, 462, 421, 422, 423, 424, 425, 426, 427, 428, 429, 430, 729, 730, 731, 732, 733, 734, 735, 736, 737, 738, 796, 797, 783, 784, 785, 786, 787, 788, 774, 775, 776, 777, 778, 779, 780, 781, 782, 790, 791, 792, 793, 794, 789] (by decide +kernel) (by decide +kernel)
set_option maxRecDepth 20000 in
theorem gL_law_X8_best : GoodIn wsL_law (wsV RL 67 RX8 yX8_best wsX8_best) := goodIn_app (goodIn_of _ (by decide +kernel)) ggL_law_X8_best
set_option maxRecDepth 20000 in
theorem ggL_law_X9_best : GoodIn wsL_law wsX9_best := goodIn_r _ [548, 486, 411, 435, 130, 131, 5, 132, 490, 491, 492, 493, 98, 107, 436, 437, 438, 439, 97, 549, 550, 551, 552, 553, 554, 487, 488, 489, 483, 484, 485, 494, 495, 496, 497, 498, 360, 499, 500, 501, 502, 349, 350, 351, 352, 353, 354, 355, 267, 266, 356, 357, 358, 359, 100, 264, 265, 503, 504, 505, 506, 507, 508, 509, 440, 441, 442, 739, 740, 741, 742, 743, 744, 745, 746, 747, 748, 749, 750, 751, 752, 753, 754, 755, 756, 757, 758, 759, 760, 761, 762, 763, 764, 765, 766, 767] (by decide +kernel) (by decide +kernel)
set_option maxRecDepth 20000 in
theorem gL_law_X9_best : GoodIn wsL_law (wsV RL 70 RX9 yX9_best wsX9_best) := goodIn_app (goodIn_of _ (by decide +kernel)) ggL_law_X9_best
set_option maxRecDepth 20000 in
theorem ggL_law_X8_bestRow : GoodIn wsL_law wsX8_bestRow := goodIn_r _ [558, 34, 20, 24, 112, 113, 2, 114, 466, 467, 468, 469, 417, 418, 419, 23, 420, 57, 514, 515, 516, 33, 517, 518, 80, 81, 76, 519, 520, 521, 79, 522, 523, 524, 525, 526, 286, 287, 28, 288, 289, 290, 291, 292, 69, 293, 294, 295, 296, 58, 59, 244, 245, 246, 297, 298, 299, 300, 301, 302, 303, 304, 305, 306, 307, 308, 527, 528, 529, 530, 531, 532, 533, 534, 476, 477, 478, 317, 318, 319, 320, 321, 322, 323, 324, 66, 325, 326, 65, 67, 327, 328, 329, 19, 330, 223, 222, 535, 536, 537, 538, 539, 540, 310, 311, 312, 313, 314, 315, 316, 331, 332, 333, 334, 335, 336, 337, 338, 339, 541, 542, 543, 544, 729, 730, 731, 732, 733, 734, 735, 736, 737, 738, 796, 797, 783, 784, 785, 786, 787, 788, 774, 775, 776, 777, 778, 779, 780, 781, 782, 790, 791, 792, 793, 794, 789] (by decide +kernel) (by decide +kernel)
set_option maxRecDepth 20000 in
theorem gL_law_X8_bestRow : GoodIn wsL_law (wsV RL 71 RX8 yX8_bestRow wsX8_bestRow) := goodIn_app (goodIn_of _ (by decide +kernel)) ggL_law_X8_bestRow
set_option maxRecDepth 20000 in
theorem ggL_law_X9_bestRow : GoodIn wsL_law wsX9_bestRow := goodIn_r _ [562, 486, 554, 130, 131, 5, 132, 490, 491, 492, 493, 98, 107, 436, 437, 438, 439, 97, 549, 550, 551, 552, 553, 487, 488, 489, 483, 484, 485, 494, 495, 496, 497, 498, 360, 499, 500, 501, 502, 349, 350, 351, 352, 353, 354, 355, 267, 266, 356, 357, 358, 359, 100, 264, 265, 739, 740, 741, 742, 743, 744, 745, 746, 747, 748, 749, 750, 751, 752, 753, 754, 755, 756, 757, 758, 759, 760, 761, 762, 763, 764, 765, 766, 767] (by decide +kernel) (by decide +kernel)
set_option maxRecDepth 20000 in
theorem gL_law_X9_bestRow : GoodIn wsL_law (wsV RL 74 RX9 yX9_bestRow wsX9_bestRow) := goodIn_app (goodIn_of _ (by decide +kernel)) ggL_law_X9_bestRow
set_option maxRecDepth 20000 in
theorem ggL_law_X8_soon : GoodIn wsL_law wsX8_soon := goodIn_r _ [566, 24, 34, 20, 459, 455, 112, 113, 2, 114, 417, 418, 419, 23, 420, 57, 466, 467, 468, 469, 514, 515, 516, 33, 517, 518, 80, 81, 76, 519, 520, 521, 79, 522, 523, 524, 525, 526, 286, 287, 28, 288, 289, 290, 291, 292, 69, 293, 294, 295, 296, 58, 59, 244, 245, 246, 297, 298, 299, 300, 301, 302, 303, 304, 305, 306, 307, 308, 527, 528, 529, 530, 531, 532, 533, 534, 476, 477, 478, 317, 318, 319, 320, 321, 322, 323, 324, 66, 325, 326, 65, 67, 327, 328, 329, 19, 330, 223, 222, 535, 536, 537, 538, 539, 540, 310, 311, 312, 313, 314, 315, 316, 331, 332, 333, 334, 335, 336, 337, 338, 339, 541, 542, 543, 544, 460, 461, 462, 729, 730, 731, 732, 733, 734, 735, 736, 737, 738, 796, 797, 783, 784, 785, 786, 787, 788, 774, 775, 776, 777, 778, 779, 780, 781, 782, 790, 791, 792, 793, 794, 789] (by decide +kernel) (by decide +kernel)
set_option maxRecDepth 20000 in
theorem gL_law_X8_soon : GoodIn wsL_law (wsV RL 75 RX8 yX8_soon wsX8_soon) := goodIn_app (goodIn_of _ (by decide +kernel)) ggL_law_X8_soon
set_option maxRecDepth 20000 in
theorem ggL_law_X9_soon : GoodIn wsL_law wsX9_soon := goodIn_r _ [570, 360, 130, 131, 5, 132, 436, 437, 438, 439, 97, 490, 491, 492, 493, 98, 107, 549, 550, 551, 552, 553, 554, 487, 488, 489, 483, 484, 485, 486, 494, 495, 496, 497, 498, 499, 500, 501, 502, 349, 350, 351, 352, 353, 354, 355, 267, 266, 356, 357, 358, 359, 100, 264, 265, 503, 504, 505, 506, 739, 740, 741, 742, 743, 744, 745, 746, 747, 748, 749, 750, 751, 752, 753, 754, 755, 756, 757, 758, 759, 760, 761, 762, 763, 764, 765, 766, 767] (by decide +kernel) (by decide +kernel)
set_option maxRecDepth 20000 in
theorem gL_law_X9_soon : GoodIn wsL_law (wsV RL 78 RX9 yX9_soon wsX9_soon) := goodIn_app (goodIn_of _ (by decide +kernel)) ggL_law_X9_soon
set_option maxRecDepth 20000 in
theorem ggL_law_X8_first : GoodIn wsL_law wsX8_first := goodIn_r _ [574, 405, 416, 34, 20, 24, 455, 112, 113, 2, 114, 466, 467, 468, 469, 417, 418, 419, 23, 420, 57, 514, 515, 516, 33, 517, 518, 80, 81, 76, 519, 520, 521, 79, 522, 523, 524, 525, 526, 286, 287, 28, 288, 289, 290, 291, 292, 69, 293, 294, 295, 296, 58, 59, 244, 245, 246, 297, 298, 299, 300, 301, 302, 303, 304, 305, 306, 307, 308, 527, 528, 529, 530, 531, 532, 533, 534, 476, 477, 478, 317, 318, 319, 320, 321, 322, 323, 324, 66, 325, 326, 65, 67, 327, 328, 329, 19, 330, 223, 222, 535, 536, 537, 538, 539, 540, 310, 311, 312, 313, 314, 315, 316, 331, 332, 333, 334, 335, 336, 337, 338, 339, 460, 461, 462, 421, 422, 423, 424, 425, 426, 427, 428, 429, 430, 729, 730, 731, 732, 733, 734, 735, 736, 737, 738, 790, 791, 792, 793, 794, 796, 797, 783, 784, 785, 786, 787, 788, 774, 775, 776, 777, 778, 779, 780, 781, 782, 789] (by decide +kernel) (by decide +kernel)
set_option maxRecDepth 20000 in
theorem gL_law_X8_first : GoodIn wsL_law (wsV RL 79 RX8 yX8_first wsX8_first) := goodIn_app (goodIn_of _ (by decide +kernel)) ggL_law_X8_first
set_option maxRecDepth 20000 in
theorem ggL_law_X9_first : GoodIn wsL_law wsX9_first := goodIn_r _ [578, 486, 411, 435, 130, 131, 5, 132, 490, 491, 492, 493, 98, 107, 436, 437, 438, 439, 97, 549, 550, 551, 552, 553, 554, 487, 488, 489, 483, 484, 485, 494, 495, 496, 497, 498, 360, 499, 500, 501, 502, 349, 350, 351, 352, 353, 354, 355, 267, 266, 356, 357, 358, 359, 100, 264, 265, 503, 504, 505, 506, 507, 508, 509, 440, 441, 442, 739, 740, 741, 742, 743, 744, 745, 746, 747, 748, 749, 750, 751, 752, 753, 754, 755, 756, 757, 758, 759, 760, 761, 762, 763, 764, 765, 766, 767] (by decide +kernel) (by decide +kernel)
set_option maxRecDepth 20000 in
theorem gL_law_X9_first : GoodIn wsL_law (wsV RL 82 RX9 yX9_first wsX9_first) := goodIn_app (goodIn_of _ (by decide +kernel)) ggL_law_X9_first
set_option maxRecDepth 20000 in
theorem ggL_law_X8_withSecond : GoodIn wsL_law wsX8_withSecond := goodIn_r _ [582, 405, 20, 416, 34, 24, 583, 112, 113, 2, 114, 466, 467, 468, 469, 417, 418, 419, 23, 420, 57, 584, 585, 586, 33, 587, 518, 82, 76, 519, 520, 521, 79, 522, 523, 524, 525, 526, 286, 287, 28, 288, 289, 290, 291, 292, 69, 293, 294, 295, 296, 58, 59, 244, 245, 246, 297, 298, 299, 300, 301, 302, 303, 304, 305, 306, 307, 308, 588, 589, 590, 591, 592, 531, 532, 533, 321, 322, 323, 324, 66, 325, 326, 65, 67, 539, 593, 314, 315, 316, 317, 318, 319, 320, 327, 328, 329, 19, 330, 223, 222, 331, 332, 333, 334, 335, 594, 595, 535, 536, 537, 538, 596, 337, 338, 339, 460, 461, 462, 421, 422, 423, 424, 425, 426, 427, 428, 429, 430, 729, 730, 731, 732, 733, 734, 735, 736, 737, 738, 774, 775, 776, 777, 778, 779, 780, 781, 782, 790, 791, 792, 793, 794, 796, 797, 783, 784, 785, 786, 787, 788, 789] (by decide +kernel) (by decide +kernel)
set_option maxRecDepth 20000 in
theorem gL_law_X8_withSecond : GoodIn wsL_law (wsV RL 83 RX8 yX8_withSecond wsX8_withSecond) := goodIn_app (goodIn_of _ (by decide +kernel)) ggL_law_X8_withSecond
set_option maxRecDepth 20000 in
theorem ggL_law_X9_withSecond : GoodIn wsL_law wsX9_withSecond := goodIn_r _ [600, 344, 411, 270, 435, 130, 131, 5, 132, 490, 491, 492, 493, 98, 107, 436, 437, 438, 439, 97, 601, 602, 603, 604, 269, 271, 605, 360, 499, 500, 501, 502, 349, 350, 351, 606, 607, 608, 609, 352, 353, 354, 355, 267, 266, 356, 357, 358, 359, 100, 264, 265, 503, 504, 505, 506, 507, 508, 509, 440, 441, 442, 739, 740, 741, 742, 743, 744, 745, 746, 747, 748, 749, 750, 751, 752, 753, 754, 755, 756, 757, 758, 759, 760, 761, 762, 763, 764, 765, 766, 767] (by decide +kernel) (by decide +kernel)
set_option maxRecDepth 20000 in
theorem gL_law_X9_withSecond : GoodIn wsL_law (wsV RL 86 RX9 yX9_withSecond wsX9_withSecond) := goodIn_app (goodIn_of _ (by decide +kernel)) ggL_law_X9_withSecond
set_option maxRecDepth 20000 in
theorem ggL_law_X8_lanes : GoodIn wsL_law wsX8_lanes := goodIn_r _ [613, 24, 326, 65, 66, 67, 323, 324, 325, 406, 298, 299, 23, 300, 57, 729, 730, 731, 732, 733, 734, 735, 736, 737, 738, 783, 784, 785, 786, 787, 788] (by decide +kernel) (by decide +kernel)
set_option maxRecDepth 20000 in
theorem gL_law_X8_lanes : GoodIn wsL_law (wsV RL 87 RX8 yX8_lanes wsX8_lanes) := goodIn_app (goodIn_of _ (by decide +kernel)) ggL_law_X8_lanes
set_option maxRecDepth 20000 in
theorem ggL_law_X9_lanes : GoodIn wsL_law wsX9_lanes := goodIn_r _ [617, 97, 98, 739, 740, 741, 742, 743, 744, 745, 746, 747, 748, 749, 750, 751, 752, 753, 754, 755, 756, 757, 758, 759, 760, 761, 762, 763, 764, 765, 766, 767] (by decide +kernel) (by decide +kernel)
set_option maxRecDepth 20000 in
theorem gL_law_X9_lanes : GoodIn wsL_law (wsV RL 90 RX9 yX9_lanes wsX9_lanes) := goodIn_app (goodIn_of _ (by decide +kernel)) ggL_law_X9_lanes
set_option maxRecDepth 20000 in
theorem ggL_law_X8_judge : GoodIn wsL_law wsX8_judge := goodIn_r _ [621, 459, 25, 24, 20, 112, 113, 2, 114, 460, 461, 462, 474, 294, 295, 23, 296, 57, 58, 59, 244, 245, 246, 297, 298, 299, 300, 301, 302, 303, 304, 305, 306, 307, 308, 463, 464, 465, 622, 318, 319, 320, 321, 322, 323, 324, 66, 325, 326, 65, 67, 406, 309, 310, 311, 312, 313, 314, 315, 316, 317, 327, 328, 329, 19, 330, 223, 222, 331, 332, 333, 334, 335, 336, 337, 338, 339, 729, 730, 731, 732, 733, 734, 735, 736, 737, 738, 783, 784, 785, 786, 787, 788, 774, 775, 776, 777, 778, 779, 780, 781, 782] (by decide +kernel) (by decide +kernel)
set_option maxRecDepth 20000 in
theorem gL_law_X8_judge : GoodIn wsL_law (wsV RL 91 RX8 yX8_judge wsX8_judge) := goodIn_app (goodIn_of _ (by decide +kernel)) ggL_law_X8_judge
set_option maxRecDepth 20000 in
theorem ggL_law_X9_judge : GoodIn wsL_law wsX9_judge := goodIn_r _ [626, 627, 98, 107, 97, 130, 131, 5, 132, 487, 488, 489, 499, 500, 501, 502, 349, 350, 351, 352, 353, 354, 355, 267, 266, 356, 357, 358, 359, 100, 264, 265, 360, 739, 740, 741, 742, 743, 744, 745, 746, 747, 748, 749, 750, 751, 752, 753, 754, 755, 756, 757, 758, 759, 760, 761, 762, 763, 764, 765, 766, 767] (by decide +kernel) (by decide +kernel)
set_option maxRecDepth 20000 in
theorem gL_law_X9_judge : GoodIn wsL_law (wsV RL 95 RX9 yX9_judge wsX9_judge) := goodIn_app (goodIn_of _ (by decide +kernel)) ggL_law_X9_judge
set_option maxRecDepth 20000 in
theorem ggL_law_X8_said : GoodIn wsL_law wsX8_said := goodIn_r _ [631, 24, 20, 112, 113, 2, 114, 632, 302, 303, 23, 304, 58, 633, 306, 307, 308, 59, 634, 256, 257, 19, 258, 259, 248, 249, 250, 49, 729, 730, 731, 732, 733, 734, 735, 736, 737, 738, 783, 784, 785, 786, 787, 788, 774, 775, 776, 777, 778, 779, 780, 781, 782] (by decide +kernel) (by decide +kernel)
set_option maxRecDepth 20000 in
theorem gL_law_X8_said : GoodIn wsL_law (wsV RL 96 RX8 yX8_said wsX8_said) := goodIn_app (goodIn_of _ (by decide +kernel)) ggL_law_X8_said
set_option maxRecDepth 20000 in
theorem ggL_law_X9_said : GoodIn wsL_law wsX9_said := goodIn_r _ [638, 98, 130, 131, 5, 132, 639, 640, 641, 642, 94, 739, 740, 741, 742, 743, 744, 745, 746, 747, 748, 749, 750, 751, 752, 753, 754, 755, 756, 757, 758, 759, 760, 761, 762, 763, 764, 765, 766, 767] (by decide +kernel) (by decide +kernel)
set_option maxRecDepth 20000 in
theorem gL_law_X9_said : GoodIn wsL_law (wsV RL 99 RX9 yX9_said wsX9_said) := goodIn_app (goodIn_of _ (by decide +kernel)) ggL_law_X9_said
set_option maxRecDepth 20000 in
theorem ggL_law_X8_trust : GoodIn wsL_law wsX8_trust := goodIn_r _ [646, 405, 20, 416, 25, 373, 374, 2, 375, 112, 113, 114, 251, 252, 253, 19, 254, 255, 256, 257, 258, 259, 248, 249, 250, 49, 240, 241, 242, 23, 243, 57, 244, 245, 246, 247, 376, 377, 378, 379, 380, 58, 59, 406, 298, 299, 300, 417, 418, 419, 420, 421, 422, 423, 424, 425, 426, 66, 427, 428, 429, 430, 729, 730, 731, 732, 733, 734, 735, 736, 737, 738, 774, 775, 776, 777, 778, 779, 780, 781, 782, 783, 784, 785, 786, 787, 788] (by decide +kernel) (by decide +kernel)
set_option maxRecDepth 20000 in
theorem gL_law_X8_trust : GoodIn wsL_law (wsV RL 100 RX8 yX8_trust wsX8_trust) := goodIn_app (goodIn_of _ (by decide +kernel)) ggL_law_X8_trust
set_option maxRecDepth 20000 in
theorem ggL_law_X9_trust : GoodIn wsL_law wsX9_trust := goodIn_r _ [650, 411, 435, 94, 386, 387, 5, 388, 209, 130, 131, 132, 273, 274, 275, 276, 639, 640, 641, 642, 507, 508, 509, 440, 441, 442, 739, 740, 741, 742, 743, 744, 745, 746, 747, 748, 749, 750, 751, 752, 753, 754, 755, 756, 757, 758, 759, 760, 761, 762, 763, 764, 765, 766, 767] (by decide +kernel) (by decide +kernel)
set_option maxRecDepth 20000 in
theorem gL_law_X9_trust : GoodIn wsL_law (wsV RL 104 RX9 yX9_trust wsX9_trust) := goodIn_app (goodIn_of _ (by decide +kernel)) ggL_law_X9_trust
set_option maxRecDepth 20000 in
theorem ggL_law_X8_seed : GoodIn wsL_law wsX8_seed := goodIn_r _ [654, 38, 729, 730, 731, 732, 733, 734, 735, 736, 737, 738, 795] (by decide +kernel) (by decide +kernel)
set_option maxRecDepth 20000 in
theorem gL_law_X8_seed : GoodIn wsL_law (wsV RL 107 RX8 yX8_seed wsX8_seed) := goodIn_app (goodIn_of _ (by decide +kernel)) ggL_law_X8_seed
set_option maxRecDepth 20000 in
theorem ggL_law_X9_seed : GoodIn wsL_law wsX9_seed := goodIn_r _ [658, 659, 739, 740, 741, 742, 743, 744, 745, 746, 747, 748, 749, 750, 751, 752, 753, 754, 755, 756, 757, 758, 759, 760, 761, 762, 763, 764, 765, 766, 767] (by decide +kernel) (by decide +kernel)
set_option maxRecDepth 20000 in
theorem gL_law_X9_seed : GoodIn wsL_law (wsV RL 111 RX9 yX9_seed wsX9_seed) := goodIn_app (goodIn_of _ (by decide +kernel)) ggL_law_X9_seed
set_option maxRecDepth 20000 in
theorem ggL_law_X8_trials : GoodIn wsL_law wsX8_trials := goodIn_r _ [663, 20, 112, 113, 2, 114, 456, 457, 458, 459, 460, 461, 462, 463, 464, 465, 251, 252, 253, 19, 254, 255, 256, 257, 258, 259, 248, 249, 250, 49, 664, 665, 666, 667, 38, 668, 669, 670, 37, 671, 672, 673, 674, 675, 676, 677, 678, 679, 321, 322, 323, 324, 66, 325, 326, 65, 67, 680, 328, 329, 330, 223, 222, 681, 682, 683, 684, 220, 221, 729, 730, 731, 732, 733, 734, 735, 736, 737, 738, 774, 775, 776, 777, 778, 779, 780, 781, 782, 795] (by decide +kernel) (by decide +kernel)
set_option maxRecDepth 20000 in
theorem gL_law_X8_trials : GoodIn wsL_law (wsV RL 112 RX8 yX8_trials wsX8_trials) := goodIn_app (goodIn_of _ (by decide +kernel)) ggL_law_X8_trials
set_option maxRecDepth 20000 in
theorem ggL_law_X9_trials : GoodIn wsL_law wsX9_trials := goodIn_r _ [688, 689, 130, 131, 5, 132, 483, 484, 485, 486, 487, 488, 489, 273, 274, 275, 276, 94, 690, 691, 692, 693, 268, 107, 267, 266, 264, 265, 694, 695, 696, 697, 659, 698, 699, 349, 350, 351, 739, 740, 741, 742, 743, 744, 745, 746, 747, 748, 749, 750, 751, 752, 753, 754, 755, 756, 757, 758, 759, 760, 761, 762, 763, 764, 765, 766, 767] (by decide +kernel) (by decide +kernel)
set_option maxRecDepth 20000 in
theorem gL_law_X9_trials : GoodIn wsL_law (wsV RL 115 RX9 yX9_trials wsX9_trials) := goodIn_app (goodIn_of _ (by decide +kernel)) ggL_law_X9_trials
set_option maxRecDepth 20000 in
theorem ggL_law_X8_keep : GoodIn wsL_law wsX8_keep := goodIn_r _ [703, 30, 24, 215, 112, 113, 2, 114, 285, 286, 287, 28, 288, 289, 290, 291, 292, 69, 293, 294, 295, 23, 296, 57, 58, 59, 244, 245, 246, 297, 298, 299, 300, 301, 302, 303, 304, 305, 306, 307, 308, 729, 730, 731, 732, 733, 734, 735, 736, 737, 738, 783, 784, 785, 786, 787, 788, 789] (by decide +kernel) (by decide +kernel)
set_option maxRecDepth 20000 in
theorem gL_law_X8_keep : GoodIn wsL_law (wsV RL 116 RX8 yX8_keep wsX8_keep) := goodIn_app (goodIn_of _ (by decide +kernel)) ggL_law_X8_keep
set_option maxRecDepth 20000 in
theorem ggL_law_X9_keep : GoodIn wsL_law wsX9_keep := goodIn_r _ [707, 104, 105, 97, 106, 98, 130, 131, 5, 132, 739, 740, 741, 742, 743, 744, 745, 746, 747, 748, 749, 750, 751, 752, 753, 754, 755, 756, 757, 758, 759, 760, 761, 762, 763, 764, 765, 766, 767] (by decide +kernel) (by decide +kernel)
set_option maxRecDepth 20000 in
theorem gL_law_X9_keep : GoodIn wsL_law (wsV RL 119 RX9 yX9_keep wsX9_keep) := goodIn_app (goodIn_of _ (by decide +kernel)) ggL_law_X9_keep
set_option maxRecDepth 20000 in
theorem ggL_law_X8_again : GoodIn wsL_law wsX8_again := goodIn_r _ [711, 215, 30, 24, 214, 112, 113, 2, 114, 393, 394, 395, 28, 396, 289, 290, 291, 292, 69, 293, 294, 295, 23, 296, 57, 58, 59, 244, 245, 246, 297, 298, 299, 300, 301, 302, 303, 304, 305, 306, 307, 308, 729, 730, 731, 732, 733, 734, 735, 736, 737, 738, 783, 784, 785, 786, 787, 788, 789] (by decide +kernel) (by decide +kernel)
set_option maxRecDepth 20000 in
theorem gL_law_X8_again : GoodIn wsL_law (wsV RL 120 RX8 yX8_again wsX8_again) := goodIn_app (goodIn_of _ (by decide +kernel)) ggL_law_X8_again
set_option maxRecDepth 20000 in
theorem ggL_law_X9_again : GoodIn wsL_law wsX9_again := goodIn_r _ [715, 104, 97, 105, 98, 106, 272, 130, 131, 5, 132, 739, 740, 741, 742, 743, 744, 745, 746, 747, 748, 749, 750, 751, 752, 753, 754, 755, 756, 757, 758, 759, 760, 761, 762, 763, 764, 765, 766, 767] (by decide +kernel) (by decide +kernel)
set_option maxRecDepth 20000 in
theorem gL_law_X9_again : GoodIn wsL_law (wsV RL 123 RX9 yX9_again wsX9_again) := goodIn_app (goodIn_of _ (by decide +kernel)) ggL_law_X9_again
set_option maxRecDepth 20000 in
theorem ggL_law_X8_count : GoodIn wsL_law wsX8_count := goodIn_r _ [719, 16, 20, 24, 214, 720, 232, 233, 15, 234, 119, 721, 722, 723, 23, 724, 297, 298, 299, 300, 57, 729, 730, 731, 732, 733, 734, 735, 736, 737, 738, 774, 775, 776, 777, 778, 779, 780, 781, 782, 783, 784, 785, 786, 787, 788, 768, 769, 770, 771, 772, 773] (by decide +kernel) (by decide +kernel)
set_option maxRecDepth 20000 in
theorem gL_law_X8_count : GoodIn wsL_law (wsV RL 124 RX8 yX8_count wsX8_count) := goodIn_app (goodIn_of _ (by decide +kernel)) ggL_law_X8_count
set_option maxRecDepth 20000 in
theorem ggL_law_X9_count : GoodIn wsL_law wsX9_count := goodIn_r _ [728, 97, 129, 264, 265, 266, 267, 107, 98, 272, 270, 269, 739, 740, 741, 742, 743, 744, 745, 746, 747, 748, 749, 750, 751, 752, 753, 754, 755, 756, 757, 758, 759, 760, 761, 762, 763, 764, 765, 766, 767] (by decide +kernel) (by decide +kernel)
set_option maxRecDepth 20000 in
theorem gL_law_X9_count : GoodIn wsL_law (wsV RL 127 RX9 yX9_count wsX9_count) := goodIn_app (goodIn_of _ (by decide +kernel)) ggL_law_X9_count
theorem dL_law_0 : decode cL_law 0 = .ok (.new 7, 3) := by decide +kernel
theorem dL_law_3 : decode cL_law 3 = .ok (.dup, 1) := by decide +kernel
theorem dL_law_4 : decode cL_law 4 = .ok (.invokespecial 9, 3) := by decide +kernel
theorem dL_law_7 : decode cL_law 7 = .ok (.astore_n 1, 1) := by decide +kernel
theorem dL_law_8 : decode cL_law 8 = .ok (.new 10, 3) := by decide +kernel
theorem dL_law_11 : decode cL_law 11 = .ok (.dup, 1) := by decide +kernel
theorem dL_law_12 : decode cL_law 12 = .ok (.invokespecial 12, 3) := by decide +kernel
theorem dL_law_15 : decode cL_law 15 = .ok (.astore_n 2, 1) := by decide +kernel
theorem dL_law_16 : decode cL_law 16 = .ok (.iconst 0, 1) := by decide +kernel
theorem dL_law_17 : decode cL_law 17 = .ok (.istore_n 3, 1) := by decide +kernel
theorem dL_law_18 : decode cL_law 18 = .ok (.iload_n 3, 1) := by decide +kernel
theorem dL_law_19 : decode cL_law 19 = .ok (.aload_n 0, 1) := by decide +kernel
theorem dL_law_20 : decode cL_law 20 = .ok (.arraylength, 1) := by decide +kernel
theorem dL_law_21 : decode cL_law 21 = .ok (.iconst 5, 1) := by decide +kernel
theorem dL_law_22 : decode cL_law 22 = .ok (.isub, 1) := by decide +kernel
theorem dL_law_23 : decode cL_law 23 = .ok (.if_icmp .gt 937, 3) := by decide +kernel
theorem dL_law_26 : decode cL_law 26 = .ok (.aload_n 0, 1) := by decide +kernel
theorem dL_law_27 : decode cL_law 27 = .ok (.iload_n 3, 1) := by decide +kernel
theorem dL_law_28 : decode cL_law 28 = .ok (.iaload, 1) := by decide +kernel
theorem dL_law_29 : decode cL_law 29 = .ok (.bipush 31, 2) := by decide +kernel
theorem dL_law_31 : decode cL_law 31 = .ok (.iand, 1) := by decide +kernel
theorem dL_law_32 : decode cL_law 32 = .ok (.tableswitch 922 0 25 #[120, 143, 156, 169, 182, 205, 218, 261, 274, 298, 348, 361, 421, 471, 494, 517, 567, 617, 630, 663, 686, 756, 810, 853, 876, 899], 120) := by decide +kernel
theorem dL_law_152 : decode cL_law 152 = .ok (.aload_n 1, 1) := by decide +kernel
theorem dL_law_153 : decode cL_law 153 = .ok (.aload_n 0, 1) := by decide +kernel
theorem dL_law_154 : decode cL_law 154 = .ok (.iload_n 3, 1) := by decide +kernel
theorem dL_law_155 : decode cL_law 155 = .ok (.iconst 1, 1) := by decide +kernel
theorem dL_law_156 : decode cL_law 156 = .ok (.iadd, 1) := by decide +kernel
theorem dL_law_157 : decode cL_law 157 = .ok (.iaload, 1) := by decide +kernel
theorem dL_law_158 : decode cL_law 158 = .ok (.invokevirtual 13, 3) := by decide +kernel
theorem dL_law_161 : decode cL_law 161 = .ok (.aload_n 2, 1) := by decide +kernel
theorem dL_law_162 : decode cL_law 162 = .ok (.aload_n 0, 1) := by decide +kernel
theorem dL_law_163 : decode cL_law 163 = .ok (.iload_n 3, 1) := by decide +kernel
theorem dL_law_164 : decode cL_law 164 = .ok (.iconst 1, 1) := by decide +kernel
theorem dL_law_165 : decode cL_law 165 = .ok (.iadd, 1) := by decide +kernel
theorem dL_law_166 : decode cL_law 166 = .ok (.iaload, 1) := by decide +kernel
theorem dL_law_167 : decode cL_law 167 = .ok (.invokevirtual 17, 3) := by decide +kernel
theorem dL_law_170 : decode cL_law 170 = .ok (.if_icmp .eq 784, 3) := by decide +kernel
theorem dL_law_173 : decode cL_law 173 = .ok (.iconst 0, 1) := by decide +kernel
theorem dL_law_174 : decode cL_law 174 = .ok (.ireturn, 1) := by decide +kernel
theorem dL_law_175 : decode cL_law 175 = .ok (.aload_n 1, 1) := by decide +kernel
theorem dL_law_176 : decode cL_law 176 = .ok (.invokevirtual 18, 3) := by decide +kernel
theorem dL_law_179 : decode cL_law 179 = .ok (.aload_n 2, 1) := by decide +kernel
theorem dL_law_180 : decode cL_law 180 = .ok (.invokevirtual 22, 3) := by decide +kernel
theorem dL_law_183 : decode cL_law 183 = .ok (.if_icmp .eq 771, 3) := by decide +kernel
theorem dL_law_186 : decode cL_law 186 = .ok (.iconst 0, 1) := by decide +kernel
theorem dL_law_187 : decode cL_law 187 = .ok (.ireturn, 1) := by decide +kernel
theorem dL_law_188 : decode cL_law 188 = .ok (.aload_n 1, 1) := by decide +kernel
theorem dL_law_189 : decode cL_law 189 = .ok (.invokevirtual 23, 3) := by decide +kernel
theorem dL_law_192 : decode cL_law 192 = .ok (.aload_n 2, 1) := by decide +kernel
theorem dL_law_193 : decode cL_law 193 = .ok (.invokevirtual 26, 3) := by decide +kernel
theorem dL_law_196 : decode cL_law 196 = .ok (.if_icmp .eq 758, 3) := by decide +kernel
theorem dL_law_199 : decode cL_law 199 = .ok (.iconst 0, 1) := by decide +kernel
theorem dL_law_200 : decode cL_law 200 = .ok (.ireturn, 1) := by decide +kernel
theorem dL_law_201 : decode cL_law 201 = .ok (.aload_n 1, 1) := by decide +kernel
theorem dL_law_202 : decode cL_law 202 = .ok (.invokevirtual 27, 3) := by decide +kernel
theorem dL_law_205 : decode cL_law 205 = .ok (.aload_n 2, 1) := by decide +kernel
theorem dL_law_206 : decode cL_law 206 = .ok (.invokevirtual 30, 3) := by decide +kernel
theorem dL_law_209 : decode cL_law 209 = .ok (.if_icmp .eq 745, 3) := by decide +kernel
theorem dL_law_212 : decode cL_law 212 = .ok (.iconst 0, 1) := by decide +kernel
theorem dL_law_213 : decode cL_law 213 = .ok (.ireturn, 1) := by decide +kernel
theorem dL_law_214 : decode cL_law 214 = .ok (.aload_n 1, 1) := by decide +kernel
theorem dL_law_215 : decode cL_law 215 = .ok (.aload_n 0, 1) := by decide +kernel
theorem dL_law_216 : decode cL_law 216 = .ok (.iload_n 3, 1) := by decide +kernel
theorem dL_law_217 : decode cL_law 217 = .ok (.iconst 1, 1) := by decide +kernel
theorem dL_law_218 : decode cL_law 218 = .ok (.iadd, 1) := by decide +kernel
theorem dL_law_219 : decode cL_law 219 = .ok (.iaload, 1) := by decide +kernel
theorem dL_law_220 : decode cL_law 220 = .ok (.invokevirtual 31, 3) := by decide +kernel
theorem dL_law_223 : decode cL_law 223 = .ok (.aload_n 2, 1) := by decide +kernel
theorem dL_law_224 : decode cL_law 224 = .ok (.aload_n 0, 1) := by decide +kernel
theorem dL_law_225 : decode cL_law 225 = .ok (.iload_n 3, 1) := by decide +kernel
theorem dL_law_226 : decode cL_law 226 = .ok (.iconst 1, 1) := by decide +kernel
theorem dL_law_227 : decode cL_law 227 = .ok (.iadd, 1) := by decide +kernel
theorem dL_law_228 : decode cL_law 228 = .ok (.iaload, 1) := by decide +kernel
theorem dL_law_229 : decode cL_law 229 = .ok (.invokevirtual 34, 3) := by decide +kernel
theorem dL_law_232 : decode cL_law 232 = .ok (.if_icmp .eq 722, 3) := by decide +kernel
theorem dL_law_235 : decode cL_law 235 = .ok (.iconst 0, 1) := by decide +kernel
theorem dL_law_236 : decode cL_law 236 = .ok (.ireturn, 1) := by decide +kernel
theorem dL_law_237 : decode cL_law 237 = .ok (.aload_n 1, 1) := by decide +kernel
theorem dL_law_238 : decode cL_law 238 = .ok (.invokevirtual 35, 3) := by decide +kernel
theorem dL_law_241 : decode cL_law 241 = .ok (.aload_n 2, 1) := by decide +kernel
theorem dL_law_242 : decode cL_law 242 = .ok (.invokevirtual 38, 3) := by decide +kernel
theorem dL_law_245 : decode cL_law 245 = .ok (.if_icmp .eq 709, 3) := by decide +kernel
theorem dL_law_248 : decode cL_law 248 = .ok (.iconst 0, 1) := by decide +kernel
theorem dL_law_249 : decode cL_law 249 = .ok (.ireturn, 1) := by decide +kernel
theorem dL_law_250 : decode cL_law 250 = .ok (.aload_n 1, 1) := by decide +kernel
theorem dL_law_251 : decode cL_law 251 = .ok (.aload_n 0, 1) := by decide +kernel
theorem dL_law_252 : decode cL_law 252 = .ok (.iload_n 3, 1) := by decide +kernel
theorem dL_law_253 : decode cL_law 253 = .ok (.iconst 1, 1) := by decide +kernel
theorem dL_law_254 : decode cL_law 254 = .ok (.iadd, 1) := by decide +kernel
theorem dL_law_255 : decode cL_law 255 = .ok (.iaload, 1) := by decide +kernel
theorem dL_law_256 : decode cL_law 256 = .ok (.aload_n 0, 1) := by decide +kernel
theorem dL_law_257 : decode cL_law 257 = .ok (.iload_n 3, 1) := by decide +kernel
theorem dL_law_258 : decode cL_law 258 = .ok (.iconst 2, 1) := by decide +kernel
theorem dL_law_259 : decode cL_law 259 = .ok (.iadd, 1) := by decide +kernel
theorem dL_law_260 : decode cL_law 260 = .ok (.iaload, 1) := by decide +kernel
theorem dL_law_261 : decode cL_law 261 = .ok (.aload_n 0, 1) := by decide +kernel
theorem dL_law_262 : decode cL_law 262 = .ok (.iload_n 3, 1) := by decide +kernel
theorem dL_law_263 : decode cL_law 263 = .ok (.iconst 3, 1) := by decide +kernel
theorem dL_law_264 : decode cL_law 264 = .ok (.iadd, 1) := by decide +kernel
theorem dL_law_265 : decode cL_law 265 = .ok (.iaload, 1) := by decide +kernel
theorem dL_law_266 : decode cL_law 266 = .ok (.invokevirtual 39, 3) := by decide +kernel
theorem dL_law_269 : decode cL_law 269 = .ok (.aload_n 2, 1) := by decide +kernel
theorem dL_law_270 : decode cL_law 270 = .ok (.aload_n 0, 1) := by decide +kernel
theorem dL_law_271 : decode cL_law 271 = .ok (.iload_n 3, 1) := by decide +kernel
theorem dL_law_272 : decode cL_law 272 = .ok (.iconst 1, 1) := by decide +kernel
theorem dL_law_273 : decode cL_law 273 = .ok (.iadd, 1) := by decide +kernel
theorem dL_law_274 : decode cL_law 274 = .ok (.iaload, 1) := by decide +kernel
theorem dL_law_275 : decode cL_law 275 = .ok (.aload_n 0, 1) := by decide +kernel
theorem dL_law_276 : decode cL_law 276 = .ok (.iload_n 3, 1) := by decide +kernel
theorem dL_law_277 : decode cL_law 277 = .ok (.iconst 2, 1) := by decide +kernel
theorem dL_law_278 : decode cL_law 278 = .ok (.iadd, 1) := by decide +kernel
theorem dL_law_279 : decode cL_law 279 = .ok (.iaload, 1) := by decide +kernel
theorem dL_law_280 : decode cL_law 280 = .ok (.aload_n 0, 1) := by decide +kernel
theorem dL_law_281 : decode cL_law 281 = .ok (.iload_n 3, 1) := by decide +kernel
theorem dL_law_282 : decode cL_law 282 = .ok (.iconst 3, 1) := by decide +kernel
theorem dL_law_283 : decode cL_law 283 = .ok (.iadd, 1) := by decide +kernel
theorem dL_law_284 : decode cL_law 284 = .ok (.iaload, 1) := by decide +kernel
theorem dL_law_285 : decode cL_law 285 = .ok (.invokevirtual 43, 3) := by decide +kernel
theorem dL_law_288 : decode cL_law 288 = .ok (.if_icmp .eq 666, 3) := by decide +kernel
theorem dL_law_291 : decode cL_law 291 = .ok (.iconst 0, 1) := by decide +kernel
theorem dL_law_292 : decode cL_law 292 = .ok (.ireturn, 1) := by decide +kernel
theorem dL_law_293 : decode cL_law 293 = .ok (.aload_n 1, 1) := by decide +kernel
theorem dL_law_294 : decode cL_law 294 = .ok (.invokevirtual 44, 3) := by decide +kernel
theorem dL_law_297 : decode cL_law 297 = .ok (.aload_n 2, 1) := by decide +kernel
theorem dL_law_298 : decode cL_law 298 = .ok (.invokevirtual 47, 3) := by decide +kernel
theorem dL_law_301 : decode cL_law 301 = .ok (.if_icmp .eq 653, 3) := by decide +kernel
theorem dL_law_304 : decode cL_law 304 = .ok (.iconst 0, 1) := by decide +kernel
theorem dL_law_305 : decode cL_law 305 = .ok (.ireturn, 1) := by decide +kernel
theorem dL_law_306 : decode cL_law 306 = .ok (.aload_n 1, 1) := by decide +kernel
theorem dL_law_307 : decode cL_law 307 = .ok (.aload_n 0, 1) := by decide +kernel
theorem dL_law_308 : decode cL_law 308 = .ok (.iload_n 3, 1) := by decide +kernel
theorem dL_law_309 : decode cL_law 309 = .ok (.iconst 1, 1) := by decide +kernel
theorem dL_law_310 : decode cL_law 310 = .ok (.iadd, 1) := by decide +kernel
theorem dL_law_311 : decode cL_law 311 = .ok (.iaload, 1) := by decide +kernel
theorem dL_law_312 : decode cL_law 312 = .ok (.invokevirtual 48, 3) := by decide +kernel
theorem dL_law_315 : decode cL_law 315 = .ok (.aload_n 2, 1) := by decide +kernel
theorem dL_law_316 : decode cL_law 316 = .ok (.aload_n 0, 1) := by decide +kernel
theorem dL_law_317 : decode cL_law 317 = .ok (.iload_n 3, 1) := by decide +kernel
theorem dL_law_318 : decode cL_law 318 = .ok (.iconst 1, 1) := by decide +kernel
theorem dL_law_319 : decode cL_law 319 = .ok (.iadd, 1) := by decide +kernel
theorem dL_law_320 : decode cL_law 320 = .ok (.iaload, 1) := by decide +kernel
theorem dL_law_321 : decode cL_law 321 = .ok (.invokevirtual 52, 3) := by decide +kernel
theorem dL_law_324 : decode cL_law 324 = .ok (.lcmp, 1) := by decide +kernel
theorem dL_law_325 : decode cL_law 325 = .ok (.ifCond .eq 629, 3) := by decide +kernel
theorem dL_law_328 : decode cL_law 328 = .ok (.iconst 0, 1) := by decide +kernel
theorem dL_law_329 : decode cL_law 329 = .ok (.ireturn, 1) := by decide +kernel
theorem dL_law_330 : decode cL_law 330 = .ok (.aload_n 1, 1) := by decide +kernel
theorem dL_law_331 : decode cL_law 331 = .ok (.aload_n 0, 1) := by decide +kernel
theorem dL_law_332 : decode cL_law 332 = .ok (.iload_n 3, 1) := by decide +kernel
theorem dL_law_333 : decode cL_law 333 = .ok (.iconst 1, 1) := by decide +kernel
theorem dL_law_334 : decode cL_law 334 = .ok (.iadd, 1) := by decide +kernel
theorem dL_law_335 : decode cL_law 335 = .ok (.iaload, 1) := by decide +kernel
theorem dL_law_336 : decode cL_law 336 = .ok (.aload_n 0, 1) := by decide +kernel
theorem dL_law_337 : decode cL_law 337 = .ok (.iload_n 3, 1) := by decide +kernel
theorem dL_law_338 : decode cL_law 338 = .ok (.iconst 2, 1) := by decide +kernel
theorem dL_law_339 : decode cL_law 339 = .ok (.iadd, 1) := by decide +kernel
theorem dL_law_340 : decode cL_law 340 = .ok (.iaload, 1) := by decide +kernel
theorem dL_law_341 : decode cL_law 341 = .ok (.ifCond .eq 7, 3) := by decide +kernel
theorem dL_law_344 : decode cL_law 344 = .ok (.iconst 1, 1) := by decide +kernel
theorem dL_law_345 : decode cL_law 345 = .ok (.goto 4, 3) := by decide +kernel
theorem dL_law_348 : decode cL_law 348 = .ok (.iconst 0, 1) := by decide +kernel
theorem dL_law_349 : decode cL_law 349 = .ok (.invokevirtual 53, 3) := by decide +kernel
theorem dL_law_352 : decode cL_law 352 = .ok (.aload_n 2, 1) := by decide +kernel
theorem dL_law_353 : decode cL_law 353 = .ok (.aload_n 0, 1) := by decide +kernel
theorem dL_law_354 : decode cL_law 354 = .ok (.iload_n 3, 1) := by decide +kernel
theorem dL_law_355 : decode cL_law 355 = .ok (.iconst 1, 1) := by decide +kernel
theorem dL_law_356 : decode cL_law 356 = .ok (.iadd, 1) := by decide +kernel
theorem dL_law_357 : decode cL_law 357 = .ok (.iaload, 1) := by decide +kernel
theorem dL_law_358 : decode cL_law 358 = .ok (.aload_n 0, 1) := by decide +kernel
theorem dL_law_359 : decode cL_law 359 = .ok (.iload_n 3, 1) := by decide +kernel
theorem dL_law_360 : decode cL_law 360 = .ok (.iconst 2, 1) := by decide +kernel
theorem dL_law_361 : decode cL_law 361 = .ok (.iadd, 1) := by decide +kernel
theorem dL_law_362 : decode cL_law 362 = .ok (.iaload, 1) := by decide +kernel
theorem dL_law_363 : decode cL_law 363 = .ok (.ifCond .eq 7, 3) := by decide +kernel
theorem dL_law_366 : decode cL_law 366 = .ok (.iconst 1, 1) := by decide +kernel
theorem dL_law_367 : decode cL_law 367 = .ok (.goto 4, 3) := by decide +kernel
theorem dL_law_370 : decode cL_law 370 = .ok (.iconst 0, 1) := by decide +kernel
theorem dL_law_371 : decode cL_law 371 = .ok (.invokevirtual 57, 3) := by decide +kernel
theorem dL_law_374 : decode cL_law 374 = .ok (.lcmp, 1) := by decide +kernel
theorem dL_law_375 : decode cL_law 375 = .ok (.ifCond .eq 579, 3) := by decide +kernel
theorem dL_law_378 : decode cL_law 378 = .ok (.iconst 0, 1) := by decide +kernel
theorem dL_law_379 : decode cL_law 379 = .ok (.ireturn, 1) := by decide +kernel
theorem dL_law_380 : decode cL_law 380 = .ok (.aload_n 1, 1) := by decide +kernel
theorem dL_law_381 : decode cL_law 381 = .ok (.invokevirtual 58, 3) := by decide +kernel
theorem dL_law_384 : decode cL_law 384 = .ok (.aload_n 2, 1) := by decide +kernel
theorem dL_law_385 : decode cL_law 385 = .ok (.invokevirtual 61, 3) := by decide +kernel
theorem dL_law_388 : decode cL_law 388 = .ok (.if_icmp .eq 566, 3) := by decide +kernel
theorem dL_law_391 : decode cL_law 391 = .ok (.iconst 0, 1) := by decide +kernel
theorem dL_law_392 : decode cL_law 392 = .ok (.ireturn, 1) := by decide +kernel
theorem dL_law_393 : decode cL_law 393 = .ok (.aload_n 1, 1) := by decide +kernel
theorem dL_law_394 : decode cL_law 394 = .ok (.aload_n 0, 1) := by decide +kernel
theorem dL_law_395 : decode cL_law 395 = .ok (.iload_n 3, 1) := by decide +kernel
theorem dL_law_396 : decode cL_law 396 = .ok (.iconst 1, 1) := by decide +kernel
theorem dL_law_397 : decode cL_law 397 = .ok (.iadd, 1) := by decide +kernel
theorem dL_law_398 : decode cL_law 398 = .ok (.iaload, 1) := by decide +kernel
theorem dL_law_399 : decode cL_law 399 = .ok (.aload_n 0, 1) := by decide +kernel
theorem dL_law_400 : decode cL_law 400 = .ok (.iload_n 3, 1) := by decide +kernel
theorem dL_law_401 : decode cL_law 401 = .ok (.iconst 2, 1) := by decide +kernel
theorem dL_law_402 : decode cL_law 402 = .ok (.iadd, 1) := by decide +kernel
theorem dL_law_403 : decode cL_law 403 = .ok (.iaload, 1) := by decide +kernel
theorem dL_law_404 : decode cL_law 404 = .ok (.aload_n 0, 1) := by decide +kernel
theorem dL_law_405 : decode cL_law 405 = .ok (.iload_n 3, 1) := by decide +kernel
theorem dL_law_406 : decode cL_law 406 = .ok (.iconst 3, 1) := by decide +kernel
theorem dL_law_407 : decode cL_law 407 = .ok (.iadd, 1) := by decide +kernel
theorem dL_law_408 : decode cL_law 408 = .ok (.iaload, 1) := by decide +kernel
theorem dL_law_409 : decode cL_law 409 = .ok (.ifCond .eq 7, 3) := by decide +kernel
theorem dL_law_412 : decode cL_law 412 = .ok (.iconst 1, 1) := by decide +kernel
theorem dL_law_413 : decode cL_law 413 = .ok (.goto 4, 3) := by decide +kernel
theorem dL_law_416 : decode cL_law 416 = .ok (.iconst 0, 1) := by decide +kernel
theorem dL_law_417 : decode cL_law 417 = .ok (.invokevirtual 62, 3) := by decide +kernel
theorem dL_law_420 : decode cL_law 420 = .ok (.aload_n 2, 1) := by decide +kernel
theorem dL_law_421 : decode cL_law 421 = .ok (.aload_n 0, 1) := by decide +kernel
theorem dL_law_422 : decode cL_law 422 = .ok (.iload_n 3, 1) := by decide +kernel
theorem dL_law_423 : decode cL_law 423 = .ok (.iconst 1, 1) := by decide +kernel
theorem dL_law_424 : decode cL_law 424 = .ok (.iadd, 1) := by decide +kernel
theorem dL_law_425 : decode cL_law 425 = .ok (.iaload, 1) := by decide +kernel
theorem dL_law_426 : decode cL_law 426 = .ok (.aload_n 0, 1) := by decide +kernel
theorem dL_law_427 : decode cL_law 427 = .ok (.iload_n 3, 1) := by decide +kernel
theorem dL_law_428 : decode cL_law 428 = .ok (.iconst 2, 1) := by decide +kernel
theorem dL_law_429 : decode cL_law 429 = .ok (.iadd, 1) := by decide +kernel
theorem dL_law_430 : decode cL_law 430 = .ok (.iaload, 1) := by decide +kernel
theorem dL_law_431 : decode cL_law 431 = .ok (.aload_n 0, 1) := by decide +kernel
theorem dL_law_432 : decode cL_law 432 = .ok (.iload_n 3, 1) := by decide +kernel
theorem dL_law_433 : decode cL_law 433 = .ok (.iconst 3, 1) := by decide +kernel
theorem dL_law_434 : decode cL_law 434 = .ok (.iadd, 1) := by decide +kernel
theorem dL_law_435 : decode cL_law 435 = .ok (.iaload, 1) := by decide +kernel
theorem dL_law_436 : decode cL_law 436 = .ok (.ifCond .eq 7, 3) := by decide +kernel
theorem dL_law_439 : decode cL_law 439 = .ok (.iconst 1, 1) := by decide +kernel
theorem dL_law_440 : decode cL_law 440 = .ok (.goto 4, 3) := by decide +kernel
theorem dL_law_443 : decode cL_law 443 = .ok (.iconst 0, 1) := by decide +kernel
theorem dL_law_444 : decode cL_law 444 = .ok (.invokevirtual 66, 3) := by decide +kernel
theorem dL_law_447 : decode cL_law 447 = .ok (.lcmp, 1) := by decide +kernel
theorem dL_law_448 : decode cL_law 448 = .ok (.ifCond .eq 506, 3) := by decide +kernel
theorem dL_law_451 : decode cL_law 451 = .ok (.iconst 0, 1) := by decide +kernel
theorem dL_law_452 : decode cL_law 452 = .ok (.ireturn, 1) := by decide +kernel
theorem dL_law_453 : decode cL_law 453 = .ok (.aload_n 1, 1) := by decide +kernel
theorem dL_law_454 : decode cL_law 454 = .ok (.aload_n 0, 1) := by decide +kernel
theorem dL_law_455 : decode cL_law 455 = .ok (.iload_n 3, 1) := by decide +kernel
theorem dL_law_456 : decode cL_law 456 = .ok (.iconst 1, 1) := by decide +kernel
theorem dL_law_457 : decode cL_law 457 = .ok (.iadd, 1) := by decide +kernel
theorem dL_law_458 : decode cL_law 458 = .ok (.iaload, 1) := by decide +kernel
theorem dL_law_459 : decode cL_law 459 = .ok (.aload_n 0, 1) := by decide +kernel
theorem dL_law_460 : decode cL_law 460 = .ok (.iload_n 3, 1) := by decide +kernel
theorem dL_law_461 : decode cL_law 461 = .ok (.iconst 2, 1) := by decide +kernel
theorem dL_law_462 : decode cL_law 462 = .ok (.iadd, 1) := by decide +kernel
theorem dL_law_463 : decode cL_law 463 = .ok (.iaload, 1) := by decide +kernel
theorem dL_law_464 : decode cL_law 464 = .ok (.ifCond .eq 7, 3) := by decide +kernel
theorem dL_law_467 : decode cL_law 467 = .ok (.iconst 1, 1) := by decide +kernel
theorem dL_law_468 : decode cL_law 468 = .ok (.goto 4, 3) := by decide +kernel
theorem dL_law_471 : decode cL_law 471 = .ok (.iconst 0, 1) := by decide +kernel
theorem dL_law_472 : decode cL_law 472 = .ok (.invokevirtual 67, 3) := by decide +kernel
theorem dL_law_475 : decode cL_law 475 = .ok (.aload_n 2, 1) := by decide +kernel
theorem dL_law_476 : decode cL_law 476 = .ok (.aload_n 0, 1) := by decide +kernel
theorem dL_law_477 : decode cL_law 477 = .ok (.iload_n 3, 1) := by decide +kernel
theorem dL_law_478 : decode cL_law 478 = .ok (.iconst 1, 1) := by decide +kernel
theorem dL_law_479 : decode cL_law 479 = .ok (.iadd, 1) := by decide +kernel
theorem dL_law_480 : decode cL_law 480 = .ok (.iaload, 1) := by decide +kernel
theorem dL_law_481 : decode cL_law 481 = .ok (.aload_n 0, 1) := by decide +kernel
theorem dL_law_482 : decode cL_law 482 = .ok (.iload_n 3, 1) := by decide +kernel
theorem dL_law_483 : decode cL_law 483 = .ok (.iconst 2, 1) := by decide +kernel
theorem dL_law_484 : decode cL_law 484 = .ok (.iadd, 1) := by decide +kernel
theorem dL_law_485 : decode cL_law 485 = .ok (.iaload, 1) := by decide +kernel
theorem dL_law_486 : decode cL_law 486 = .ok (.ifCond .eq 7, 3) := by decide +kernel
theorem dL_law_489 : decode cL_law 489 = .ok (.iconst 1, 1) := by decide +kernel
theorem dL_law_490 : decode cL_law 490 = .ok (.goto 4, 3) := by decide +kernel
theorem dL_law_493 : decode cL_law 493 = .ok (.iconst 0, 1) := by decide +kernel
theorem dL_law_494 : decode cL_law 494 = .ok (.invokevirtual 70, 3) := by decide +kernel
theorem dL_law_497 : decode cL_law 497 = .ok (.lcmp, 1) := by decide +kernel
theorem dL_law_498 : decode cL_law 498 = .ok (.ifCond .eq 456, 3) := by decide +kernel
theorem dL_law_501 : decode cL_law 501 = .ok (.iconst 0, 1) := by decide +kernel
theorem dL_law_502 : decode cL_law 502 = .ok (.ireturn, 1) := by decide +kernel
theorem dL_law_503 : decode cL_law 503 = .ok (.aload_n 1, 1) := by decide +kernel
theorem dL_law_504 : decode cL_law 504 = .ok (.aload_n 0, 1) := by decide +kernel
theorem dL_law_505 : decode cL_law 505 = .ok (.iload_n 3, 1) := by decide +kernel
theorem dL_law_506 : decode cL_law 506 = .ok (.iconst 1, 1) := by decide +kernel
theorem dL_law_507 : decode cL_law 507 = .ok (.iadd, 1) := by decide +kernel
theorem dL_law_508 : decode cL_law 508 = .ok (.iaload, 1) := by decide +kernel
theorem dL_law_509 : decode cL_law 509 = .ok (.invokevirtual 71, 3) := by decide +kernel
theorem dL_law_512 : decode cL_law 512 = .ok (.aload_n 2, 1) := by decide +kernel
theorem dL_law_513 : decode cL_law 513 = .ok (.aload_n 0, 1) := by decide +kernel
theorem dL_law_514 : decode cL_law 514 = .ok (.iload_n 3, 1) := by decide +kernel
theorem dL_law_515 : decode cL_law 515 = .ok (.iconst 1, 1) := by decide +kernel
theorem dL_law_516 : decode cL_law 516 = .ok (.iadd, 1) := by decide +kernel
theorem dL_law_517 : decode cL_law 517 = .ok (.iaload, 1) := by decide +kernel
theorem dL_law_518 : decode cL_law 518 = .ok (.invokevirtual 74, 3) := by decide +kernel
theorem dL_law_521 : decode cL_law 521 = .ok (.if_icmp .eq 433, 3) := by decide +kernel
theorem dL_law_524 : decode cL_law 524 = .ok (.iconst 0, 1) := by decide +kernel
theorem dL_law_525 : decode cL_law 525 = .ok (.ireturn, 1) := by decide +kernel
theorem dL_law_526 : decode cL_law 526 = .ok (.aload_n 1, 1) := by decide +kernel
theorem dL_law_527 : decode cL_law 527 = .ok (.aload_n 0, 1) := by decide +kernel
theorem dL_law_528 : decode cL_law 528 = .ok (.iload_n 3, 1) := by decide +kernel
theorem dL_law_529 : decode cL_law 529 = .ok (.iconst 1, 1) := by decide +kernel
theorem dL_law_530 : decode cL_law 530 = .ok (.iadd, 1) := by decide +kernel
theorem dL_law_531 : decode cL_law 531 = .ok (.iaload, 1) := by decide +kernel
theorem dL_law_532 : decode cL_law 532 = .ok (.invokevirtual 75, 3) := by decide +kernel
theorem dL_law_535 : decode cL_law 535 = .ok (.aload_n 2, 1) := by decide +kernel
theorem dL_law_536 : decode cL_law 536 = .ok (.aload_n 0, 1) := by decide +kernel
theorem dL_law_537 : decode cL_law 537 = .ok (.iload_n 3, 1) := by decide +kernel
theorem dL_law_538 : decode cL_law 538 = .ok (.iconst 1, 1) := by decide +kernel
theorem dL_law_539 : decode cL_law 539 = .ok (.iadd, 1) := by decide +kernel
theorem dL_law_540 : decode cL_law 540 = .ok (.iaload, 1) := by decide +kernel
theorem dL_law_541 : decode cL_law 541 = .ok (.invokevirtual 78, 3) := by decide +kernel
theorem dL_law_544 : decode cL_law 544 = .ok (.if_icmp .eq 410, 3) := by decide +kernel
theorem dL_law_547 : decode cL_law 547 = .ok (.iconst 0, 1) := by decide +kernel
theorem dL_law_548 : decode cL_law 548 = .ok (.ireturn, 1) := by decide +kernel
theorem dL_law_549 : decode cL_law 549 = .ok (.aload_n 1, 1) := by decide +kernel
theorem dL_law_550 : decode cL_law 550 = .ok (.aload_n 0, 1) := by decide +kernel
theorem dL_law_551 : decode cL_law 551 = .ok (.iload_n 3, 1) := by decide +kernel
theorem dL_law_552 : decode cL_law 552 = .ok (.iconst 1, 1) := by decide +kernel
theorem dL_law_553 : decode cL_law 553 = .ok (.iadd, 1) := by decide +kernel
theorem dL_law_554 : decode cL_law 554 = .ok (.iaload, 1) := by decide +kernel
theorem dL_law_555 : decode cL_law 555 = .ok (.aload_n 0, 1) := by decide +kernel
theorem dL_law_556 : decode cL_law 556 = .ok (.iload_n 3, 1) := by decide +kernel
theorem dL_law_557 : decode cL_law 557 = .ok (.iconst 2, 1) := by decide +kernel
theorem dL_law_558 : decode cL_law 558 = .ok (.iadd, 1) := by decide +kernel
theorem dL_law_559 : decode cL_law 559 = .ok (.iaload, 1) := by decide +kernel
theorem dL_law_560 : decode cL_law 560 = .ok (.ifCond .eq 7, 3) := by decide +kernel
theorem dL_law_563 : decode cL_law 563 = .ok (.iconst 1, 1) := by decide +kernel
theorem dL_law_564 : decode cL_law 564 = .ok (.goto 4, 3) := by decide +kernel
theorem dL_law_567 : decode cL_law 567 = .ok (.iconst 0, 1) := by decide +kernel
theorem dL_law_568 : decode cL_law 568 = .ok (.invokevirtual 79, 3) := by decide +kernel
theorem dL_law_571 : decode cL_law 571 = .ok (.aload_n 2, 1) := by decide +kernel
theorem dL_law_572 : decode cL_law 572 = .ok (.aload_n 0, 1) := by decide +kernel
theorem dL_law_573 : decode cL_law 573 = .ok (.iload_n 3, 1) := by decide +kernel
theorem dL_law_574 : decode cL_law 574 = .ok (.iconst 1, 1) := by decide +kernel
theorem dL_law_575 : decode cL_law 575 = .ok (.iadd, 1) := by decide +kernel
theorem dL_law_576 : decode cL_law 576 = .ok (.iaload, 1) := by decide +kernel
theorem dL_law_577 : decode cL_law 577 = .ok (.aload_n 0, 1) := by decide +kernel
theorem dL_law_578 : decode cL_law 578 = .ok (.iload_n 3, 1) := by decide +kernel
theorem dL_law_579 : decode cL_law 579 = .ok (.iconst 2, 1) := by decide +kernel
theorem dL_law_580 : decode cL_law 580 = .ok (.iadd, 1) := by decide +kernel
theorem dL_law_581 : decode cL_law 581 = .ok (.iaload, 1) := by decide +kernel
theorem dL_law_582 : decode cL_law 582 = .ok (.ifCond .eq 7, 3) := by decide +kernel
theorem dL_law_585 : decode cL_law 585 = .ok (.iconst 1, 1) := by decide +kernel
theorem dL_law_586 : decode cL_law 586 = .ok (.goto 4, 3) := by decide +kernel
theorem dL_law_589 : decode cL_law 589 = .ok (.iconst 0, 1) := by decide +kernel
theorem dL_law_590 : decode cL_law 590 = .ok (.invokevirtual 82, 3) := by decide +kernel
theorem dL_law_593 : decode cL_law 593 = .ok (.lcmp, 1) := by decide +kernel
theorem dL_law_594 : decode cL_law 594 = .ok (.ifCond .eq 360, 3) := by decide +kernel
theorem dL_law_597 : decode cL_law 597 = .ok (.iconst 0, 1) := by decide +kernel
theorem dL_law_598 : decode cL_law 598 = .ok (.ireturn, 1) := by decide +kernel
theorem dL_law_599 : decode cL_law 599 = .ok (.aload_n 1, 1) := by decide +kernel
theorem dL_law_600 : decode cL_law 600 = .ok (.aload_n 0, 1) := by decide +kernel
theorem dL_law_601 : decode cL_law 601 = .ok (.iload_n 3, 1) := by decide +kernel
theorem dL_law_602 : decode cL_law 602 = .ok (.iconst 1, 1) := by decide +kernel
theorem dL_law_603 : decode cL_law 603 = .ok (.iadd, 1) := by decide +kernel
theorem dL_law_604 : decode cL_law 604 = .ok (.iaload, 1) := by decide +kernel
theorem dL_law_605 : decode cL_law 605 = .ok (.aload_n 0, 1) := by decide +kernel
theorem dL_law_606 : decode cL_law 606 = .ok (.iload_n 3, 1) := by decide +kernel
theorem dL_law_607 : decode cL_law 607 = .ok (.iconst 2, 1) := by decide +kernel
theorem dL_law_608 : decode cL_law 608 = .ok (.iadd, 1) := by decide +kernel
theorem dL_law_609 : decode cL_law 609 = .ok (.iaload, 1) := by decide +kernel
theorem dL_law_610 : decode cL_law 610 = .ok (.ifCond .eq 7, 3) := by decide +kernel
theorem dL_law_613 : decode cL_law 613 = .ok (.iconst 1, 1) := by decide +kernel
theorem dL_law_614 : decode cL_law 614 = .ok (.goto 4, 3) := by decide +kernel
theorem dL_law_617 : decode cL_law 617 = .ok (.iconst 0, 1) := by decide +kernel
theorem dL_law_618 : decode cL_law 618 = .ok (.invokevirtual 83, 3) := by decide +kernel
theorem dL_law_621 : decode cL_law 621 = .ok (.aload_n 2, 1) := by decide +kernel
theorem dL_law_622 : decode cL_law 622 = .ok (.aload_n 0, 1) := by decide +kernel
theorem dL_law_623 : decode cL_law 623 = .ok (.iload_n 3, 1) := by decide +kernel
theorem dL_law_624 : decode cL_law 624 = .ok (.iconst 1, 1) := by decide +kernel
theorem dL_law_625 : decode cL_law 625 = .ok (.iadd, 1) := by decide +kernel
theorem dL_law_626 : decode cL_law 626 = .ok (.iaload, 1) := by decide +kernel
theorem dL_law_627 : decode cL_law 627 = .ok (.aload_n 0, 1) := by decide +kernel
theorem dL_law_628 : decode cL_law 628 = .ok (.iload_n 3, 1) := by decide +kernel
theorem dL_law_629 : decode cL_law 629 = .ok (.iconst 2, 1) := by decide +kernel
theorem dL_law_630 : decode cL_law 630 = .ok (.iadd, 1) := by decide +kernel
theorem dL_law_631 : decode cL_law 631 = .ok (.iaload, 1) := by decide +kernel
theorem dL_law_632 : decode cL_law 632 = .ok (.ifCond .eq 7, 3) := by decide +kernel
theorem dL_law_635 : decode cL_law 635 = .ok (.iconst 1, 1) := by decide +kernel
theorem dL_law_636 : decode cL_law 636 = .ok (.goto 4, 3) := by decide +kernel
theorem dL_law_639 : decode cL_law 639 = .ok (.iconst 0, 1) := by decide +kernel
theorem dL_law_640 : decode cL_law 640 = .ok (.invokevirtual 86, 3) := by decide +kernel
theorem dL_law_643 : decode cL_law 643 = .ok (.lcmp, 1) := by decide +kernel
theorem dL_law_644 : decode cL_law 644 = .ok (.ifCond .eq 310, 3) := by decide +kernel
theorem dL_law_647 : decode cL_law 647 = .ok (.iconst 0, 1) := by decide +kernel
theorem dL_law_648 : decode cL_law 648 = .ok (.ireturn, 1) := by decide +kernel
theorem dL_law_649 : decode cL_law 649 = .ok (.aload_n 1, 1) := by decide +kernel
theorem dL_law_650 : decode cL_law 650 = .ok (.invokevirtual 87, 3) := by decide +kernel
theorem dL_law_653 : decode cL_law 653 = .ok (.aload_n 2, 1) := by decide +kernel
theorem dL_law_654 : decode cL_law 654 = .ok (.invokevirtual 90, 3) := by decide +kernel
theorem dL_law_657 : decode cL_law 657 = .ok (.if_icmp .eq 297, 3) := by decide +kernel
theorem dL_law_660 : decode cL_law 660 = .ok (.iconst 0, 1) := by decide +kernel
theorem dL_law_661 : decode cL_law 661 = .ok (.ireturn, 1) := by decide +kernel
theorem dL_law_662 : decode cL_law 662 = .ok (.aload_n 1, 1) := by decide +kernel
theorem dL_law_663 : decode cL_law 663 = .ok (.aload_n 0, 1) := by decide +kernel
theorem dL_law_664 : decode cL_law 664 = .ok (.iload_n 3, 1) := by decide +kernel
theorem dL_law_665 : decode cL_law 665 = .ok (.iconst 1, 1) := by decide +kernel
theorem dL_law_666 : decode cL_law 666 = .ok (.iadd, 1) := by decide +kernel
theorem dL_law_667 : decode cL_law 667 = .ok (.iaload, 1) := by decide +kernel
theorem dL_law_668 : decode cL_law 668 = .ok (.aload_n 0, 1) := by decide +kernel
theorem dL_law_669 : decode cL_law 669 = .ok (.iload_n 3, 1) := by decide +kernel
theorem dL_law_670 : decode cL_law 670 = .ok (.iconst 2, 1) := by decide +kernel
theorem dL_law_671 : decode cL_law 671 = .ok (.iadd, 1) := by decide +kernel
theorem dL_law_672 : decode cL_law 672 = .ok (.iaload, 1) := by decide +kernel
theorem dL_law_673 : decode cL_law 673 = .ok (.invokevirtual 91, 3) := by decide +kernel
theorem dL_law_676 : decode cL_law 676 = .ok (.aload_n 2, 1) := by decide +kernel
theorem dL_law_677 : decode cL_law 677 = .ok (.aload_n 0, 1) := by decide +kernel
theorem dL_law_678 : decode cL_law 678 = .ok (.iload_n 3, 1) := by decide +kernel
theorem dL_law_679 : decode cL_law 679 = .ok (.iconst 1, 1) := by decide +kernel
theorem dL_law_680 : decode cL_law 680 = .ok (.iadd, 1) := by decide +kernel
theorem dL_law_681 : decode cL_law 681 = .ok (.iaload, 1) := by decide +kernel
theorem dL_law_682 : decode cL_law 682 = .ok (.aload_n 0, 1) := by decide +kernel
theorem dL_law_683 : decode cL_law 683 = .ok (.iload_n 3, 1) := by decide +kernel
theorem dL_law_684 : decode cL_law 684 = .ok (.iconst 2, 1) := by decide +kernel
theorem dL_law_685 : decode cL_law 685 = .ok (.iadd, 1) := by decide +kernel
theorem dL_law_686 : decode cL_law 686 = .ok (.iaload, 1) := by decide +kernel
theorem dL_law_687 : decode cL_law 687 = .ok (.invokevirtual 95, 3) := by decide +kernel
theorem dL_law_690 : decode cL_law 690 = .ok (.if_icmp .eq 264, 3) := by decide +kernel
theorem dL_law_693 : decode cL_law 693 = .ok (.iconst 0, 1) := by decide +kernel
theorem dL_law_694 : decode cL_law 694 = .ok (.ireturn, 1) := by decide +kernel
theorem dL_law_695 : decode cL_law 695 = .ok (.aload_n 1, 1) := by decide +kernel
theorem dL_law_696 : decode cL_law 696 = .ok (.aload_n 0, 1) := by decide +kernel
theorem dL_law_697 : decode cL_law 697 = .ok (.iload_n 3, 1) := by decide +kernel
theorem dL_law_698 : decode cL_law 698 = .ok (.iconst 1, 1) := by decide +kernel
theorem dL_law_699 : decode cL_law 699 = .ok (.iadd, 1) := by decide +kernel
theorem dL_law_700 : decode cL_law 700 = .ok (.iaload, 1) := by decide +kernel
theorem dL_law_701 : decode cL_law 701 = .ok (.invokevirtual 96, 3) := by decide +kernel
theorem dL_law_704 : decode cL_law 704 = .ok (.aload_n 2, 1) := by decide +kernel
theorem dL_law_705 : decode cL_law 705 = .ok (.aload_n 0, 1) := by decide +kernel
theorem dL_law_706 : decode cL_law 706 = .ok (.iload_n 3, 1) := by decide +kernel
theorem dL_law_707 : decode cL_law 707 = .ok (.iconst 1, 1) := by decide +kernel
theorem dL_law_708 : decode cL_law 708 = .ok (.iadd, 1) := by decide +kernel
theorem dL_law_709 : decode cL_law 709 = .ok (.iaload, 1) := by decide +kernel
theorem dL_law_710 : decode cL_law 710 = .ok (.invokevirtual 99, 3) := by decide +kernel
theorem dL_law_713 : decode cL_law 713 = .ok (.if_icmp .eq 241, 3) := by decide +kernel
theorem dL_law_716 : decode cL_law 716 = .ok (.iconst 0, 1) := by decide +kernel
theorem dL_law_717 : decode cL_law 717 = .ok (.ireturn, 1) := by decide +kernel
theorem dL_law_718 : decode cL_law 718 = .ok (.aload_n 1, 1) := by decide +kernel
theorem dL_law_719 : decode cL_law 719 = .ok (.aload_n 0, 1) := by decide +kernel
theorem dL_law_720 : decode cL_law 720 = .ok (.iload_n 3, 1) := by decide +kernel
theorem dL_law_721 : decode cL_law 721 = .ok (.iconst 1, 1) := by decide +kernel
theorem dL_law_722 : decode cL_law 722 = .ok (.iadd, 1) := by decide +kernel
theorem dL_law_723 : decode cL_law 723 = .ok (.iaload, 1) := by decide +kernel
theorem dL_law_724 : decode cL_law 724 = .ok (.aload_n 0, 1) := by decide +kernel
theorem dL_law_725 : decode cL_law 725 = .ok (.iload_n 3, 1) := by decide +kernel
theorem dL_law_726 : decode cL_law 726 = .ok (.iconst 2, 1) := by decide +kernel
theorem dL_law_727 : decode cL_law 727 = .ok (.iadd, 1) := by decide +kernel
theorem dL_law_728 : decode cL_law 728 = .ok (.iaload, 1) := by decide +kernel
theorem dL_law_729 : decode cL_law 729 = .ok (.aload_n 0, 1) := by decide +kernel
theorem dL_law_730 : decode cL_law 730 = .ok (.iload_n 3, 1) := by decide +kernel
theorem dL_law_731 : decode cL_law 731 = .ok (.iconst 3, 1) := by decide +kernel
theorem dL_law_732 : decode cL_law 732 = .ok (.iadd, 1) := by decide +kernel
theorem dL_law_733 : decode cL_law 733 = .ok (.iaload, 1) := by decide +kernel
theorem dL_law_734 : decode cL_law 734 = .ok (.aload_n 0, 1) := by decide +kernel
theorem dL_law_735 : decode cL_law 735 = .ok (.iload_n 3, 1) := by decide +kernel
theorem dL_law_736 : decode cL_law 736 = .ok (.iconst 4, 1) := by decide +kernel
theorem dL_law_737 : decode cL_law 737 = .ok (.iadd, 1) := by decide +kernel
theorem dL_law_738 : decode cL_law 738 = .ok (.iaload, 1) := by decide +kernel
theorem dL_law_739 : decode cL_law 739 = .ok (.ifCond .eq 7, 3) := by decide +kernel
theorem dL_law_742 : decode cL_law 742 = .ok (.iconst 1, 1) := by decide +kernel
theorem dL_law_743 : decode cL_law 743 = .ok (.goto 4, 3) := by decide +kernel
theorem dL_law_746 : decode cL_law 746 = .ok (.iconst 0, 1) := by decide +kernel
theorem dL_law_747 : decode cL_law 747 = .ok (.invokevirtual 100, 3) := by decide +kernel
theorem dL_law_750 : decode cL_law 750 = .ok (.aload_n 2, 1) := by decide +kernel
theorem dL_law_751 : decode cL_law 751 = .ok (.aload_n 0, 1) := by decide +kernel
theorem dL_law_752 : decode cL_law 752 = .ok (.iload_n 3, 1) := by decide +kernel
theorem dL_law_753 : decode cL_law 753 = .ok (.iconst 1, 1) := by decide +kernel
theorem dL_law_754 : decode cL_law 754 = .ok (.iadd, 1) := by decide +kernel
theorem dL_law_755 : decode cL_law 755 = .ok (.iaload, 1) := by decide +kernel
theorem dL_law_756 : decode cL_law 756 = .ok (.aload_n 0, 1) := by decide +kernel
theorem dL_law_757 : decode cL_law 757 = .ok (.iload_n 3, 1) := by decide +kernel
theorem dL_law_758 : decode cL_law 758 = .ok (.iconst 2, 1) := by decide +kernel
theorem dL_law_759 : decode cL_law 759 = .ok (.iadd, 1) := by decide +kernel
theorem dL_law_760 : decode cL_law 760 = .ok (.iaload, 1) := by decide +kernel
theorem dL_law_761 : decode cL_law 761 = .ok (.aload_n 0, 1) := by decide +kernel
theorem dL_law_762 : decode cL_law 762 = .ok (.iload_n 3, 1) := by decide +kernel
theorem dL_law_763 : decode cL_law 763 = .ok (.iconst 3, 1) := by decide +kernel
theorem dL_law_764 : decode cL_law 764 = .ok (.iadd, 1) := by decide +kernel
theorem dL_law_765 : decode cL_law 765 = .ok (.iaload, 1) := by decide +kernel
theorem dL_law_766 : decode cL_law 766 = .ok (.aload_n 0, 1) := by decide +kernel
theorem dL_law_767 : decode cL_law 767 = .ok (.iload_n 3, 1) := by decide +kernel
theorem dL_law_768 : decode cL_law 768 = .ok (.iconst 4, 1) := by decide +kernel
theorem dL_law_769 : decode cL_law 769 = .ok (.iadd, 1) := by decide +kernel
theorem dL_law_770 : decode cL_law 770 = .ok (.iaload, 1) := by decide +kernel
theorem dL_law_771 : decode cL_law 771 = .ok (.ifCond .eq 7, 3) := by decide +kernel
theorem dL_law_774 : decode cL_law 774 = .ok (.iconst 1, 1) := by decide +kernel
theorem dL_law_775 : decode cL_law 775 = .ok (.goto 4, 3) := by decide +kernel
theorem dL_law_778 : decode cL_law 778 = .ok (.iconst 0, 1) := by decide +kernel
theorem dL_law_779 : decode cL_law 779 = .ok (.invokevirtual 104, 3) := by decide +kernel
theorem dL_law_782 : decode cL_law 782 = .ok (.lcmp, 1) := by decide +kernel
theorem dL_law_783 : decode cL_law 783 = .ok (.ifCond .eq 171, 3) := by decide +kernel
theorem dL_law_786 : decode cL_law 786 = .ok (.iconst 0, 1) := by decide +kernel
theorem dL_law_787 : decode cL_law 787 = .ok (.ireturn, 1) := by decide +kernel
theorem dL_law_788 : decode cL_law 788 = .ok (.aload_n 1, 1) := by decide +kernel
theorem dL_law_789 : decode cL_law 789 = .ok (.aload_n 0, 1) := by decide +kernel
theorem dL_law_790 : decode cL_law 790 = .ok (.iload_n 3, 1) := by decide +kernel
theorem dL_law_791 : decode cL_law 791 = .ok (.iconst 1, 1) := by decide +kernel
theorem dL_law_792 : decode cL_law 792 = .ok (.iadd, 1) := by decide +kernel
theorem dL_law_793 : decode cL_law 793 = .ok (.iaload, 1) := by decide +kernel
theorem dL_law_794 : decode cL_law 794 = .ok (.i2l, 1) := by decide +kernel
theorem dL_law_795 : decode cL_law 795 = .ok (.bipush 32, 2) := by decide +kernel
theorem dL_law_797 : decode cL_law 797 = .ok (.lshl, 1) := by decide +kernel
theorem dL_law_798 : decode cL_law 798 = .ok (.aload_n 0, 1) := by decide +kernel
theorem dL_law_799 : decode cL_law 799 = .ok (.iload_n 3, 1) := by decide +kernel
theorem dL_law_800 : decode cL_law 800 = .ok (.iconst 2, 1) := by decide +kernel
theorem dL_law_801 : decode cL_law 801 = .ok (.iadd, 1) := by decide +kernel
theorem dL_law_802 : decode cL_law 802 = .ok (.iaload, 1) := by decide +kernel
theorem dL_law_803 : decode cL_law 803 = .ok (.i2l, 1) := by decide +kernel
theorem dL_law_804 : decode cL_law 804 = .ok (.ldc2_w 105, 3) := by decide +kernel
theorem dL_law_807 : decode cL_law 807 = .ok (.land, 1) := by decide +kernel
theorem dL_law_808 : decode cL_law 808 = .ok (.lor, 1) := by decide +kernel
theorem dL_law_809 : decode cL_law 809 = .ok (.invokevirtual 107, 3) := by decide +kernel
theorem dL_law_812 : decode cL_law 812 = .ok (.aload_n 2, 1) := by decide +kernel
theorem dL_law_813 : decode cL_law 813 = .ok (.aload_n 0, 1) := by decide +kernel
theorem dL_law_814 : decode cL_law 814 = .ok (.iload_n 3, 1) := by decide +kernel
theorem dL_law_815 : decode cL_law 815 = .ok (.iconst 1, 1) := by decide +kernel
theorem dL_law_816 : decode cL_law 816 = .ok (.iadd, 1) := by decide +kernel
theorem dL_law_817 : decode cL_law 817 = .ok (.iaload, 1) := by decide +kernel
theorem dL_law_818 : decode cL_law 818 = .ok (.i2l, 1) := by decide +kernel
theorem dL_law_819 : decode cL_law 819 = .ok (.bipush 32, 2) := by decide +kernel
theorem dL_law_821 : decode cL_law 821 = .ok (.lshl, 1) := by decide +kernel
theorem dL_law_822 : decode cL_law 822 = .ok (.aload_n 0, 1) := by decide +kernel
theorem dL_law_823 : decode cL_law 823 = .ok (.iload_n 3, 1) := by decide +kernel
theorem dL_law_824 : decode cL_law 824 = .ok (.iconst 2, 1) := by decide +kernel
theorem dL_law_825 : decode cL_law 825 = .ok (.iadd, 1) := by decide +kernel
theorem dL_law_826 : decode cL_law 826 = .ok (.iaload, 1) := by decide +kernel
theorem dL_law_827 : decode cL_law 827 = .ok (.i2l, 1) := by decide +kernel
theorem dL_law_828 : decode cL_law 828 = .ok (.ldc2_w 105, 3) := by decide +kernel
theorem dL_law_831 : decode cL_law 831 = .ok (.land, 1) := by decide +kernel
theorem dL_law_832 : decode cL_law 832 = .ok (.lor, 1) := by decide +kernel
theorem dL_law_833 : decode cL_law 833 = .ok (.invokevirtual 111, 3) := by decide +kernel
theorem dL_law_836 : decode cL_law 836 = .ok (.lcmp, 1) := by decide +kernel
theorem dL_law_837 : decode cL_law 837 = .ok (.ifCond .eq 117, 3) := by decide +kernel
theorem dL_law_840 : decode cL_law 840 = .ok (.iconst 0, 1) := by decide +kernel
theorem dL_law_841 : decode cL_law 841 = .ok (.ireturn, 1) := by decide +kernel
theorem dL_law_842 : decode cL_law 842 = .ok (.aload_n 1, 1) := by decide +kernel
theorem dL_law_843 : decode cL_law 843 = .ok (.aload_n 0, 1) := by decide +kernel
theorem dL_law_844 : decode cL_law 844 = .ok (.iload_n 3, 1) := by decide +kernel
theorem dL_law_845 : decode cL_law 845 = .ok (.iconst 1, 1) := by decide +kernel
theorem dL_law_846 : decode cL_law 846 = .ok (.iadd, 1) := by decide +kernel
theorem dL_law_847 : decode cL_law 847 = .ok (.iaload, 1) := by decide +kernel
theorem dL_law_848 : decode cL_law 848 = .ok (.aload_n 0, 1) := by decide +kernel
theorem dL_law_849 : decode cL_law 849 = .ok (.iload_n 3, 1) := by decide +kernel
theorem dL_law_850 : decode cL_law 850 = .ok (.iconst 2, 1) := by decide +kernel
theorem dL_law_851 : decode cL_law 851 = .ok (.iadd, 1) := by decide +kernel
theorem dL_law_852 : decode cL_law 852 = .ok (.iaload, 1) := by decide +kernel
theorem dL_law_853 : decode cL_law 853 = .ok (.aload_n 0, 1) := by decide +kernel
theorem dL_law_854 : decode cL_law 854 = .ok (.iload_n 3, 1) := by decide +kernel
theorem dL_law_855 : decode cL_law 855 = .ok (.iconst 3, 1) := by decide +kernel
theorem dL_law_856 : decode cL_law 856 = .ok (.iadd, 1) := by decide +kernel
theorem dL_law_857 : decode cL_law 857 = .ok (.iaload, 1) := by decide +kernel
theorem dL_law_858 : decode cL_law 858 = .ok (.invokevirtual 112, 3) := by decide +kernel
theorem dL_law_861 : decode cL_law 861 = .ok (.aload_n 2, 1) := by decide +kernel
theorem dL_law_862 : decode cL_law 862 = .ok (.aload_n 0, 1) := by decide +kernel
theorem dL_law_863 : decode cL_law 863 = .ok (.iload_n 3, 1) := by decide +kernel
theorem dL_law_864 : decode cL_law 864 = .ok (.iconst 1, 1) := by decide +kernel
theorem dL_law_865 : decode cL_law 865 = .ok (.iadd, 1) := by decide +kernel
theorem dL_law_866 : decode cL_law 866 = .ok (.iaload, 1) := by decide +kernel
theorem dL_law_867 : decode cL_law 867 = .ok (.aload_n 0, 1) := by decide +kernel
theorem dL_law_868 : decode cL_law 868 = .ok (.iload_n 3, 1) := by decide +kernel
theorem dL_law_869 : decode cL_law 869 = .ok (.iconst 2, 1) := by decide +kernel
theorem dL_law_870 : decode cL_law 870 = .ok (.iadd, 1) := by decide +kernel
theorem dL_law_871 : decode cL_law 871 = .ok (.iaload, 1) := by decide +kernel
theorem dL_law_872 : decode cL_law 872 = .ok (.aload_n 0, 1) := by decide +kernel
theorem dL_law_873 : decode cL_law 873 = .ok (.iload_n 3, 1) := by decide +kernel
theorem dL_law_874 : decode cL_law 874 = .ok (.iconst 3, 1) := by decide +kernel
theorem dL_law_875 : decode cL_law 875 = .ok (.iadd, 1) := by decide +kernel
theorem dL_law_876 : decode cL_law 876 = .ok (.iaload, 1) := by decide +kernel
theorem dL_law_877 : decode cL_law 877 = .ok (.invokevirtual 115, 3) := by decide +kernel
theorem dL_law_880 : decode cL_law 880 = .ok (.if_icmp .eq 74, 3) := by decide +kernel
theorem dL_law_883 : decode cL_law 883 = .ok (.iconst 0, 1) := by decide +kernel
theorem dL_law_884 : decode cL_law 884 = .ok (.ireturn, 1) := by decide +kernel
theorem dL_law_885 : decode cL_law 885 = .ok (.aload_n 1, 1) := by decide +kernel
theorem dL_law_886 : decode cL_law 886 = .ok (.aload_n 0, 1) := by decide +kernel
theorem dL_law_887 : decode cL_law 887 = .ok (.iload_n 3, 1) := by decide +kernel
theorem dL_law_888 : decode cL_law 888 = .ok (.iconst 1, 1) := by decide +kernel
theorem dL_law_889 : decode cL_law 889 = .ok (.iadd, 1) := by decide +kernel
theorem dL_law_890 : decode cL_law 890 = .ok (.iaload, 1) := by decide +kernel
theorem dL_law_891 : decode cL_law 891 = .ok (.invokevirtual 116, 3) := by decide +kernel
theorem dL_law_894 : decode cL_law 894 = .ok (.aload_n 2, 1) := by decide +kernel
theorem dL_law_895 : decode cL_law 895 = .ok (.aload_n 0, 1) := by decide +kernel
theorem dL_law_896 : decode cL_law 896 = .ok (.iload_n 3, 1) := by decide +kernel
theorem dL_law_897 : decode cL_law 897 = .ok (.iconst 1, 1) := by decide +kernel
theorem dL_law_898 : decode cL_law 898 = .ok (.iadd, 1) := by decide +kernel
theorem dL_law_899 : decode cL_law 899 = .ok (.iaload, 1) := by decide +kernel
theorem dL_law_900 : decode cL_law 900 = .ok (.invokevirtual 119, 3) := by decide +kernel
theorem dL_law_903 : decode cL_law 903 = .ok (.if_icmp .eq 51, 3) := by decide +kernel
theorem dL_law_906 : decode cL_law 906 = .ok (.iconst 0, 1) := by decide +kernel
theorem dL_law_907 : decode cL_law 907 = .ok (.ireturn, 1) := by decide +kernel
theorem dL_law_908 : decode cL_law 908 = .ok (.aload_n 1, 1) := by decide +kernel
theorem dL_law_909 : decode cL_law 909 = .ok (.aload_n 0, 1) := by decide +kernel
theorem dL_law_910 : decode cL_law 910 = .ok (.iload_n 3, 1) := by decide +kernel
theorem dL_law_911 : decode cL_law 911 = .ok (.iconst 1, 1) := by decide +kernel
theorem dL_law_912 : decode cL_law 912 = .ok (.iadd, 1) := by decide +kernel
theorem dL_law_913 : decode cL_law 913 = .ok (.iaload, 1) := by decide +kernel
theorem dL_law_914 : decode cL_law 914 = .ok (.invokevirtual 120, 3) := by decide +kernel
theorem dL_law_917 : decode cL_law 917 = .ok (.aload_n 2, 1) := by decide +kernel
theorem dL_law_918 : decode cL_law 918 = .ok (.aload_n 0, 1) := by decide +kernel
theorem dL_law_919 : decode cL_law 919 = .ok (.iload_n 3, 1) := by decide +kernel
theorem dL_law_920 : decode cL_law 920 = .ok (.iconst 1, 1) := by decide +kernel
theorem dL_law_921 : decode cL_law 921 = .ok (.iadd, 1) := by decide +kernel
theorem dL_law_922 : decode cL_law 922 = .ok (.iaload, 1) := by decide +kernel
theorem dL_law_923 : decode cL_law 923 = .ok (.invokevirtual 123, 3) := by decide +kernel
theorem dL_law_926 : decode cL_law 926 = .ok (.if_icmp .eq 28, 3) := by decide +kernel
theorem dL_law_929 : decode cL_law 929 = .ok (.iconst 0, 1) := by decide +kernel
theorem dL_law_930 : decode cL_law 930 = .ok (.ireturn, 1) := by decide +kernel
theorem dL_law_931 : decode cL_law 931 = .ok (.aload_n 1, 1) := by decide +kernel
theorem dL_law_932 : decode cL_law 932 = .ok (.aload_n 0, 1) := by decide +kernel
theorem dL_law_933 : decode cL_law 933 = .ok (.iload_n 3, 1) := by decide +kernel
theorem dL_law_934 : decode cL_law 934 = .ok (.iconst 1, 1) := by decide +kernel
theorem dL_law_935 : decode cL_law 935 = .ok (.iadd, 1) := by decide +kernel
theorem dL_law_936 : decode cL_law 936 = .ok (.iaload, 1) := by decide +kernel
theorem dL_law_937 : decode cL_law 937 = .ok (.invokevirtual 124, 3) := by decide +kernel
theorem dL_law_940 : decode cL_law 940 = .ok (.aload_n 2, 1) := by decide +kernel
theorem dL_law_941 : decode cL_law 941 = .ok (.aload_n 0, 1) := by decide +kernel
theorem dL_law_942 : decode cL_law 942 = .ok (.iload_n 3, 1) := by decide +kernel
theorem dL_law_943 : decode cL_law 943 = .ok (.iconst 1, 1) := by decide +kernel
theorem dL_law_944 : decode cL_law 944 = .ok (.iadd, 1) := by decide +kernel
theorem dL_law_945 : decode cL_law 945 = .ok (.iaload, 1) := by decide +kernel
theorem dL_law_946 : decode cL_law 946 = .ok (.invokevirtual 127, 3) := by decide +kernel
theorem dL_law_949 : decode cL_law 949 = .ok (.if_icmp .eq 5, 3) := by decide +kernel
theorem dL_law_952 : decode cL_law 952 = .ok (.iconst 0, 1) := by decide +kernel
theorem dL_law_953 : decode cL_law 953 = .ok (.ireturn, 1) := by decide +kernel
theorem dL_law_954 : decode cL_law 954 = .ok (.iinc 3 5, 3) := by decide +kernel
theorem dL_law_957 : decode cL_law 957 = .ok (.goto (-939), 3) := by decide +kernel
theorem dL_law_960 : decode cL_law 960 = .ok (.iconst 1, 1) := by decide +kernel
theorem dL_law_961 : decode cL_law 961 = .ok (.ireturn, 1) := by decide +kernel
abbrev vwCl : List vw_C := [(RX0, TX0, 5), (RX1, TX1, 2), (RX2, TX2, 1), (RX4, TX4, 6), (RX5, TX5, 1), (RX6, TX6, 6), (RX7, TX7, 9), (RX8, TX8, 10), (RX9, TX9, 29)]
end
section
/-! ===== the world of one system: its cells by number, all its numbers in two maps ===== -/
abbrev GT : Type := (Nat → Nat) × (Nat → ClassId) × (Nat → Nat → Nat) × ClassId × ClassId × ClassId × ClassId
abbrev ST : Type := (Nat → Nat → Int32) × (Nat → Nat → Int64)
def aD (G : GT) (k : Nat) : Nat := G.1 k
def gD (G : GT) : va_G := (G.2.1, G.2.2.1)
def gI (G : GT) : ClassId := G.2.2.2.1
def gL (G : GT) : ClassId := G.2.2.2.2.1
def gZ (G : GT) : ClassId := G.2.2.2.2.2.1
def gO (G : GT) : ClassId := G.2.2.2.2.2.2
def gT (G : GT) : List (ClassId × FieldType) := [(gI G, .int), (gL G, .long), (gZ G, .boolean), (gO G, .object "GoneOverboard$Scene")]
abbrev CT : Type := GT → (Nat → Int32) → (Nat → Int64) → Nat → va_E
def wsG (cell : CT) (K : Nat) (G : GT) (σ : ST) : va_W := (List.range K).map (fun k => (aD G k, cell G (σ.1 k) (σ.2 k) k))
def gA (K : Nat) (G : GT) : Nat → Prop := fun q => ∃ k, k < K ∧ q = aD G k
def gJ (K : Nat) (G : GT) : Prop := ∀ i j, i < K → j < K → aD G i = aD G j → i = j
def nwF : List (String × Nat × String × String × String) := [("GoneOverboard$Scene", 75, "GoneOverboard$Told", "on", "I"), ("GoneOverboard", 240, "GoneOverboard$Told", "on", "I"), ("GoneOverboard$Scene", 78, "GoneOverboard$Told", "back", "I"), ("GoneOverboard", 243, "GoneOverboard$Told", "back", "I"), ("GoneOverboard$Ahead", 100, "GoneOverboard$Told", "sees", "I"), ("GoneOverboard", 246, "GoneOverboard$Told", "sees", "I"), ("GoneOverboard", 249, "GoneOverboard$Told", "finds", "I"), ("GoneOverboard$Scene", 28, "GoneOverboard$Told", "begin", "I"), ("GoneOverboard", 265, "GoneOverboard$Told", "begin", "I"), ("GoneOverboard", 99, "GoneOverboard$Told", "lasts", "I"), ("GoneOverboard$Scene", 81, "GoneOverboard$Told", "lasts", "I"), ("GoneOverboard$Ahead", 78, "GoneOverboard$Told", "secondCell", "I"), ("GoneOverboard", 188, "GoneOverboard$Told", "secondCell", "I"), ("GoneOverboard$Ahead", 90, "GoneOverboard$Told", "secondStep", "I"), ("GoneOverboard", 109, "GoneOverboard$Scene", "ship", "I"), ("GoneOverboard", 96, "GoneOverboard$Scene", "step", "I"), ("GoneOverboard$Ahead", 87, "GoneOverboard$Scene", "step", "I"), ("GoneOverboard", 115, "GoneOverboard$Scene", "heard", "I"), ("GoneOverboard$Ahead", 48, "GoneOverboard$Best", "found", "J"), ("GoneOverboard", 170, "GoneOverboard$Best", "found", "J"), ("GoneOverboard", 176, "GoneOverboard$Best", "row", "I"), ("GoneOverboard", 185, "GoneOverboard$Ahead", "sea", "LGoneOverboard$Best;"), ("GoneOverboard", 181, "GoneOverboard$Ahead", "aboard", "LGoneOverboard$Best;"), ("GoneOverboard", 194, "GoneOverboard$Ahead", "both", "LGoneOverboard$Best;"), ("GoneOverboard", 228, "GoneOverboard$Draws", "state", "J")]
def nwM : List (String × Nat × MethodName) := [("GoneOverboard$Ahead", 22, yX1_init), ("GoneOverboard", 54, yX2_init), ("GoneOverboard$Told", 61, yX8_isWithin), ("GoneOverboard$Scene", 51, yX8_moved), ("GoneOverboard$Scene", 86, yX8_isWithin), ("GoneOverboard$Ahead", 93, yX8_moved), ("GoneOverboard$Told", 72, yX8_moved)]
/-- the words on nest mates, which a method's own words can't hold -/
def nwOK (U : State) : Prop := (∀ q ∈ nwF, va_Nw (.fieldLinkNest q.1 q.2.1 q.2.2.1 q.2.2.2.1 q.2.2.2.2 "GoneOverboard") U) ∧ ∀ q ∈ nwM, va_Nw (.methodLinkNest q.1 q.2.1 q.2.2 "GoneOverboard") U
theorem nwOK.warm {s U : State} (hW : s.WarmedH U.vm) (h : nwOK s) : nwOK U := ⟨fun q hq => va_Nw.warmF hW (h.1 q hq), fun q hq => va_Nw.warmM hW (h.2 q hq)⟩
theorem nwOK.same {u U : State} (hv : u.vm = U.vm) (h : nwOK u) : nwOK U := ⟨fun q hq => va_Nw.same rfl hv (h.1 q hq), fun q hq => va_Nw.same rfl hv (h.2 q hq)⟩
def Gx (G : GT) (U : State) : Prop := va_K (gD G) vwCl (gT G) U ∧ nwOK U
theorem Gx.warm {G : GT} {s U : State} (hW : s.WarmedH U.vm) (h : Gx G s) : Gx G U := ⟨va_K.moved hW.alike h.1, h.2.warm hW⟩
theorem Gx.same {G : GT} {u U : State} (hv : u.vm = U.vm) (h : Gx G u) : Gx G U := ⟨va_K.moved (by rw [← hv]; exact Vm.Alike.refl u.vm) h.1, h.2.same hv⟩
def Wd (cell : CT) (K : Nat) (G : GT) (H0 : Heap) (σ : ST) (H : Heap) (locs : List Loc) : Prop := va_P (gD G) vwCl (wsG cell K G σ) H ∧ va_S (gA K G) H0 H locs
def pI (σ : ST) (k j : Nat) (v : Int32) : ST := (fun k' => if k' = k then upd (σ.1 k) j v else σ.1 k', σ.2)
def pL (σ : ST) (k j : Nat) (v : Int64) : ST := (σ.1, fun k' => if k' = k then vp_updL (σ.2 k) j v else σ.2 k')
theorem pI_1 {σ : ST} {k j : Nat} {v : Int32} : (pI σ k j v).1 k = upd (σ.1 k) j v := by simp [pI]
theorem pI_2 {σ : ST} {k j : Nat} {v : Int32} : (pI σ k j v).2 = σ.2 := rfl
theorem pI_n {σ : ST} {k j : Nat} {v : Int32} {k' : Nat} (h : k' ≠ k) : (pI σ k j v).1 k' = σ.1 k' := by simp [pI, h]
theorem pL_1 {σ : ST} {k j : Nat} {v : Int64} : (pL σ k j v).2 k = vp_updL (σ.2 k) j v := by simp [pL]
theorem pL_2 {σ : ST} {k j : Nat} {v : Int64} : (pL σ k j v).1 = σ.1 := rfl
theorem pL_n {σ : ST} {k j : Nat} {v : Int64} {k' : Nat} (h : k' ≠ k) : (pL σ k j v).2 k' = σ.2 k' := by simp [pL, h]
theorem wsG_at {cell : CT} {K : Nat} {G : GT} {σ : ST} {k : Nat} (h : k < K) : (wsG cell K G σ)[k]? = some (aD G k, cell G (σ.1 k) (σ.2 k) k) := by
  simp [wsG, List.getElem?_map, List.getElem?_range h]
theorem wsG_in {cell : CT} {K : Nat} {G : GT} {σ : ST} {k : Nat} {q : Nat × va_E} (h : (wsG cell K G σ)[k]? = some q) : k < K ∧ q = (aD G k, cell G (σ.1 k) (σ.2 k) k) := by
  have hk : k < K := by
    have := (List.getElem?_eq_some_iff.mp h).1
    simpa [wsG] using this
  rw [wsG_at hk] at h
  exact ⟨hk, (Option.some.inj h).symm⟩
theorem wsG_set {cell : CT} {K : Nat} {G : GT} {σ σ' : ST} {k : Nat} {x : va_E} (hk : k < K) (h1 : ∀ k', k' ≠ k → σ'.1 k' = σ.1 k' ∧ σ'.2 k' = σ.2 k') (he : cell G (σ'.1 k) (σ'.2 k) k = x) : (wsG cell K G σ).set k (aD G k, x) = wsG cell K G σ' := by
  apply List.ext_getElem?
  intro i
  by_cases hi : i < K
  · by_cases hik : k = i
    · subst hik
      rw [wsG_at hk, List.getElem?_set_self (by simpa [wsG] using hk), he]
    · rw [List.getElem?_set_ne hik, wsG_at hi, wsG_at hi, (h1 i (Ne.symm hik)).1, (h1 i (Ne.symm hik)).2]
  · rw [List.getElem?_eq_none (by simpa [wsG] using hi), List.getElem?_eq_none (by simpa [wsG] using hi)]
theorem wsG_D {cell : CT} {K : Nat} {G : GT} (hJ : gJ K G) (σ : ST) : va_D (gA K G) (wsG cell K G σ) := by
  refine ⟨fun i j p q hp hq h => ?_, fun k q hq => ?_⟩
  · obtain ⟨h1, rfl⟩ := wsG_in hp
    obtain ⟨h2, rfl⟩ := wsG_in hq
    exact hJ i j h1 h2 h
  · obtain ⟨h1, rfl⟩ := wsG_in hq
    exact ⟨k, h1, rfl⟩
/-! what a method may take for granted while it runs -/
def Cx (p : Program) (s : State) (m : MethodId) (args : Array Value) (meth : Method) (c : Code) (cc : ByteArray) (own : String) (nL : Nat) (ret : Option FieldType) (Ts : List Cond) : Prop :=
  p.tables.exec = Jvm.exec ∧ c.code = cc ∧ meth.sig.returnType = ret ∧ (∀ w ∈ Ts, w.before args s = true) ∧ s.vm.findClass own = some m.cls ∧ c.maxLocals = nL ∧ meth.locks = false
def XPc (cell : CT) (K : Nat) (G : GT) (σ : ST) (av : List Value) : Array Value → State → Prop := va_Pc av (fun U => va_P (gD G) vwCl (wsG cell K G σ) U.heap ∧ Gx G U)
theorem XPc.blind {cell : CT} {K : Nat} {G : GT} {σ : ST} {av : List Value} : FrameBlind (XPc cell K G σ av) := fun _ U g mk q => ⟨q.1, q.2.1, Gx.same (u := U) rfl q.2.2⟩
def XQi (cell : CT) (K : Nat) (G : GT) (r : Int32) (σ : ST) : Array Value → State → Outcome → State → Prop := va_Qi (S := Unit) (fun x _ => x = r) (fun _ t => va_P (gD G) vwCl (wsG cell K G σ) t.heap) (gA K G)
def XQl (cell : CT) (K : Nat) (G : GT) (r : Int64) (σ : ST) : Array Value → State → Outcome → State → Prop := va_Ql (S := Unit) (fun x _ => x = r) (fun _ t => va_P (gD G) vwCl (wsG cell K G σ) t.heap) (gA K G)
def XQv (cell : CT) (K : Nat) (G : GT) (σ : ST) : Array Value → State → Outcome → State → Prop := va_Qv (S := Unit) (fun _ => True) (fun _ t => va_P (gD G) vwCl (wsG cell K G σ) t.heap) (gA K G)
def XQr (cell : CT) (K : Nat) (G : GT) (r : Option Nat) (σ : ST) : Array Value → State → Outcome → State → Prop := va_Qq (S := Unit) (fun x _ => x = r.map (aD G)) (fun _ t => va_P (gD G) vwCl (wsG cell K G σ) t.heap) (gA K G)
/-! the words of the pure picture -/
def gd {α : Type} (b : Bool) (x : Option α) : Option α := if b = true then x else none
def bd {α β : Type} (x : Option α) (f : α → Option β) : Option β := match x with
  | none => none
  | some a => f a
theorem gd_some {α : Type} {b : Bool} {x : Option α} {r : α} (h : gd b x = some r) : b = true ∧ x = some r := by
  unfold gd at h
  by_cases hb : b = true
  · rw [if_pos hb] at h; exact ⟨hb, h⟩
  · rw [if_neg hb] at h; cases h
theorem bd_some {α β : Type} {x : Option α} {f : α → Option β} {r : β} (h : bd x f = some r) : ∃ a, x = some a ∧ f a = some r := by
  cases x with
  | none => cases h
  | some a => exact ⟨a, rfl, h⟩
def inb (i : Int32) (n : Nat) : Bool := !(decide (i < 0)) && decide (i.toNatClampNeg < n)
theorem inb_vp {i : Int32} {n : Nat} (h : inb i n = true) : vp_in i n := by
  simp [inb] at h
  intro q
  rcases q with q | q
  · exact absurd h.1 (Int32.not_le.mpr q)
  · omega
def nz (y : Int32) : Bool := !(decide (y = 0))
def nzL (y : Int64) : Bool := !(decide (y = 0))
theorem nz_of {y : Int32} (h : nz y = true) : ¬ y = 0 := by simpa [nz] using h
theorem nzL_of {y : Int64} (h : nzL y = true) : ¬ y = 0 := by simpa [nzL] using h
def zok (x : Int32) : Bool := decide (x = 0 ∨ x = 1)
theorem zok_n {x : Int32} (h : zok x = true) : narrow .boolean (.int x) = .int x := by
  rcases (of_decide_eq_true h : x = 0 ∨ x = 1) with rfl | rfl <;> rfl
theorem zok_f {x : Int32} (h : zok x = true) : fits .boolean (.int x) = true := by
  rcases (of_decide_eq_true h : x = 0 ∨ x = 1) with rfl | rfl <;> rfl
section XRows
variable {p : Program} {l : Launch} {e : Env} {R : Room} {s : State} {m : MethodId} {args : Array Value} {below : List Frame} {meth : Method} {c : Code} {H : Heap} {locs : List Loc} {cells slots : Nat} {Q : State → Prop}
variable {cell : CT} {K : Nat} {G : GT} {σ σ' : ST} {cc : ByteArray} {own : String} {nL : Nat} {ret : Option FieldType} {Ts : List Cond} {pc : Nat} {ls : Array Slot} {rest : List Value}
/-- a field is read -/
theorem x_get (C0 : Cx p s m args meth c cc own nL ret Ts) (G0 : Gx G s) (hW : Wd cell K G s.heap σ H locs) {C : String} {T : u_T} {N ci index k : Nat} {fs : List Value} (hcell : cell G (σ.1 k) (σ.2 k) k = .inr (ci, fs)) (hk : k < K) (hc : vwCl[ci]? = some (C, T, N)) (j : Nat) (hj : j < N) (hin : ∀ w ∈ u_ws C T N, w ∈ Ts) (hlink : Cond.fieldLink own index (T j).1 (T j).2.1 (T j).2.2.1 ∈ Ts) {v : Value} (hv : fs[j]? = some v) (hd : decode cc pc = .ok (.getfield index, 3)) (kk : W p l e R s m args below meth c H locs cells slots Q (F0 m (pc + 3) ls (v :: rest))) : W p l e R s m args below meth c H locs cells slots Q (F0 m pc ls (.ref (aD G k) :: rest)) := by
  obtain ⟨hx, hb, -, hts, hown, -, -⟩ := C0
  exact va_get hx hb hts hin hown G0.1 hW.1 k (by rw [wsG_at hk, hcell]) hc j hj (hts _ hlink) (fun _ h => h) hv hd kk
/-- a nest mate's private field is read -/
theorem x_getN (C0 : Cx p s m args meth c cc own nL ret Ts) (G0 : Gx G s) (hW : Wd cell K G s.heap σ H locs) {C : String} {T : u_T} {N ci index k : Nat} {fs : List Value} (hcell : cell G (σ.1 k) (σ.2 k) k = .inr (ci, fs)) (hk : k < K) (hc : vwCl[ci]? = some (C, T, N)) (j : Nat) (hj : j < N) (hin : ∀ w ∈ u_ws C T N, w ∈ Ts) (hlink : (own, index, (T j).1, (T j).2.1, (T j).2.2.1) ∈ nwF) {v : Value} (hv : fs[j]? = some v) (hd : decode cc pc = .ok (.getfield index, 3)) (kk : W p l e R s m args below meth c H locs cells slots Q (F0 m (pc + 3) ls (v :: rest))) : W p l e R s m args below meth c H locs cells slots Q (F0 m pc ls (.ref (aD G k) :: rest)) := by
  obtain ⟨hx, hb, -, hts, hown, -, -⟩ := C0
  exact va_getN hx hb hts hin hown G0.1 hW.1 k (by rw [wsG_at hk, hcell]) hc j hj (va_Nw.use rfl (G0.2.1 _ hlink)) (fun _ h => h) hv hd kk
/-- a field is written -/
theorem x_put (C0 : Cx p s m args meth c cc own nL ret Ts) (G0 : Gx G s) (hJ : gJ K G) (hW : Wd cell K G s.heap σ H locs) {C : String} {T : u_T} {N ci index k : Nat} {fs : List Value} (hcell : cell G (σ.1 k) (σ.2 k) k = .inr (ci, fs)) (hk : k < K) (hc : vwCl[ci]? = some (C, T, N)) (j : Nat) (hj : j < N) (hin : ∀ w ∈ u_ws C T N, w ∈ Ts) (hlink : Cond.fieldLink own index (T j).1 (T j).2.1 (T j).2.2.1 ∈ Ts) (ty0 : Nat → FieldType) (hty : ∀ k, k < N → parseFieldDescriptor (T k).2.2.1 = some (ty0 k)) (hnm : ∀ a, a < N → ∀ b, b < N → a ≠ b → (T a).2.1 ≠ (T b).2.1) (hfin : (T j).2.2.2 = false) {v : Value} (hn : narrow (ty0 j) v = v) (hfit : fits (ty0 j) v = true) (hl : j < fs.length)
    (h1 : ∀ k', k' ≠ k → σ'.1 k' = σ.1 k' ∧ σ'.2 k' = σ.2 k') (h2 : cell G (σ'.1 k) (σ'.2 k) k = .inr (ci, fs.set j v)) (hd : decode cc pc = .ok (.putfield index, 3)) (kk : ∀ (H : Heap) (locs : List Loc), Wd cell K G s.heap σ' H locs → W p l e R s m args below meth c H locs cells slots Q (F0 m (pc + 3) ls rest)) : W p l e R s m args below meth c H locs cells slots Q (F0 m pc ls (v :: .ref (aD G k) :: rest)) := by
  obtain ⟨hx, hb, -, hts, hown, -, -⟩ := C0
  refine va_put hx hb hts hin ty0 hty hnm hown G0.1 hW.1 (wsG_D hJ σ) hW.2 k (by rw [wsG_at hk, hcell]) hc j hj (hts _ hlink) (fun _ h => h) hfin (hty j hj) hn hfit hl hd (fun H1 locs1 hP _ hS => kk H1 locs1 ⟨?_, hS⟩)
  rw [wsG_set hk h1 h2] at hP
  exact hP
/-- a number of an int field, as a new map -/
theorem x_putI (C0 : Cx p s m args meth c cc own nL ret Ts) (G0 : Gx G s) (hJ : gJ K G) (hW : Wd cell K G s.heap σ H locs) {C : String} {T : u_T} {N ci index k : Nat} {fs : List Value} (hcell : cell G (σ.1 k) (σ.2 k) k = .inr (ci, fs)) (hk : k < K) (hc : vwCl[ci]? = some (C, T, N)) (j : Nat) (hj : j < N) (hin : ∀ w ∈ u_ws C T N, w ∈ Ts) (hlink : Cond.fieldLink own index (T j).1 (T j).2.1 (T j).2.2.1 ∈ Ts) (ty0 : Nat → FieldType) (hty : ∀ k, k < N → parseFieldDescriptor (T k).2.2.1 = some (ty0 k)) (hnm : ∀ a, a < N → ∀ b, b < N → a ≠ b → (T a).2.1 ≠ (T b).2.1) (hfin : (T j).2.2.2 = false) {v : Int32} (hn : narrow (ty0 j) (.int v) = .int v) (hfit : fits (ty0 j) (.int v) = true) (hl : j < fs.length)
    (h2 : cell G (upd (σ.1 k) j v) (σ.2 k) k = .inr (ci, fs.set j (.int v))) (hd : decode cc pc = .ok (.putfield index, 3)) (kk : ∀ (H : Heap) (locs : List Loc), Wd cell K G s.heap (pI σ k j v) H locs → W p l e R s m args below meth c H locs cells slots Q (F0 m (pc + 3) ls rest)) : W p l e R s m args below meth c H locs cells slots Q (F0 m pc ls (.int v :: .ref (aD G k) :: rest)) :=
  x_put C0 G0 hJ hW hcell hk hc j hj hin hlink ty0 hty hnm hfin hn hfit hl (fun k' h => ⟨pI_n h, rfl⟩) (by rw [pI_1, pI_2]; exact h2) hd kk
theorem x_putL (C0 : Cx p s m args meth c cc own nL ret Ts) (G0 : Gx G s) (hJ : gJ K G) (hW : Wd cell K G s.heap σ H locs) {C : String} {T : u_T} {N ci index k : Nat} {fs : List Value} (hcell : cell G (σ.1 k) (σ.2 k) k = .inr (ci, fs)) (hk : k < K) (hc : vwCl[ci]? = some (C, T, N)) (j : Nat) (hj : j < N) (hin : ∀ w ∈ u_ws C T N, w ∈ Ts) (hlink : Cond.fieldLink own index (T j).1 (T j).2.1 (T j).2.2.1 ∈ Ts) (ty0 : Nat → FieldType) (hty : ∀ k, k < N → parseFieldDescriptor (T k).2.2.1 = some (ty0 k)) (hnm : ∀ a, a < N → ∀ b, b < N → a ≠ b → (T a).2.1 ≠ (T b).2.1) (hfin : (T j).2.2.2 = false) {v : Int64} (hn : narrow (ty0 j) (.long v) = .long v) (hfit : fits (ty0 j) (.long v) = true) (hl : j < fs.length)
    (h2 : cell G (σ.1 k) (vp_updL (σ.2 k) j v) k = .inr (ci, fs.set j (.long v))) (hd : decode cc pc = .ok (.putfield index, 3)) (kk : ∀ (H : Heap) (locs : List Loc), Wd cell K G s.heap (pL σ k j v) H locs → W p l e R s m args below meth c H locs cells slots Q (F0 m (pc + 3) ls rest)) : W p l e R s m args below meth c H locs cells slots Q (F0 m pc ls (.long v :: .ref (aD G k) :: rest)) :=
  x_put C0 G0 hJ hW hcell hk hc j hj hin hlink ty0 hty hnm hfin hn hfit hl (fun k' h => ⟨rfl, pL_n h⟩) (by rw [pL_1, pL_2]; exact h2) hd kk
/-! arrays -/
theorem x_alen (C0 : Cx p s m args meth c cc own nL ret Ts) (G0 : Gx G s) (hW : Wd cell K G s.heap σ H locs) {k : Nat} {cA : ClassId} {x : vp_A} {ty : FieldType} (t0 : Nat) (hcell : cell G (σ.1 k) (σ.2 k) k = .inl (cA, x)) (hk : k < K) (ht : (gT G)[t0]? = some (cA, ty)) {v : Int32} (hv : Int32.ofNat x.1 = v) (hd : decode cc pc = .ok (.arraylength, 1)) (kk : W p l e R s m args below meth c H locs cells slots Q (F0 m (pc + 1) ls (.int v :: rest))) : W p l e R s m args below meth c H locs cells slots Q (F0 m pc ls (.ref (aD G k) :: rest)) :=
  va_alen C0.1 C0.2.1 G0.1 hW.1 k t0 (by rw [wsG_at hk, hcell]) ht hv hd kk
theorem x_iald (C0 : Cx p s m args meth c cc own nL ret Ts) (G0 : Gx G s) (hW : Wd cell K G s.heap σ H locs) {k n : Nat} (hcell : cell G (σ.1 k) (σ.2 k) k = .inl (gI G, n, .inl (σ.1 k))) (hk : k < K) {i : Int32} (hi : inb i n = true) (hd : decode cc pc = .ok (.iaload, 1)) (kk : W p l e R s m args below meth c H locs cells slots Q (F0 m (pc + 1) ls (.int (σ.1 k i.toNatClampNeg) :: rest))) : W p l e R s m args below meth c H locs cells slots Q (F0 m pc ls (.int i :: .ref (aD G k) :: rest)) :=
  va_iald C0.1 C0.2.1 G0.1 hW.1 k 0 (by rw [wsG_at hk, hcell]) rfl (inb_vp hi) hd kk
theorem x_lald (C0 : Cx p s m args meth c cc own nL ret Ts) (G0 : Gx G s) (hW : Wd cell K G s.heap σ H locs) {k n : Nat} (hcell : cell G (σ.1 k) (σ.2 k) k = .inl (gL G, n, .inr (.inl (σ.2 k)))) (hk : k < K) {i : Int32} (hi : inb i n = true) (hd : decode cc pc = .ok (.laload, 1)) (kk : W p l e R s m args below meth c H locs cells slots Q (F0 m (pc + 1) ls (.long (σ.2 k i.toNatClampNeg) :: rest))) : W p l e R s m args below meth c H locs cells slots Q (F0 m pc ls (.int i :: .ref (aD G k) :: rest)) :=
  va_lald C0.1 C0.2.1 G0.1 hW.1 k 1 (by rw [wsG_at hk, hcell]) rfl (inb_vp hi) hd kk
theorem x_zald (C0 : Cx p s m args meth c cc own nL ret Ts) (G0 : Gx G s) (hW : Wd cell K G s.heap σ H locs) {k n : Nat} (hcell : cell G (σ.1 k) (σ.2 k) k = .inl (gZ G, n, .inl (σ.1 k))) (hk : k < K) {i : Int32} (hi : inb i n = true) (hd : decode cc pc = .ok (.baload, 1)) (kk : W p l e R s m args below meth c H locs cells slots Q (F0 m (pc + 1) ls (.int (σ.1 k i.toNatClampNeg) :: rest))) : W p l e R s m args below meth c H locs cells slots Q (F0 m pc ls (.int i :: .ref (aD G k) :: rest)) :=
  va_zald C0.1 C0.2.1 G0.1 hW.1 k 2 (by rw [wsG_at hk, hcell]) rfl (inb_vp hi) hd kk
theorem x_rald (C0 : Cx p s m args meth c cc own nL ret Ts) (G0 : Gx G s) (hW : Wd cell K G s.heap σ H locs) {k n : Nat} {f : Nat → Option Nat} (hcell : cell G (σ.1 k) (σ.2 k) k = .inl (gO G, n, .inr (.inr (.inr (.inr f))))) (hk : k < K) {i : Int32} (hi : inb i n = true) (hd : decode cc pc = .ok (.aaload, 1)) {v : Value} (hv : va_rf (f i.toNatClampNeg) = v) (kk : W p l e R s m args below meth c H locs cells slots Q (F0 m (pc + 1) ls (v :: rest))) : W p l e R s m args below meth c H locs cells slots Q (F0 m pc ls (.int i :: .ref (aD G k) :: rest)) := by
  subst hv
  exact va_aldq C0.1 C0.2.1 G0.1 hW.1 k 3 (by rw [wsG_at hk, hcell]) rfl (inb_vp hi) hd kk
theorem x_iast (C0 : Cx p s m args meth c cc own nL ret Ts) (G0 : Gx G s) (hJ : gJ K G) (hW : Wd cell K G s.heap σ H locs) {k n : Nat} (hcell : ∀ f g, cell G f g k = .inl (gI G, n, .inl f)) (hk : k < K) {i x : Int32} (hi : inb i n = true) (hd : decode cc pc = .ok (.iastore, 1)) (kk : ∀ (H : Heap) (locs : List Loc), Wd cell K G s.heap (pI σ k i.toNatClampNeg x) H locs → W p l e R s m args below meth c H locs cells slots Q (F0 m (pc + 1) ls rest)) : W p l e R s m args below meth c H locs cells slots Q (F0 m pc ls (.int x :: .int i :: .ref (aD G k) :: rest)) := by
  refine va_iast C0.1 C0.2.1 G0.1 hW.1 (wsG_D hJ σ) hW.2 k 0 (by rw [wsG_at hk, hcell]) rfl (inb_vp hi) hd (fun H1 locs1 hP _ hS => kk H1 locs1 ⟨?_, hS⟩)
  rw [wsG_set (σ' := pI σ k i.toNatClampNeg x) hk (fun k' h => ⟨pI_n h, rfl⟩) (by rw [hcell, pI_1])] at hP
  exact hP
theorem x_last (C0 : Cx p s m args meth c cc own nL ret Ts) (G0 : Gx G s) (hJ : gJ K G) (hW : Wd cell K G s.heap σ H locs) {k n : Nat} (hcell : ∀ f g, cell G f g k = .inl (gL G, n, .inr (.inl g))) (hk : k < K) {i : Int32} {x : Int64} (hi : inb i n = true) (hd : decode cc pc = .ok (.lastore, 1)) (kk : ∀ (H : Heap) (locs : List Loc), Wd cell K G s.heap (pL σ k i.toNatClampNeg x) H locs → W p l e R s m args below meth c H locs cells slots Q (F0 m (pc + 1) ls rest)) : W p l e R s m args below meth c H locs cells slots Q (F0 m pc ls (.long x :: .int i :: .ref (aD G k) :: rest)) := by
  refine va_last C0.1 C0.2.1 G0.1 hW.1 (wsG_D hJ σ) hW.2 k 1 (by rw [wsG_at hk, hcell]) rfl (inb_vp hi) hd (fun H1 locs1 hP _ hS => kk H1 locs1 ⟨?_, hS⟩)
  rw [wsG_set (σ' := pL σ k i.toNatClampNeg x) hk (fun k' h => ⟨rfl, pL_n h⟩) (by rw [hcell, pL_1])] at hP
  exact hP
theorem x_zast (C0 : Cx p s m args meth c cc own nL ret Ts) (G0 : Gx G s) (hJ : gJ K G) (hW : Wd cell K G s.heap σ H locs) {k n : Nat} (hcell : ∀ f g, cell G f g k = .inl (gZ G, n, .inl f)) (hk : k < K) {i x : Int32} (hi : inb i n = true) (hx : zok x = true) (hd : decode cc pc = .ok (.bastore, 1)) (kk : ∀ (H : Heap) (locs : List Loc), Wd cell K G s.heap (pI σ k i.toNatClampNeg x) H locs → W p l e R s m args below meth c H locs cells slots Q (F0 m (pc + 1) ls rest)) : W p l e R s m args below meth c H locs cells slots Q (F0 m pc ls (.int x :: .int i :: .ref (aD G k) :: rest)) := by
  refine va_zast C0.1 C0.2.1 G0.1 hW.1 (wsG_D hJ σ) hW.2 k 2 (by rw [wsG_at hk, hcell]) rfl (inb_vp hi) hd (fun H1 locs1 hP _ hS => kk H1 locs1 ⟨?_, hS⟩)
  have hx2 : vp_nar .boolean x = x := by unfold vp_nar; rw [zok_n hx]
  rw [hx2] at hP
  rw [wsG_set (σ' := pI σ k i.toNatClampNeg x) hk (fun k' h => ⟨pI_n h, rfl⟩) (by rw [hcell, pI_1])] at hP
  exact hP
/-! calls: the run, and what comes behind it -/
theorem x_runV (C0 : Cx p s m args meth c cc own nL ret Ts) (G0 : Gx G s) (hW : Wd cell K G s.heap σ H locs) {y : MethodName} {ws : List Cond} {rm : Room} {Qc : Array Value → State → Outcome → State → Prop} {As st0 : List Value} {k ci index maxL n N : Nat} {C : String} {T : u_T} {fs : List Value} {bytes : ByteArray} {ret2 : Option FieldType} {lv : List (Nat × Value)} (hM : Met l y ws rm (XPc cell K G σ (.ref (aD G k) :: As)) Qc 0 0 (gA K G)) (cw : CallW R s args own C index y bytes maxL ret2 ws rm 0 0 n) (hcell : cell G (σ.1 k) (σ.2 k) k = .inr (ci, fs)) (hk : k < K) (hc : vwCl[ci]? = some (C, T, N)) (hn : As.length = n) (hst : st0 = As.reverse ++ .ref (aD G k) :: rest) (hl : lv_has ls nL lv) (hroom : (rest.map fun v => v.category).sum ≤ 8) (hd : decode cc pc = .ok (.invokevirtual index, 3)) (hR : cells + 0 ≤ R.cells ∧ slots + 0 ≤ R.slots) : va_Run p l e R s m args below meth c H locs cells slots 0 0 (F0 m pc ls st0) rest (Qc (Value.ref (aD G k) :: As).toArray) (gA K G) := by
  obtain ⟨hx, hb, hr, hts, hown, hml, hlk⟩ := C0
  exact va_runV (g := F0 m pc ls st0) (nL := nL) (cc := cc) ⟨hx, hb, hml, hown, hts⟩ hM cw ⟨XPc.blind, va_recv G0.1 hW.1 hc (by rw [wsG_at hk, hcell]), fun U hU hw => ⟨rfl, by rw [hU]; exact hW.1, G0.warm hw⟩⟩ rfl hn hl.1 hst (lv_room (m := m) (pc := pc) (ls := ls) (rest := st0) hroom) hd hR
theorem x_runS (C0 : Cx p s m args meth c cc own nL ret Ts) (G0 : Gx G s) (hW : Wd cell K G s.heap σ H locs) {y : MethodName} {ws : List Cond} {rm : Room} {Qc : Array Value → State → Outcome → State → Prop} {As st0 : List Value} {index maxL n : Nat} {bytes : ByteArray} {ret2 : Option FieldType} {lv : List (Nat × Value)} (hM : Met l y ws rm (XPc cell K G σ As) Qc 0 0 (gA K G)) (cw : CallB R s args own index y bytes maxL ret2 ws rm 0 0 n ∧ (Cond.static y).before args s = true) (hn : As.length = n) (hst : st0 = As.reverse ++ rest) (hl : lv_has ls nL lv) (hroom : (rest.map fun v => v.category).sum ≤ 8) (hd : decode cc pc = .ok (.invokestatic index, 3)) (hR : cells + 0 ≤ R.cells ∧ slots + 0 ≤ R.slots) : va_Run p l e R s m args below meth c H locs cells slots 0 0 (F0 m pc ls st0) rest (Qc As.toArray) (gA K G) := by
  obtain ⟨hx, hb, hr, hts, hown, hml, hlk⟩ := C0
  exact va_runS (g := F0 m pc ls st0) (nL := nL) (cc := cc) ⟨hx, hb, hml, hown, hts⟩ hM cw ⟨XPc.blind, fun U hU hw => ⟨rfl, by rw [hU]; exact hW.1, G0.warm hw⟩⟩ rfl hn hl.1 hst (lv_room (m := m) (pc := pc) (ls := ls) (rest := st0) hroom) hd hR
theorem x_runSN (C0 : Cx p s m args meth c cc own nL ret Ts) (G0 : Gx G s) (hW : Wd cell K G s.heap σ H locs) {y : MethodName} {ws ws' : List Cond} {rm : Room} {Qc : Array Value → State → Outcome → State → Prop} {As st0 : List Value} {index maxL n : Nat} {bytes : ByteArray} {ret2 : Option FieldType} {lv : List (Nat × Value)} (hM : Met l y ws rm (XPc cell K G σ As) Qc 0 0 (gA K G)) (hG : GoodIn Ts ws) (hw : ws = Cond.code y bytes maxL ret2 :: ws') (hrc : rm.cells = 0) (hrs : rm.slots = 0) (hnw : (own, index, y) ∈ nwM) (hini : Cond.initialized y.cls ∈ Ts) (hstat : Cond.static y ∈ Ts)
    (hd2 : y.cls ≠ "java/lang/invoke/MethodHandle" ∧ y.cls ≠ "java/lang/invoke/VarHandle" ∧ (parseMethodDescriptor y.desc).map (fun d => d.parameters.length) = some n) (hR2 : rm.frames + 1 ≤ R.frames ∧ 8 + (maxL + 11) + rm.locals ≤ R.locals) (hn : As.length = n) (hst : st0 = As.reverse ++ rest) (hl : lv_has ls nL lv) (hroom : (rest.map fun v => v.category).sum ≤ 8) (hd : decode cc pc = .ok (.invokestatic index, 3)) (hR : cells + 0 ≤ R.cells ∧ slots + 0 ≤ R.slots) : va_Run p l e R s m args below meth c H locs cells slots 0 0 (F0 m pc ls st0) rest (Qc As.toArray) (gA K G) := by
  obtain ⟨hx, hb, hr, hts, hown, hml, hlk⟩ := C0
  exact va_runSN (g := F0 m pc ls st0) (nL := nL) (cc := cc) ⟨hx, hb, hml, hown, hts⟩ hM ⟨va_cnB n hts hG hw hrc hrs (G0.2.2 _ hnw) (hts _ hini) hd2 hR2, hts _ hstat, trivial⟩ ⟨XPc.blind, fun U hU hw => ⟨rfl, by rw [hU]; exact hW.1, G0.warm hw⟩⟩ rfl hn hl.1 hst (lv_room (m := m) (pc := pc) (ls := ls) (rest := st0) hroom) hd hR
theorem x_ki {st0 : List Value} {r : Int32} {a : Array Value} (hr : va_Run p l e R s m args below meth c H locs cells slots 0 0 (F0 m pc ls st0) rest (XQi cell K G r σ' a) (gA K G)) (hW : Wd cell K G s.heap σ H locs) (kk : ∀ (H : Heap) (locs : List Loc), Wd cell K G s.heap σ' H locs → W p l e R s m args below meth c H locs cells slots Q (F0 m (pc + 3) ls (.int r :: rest))) : W p l e R s m args below meth c H locs cells slots Q (F0 m pc ls st0) := by
  refine va_calli hr hW.2 (fun _ _ h => h) (fun _ h => h) (fun r' _ t H1 locs1 ht _ hp hB _ _ hS => ?_)
  subst hp; subst ht
  exact kk _ _ ⟨hB, hS⟩
theorem x_kl {st0 : List Value} {r : Int64} {a : Array Value} (hr : va_Run p l e R s m args below meth c H locs cells slots 0 0 (F0 m pc ls st0) rest (XQl cell K G r σ' a) (gA K G)) (hW : Wd cell K G s.heap σ H locs) (kk : ∀ (H : Heap) (locs : List Loc), Wd cell K G s.heap σ' H locs → W p l e R s m args below meth c H locs cells slots Q (F0 m (pc + 3) ls (.long r :: rest))) : W p l e R s m args below meth c H locs cells slots Q (F0 m pc ls st0) := by
  refine va_calll hr hW.2 (fun _ _ h => h) (fun _ h => h) (fun r' _ t H1 locs1 ht _ hp hB _ _ hS => ?_)
  subst hp; subst ht
  exact kk _ _ ⟨hB, hS⟩
theorem x_kv {st0 : List Value} {a : Array Value} (hr : va_Run p l e R s m args below meth c H locs cells slots 0 0 (F0 m pc ls st0) rest (XQv cell K G σ' a) (gA K G)) (hW : Wd cell K G s.heap σ H locs) (kk : ∀ (H : Heap) (locs : List Loc), Wd cell K G s.heap σ' H locs → W p l e R s m args below meth c H locs cells slots Q (F0 m (pc + 3) ls rest)) : W p l e R s m args below meth c H locs cells slots Q (F0 m pc ls st0) := by
  refine va_callv hr hW.2 (fun _ _ h => h) (fun _ h => h) (fun _ t H1 locs1 ht _ _ hB _ _ hS => ?_)
  subst ht
  exact kk _ _ ⟨hB, hS⟩
theorem x_kr {st0 : List Value} {r : Option Nat} {a : Array Value} (hr : va_Run p l e R s m args below meth c H locs cells slots 0 0 (F0 m pc ls st0) rest (XQr cell K G r σ' a) (gA K G)) (hW : Wd cell K G s.heap σ H locs) (kk : ∀ (H : Heap) (locs : List Loc), Wd cell K G s.heap σ' H locs → W p l e R s m args below meth c H locs cells slots Q (F0 m (pc + 3) ls (va_rf (r.map (aD G)) :: rest))) : W p l e R s m args below meth c H locs cells slots Q (F0 m pc ls st0) := by
  refine va_callq hr hW.2 (fun _ _ h => h) (fun _ h => h) (fun r' _ t H1 locs1 ht _ hp hB _ _ hS => ?_)
  subst hp; subst ht
  exact kk _ _ ⟨hB, hS⟩
/-! ends -/
theorem x_iret (C0 : Cx p s m args meth c cc own nL (some .int) Ts) (hW : Wd cell K G s.heap σ H locs) {v : Int32} (hd : decode cc pc = .ok (.ireturn, 1)) : W p l e R s m args below meth c H locs cells slots (MQ below (XQi cell K G v σ) args s cells slots (gA K G)) (F0 m pc ls [.int v]) := by
  obtain ⟨hx, hb, hr, hts, hown, hml, hlk⟩ := C0
  exact W.iret (v := v) hx hb hr (fun t ht _ => ⟨⟨v, (), rfl, rfl, by rw [ht]; exact hW.1⟩, hW.2.F ht⟩) hW.2.2.2 hd hlk
theorem x_zret (C0 : Cx p s m args meth c cc own nL (some .boolean) Ts) (hW : Wd cell K G s.heap σ H locs) {v : Int32} (hz : zok v = true) (hd : decode cc pc = .ok (.ireturn, 1)) : W p l e R s m args below meth c H locs cells slots (MQ below (XQi cell K G v σ) args s cells slots (gA K G)) (F0 m pc ls [.int v]) := by
  obtain ⟨hx, hb, hr, hts, hown, hml, hlk⟩ := C0
  exact W.zret (v := v) hx hb hr (zok_n hz) (fun t ht _ => ⟨⟨v, (), rfl, rfl, by rw [ht]; exact hW.1⟩, hW.2.F ht⟩) hW.2.2.2 hd hlk
theorem x_lret (C0 : Cx p s m args meth c cc own nL (some .long) Ts) (hW : Wd cell K G s.heap σ H locs) {v : Int64} (hd : decode cc pc = .ok (.lreturn, 1)) : W p l e R s m args below meth c H locs cells slots (MQ below (XQl cell K G v σ) args s cells slots (gA K G)) (F0 m pc ls [.long v]) := by
  obtain ⟨hx, hb, hr, hts, hown, hml, hlk⟩ := C0
  exact W.lret (v := v) hx hb hr (fun t ht _ => ⟨⟨v, (), rfl, rfl, by rw [ht]; exact hW.1⟩, hW.2.F ht⟩) hW.2.2.2 hd hlk
theorem x_vret (C0 : Cx p s m args meth c cc own nL none Ts) (hW : Wd cell K G s.heap σ H locs) (hd : decode cc pc = .ok (.return_, 1)) : W p l e R s m args below meth c H locs cells slots (MQ below (XQv cell K G σ) args s cells slots (gA K G)) (F0 m pc ls []) := by
  obtain ⟨hx, hb, hr, hts, hown, hml, hlk⟩ := C0
  exact W.vret hx hb hr (fun t ht _ => ⟨⟨(), rfl, trivial, by rw [ht]; exact hW.1⟩, hW.2.F ht⟩) hW.2.2.2 hd hlk
theorem x_rret {o : String} (C0 : Cx p s m args meth c cc own nL (some (.object o)) Ts) (hW : Wd cell K G s.heap σ H locs) {r : Option Nat} {v : Value} (hv : va_rf (r.map (aD G)) = v) (hd : decode cc pc = .ok (.areturn, 1)) : W p l e R s m args below meth c H locs cells slots (MQ below (XQr cell K G r σ) args s cells slots (gA K G)) (F0 m pc ls [v]) := by
  obtain ⟨hx, hb, hr, hts, hown, hml, hlk⟩ := C0
  subst hv
  refine W.aret (v := va_rf (r.map (aD G))) (rt := .object o) hx hb hr (Or.inl ⟨o, rfl⟩) ?_ (fun t ht _ => ⟨⟨r.map (aD G), (), rfl, rfl, by rw [ht]; exact hW.1⟩, hW.2.F ht⟩) hW.2.2.2 hd hlk
  cases r with
  | none => exact Or.inl rfl
  | some a => exact Or.inr ⟨_, rfl⟩
/-- a reference that may be null is looked at -/
theorem x_ifnull (C0 : Cx p s m args meth c cc own nL ret Ts) {r : Option Nat} {off : Int} {tgt : Nat} (hd : decode cc pc = .ok (.ifnull off, 3)) (ht : (pc : Int) + off = (tgt : Int)) (kn : r = none → W p l e R s m args below meth c H locs cells slots Q (F0 m tgt ls rest)) (ks : ∀ k, r = some k → W p l e R s m args below meth c H locs cells slots Q (F0 m (pc + 3) ls rest)) : W p l e R s m args below meth c H locs cells slots Q (F0 m pc ls (va_rf (r.map (aD G)) :: rest)) := by
  cases r with
  | none => exact lv_ifnullN C0.1 C0.2.1 hd ht (kn rfl)
  | some k => exact lv_ifnull C0.1 C0.2.1 hd (ks k rfl)
theorem x_ifnonnull (C0 : Cx p s m args meth c cc own nL ret Ts) {r : Option Nat} {off : Int} {tgt : Nat} (hd : decode cc pc = .ok (.ifnonnull off, 3)) (ht : (pc : Int) + off = (tgt : Int)) (kn : r = none → W p l e R s m args below meth c H locs cells slots Q (F0 m (pc + 3) ls rest)) (ks : ∀ k, r = some k → W p l e R s m args below meth c H locs cells slots Q (F0 m tgt ls rest)) : W p l e R s m args below meth c H locs cells slots Q (F0 m pc ls (va_rf (r.map (aD G)) :: rest)) := by
  cases r with
  | none => exact lv_ifnonnullN C0.1 C0.2.1 hd (kn rfl)
  | some k => exact lv_ifnonnull C0.1 C0.2.1 hd ht (ks k rfl)
end XRows
/-- a contract, out of the walk from the entry -/
theorem x_met {cell : CT} {K : Nat} {G : GT} {σ : ST} {l : Launch} {y : MethodName} {ws ws' : List Cond} {rm : Room} {Qc : Array Value → State → Outcome → State → Prop} {cc : ByteArray} {maxL : Nat} {ret : Option FieldType} {av : List Value} (hy : plainName y.cls = true) (hw : ws = Cond.code y cc maxL ret :: ws') (hlen : (lg_sl av).length ≤ maxL)
    (body : ∀ (p : Program) (e : Env) (s : State) (m : MethodId) (args : Array Value) (below : List Frame) (meth : Method) (c : Code) (H : Heap) (locs : List Loc) (ls : Array Slot), Cx p s m args meth c cc y.cls maxL ret ws → Gx G s → Wd cell K G s.heap σ H locs → lv_has ls maxL (lv_args 0 av) → W p l e rm s m args below meth c H locs 0 0 (MQ below Qc args s 0 0 (gA K G)) (F0 m 0 ls [])) : Met l y ws rm (XPc cell K G σ av) Qc 0 0 (gA K G) := by
  refine Met.ofW (cc := cc) (maxL := maxL) (ret := ret) hy hw ?_
  intro p e s m args below meth c s₁ B hml hv
  obtain ⟨rfl, hP, hG⟩ := hv
  have hts := atoms_spec (ws := ws) B.pre
  have hown : s.vm.findClass y.cls = some m.cls := findClass_of_methodNamed B.named
  have hl := lv_entry av hlen
  rw [lg_entry_eq]
  generalize (lg_sl av ++ List.replicate (maxL - (lg_sl av).length) Slot.unset).toArray = ls at hl ⊢
  exact body p e s m _ below meth c s.heap [] ls ⟨B.exec, B.bytes, B.returns, hts, hown, hml, B.notSynchronized⟩ hG ⟨hP, va_S.rf⟩ hl
end

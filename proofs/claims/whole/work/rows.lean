section
-- ===== PART A: goes FIRST, ahead of the names: the tables' words, and 'selects' of the private methods out of them =====
/-- a private method of a class that the tables say can be made, by its rows of tables_1 -/
def lw_okq (q : MethodName × Nat) : Prop := (q.1.cls ≠ "java/lang/invoke/MethodHandle" ∧ q.1.cls ≠ "java/lang/invoke/VarHandle") ∧ Cond.instantiable q.1.cls q.2 ∈ tables_1 ∧ Cond.privateMethod q.1 ∈ tables_1 ∧ Cond.instanceMethod q.1 ∈ tables_1
theorem lw_p0 : lw_okq (⟨"LatestSets$Board", "insert", "(II)V"⟩, 5) := ⟨⟨by decide +kernel, by decide +kernel⟩, List.mem_of_getElem? (i := 103) (by decide +kernel), List.mem_of_getElem? (i := 342) (by decide +kernel), List.mem_of_getElem? (i := 343) (by decide +kernel)⟩
theorem lw_p1 : lw_okq (⟨"LatestSets$Board", "madeBy", "(LLatestSets$Law;I)I"⟩, 5) := ⟨⟨by decide +kernel, by decide +kernel⟩, List.mem_of_getElem? (i := 103) (by decide +kernel), List.mem_of_getElem? (i := 346) (by decide +kernel), List.mem_of_getElem? (i := 347) (by decide +kernel)⟩
theorem lw_p2 : lw_okq (⟨"LatestSets$Board", "pop", "()I"⟩, 5) := ⟨⟨by decide +kernel, by decide +kernel⟩, List.mem_of_getElem? (i := 103) (by decide +kernel), List.mem_of_getElem? (i := 350) (by decide +kernel), List.mem_of_getElem? (i := 351) (by decide +kernel)⟩
theorem lw_p3 : lw_okq (⟨"LatestSets$Board", "push", "(I)V"⟩, 5) := ⟨⟨by decide +kernel, by decide +kernel⟩, List.mem_of_getElem? (i := 103) (by decide +kernel), List.mem_of_getElem? (i := 355) (by decide +kernel), List.mem_of_getElem? (i := 356) (by decide +kernel)⟩
theorem lw_p4 : lw_okq (⟨"LatestSets$Board", "placeOf", "(I)I"⟩, 5) := ⟨⟨by decide +kernel, by decide +kernel⟩, List.mem_of_getElem? (i := 103) (by decide +kernel), List.mem_of_getElem? (i := 360) (by decide +kernel), List.mem_of_getElem? (i := 361) (by decide +kernel)⟩
theorem lw_p5 : lw_okq (⟨"LatestSets$Choices", "weighHour", "(III)V"⟩, 4) := ⟨⟨by decide +kernel, by decide +kernel⟩, List.mem_of_getElem? (i := 175) (by decide +kernel), List.mem_of_getElem? (i := 408) (by decide +kernel), List.mem_of_getElem? (i := 409) (by decide +kernel)⟩
theorem lw_p6 : lw_okq (⟨"LatestSets$Choices", "nextIf", "(III)I"⟩, 4) := ⟨⟨by decide +kernel, by decide +kernel⟩, List.mem_of_getElem? (i := 175) (by decide +kernel), List.mem_of_getElem? (i := 413) (by decide +kernel), List.mem_of_getElem? (i := 414) (by decide +kernel)⟩
theorem lw_p7 : lw_okq (⟨"LatestSets$Choices", "costOf", "(III)I"⟩, 4) := ⟨⟨by decide +kernel, by decide +kernel⟩, List.mem_of_getElem? (i := 175) (by decide +kernel), List.mem_of_getElem? (i := 418) (by decide +kernel), List.mem_of_getElem? (i := 419) (by decide +kernel)⟩
theorem lw_p8 : lw_okq (⟨"LatestSets$Choices", "restWays", "()I"⟩, 4) := ⟨⟨by decide +kernel, by decide +kernel⟩, List.mem_of_getElem? (i := 175) (by decide +kernel), List.mem_of_getElem? (i := 439) (by decide +kernel), List.mem_of_getElem? (i := 440) (by decide +kernel)⟩
theorem lw_p9 : lw_okq (⟨"LatestSets$Choices", "lateIn", "(II)I"⟩, 4) := ⟨⟨by decide +kernel, by decide +kernel⟩, List.mem_of_getElem? (i := 175) (by decide +kernel), List.mem_of_getElem? (i := 444) (by decide +kernel), List.mem_of_getElem? (i := 445) (by decide +kernel)⟩
theorem lw_p10 : lw_okq (⟨"LatestSets$Choices", "shiftOf", "(I)I"⟩, 4) := ⟨⟨by decide +kernel, by decide +kernel⟩, List.mem_of_getElem? (i := 175) (by decide +kernel), List.mem_of_getElem? (i := 448) (by decide +kernel), List.mem_of_getElem? (i := 449) (by decide +kernel)⟩
theorem lw_p11 : lw_okq (⟨"LatestSets$Choices", "isRest", "(I)Z"⟩, 4) := ⟨⟨by decide +kernel, by decide +kernel⟩, List.mem_of_getElem? (i := 175) (by decide +kernel), List.mem_of_getElem? (i := 456) (by decide +kernel), List.mem_of_getElem? (i := 457) (by decide +kernel)⟩
theorem lw_p12 : lw_okq (⟨"LatestSets$Choices", "digitsOf", "(I)I"⟩, 4) := ⟨⟨by decide +kernel, by decide +kernel⟩, List.mem_of_getElem? (i := 175) (by decide +kernel), List.mem_of_getElem? (i := 464) (by decide +kernel), List.mem_of_getElem? (i := 465) (by decide +kernel)⟩
theorem lw_p13 : lw_okq (⟨"LatestSets$Choices", "canMove", "(IIII)Z"⟩, 4) := ⟨⟨by decide +kernel, by decide +kernel⟩, List.mem_of_getElem? (i := 175) (by decide +kernel), List.mem_of_getElem? (i := 505) (by decide +kernel), List.mem_of_getElem? (i := 506) (by decide +kernel)⟩
theorem lw_p14 : lw_okq (⟨"LatestSets$Choices", "tryWay", "(II)V"⟩, 4) := ⟨⟨by decide +kernel, by decide +kernel⟩, List.mem_of_getElem? (i := 175) (by decide +kernel), List.mem_of_getElem? (i := 509) (by decide +kernel), List.mem_of_getElem? (i := 510) (by decide +kernel)⟩
theorem lw_p15 : lw_okq (⟨"LatestSets$Board", "allSightsHold", "(I)Z"⟩, 5) := ⟨⟨by decide +kernel, by decide +kernel⟩, List.mem_of_getElem? (i := 103) (by decide +kernel), List.mem_of_getElem? (i := 535) (by decide +kernel), List.mem_of_getElem? (i := 536) (by decide +kernel)⟩
def lw_privs_1 : List (MethodName × Nat) := [(⟨"LatestSets$Board", "insert", "(II)V"⟩, 5), (⟨"LatestSets$Board", "madeBy", "(LLatestSets$Law;I)I"⟩, 5), (⟨"LatestSets$Board", "pop", "()I"⟩, 5), (⟨"LatestSets$Board", "push", "(I)V"⟩, 5), (⟨"LatestSets$Board", "placeOf", "(I)I"⟩, 5), (⟨"LatestSets$Choices", "weighHour", "(III)V"⟩, 4), (⟨"LatestSets$Choices", "nextIf", "(III)I"⟩, 4), (⟨"LatestSets$Choices", "costOf", "(III)I"⟩, 4), (⟨"LatestSets$Choices", "restWays", "()I"⟩, 4), (⟨"LatestSets$Choices", "lateIn", "(II)I"⟩, 4), (⟨"LatestSets$Choices", "shiftOf", "(I)I"⟩, 4), (⟨"LatestSets$Choices", "isRest", "(I)Z"⟩, 4), (⟨"LatestSets$Choices", "digitsOf", "(I)I"⟩, 4), (⟨"LatestSets$Choices", "canMove", "(IIII)Z"⟩, 4), (⟨"LatestSets$Choices", "tryWay", "(II)V"⟩, 4), (⟨"LatestSets$Board", "allSightsHold", "(I)Z"⟩, 5)]
theorem lw_r1 : ∀ q ∈ lw_privs_1, lw_okq q := List.forall_mem_cons.mpr ⟨lw_p0, List.forall_mem_cons.mpr ⟨lw_p1, List.forall_mem_cons.mpr ⟨lw_p2, List.forall_mem_cons.mpr ⟨lw_p3, List.forall_mem_cons.mpr ⟨lw_p4, List.forall_mem_cons.mpr ⟨lw_p5, List.forall_mem_cons.mpr ⟨lw_p6, List.forall_mem_cons.mpr ⟨lw_p7, List.forall_mem_cons.mpr ⟨lw_p8, List.forall_mem_cons.mpr ⟨lw_p9, List.forall_mem_cons.mpr ⟨lw_p10, List.forall_mem_cons.mpr ⟨lw_p11, List.forall_mem_cons.mpr ⟨lw_p12, List.forall_mem_cons.mpr ⟨lw_p13, List.forall_mem_cons.mpr ⟨lw_p14, List.forall_mem_cons.mpr ⟨lw_p15, fun _ h => absurd h List.not_mem_nil⟩⟩⟩⟩⟩⟩⟩⟩⟩⟩⟩⟩⟩⟩⟩⟩
theorem lw_p16 : lw_okq (⟨"LatestSets$Chance", "rainOneWeek", "(II)V"⟩, 8) := ⟨⟨by decide +kernel, by decide +kernel⟩, List.mem_of_getElem? (i := 196) (by decide +kernel), List.mem_of_getElem? (i := 552) (by decide +kernel), List.mem_of_getElem? (i := 553) (by decide +kernel)⟩
theorem lw_p17 : lw_okq (⟨"LatestSets$Chance", "cancel", "(JI)V"⟩, 8) := ⟨⟨by decide +kernel, by decide +kernel⟩, List.mem_of_getElem? (i := 196) (by decide +kernel), List.mem_of_getElem? (i := 560) (by decide +kernel), List.mem_of_getElem? (i := 561) (by decide +kernel)⟩
theorem lw_p18 : lw_okq (⟨"LatestSets", "toldOfRows", "(I)I"⟩, 7) := ⟨⟨by decide +kernel, by decide +kernel⟩, List.mem_of_getElem? (i := 15) (by decide +kernel), List.mem_of_getElem? (i := 593) (by decide +kernel), List.mem_of_getElem? (i := 594) (by decide +kernel)⟩
theorem lw_p19 : lw_okq (⟨"LatestSetsModel", "plain", "()V"⟩, 23) := ⟨⟨by decide +kernel, by decide +kernel⟩, List.mem_of_getElem? (i := 603) (by decide +kernel), List.mem_of_getElem? (i := 609) (by decide +kernel), List.mem_of_getElem? (i := 610) (by decide +kernel)⟩
theorem lw_p20 : lw_okq (⟨"LatestSetsModel", "isMember", "(I)Z"⟩, 23) := ⟨⟨by decide +kernel, by decide +kernel⟩, List.mem_of_getElem? (i := 603) (by decide +kernel), List.mem_of_getElem? (i := 695) (by decide +kernel), List.mem_of_getElem? (i := 696) (by decide +kernel)⟩
theorem lw_p21 : lw_okq (⟨"LatestSetsModel", "faultOf", "()I"⟩, 23) := ⟨⟨by decide +kernel, by decide +kernel⟩, List.mem_of_getElem? (i := 603) (by decide +kernel), List.mem_of_getElem? (i := 715) (by decide +kernel), List.mem_of_getElem? (i := 716) (by decide +kernel)⟩
theorem lw_p22 : lw_okq (⟨"LatestSetsModel", "asTold", "()V"⟩, 23) := ⟨⟨by decide +kernel, by decide +kernel⟩, List.mem_of_getElem? (i := 603) (by decide +kernel), List.mem_of_getElem? (i := 739) (by decide +kernel), List.mem_of_getElem? (i := 740) (by decide +kernel)⟩
theorem lw_p23 : lw_okq (⟨"LatestSetsModel", "hourOf", "(II)I"⟩, 23) := ⟨⟨by decide +kernel, by decide +kernel⟩, List.mem_of_getElem? (i := 603) (by decide +kernel), List.mem_of_getElem? (i := 743) (by decide +kernel), List.mem_of_getElem? (i := 744) (by decide +kernel)⟩
theorem lw_p24 : lw_okq (⟨"LatestSetsModel", "nextOf", "(I)I"⟩, 23) := ⟨⟨by decide +kernel, by decide +kernel⟩, List.mem_of_getElem? (i := 603) (by decide +kernel), List.mem_of_getElem? (i := 747) (by decide +kernel), List.mem_of_getElem? (i := 748) (by decide +kernel)⟩
theorem lw_p25 : lw_okq (⟨"LatestSetsModel", "layCame", "(I)V"⟩, 23) := ⟨⟨by decide +kernel, by decide +kernel⟩, List.mem_of_getElem? (i := 603) (by decide +kernel), List.mem_of_getElem? (i := 751) (by decide +kernel), List.mem_of_getElem? (i := 752) (by decide +kernel)⟩
theorem lw_p26 : lw_okq (⟨"LatestSetsModel", "comesAt", "(II)I"⟩, 23) := ⟨⟨by decide +kernel, by decide +kernel⟩, List.mem_of_getElem? (i := 603) (by decide +kernel), List.mem_of_getElem? (i := 755) (by decide +kernel), List.mem_of_getElem? (i := 756) (by decide +kernel)⟩
theorem lw_p27 : lw_okq (⟨"LatestSetsModel", "leafOf", "(II)I"⟩, 23) := ⟨⟨by decide +kernel, by decide +kernel⟩, List.mem_of_getElem? (i := 603) (by decide +kernel), List.mem_of_getElem? (i := 759) (by decide +kernel), List.mem_of_getElem? (i := 760) (by decide +kernel)⟩
theorem lw_p28 : lw_okq (⟨"LatestSetsModel", "layTends", "(I)V"⟩, 23) := ⟨⟨by decide +kernel, by decide +kernel⟩, List.mem_of_getElem? (i := 603) (by decide +kernel), List.mem_of_getElem? (i := 774) (by decide +kernel), List.mem_of_getElem? (i := 775) (by decide +kernel)⟩
theorem lw_p29 : lw_okq (⟨"LatestSetsModel", "contentOf", "(I)I"⟩, 23) := ⟨⟨by decide +kernel, by decide +kernel⟩, List.mem_of_getElem? (i := 603) (by decide +kernel), List.mem_of_getElem? (i := 786) (by decide +kernel), List.mem_of_getElem? (i := 787) (by decide +kernel)⟩
theorem lw_p30 : lw_okq (⟨"LatestSetsModel", "powerOf", "(II)I"⟩, 23) := ⟨⟨by decide +kernel, by decide +kernel⟩, List.mem_of_getElem? (i := 603) (by decide +kernel), List.mem_of_getElem? (i := 802) (by decide +kernel), List.mem_of_getElem? (i := 803) (by decide +kernel)⟩
theorem lw_p31 : lw_okq (⟨"LatestSetsModel", "layBy", "(II)V"⟩, 23) := ⟨⟨by decide +kernel, by decide +kernel⟩, List.mem_of_getElem? (i := 603) (by decide +kernel), List.mem_of_getElem? (i := 806) (by decide +kernel), List.mem_of_getElem? (i := 807) (by decide +kernel)⟩
def lw_privs_2 : List (MethodName × Nat) := [(⟨"LatestSets$Chance", "rainOneWeek", "(II)V"⟩, 8), (⟨"LatestSets$Chance", "cancel", "(JI)V"⟩, 8), (⟨"LatestSets", "toldOfRows", "(I)I"⟩, 7), (⟨"LatestSetsModel", "plain", "()V"⟩, 23), (⟨"LatestSetsModel", "isMember", "(I)Z"⟩, 23), (⟨"LatestSetsModel", "faultOf", "()I"⟩, 23), (⟨"LatestSetsModel", "asTold", "()V"⟩, 23), (⟨"LatestSetsModel", "hourOf", "(II)I"⟩, 23), (⟨"LatestSetsModel", "nextOf", "(I)I"⟩, 23), (⟨"LatestSetsModel", "layCame", "(I)V"⟩, 23), (⟨"LatestSetsModel", "comesAt", "(II)I"⟩, 23), (⟨"LatestSetsModel", "leafOf", "(II)I"⟩, 23), (⟨"LatestSetsModel", "layTends", "(I)V"⟩, 23), (⟨"LatestSetsModel", "contentOf", "(I)I"⟩, 23), (⟨"LatestSetsModel", "powerOf", "(II)I"⟩, 23), (⟨"LatestSetsModel", "layBy", "(II)V"⟩, 23)]
theorem lw_r2 : ∀ q ∈ lw_privs_2, lw_okq q := List.forall_mem_cons.mpr ⟨lw_p16, List.forall_mem_cons.mpr ⟨lw_p17, List.forall_mem_cons.mpr ⟨lw_p18, List.forall_mem_cons.mpr ⟨lw_p19, List.forall_mem_cons.mpr ⟨lw_p20, List.forall_mem_cons.mpr ⟨lw_p21, List.forall_mem_cons.mpr ⟨lw_p22, List.forall_mem_cons.mpr ⟨lw_p23, List.forall_mem_cons.mpr ⟨lw_p24, List.forall_mem_cons.mpr ⟨lw_p25, List.forall_mem_cons.mpr ⟨lw_p26, List.forall_mem_cons.mpr ⟨lw_p27, List.forall_mem_cons.mpr ⟨lw_p28, List.forall_mem_cons.mpr ⟨lw_p29, List.forall_mem_cons.mpr ⟨lw_p30, List.forall_mem_cons.mpr ⟨lw_p31, fun _ h => absurd h List.not_mem_nil⟩⟩⟩⟩⟩⟩⟩⟩⟩⟩⟩⟩⟩⟩⟩⟩
theorem lw_p32 : lw_okq (⟨"LatestSetsModel", "rest", "(I)Z"⟩, 23) := ⟨⟨by decide +kernel, by decide +kernel⟩, List.mem_of_getElem? (i := 603) (by decide +kernel), List.mem_of_getElem? (i := 810) (by decide +kernel), List.mem_of_getElem? (i := 811) (by decide +kernel)⟩
theorem lw_p33 : lw_okq (⟨"LatestSetsModel", "moves", "(IIII)Z"⟩, 23) := ⟨⟨by decide +kernel, by decide +kernel⟩, List.mem_of_getElem? (i := 603) (by decide +kernel), List.mem_of_getElem? (i := 825) (by decide +kernel), List.mem_of_getElem? (i := 826) (by decide +kernel)⟩
def lw_privs_3 : List (MethodName × Nat) := [(⟨"LatestSetsModel", "rest", "(I)Z"⟩, 23), (⟨"LatestSetsModel", "moves", "(IIII)Z"⟩, 23)]
theorem lw_r3 : ∀ q ∈ lw_privs_3, lw_okq q := List.forall_mem_cons.mpr ⟨lw_p32, List.forall_mem_cons.mpr ⟨lw_p33, fun _ h => absurd h List.not_mem_nil⟩⟩
def lw_privs : List (MethodName × Nat) := lw_privs_1 ++ (lw_privs_2 ++ (lw_privs_3))
def lw_tbl : List Cond := k2_sels lw_privs ++ tables_1
theorem lw_privs_ok : ∀ q ∈ lw_privs, lw_okq q := by
  show ∀ q ∈ lw_privs_1 ++ (lw_privs_2 ++ (lw_privs_3)), lw_okq q
  exact List.forall_mem_append.mpr ⟨lw_r1, List.forall_mem_append.mpr ⟨lw_r2, lw_r3⟩⟩
-- ===== end of PART A; then your names; then what follows =====
/-! ===== BEGIN words of one list among another's, by their places ===== -/
theorem goodIn_r {big : List Cond} (ws : List Cond) (ps : List Nat) (hp : ws = ps.filterMap (fun i => big[i]?)) (h : ws.all goodWord = true) : GoodIn big ws := by
  intro w hw
  have h1 := List.all_eq_true.mp h w hw
  rw [hp] at hw
  obtain ⟨i, -, hi⟩ := List.mem_filterMap.mp hw
  have hm : w ∈ big := by first | exact List.mem_of_getElem? hi | exact List.getElem?_mem hi
  exact ⟨hm, good_of_word h1⟩
theorem goodIn_app {big a b : List Cond} (ha : GoodIn big a) (hb : GoodIn big b) : GoodIn big (a ++ b) := fun w h => (List.mem_append.mp h).elim (ha w) (hb w)
theorem goodIn_ca {big a b : List Cond} {c : Cond} (ha : GoodIn big (c :: a)) (hb : GoodIn big b) : GoodIn big (c :: (a ++ b)) := fun w h => (List.mem_cons.mp h).elim (fun e => ha w (List.mem_cons.mpr (Or.inl e))) (fun h => (List.mem_append.mp h).elim (fun h => ha w (List.mem_cons.mpr (Or.inr h))) (hb w))
theorem goodIn_sub {big ws : List Cond} (hm : ∀ w ∈ ws, w ∈ big) (h : ws.all goodWord = true) : GoodIn big ws := fun w hw => ⟨hm w hw, good_of_word (List.all_eq_true.mp h w hw)⟩
/-! ===== END ===== -/


/-! ===== BEGIN printed: names, fields, word lists, decode rows ===== -/
def RX0 : String := "LatestSets$Board"
def TX0 : u_T := fun k => match k with
  | 0 => ("LatestSets$Board", "guild", "LLatestSets$Guild;", true)
  | 1 => ("LatestSets$Board", "trial", "[I", true)
  | 2 => ("LatestSets$Board", "came", "[I", true)
  | 3 => ("LatestSets$Board", "stack", "[I", true)
  | _ => ("LatestSets$Board", "height", "I", false)
def tyX0 : Nat → FieldType := fun k => match k with
  | 0 => .object "LatestSets$Guild"
  | 1 => .array .int
  | 2 => .array .int
  | 3 => .array .int
  | _ => .int
abbrev wsX00 : List Cond := u_ws RX0 TX0 5
theorem nmX0 : ∀ a, a < 5 → ∀ b, b < 5 → a ≠ b → (TX0 a).2.1 ≠ (TX0 b).2.1 := by decide +kernel
theorem tyX0_ok : ∀ k, k < 5 → parseFieldDescriptor (TX0 k).2.2.1 = some (tyX0 k) := by decide +kernel
abbrev cX0_init : ByteArray := prog_2_method_1_code
def yX0_init : MethodName := ⟨RX0, "<init>", "(LLatestSets$Guild;)V"⟩
abbrev cX0_tryAsTold : ByteArray := prog_2_method_2_code
def yX0_tryAsTold : MethodName := ⟨RX0, "tryAsTold", "()V"⟩
abbrev cX0_nextHour : ByteArray := prog_2_method_3_code
def yX0_nextHour : MethodName := ⟨RX0, "nextHour", "(LLatestSets$Law;I[II)I"⟩
abbrev cX0_hourAfter : ByteArray := prog_2_method_4_code
def yX0_hourAfter : MethodName := ⟨RX0, "hourAfter", "(II[I)I"⟩
abbrev cX0_latesThatFit : ByteArray := prog_2_method_5_code
def yX0_latesThatFit : MethodName := ⟨RX0, "latesThatFit", "(II)I"⟩
abbrev cX0_allSightsHold : ByteArray := prog_2_method_6_code
def yX0_allSightsHold : MethodName := ⟨RX0, "allSightsHold", "(I)Z"⟩
abbrev cX0_insert : ByteArray := prog_2_method_7_code
def yX0_insert : MethodName := ⟨RX0, "insert", "(II)V"⟩
abbrev cX0_madeBy : ByteArray := prog_2_method_8_code
def yX0_madeBy : MethodName := ⟨RX0, "madeBy", "(LLatestSets$Law;I)I"⟩
abbrev cX0_placeOf : ByteArray := prog_2_method_9_code
def yX0_placeOf : MethodName := ⟨RX0, "placeOf", "(I)I"⟩
abbrev cX0_push : ByteArray := prog_2_method_10_code
def yX0_push : MethodName := ⟨RX0, "push", "(I)V"⟩
abbrev cX0_pop : ByteArray := prog_2_method_11_code
def yX0_pop : MethodName := ⟨RX0, "pop", "()I"⟩
def RX1 : String := "LatestSets$Chance"
def TX1 : u_T := fun k => match k with
  | 0 => ("LatestSets$Chance", "board", "LLatestSets$Board;", true)
  | 1 => ("LatestSets$Chance", "weight", "[J", true)
  | 2 => ("LatestSets$Chance", "nextWeight", "[J", true)
  | 3 => ("LatestSets$Chance", "upper", "J", false)
  | 4 => ("LatestSets$Chance", "lower", "J", false)
  | 5 => ("LatestSets$Chance", "lastHour", "I", false)
  | 6 => ("LatestSets$Chance", "latestHour", "I", false)
  | _ => ("LatestSets$Chance", "fines", "I", false)
def tyX1 : Nat → FieldType := fun k => match k with
  | 0 => .object "LatestSets$Board"
  | 1 => .array .long
  | 2 => .array .long
  | 3 => .long
  | 4 => .long
  | 5 => .int
  | 6 => .int
  | _ => .int
abbrev wsX10 : List Cond := u_ws RX1 TX1 8
theorem nmX1 : ∀ a, a < 8 → ∀ b, b < 8 → a ≠ b → (TX1 a).2.1 ≠ (TX1 b).2.1 := by decide +kernel
theorem tyX1_ok : ∀ k, k < 8 → parseFieldDescriptor (TX1 k).2.2.1 = some (tyX1 k) := by decide +kernel
abbrev cX1_init : ByteArray := prog_3_method_1_code
def yX1_init : MethodName := ⟨RX1, "<init>", "(LLatestSets$Board;)V"⟩
abbrev cX1_rainOn : ByteArray := prog_3_method_2_code
def yX1_rainOn : MethodName := ⟨RX1, "rainOn", "(IIII)V"⟩
abbrev cX1_rainOneWeek : ByteArray := prog_3_method_3_code
def yX1_rainOneWeek : MethodName := ⟨RX1, "rainOneWeek", "(II)V"⟩
abbrev cX1_cancel : ByteArray := prog_3_method_4_code
def yX1_cancel : MethodName := ⟨RX1, "cancel", "(JI)V"⟩
abbrev cX1_drawYear : ByteArray := prog_3_method_5_code
def yX1_drawYear : MethodName := ⟨RX1, "drawYear", "(III)V"⟩
def RX2 : String := "LatestSets$Choices"
def TX2 : u_T := fun k => match k with
  | 0 => ("LatestSets$Choices", "board", "LLatestSets$Board;", true)
  | 1 => ("LatestSets$Choices", "cost", "[[I", true)
  | 2 => ("LatestSets$Choices", "pick", "[[I", true)
  | _ => ("LatestSets$Choices", "nextBy", "[I", true)
def tyX2 : Nat → FieldType := fun k => match k with
  | 0 => .object "LatestSets$Board"
  | 1 => .array (.array .int)
  | 2 => .array (.array .int)
  | _ => .array .int
abbrev wsX20 : List Cond := u_ws RX2 TX2 4
theorem nmX2 : ∀ a, a < 4 → ∀ b, b < 4 → a ≠ b → (TX2 a).2.1 ≠ (TX2 b).2.1 := by decide +kernel
theorem tyX2_ok : ∀ k, k < 4 → parseFieldDescriptor (TX2 k).2.2.1 = some (tyX2 k) := by decide +kernel
abbrev cX2_init : ByteArray := prog_4_method_1_code
def yX2_init : MethodName := ⟨RX2, "<init>", "(LLatestSets$Board;)V"⟩
abbrev cX2_weigh : ByteArray := prog_4_method_2_code
def yX2_weigh : MethodName := ⟨RX2, "weigh", "(II)V"⟩
abbrev cX2_leastCost : ByteArray := prog_4_method_3_code
def yX2_leastCost : MethodName := ⟨RX2, "leastCost", "(I)I"⟩
abbrev cX2_lateInWeek : ByteArray := prog_4_method_4_code
def yX2_lateInWeek : MethodName := ⟨RX2, "lateInWeek", "(III)I"⟩
abbrev cX2_weighHour : ByteArray := prog_4_method_5_code
def yX2_weighHour : MethodName := ⟨RX2, "weighHour", "(III)V"⟩
abbrev cX2_nextIf : ByteArray := prog_4_method_6_code
def yX2_nextIf : MethodName := ⟨RX2, "nextIf", "(III)I"⟩
abbrev cX2_costOf : ByteArray := prog_4_method_7_code
def yX2_costOf : MethodName := ⟨RX2, "costOf", "(III)I"⟩
abbrev cX2_tabulate : ByteArray := prog_4_method_8_code
def yX2_tabulate : MethodName := ⟨RX2, "tabulate", "(I)V"⟩
abbrev cX2_restCount : ByteArray := prog_4_method_9_code
def yX2_restCount : MethodName := ⟨RX2, "restCount", "()I"⟩
abbrev cX2_restAt : ByteArray := prog_4_method_10_code
def yX2_restAt : MethodName := ⟨RX2, "restAt", "(I)I"⟩
abbrev cX2_restWays : ByteArray := prog_4_method_11_code
def yX2_restWays : MethodName := ⟨RX2, "restWays", "()I"⟩
abbrev cX2_shiftOf : ByteArray := prog_4_method_12_code
def yX2_shiftOf : MethodName := ⟨RX2, "shiftOf", "(I)I"⟩
abbrev cX2_lateIn : ByteArray := prog_4_method_13_code
def yX2_lateIn : MethodName := ⟨RX2, "lateIn", "(II)I"⟩
abbrev cX2_isRest : ByteArray := prog_4_method_14_code
def yX2_isRest : MethodName := ⟨RX2, "isRest", "(I)Z"⟩
abbrev cX2_digitsOf : ByteArray := prog_4_method_15_code
def yX2_digitsOf : MethodName := ⟨RX2, "digitsOf", "(I)I"⟩
abbrev cX2_leastMovers : ByteArray := prog_4_method_16_code
def yX2_leastMovers : MethodName := ⟨RX2, "leastMovers", "(III)I"⟩
abbrev cX2_canMove : ByteArray := prog_4_method_17_code
def yX2_canMove : MethodName := ⟨RX2, "canMove", "(IIII)Z"⟩
abbrev cX2_tryWay : ByteArray := prog_4_method_18_code
def yX2_tryWay : MethodName := ⟨RX2, "tryWay", "(II)V"⟩
def RX3 : String := "LatestSets$Guild"
def TX3 : u_T := fun k => match k with
  | 0 => ("LatestSets$Guild", "early", "[I", true)
  | 1 => ("LatestSets$Guild", "late", "[I", true)
  | 2 => ("LatestSets$Guild", "best", "[I", true)
  | 3 => ("LatestSets$Guild", "law", "LLatestSets$Law;", true)
  | 4 => ("LatestSets$Guild", "sightWeek", "[I", true)
  | 5 => ("LatestSets$Guild", "sightHour", "[I", true)
  | 6 => ("LatestSets$Guild", "sights", "I", false)
  | 7 => ("LatestSets$Guild", "count", "I", false)
  | _ => ("LatestSets$Guild", "fineEach", "I", false)
def tyX3 : Nat → FieldType := fun k => match k with
  | 0 => .array .int
  | 1 => .array .int
  | 2 => .array .int
  | 3 => .object "LatestSets$Law"
  | 4 => .array .int
  | 5 => .array .int
  | 6 => .int
  | 7 => .int
  | _ => .int
abbrev wsX30 : List Cond := u_ws RX3 TX3 9
theorem nmX3 : ∀ a, a < 9 → ∀ b, b < 9 → a ≠ b → (TX3 a).2.1 ≠ (TX3 b).2.1 := by decide +kernel
theorem tyX3_ok : ∀ k, k < 9 → parseFieldDescriptor (TX3 k).2.2.1 = some (tyX3 k) := by decide +kernel
abbrev cX3_init : ByteArray := prog_5_method_1_code
def yX3_init : MethodName := ⟨RX3, "<init>", "()V"⟩
abbrev cX3_assemble : ByteArray := prog_5_method_2_code
def yX3_assemble : MethodName := ⟨RX3, "assemble", "(I)V"⟩
abbrev cX3_become : ByteArray := prog_5_method_3_code
def yX3_become : MethodName := ⟨RX3, "become", "(LLatestSets$Guild;)V"⟩
abbrev cX3_has : ByteArray := prog_5_method_4_code
def yX3_has : MethodName := ⟨RX3, "has", "(I)Z"⟩
abbrev cX3_rowOf : ByteArray := prog_5_method_5_code
def yX3_rowOf : MethodName := ⟨RX3, "rowOf", "(I)[I"⟩
abbrev cX3_toldOfMember : ByteArray := prog_5_method_6_code
def yX3_toldOfMember : MethodName := ⟨RX3, "toldOfMember", "(II)I"⟩
abbrev cX3_addSight : ByteArray := prog_5_method_7_code
def yX3_addSight : MethodName := ⟨RX3, "addSight", "(II)I"⟩
abbrev cX3_farFromBest : ByteArray := prog_5_method_8_code
def yX3_farFromBest : MethodName := ⟨RX3, "farFromBest", "(I)I"⟩
def RX4 : String := "LatestSets$Law"
def TX4 : u_T := fun k => match k with
  | 0 => ("LatestSets$Law", "signs", "[I", true)
  | _ => ("LatestSets$Law", "length", "I", false)
def tyX4 : Nat → FieldType := fun k => match k with
  | 0 => .array .int
  | _ => .int
abbrev wsX40 : List Cond := u_ws RX4 TX4 2
theorem nmX4 : ∀ a, a < 2 → ∀ b, b < 2 → a ≠ b → (TX4 a).2.1 ≠ (TX4 b).2.1 := by decide +kernel
theorem tyX4_ok : ∀ k, k < 2 → parseFieldDescriptor (TX4 k).2.2.1 = some (tyX4 k) := by decide +kernel
abbrev cX4_init : ByteArray := prog_6_method_1_code
def yX4_init : MethodName := ⟨RX4, "<init>", "()V"⟩
abbrev cX4_take : ByteArray := prog_6_method_2_code
def yX4_take : MethodName := ⟨RX4, "take", "([II)V"⟩
abbrev cX4_takeNumber : ByteArray := prog_6_method_3_code
def yX4_takeNumber : MethodName := ⟨RX4, "takeNumber", "(I)V"⟩
abbrev cX4_signOf : ByteArray := prog_6_method_4_code
def yX4_signOf : MethodName := ⟨RX4, "signOf", "(I)I"⟩
def RX5 : String := "LatestSets$Pad"
def TX5 : u_T := fun k => match k with
  | 0 => ("LatestSets$Pad", "signs", "[I", true)
  | _ => ("LatestSets$Pad", "count", "I", false)
def tyX5 : Nat → FieldType := fun k => match k with
  | 0 => .array .int
  | _ => .int
abbrev wsX50 : List Cond := u_ws RX5 TX5 2
theorem nmX5 : ∀ a, a < 2 → ∀ b, b < 2 → a ≠ b → (TX5 a).2.1 ≠ (TX5 b).2.1 := by decide +kernel
theorem tyX5_ok : ∀ k, k < 2 → parseFieldDescriptor (TX5 k).2.2.1 = some (tyX5 k) := by decide +kernel
abbrev cX5_init : ByteArray := prog_7_method_1_code
def yX5_init : MethodName := ⟨RX5, "<init>", "()V"⟩
abbrev cX5_write : ByteArray := prog_7_method_2_code
def yX5_write : MethodName := ⟨RX5, "write", "(I)I"⟩
abbrev cX5_firstFault : ByteArray := prog_7_method_3_code
def yX5_firstFault : MethodName := ⟨RX5, "firstFault", "()I"⟩
abbrev cX5_partsOf : ByteArray := prog_7_method_4_code
def yX5_partsOf : MethodName := ⟨RX5, "partsOf", "(I)I"⟩
def RX6 : String := "LatestSets$Ring"
def TX6 : u_T := fun k => match k with
  | 0 => ("LatestSets$Ring", "board", "LLatestSets$Board;", true)
  | 1 => ("LatestSets$Ring", "toldLaw", "LLatestSets$Law;", true)
  | 2 => ("LatestSets$Ring", "firstWeek", "[I", true)
  | 3 => ("LatestSets$Ring", "ahead", "I", false)
  | 4 => ("LatestSets$Ring", "length", "I", false)
  | _ => ("LatestSets$Ring", "least", "I", false)
def tyX6 : Nat → FieldType := fun k => match k with
  | 0 => .object "LatestSets$Board"
  | 1 => .object "LatestSets$Law"
  | 2 => .array .int
  | 3 => .int
  | 4 => .int
  | _ => .int
abbrev wsX60 : List Cond := u_ws RX6 TX6 6
theorem nmX6 : ∀ a, a < 6 → ∀ b, b < 6 → a ≠ b → (TX6 a).2.1 ≠ (TX6 b).2.1 := by decide +kernel
theorem tyX6_ok : ∀ k, k < 6 → parseFieldDescriptor (TX6 k).2.2.1 = some (tyX6 k) := by decide +kernel
abbrev cX6_init : ByteArray := prog_8_method_1_code
def yX6_init : MethodName := ⟨RX6, "<init>", "(LLatestSets$Board;)V"⟩
abbrev cX6_follow : ByteArray := prog_8_method_2_code
def yX6_follow : MethodName := ⟨RX6, "follow", "(LLatestSets$Law;I)V"⟩
abbrev cX6_bestToldLaw : ByteArray := prog_8_method_3_code
def yX6_bestToldLaw : MethodName := ⟨RX6, "bestToldLaw", "(I)I"⟩
abbrev cX6_restUnder : ByteArray := prog_8_method_4_code
def yX6_restUnder : MethodName := ⟨RX6, "restUnder", "(II)I"⟩
def RX7 : String := "LatestSets"
def TX7 : u_T := fun k => match k with
  | 0 => ("LatestSets", "guild", "LLatestSets$Guild;", true)
  | 1 => ("LatestSets", "pad", "LLatestSets$Pad;", true)
  | 2 => ("LatestSets", "board", "LLatestSets$Board;", true)
  | 3 => ("LatestSets", "ring", "LLatestSets$Ring;", true)
  | 4 => ("LatestSets", "choices", "LLatestSets$Choices;", true)
  | 5 => ("LatestSets", "chance", "LLatestSets$Chance;", true)
  | _ => ("LatestSets", "images", "[LLatestSets$Guild;", true)
def tyX7 : Nat → FieldType := fun k => match k with
  | 0 => .object "LatestSets$Guild"
  | 1 => .object "LatestSets$Pad"
  | 2 => .object "LatestSets$Board"
  | 3 => .object "LatestSets$Ring"
  | 4 => .object "LatestSets$Choices"
  | 5 => .object "LatestSets$Chance"
  | _ => .array (.object "LatestSets$Guild")
abbrev wsX70 : List Cond := u_ws RX7 TX7 7
theorem nmX7 : ∀ a, a < 7 → ∀ b, b < 7 → a ≠ b → (TX7 a).2.1 ≠ (TX7 b).2.1 := by decide +kernel
theorem tyX7_ok : ∀ k, k < 7 → parseFieldDescriptor (TX7 k).2.2.1 = some (tyX7 k) := by decide +kernel
abbrev cX7_init : ByteArray := prog_1_method_1_code
def yX7_init : MethodName := ⟨RX7, "<init>", "()V"⟩
abbrev cX7_members : ByteArray := prog_1_method_2_code
def yX7_members : MethodName := ⟨RX7, "members", "(I)I"⟩
abbrev cX7_member : ByteArray := prog_1_method_3_code
def yX7_member : MethodName := ⟨RX7, "member", "(III)I"⟩
abbrev cX7_fine : ByteArray := prog_1_method_4_code
def yX7_fine : MethodName := ⟨RX7, "fine", "(I)I"⟩
abbrev cX7_say : ByteArray := prog_1_method_5_code
def yX7_say : MethodName := ⟨RX7, "say", "(I)I"⟩
abbrev cX7_wipe : ByteArray := prog_1_method_6_code
def yX7_wipe : MethodName := ⟨RX7, "wipe", "()I"⟩
abbrev cX7_fault : ByteArray := prog_1_method_7_code
def yX7_fault : MethodName := ⟨RX7, "fault", "()I"⟩
abbrev cX7_enact : ByteArray := prog_1_method_8_code
def yX7_enact : MethodName := ⟨RX7, "enact", "()I"⟩
abbrev cX7_hour : ByteArray := prog_1_method_9_code
def yX7_hour : MethodName := ⟨RX7, "hour", "(II)I"⟩
abbrev cX7_comes : ByteArray := prog_1_method_10_code
def yX7_comes : MethodName := ⟨RX7, "comes", "(III)I"⟩
abbrev cX7_tends : ByteArray := prog_1_method_11_code
def yX7_tends : MethodName := ⟨RX7, "tends", "(II)I"⟩
abbrev cX7_paid : ByteArray := prog_1_method_12_code
def yX7_paid : MethodName := ⟨RX7, "paid", "(II)I"⟩
abbrev cX7_content : ByteArray := prog_1_method_13_code
def yX7_content : MethodName := ⟨RX7, "content", "(I)I"⟩
abbrev cX7_choice : ByteArray := prog_1_method_14_code
def yX7_choice : MethodName := ⟨RX7, "choice", "(IIII)I"⟩
abbrev cX7_rests : ByteArray := prog_1_method_15_code
def yX7_rests : MethodName := ⟨RX7, "rests", "(II)I"⟩
abbrev cX7_laws : ByteArray := prog_1_method_16_code
def yX7_laws : MethodName := ⟨RX7, "laws", "(II)I"⟩
abbrev cX7_move : ByteArray := prog_1_method_17_code
def yX7_move : MethodName := ⟨RX7, "move", "(III)I"⟩
abbrev cX7_seen : ByteArray := prog_1_method_18_code
def yX7_seen : MethodName := ⟨RX7, "seen", "(II)I"⟩
abbrev cX7_forget : ByteArray := prog_1_method_19_code
def yX7_forget : MethodName := ⟨RX7, "forget", "()I"⟩
abbrev cX7_could : ByteArray := prog_1_method_20_code
def yX7_could : MethodName := ⟨RX7, "could", "(II)I"⟩
abbrev cX7_rain : ByteArray := prog_1_method_21_code
def yX7_rain : MethodName := ⟨RX7, "rain", "(IIIII)J"⟩
abbrev cX7_year : ByteArray := prog_1_method_22_code
def yX7_year : MethodName := ⟨RX7, "year", "(IIII)I"⟩
abbrev cX7_image : ByteArray := prog_1_method_23_code
def yX7_image : MethodName := ⟨RX7, "image", "(I)I"⟩
abbrev cX7_restore : ByteArray := prog_1_method_24_code
def yX7_restore : MethodName := ⟨RX7, "restore", "(I)I"⟩
abbrev cX7_told : ByteArray := prog_1_method_25_code
def yX7_told : MethodName := ⟨RX7, "told", "(I)I"⟩
abbrev cX7_toldOfRows : ByteArray := prog_1_method_26_code
def yX7_toldOfRows : MethodName := ⟨RX7, "toldOfRows", "(I)I"⟩
abbrev cX7_within : ByteArray := prog_1_method_27_code
def yX7_within : MethodName := ⟨RX7, "within", "(III)Z"⟩
abbrev cX7_isHour : ByteArray := prog_1_method_28_code
def yX7_isHour : MethodName := ⟨RX7, "isHour", "(I)Z"⟩
abbrev cX7_comingAt : ByteArray := prog_1_method_29_code
def yX7_comingAt : MethodName := ⟨RX7, "comingAt", "(III)I"⟩
def RX8 : String := "LatestSetsModel"
def TX8 : u_T := fun k => match k with
  | 0 => ("LatestSetsModel", "members", "I", false)
  | 1 => ("LatestSetsModel", "early", "[I", true)
  | 2 => ("LatestSetsModel", "late", "[I", true)
  | 3 => ("LatestSetsModel", "best", "[I", true)
  | 4 => ("LatestSetsModel", "fine", "I", false)
  | 5 => ("LatestSetsModel", "size", "I", false)
  | 6 => ("LatestSetsModel", "text", "[I", true)
  | 7 => ("LatestSetsModel", "sights", "I", false)
  | 8 => ("LatestSetsModel", "sight", "[I", true)
  | 9 => ("LatestSetsModel", "signs", "I", false)
  | 10 => ("LatestSetsModel", "pad", "[I", true)
  | 11 => ("LatestSetsModel", "by", "[I", true)
  | 12 => ("LatestSetsModel", "came", "[I", true)
  | 13 => ("LatestSetsModel", "later", "I", false)
  | 14 => ("LatestSetsModel", "stack", "[I", true)
  | 15 => ("LatestSetsModel", "when", "[I", true)
  | 16 => ("LatestSetsModel", "ahead", "I", false)
  | 17 => ("LatestSetsModel", "ring", "I", false)
  | 18 => ("LatestSetsModel", "leastHour", "I", false)
  | 19 => ("LatestSetsModel", "outcome", "[I", true)
  | 20 => ("LatestSetsModel", "kept", "[I", true)
  | 21 => ("LatestSetsModel", "image", "[I", true)
  | _ => ("LatestSetsModel", "isKept", "[Z", true)
def tyX8 : Nat → FieldType := fun k => match k with
  | 0 => .int
  | 1 => .array .int
  | 2 => .array .int
  | 3 => .array .int
  | 4 => .int
  | 5 => .int
  | 6 => .array .int
  | 7 => .int
  | 8 => .array .int
  | 9 => .int
  | 10 => .array .int
  | 11 => .array .int
  | 12 => .array .int
  | 13 => .int
  | 14 => .array .int
  | 15 => .array .int
  | 16 => .int
  | 17 => .int
  | 18 => .int
  | 19 => .array .int
  | 20 => .array .int
  | 21 => .array .int
  | _ => .array .boolean
abbrev wsX80 : List Cond := u_ws RX8 TX8 23
theorem nmX8 : ∀ a, a < 23 → ∀ b, b < 23 → a ≠ b → (TX8 a).2.1 ≠ (TX8 b).2.1 := by decide +kernel
theorem tyX8_ok : ∀ k, k < 23 → parseFieldDescriptor (TX8 k).2.2.1 = some (tyX8 k) := by decide +kernel
abbrev cX8_init : ByteArray := prog_10_method_1_code
def yX8_init : MethodName := ⟨RX8, "<init>", "()V"⟩
abbrev cX8_plain : ByteArray := prog_10_method_2_code
def yX8_plain : MethodName := ⟨RX8, "plain", "()V"⟩
abbrev cX8_in : ByteArray := prog_10_method_3_code
def yX8_in : MethodName := ⟨RX8, "in", "(III)Z"⟩
abbrev cX8_has : ByteArray := prog_10_method_4_code
def yX8_has : MethodName := ⟨RX8, "has", "(II)Z"⟩
abbrev cX8_isHour : ByteArray := prog_10_method_5_code
def yX8_isHour : MethodName := ⟨RX8, "isHour", "(I)Z"⟩
abbrev cX8_isMember : ByteArray := prog_10_method_6_code
def yX8_isMember : MethodName := ⟨RX8, "isMember", "(I)Z"⟩
abbrev cX8_members : ByteArray := prog_10_method_7_code
def yX8_members : MethodName := ⟨RX8, "members", "(I)I"⟩
abbrev cX8_member : ByteArray := prog_10_method_8_code
def yX8_member : MethodName := ⟨RX8, "member", "(III)I"⟩
abbrev cX8_fine : ByteArray := prog_10_method_9_code
def yX8_fine : MethodName := ⟨RX8, "fine", "(I)I"⟩
abbrev cX8_say : ByteArray := prog_10_method_10_code
def yX8_say : MethodName := ⟨RX8, "say", "(I)I"⟩
abbrev cX8_wipe : ByteArray := prog_10_method_11_code
def yX8_wipe : MethodName := ⟨RX8, "wipe", "()I"⟩
abbrev cX8_isLeaf : ByteArray := prog_10_method_12_code
def yX8_isLeaf : MethodName := ⟨RX8, "isLeaf", "(I)Z"⟩
abbrev cX8_isPair : ByteArray := prog_10_method_13_code
def yX8_isPair : MethodName := ⟨RX8, "isPair", "(I)Z"⟩
abbrev cX8_isShift : ByteArray := prog_10_method_14_code
def yX8_isShift : MethodName := ⟨RX8, "isShift", "(I)Z"⟩
abbrev cX8_faultOf : ByteArray := prog_10_method_15_code
def yX8_faultOf : MethodName := ⟨RX8, "faultOf", "()I"⟩
abbrev cX8_fault : ByteArray := prog_10_method_16_code
def yX8_fault : MethodName := ⟨RX8, "fault", "()I"⟩
abbrev cX8_enact : ByteArray := prog_10_method_17_code
def yX8_enact : MethodName := ⟨RX8, "enact", "()I"⟩
abbrev cX8_comesAt : ByteArray := prog_10_method_18_code
def yX8_comesAt : MethodName := ⟨RX8, "comesAt", "(II)I"⟩
abbrev cX8_layCame : ByteArray := prog_10_method_19_code
def yX8_layCame : MethodName := ⟨RX8, "layCame", "(I)V"⟩
abbrev cX8_leafOf : ByteArray := prog_10_method_20_code
def yX8_leafOf : MethodName := ⟨RX8, "leafOf", "(II)I"⟩
abbrev cX8_cut : ByteArray := prog_10_method_21_code
def yX8_cut : MethodName := ⟨RX8, "cut", "(I)I"⟩
abbrev cX8_nextOf : ByteArray := prog_10_method_22_code
def yX8_nextOf : MethodName := ⟨RX8, "nextOf", "(I)I"⟩
abbrev cX8_asTold : ByteArray := prog_10_method_23_code
def yX8_asTold : MethodName := ⟨RX8, "asTold", "()V"⟩
abbrev cX8_hourOf : ByteArray := prog_10_method_24_code
def yX8_hourOf : MethodName := ⟨RX8, "hourOf", "(II)I"⟩
abbrev cX8_hour : ByteArray := prog_10_method_25_code
def yX8_hour : MethodName := ⟨RX8, "hour", "(II)I"⟩
abbrev cX8_comes : ByteArray := prog_10_method_26_code
def yX8_comes : MethodName := ⟨RX8, "comes", "(III)I"⟩
abbrev cX8_layTends : ByteArray := prog_10_method_27_code
def yX8_layTends : MethodName := ⟨RX8, "layTends", "(I)V"⟩
abbrev cX8_tends : ByteArray := prog_10_method_28_code
def yX8_tends : MethodName := ⟨RX8, "tends", "(II)I"⟩
abbrev cX8_paid : ByteArray := prog_10_method_29_code
def yX8_paid : MethodName := ⟨RX8, "paid", "(II)I"⟩
abbrev cX8_apart : ByteArray := prog_10_method_30_code
def yX8_apart : MethodName := ⟨RX8, "apart", "(II)I"⟩
abbrev cX8_contentOf : ByteArray := prog_10_method_31_code
def yX8_contentOf : MethodName := ⟨RX8, "contentOf", "(I)I"⟩
abbrev cX8_content : ByteArray := prog_10_method_32_code
def yX8_content : MethodName := ⟨RX8, "content", "(I)I"⟩
abbrev cX8_choice : ByteArray := prog_10_method_33_code
def yX8_choice : MethodName := ⟨RX8, "choice", "(IIII)I"⟩
abbrev cX8_powerOf : ByteArray := prog_10_method_34_code
def yX8_powerOf : MethodName := ⟨RX8, "powerOf", "(II)I"⟩
abbrev cX8_layBy : ByteArray := prog_10_method_35_code
def yX8_layBy : MethodName := ⟨RX8, "layBy", "(II)V"⟩
abbrev cX8_rest : ByteArray := prog_10_method_36_code
def yX8_rest : MethodName := ⟨RX8, "rest", "(I)Z"⟩
abbrev cX8_rests : ByteArray := prog_10_method_37_code
def yX8_rests : MethodName := ⟨RX8, "rests", "(II)I"⟩
abbrev cX8_laws : ByteArray := prog_10_method_38_code
def yX8_laws : MethodName := ⟨RX8, "laws", "(II)I"⟩
abbrev cX8_bits : ByteArray := prog_10_method_39_code
def yX8_bits : MethodName := ⟨RX8, "bits", "(I)I"⟩
abbrev cX8_moves : ByteArray := prog_10_method_40_code
def yX8_moves : MethodName := ⟨RX8, "moves", "(IIII)Z"⟩
abbrev cX8_move : ByteArray := prog_10_method_41_code
def yX8_move : MethodName := ⟨RX8, "move", "(III)I"⟩
abbrev cX8_seen : ByteArray := prog_10_method_42_code
def yX8_seen : MethodName := ⟨RX8, "seen", "(II)I"⟩
abbrev cX8_forget : ByteArray := prog_10_method_43_code
def yX8_forget : MethodName := ⟨RX8, "forget", "()I"⟩
abbrev cX8_could : ByteArray := prog_10_method_44_code
def yX8_could : MethodName := ⟨RX8, "could", "(II)I"⟩
abbrev cX8_power : ByteArray := prog_10_method_45_code
def yX8_power : MethodName := ⟨RX8, "power", "(JI)J"⟩
abbrev cX8_rain : ByteArray := prog_10_method_46_code
def yX8_rain : MethodName := ⟨RX8, "rain", "(IIIII)J"⟩
abbrev cX8_year : ByteArray := prog_10_method_47_code
def yX8_year : MethodName := ⟨RX8, "year", "(IIII)I"⟩
abbrev cX8_image : ByteArray := prog_10_method_48_code
def yX8_image : MethodName := ⟨RX8, "image", "(I)I"⟩
abbrev cX8_restore : ByteArray := prog_10_method_49_code
def yX8_restore : MethodName := ⟨RX8, "restore", "(I)I"⟩
abbrev cX8_told : ByteArray := prog_10_method_50_code
def yX8_told : MethodName := ⟨RX8, "told", "(I)I"⟩
def RJ6 : String := "java/lang/Integer"
def TJ6 : u_T := fun k => match k with
  | _ => ("", "", "", false)
def tyJ6 : Nat → FieldType := fun k => match k with
  | _ => .int
abbrev wsJ60 : List Cond := u_ws RJ6 TJ6 0
theorem nmJ6 : ∀ a, a < 0 → ∀ b, b < 0 → a ≠ b → (TJ6 a).2.1 ≠ (TJ6 b).2.1 := by decide +kernel
theorem tyJ6_ok : ∀ k, k < 0 → parseFieldDescriptor (TJ6 k).2.2.1 = some (tyJ6 k) := by decide +kernel
abbrev cJ6_bitCount_0f7a4 : ByteArray := prog_11_method_49_code
def yJ6_bitCount_0f7a4 : MethodName := ⟨RJ6, "bitCount", "(I)I"⟩
def RJ9 : String := "java/lang/Math"
def TJ9 : u_T := fun k => match k with
  | _ => ("", "", "", false)
def tyJ9 : Nat → FieldType := fun k => match k with
  | _ => .int
abbrev wsJ90 : List Cond := u_ws RJ9 TJ9 0
theorem nmJ9 : ∀ a, a < 0 → ∀ b, b < 0 → a ≠ b → (TJ9 a).2.1 ≠ (TJ9 b).2.1 := by decide +kernel
theorem tyJ9_ok : ∀ k, k < 0 → parseFieldDescriptor (TJ9 k).2.2.1 = some (tyJ9 k) := by decide +kernel
abbrev cJ9_abs_0f7a4 : ByteArray := prog_12_method_59_code
def yJ9_abs_0f7a4 : MethodName := ⟨RJ9, "abs", "(I)I"⟩
abbrev cJ9_max_7cf53 : ByteArray := prog_12_method_65_code
def yJ9_max_7cf53 : MethodName := ⟨RJ9, "max", "(II)I"⟩
abbrev cJ9_min_7cf53 : ByteArray := prog_12_method_69_code
def yJ9_min_7cf53 : MethodName := ⟨RJ9, "min", "(II)I"⟩
def RJ10 : String := "java/lang/System"
def TJ10 : u_T := fun k => match k with
  | _ => ("", "", "", false)
def tyJ10 : Nat → FieldType := fun k => match k with
  | _ => .int
abbrev wsJ100 : List Cond := u_ws RJ10 TJ10 0
theorem nmJ10 : ∀ a, a < 0 → ∀ b, b < 0 → a ≠ b → (TJ10 a).2.1 ≠ (TJ10 b).2.1 := by decide +kernel
theorem tyJ10_ok : ∀ k, k < 0 → parseFieldDescriptor (TJ10 k).2.2.1 = some (tyJ10 k) := by decide +kernel
def RJ7 : String := "java/util/Arrays"
def TJ7 : u_T := fun k => match k with
  | _ => ("", "", "", false)
def tyJ7 : Nat → FieldType := fun k => match k with
  | _ => .int
abbrev wsJ70 : List Cond := u_ws RJ7 TJ7 0
theorem nmJ7 : ∀ a, a < 0 → ∀ b, b < 0 → a ≠ b → (TJ7 a).2.1 ≠ (TJ7 b).2.1 := by decide +kernel
theorem tyJ7_ok : ∀ k, k < 0 → parseFieldDescriptor (TJ7 k).2.2.1 = some (tyJ7 k) := by decide +kernel
abbrev cJ7_fill_d0a16 : ByteArray := prog_14_method_101_code
def yJ7_fill_d0a16 : MethodName := ⟨RJ7, "fill", "([JJ)V"⟩
abbrev cJ7_fill_53178 : ByteArray := prog_14_method_103_code
def yJ7_fill_53178 : MethodName := ⟨RJ7, "fill", "([II)V"⟩
def RL : String := "LatestSetsLaw"
abbrev cL_law : ByteArray := code
def yL_law : MethodName := ⟨RL, "law", "([I)Z"⟩
def wsX0_init : List Cond := .code yX0_init cX0_init 2 none :: ([.methodLink RX0 3 objectInit, .instanceMethod objectInit, .code objectInit ⟨#[0xb1]⟩ 1 none, .arrayClass .int, .fieldLink RX0 9 "LatestSets$Board" "trial" "[I", .fieldLink RX0 15 "LatestSets$Board" "came" "[I", .fieldLink RX0 18 "LatestSets$Board" "stack" "[I", .fieldLink RX0 21 "LatestSets$Board" "guild" "LLatestSets$Guild;"] ++ wsX00)
def wsX0_tryAsTold : List Cond := .code yX0_tryAsTold cX0_tryAsTold 1 none :: ([.fieldLink RX0 21 "LatestSets$Board" "guild" "LLatestSets$Guild;", .fieldLink RX0 25 "LatestSets$Guild" "late" "[I", .fieldLink RX0 9 "LatestSets$Board" "trial" "[I", .methodLink RX0 30 arraycopyName, .native arraycopyName, .static arraycopyName, .initialized "java/lang/System"] ++ wsX00 ++ wsX30)
def wsX7_comingAt : List Cond := .code yX7_comingAt cX7_comingAt 3 (some .int) :: ([.methodLink RX7 213 Lib.Math.max.name, .static Lib.Math.max.name, .initialized "java/lang/Math", .code Lib.Math.max.name Lib.Math.max.code 2 (some .int), .methodLink RX7 218 Lib.Math.min.name, .static Lib.Math.min.name, .code Lib.Math.min.name Lib.Math.min.code 2 (some .int)])
def wsX0_insert : List Cond := .code yX0_insert cX0_insert 4 none :: ([.fieldLink RX0 15 "LatestSets$Board" "came" "[I"] ++ wsX00)
def wsX0_pop : List Cond := .code yX0_pop cX0_pop 1 (some .int) :: ([.fieldLink RX0 92 "LatestSets$Board" "height" "I", .fieldLink RX0 18 "LatestSets$Board" "stack" "[I"] ++ wsX00)
def wsX0_push : List Cond := .code yX0_push cX0_push 2 none :: ([.fieldLink RX0 92 "LatestSets$Board" "height" "I", .fieldLink RX0 18 "LatestSets$Board" "stack" "[I"] ++ wsX00)
def wsX0_placeOf : List Cond := .code yX0_placeOf cX0_placeOf 3 (some .int) :: ([.fieldLink RX0 21 "LatestSets$Board" "guild" "LLatestSets$Guild;", .fieldLink RX0 36 "LatestSets$Guild" "count" "I", .methodLink RX0 61 Lib.Math.max.name, .static Lib.Math.max.name, .initialized "java/lang/Math", .code Lib.Math.max.name Lib.Math.max.code 2 (some .int)] ++ wsX00 ++ wsX30)
def wsX0_madeBy_r1 : List Cond := [Cond.fieldLink RX0 92 "LatestSets$Board" "height" "I", Cond.fieldLink RX0 95 "LatestSets$Law" "length" "I", Cond.fieldLink RX0 100 "LatestSets$Law" "signs" "[I", Cond.methodLink RX0 55 Lib.Math.min.name, Cond.static Lib.Math.min.name, Cond.initialized "java/lang/Math", Cond.code Lib.Math.min.name Lib.Math.min.code 2 (some .int), Cond.methodLink RX0 61 Lib.Math.max.name, Cond.static Lib.Math.max.name, Cond.code Lib.Math.max.name Lib.Math.max.code 2 (some .int), Cond.fieldLink RX0 15 "LatestSets$Board" "came" "[I", Cond.methodLink RX0 103 yX0_pop, Cond.instanceMethod yX0_pop, Cond.selects RX0 yX0_pop yX0_pop, Cond.initialized RX0, Cond.code yX0_pop cX0_pop 1 (some .int), Cond.fieldLink RX0 18 "LatestSets$Board" "stack" "[I", Cond.methodLink RX0 107 yX0_push, Cond.instanceMethod yX0_push, Cond.selects RX0 yX0_push yX0_push, Cond.code yX0_push cX0_push 2 none, Cond.methodLink RX0 111 yX0_placeOf, Cond.instanceMethod yX0_placeOf, Cond.selects RX0 yX0_placeOf yX0_placeOf]
def wsX0_madeBy_r2 : List Cond := [Cond.code yX0_placeOf cX0_placeOf 3 (some .int), Cond.fieldLink RX0 21 "LatestSets$Board" "guild" "LLatestSets$Guild;", Cond.fieldLink RX0 36 "LatestSets$Guild" "count" "I"]
def wsX0_madeBy : List Cond := .code yX0_madeBy cX0_madeBy 6 (some .int) :: ((wsX0_madeBy_r1 ++ wsX0_madeBy_r2) ++ wsX00 ++ wsX40 ++ wsX30)
def wsX0_nextHour_r1 : List Cond := [Cond.fieldLink RX0 21 "LatestSets$Board" "guild" "LLatestSets$Guild;", Cond.fieldLink RX0 36 "LatestSets$Guild" "count" "I", Cond.fieldLink RX0 40 "LatestSets$Guild" "early" "[I", Cond.methodLink RX0 55 Lib.Math.min.name, Cond.static Lib.Math.min.name, Cond.initialized "java/lang/Math", Cond.code Lib.Math.min.name Lib.Math.min.code 2 (some .int), Cond.methodLink RX0 61 Lib.Math.max.name, Cond.static Lib.Math.max.name, Cond.code Lib.Math.max.name Lib.Math.max.code 2 (some .int), Cond.static yX7_comingAt, Cond.initialized RX7, Cond.code yX7_comingAt cX7_comingAt 3 (some .int), Cond.methodLink RX7 213 Lib.Math.max.name, Cond.methodLink RX7 218 Lib.Math.min.name, Cond.methodLink RX0 47 yX0_insert, Cond.instanceMethod yX0_insert, Cond.selects RX0 yX0_insert yX0_insert, Cond.initialized RX0, Cond.code yX0_insert cX0_insert 4 none, Cond.fieldLink RX0 15 "LatestSets$Board" "came" "[I", Cond.methodLink RX0 51 yX0_madeBy, Cond.instanceMethod yX0_madeBy, Cond.selects RX0 yX0_madeBy yX0_madeBy]
def wsX0_nextHour_r2 : List Cond := [Cond.code yX0_madeBy cX0_madeBy 6 (some .int), Cond.fieldLink RX0 92 "LatestSets$Board" "height" "I", Cond.fieldLink RX0 95 "LatestSets$Law" "length" "I", Cond.fieldLink RX0 100 "LatestSets$Law" "signs" "[I", Cond.methodLink RX0 103 yX0_pop, Cond.instanceMethod yX0_pop, Cond.selects RX0 yX0_pop yX0_pop, Cond.code yX0_pop cX0_pop 1 (some .int), Cond.fieldLink RX0 18 "LatestSets$Board" "stack" "[I", Cond.methodLink RX0 107 yX0_push, Cond.instanceMethod yX0_push, Cond.selects RX0 yX0_push yX0_push, Cond.code yX0_push cX0_push 2 none, Cond.methodLink RX0 111 yX0_placeOf, Cond.instanceMethod yX0_placeOf, Cond.selects RX0 yX0_placeOf yX0_placeOf, Cond.code yX0_placeOf cX0_placeOf 3 (some .int)]
def wsX0_nextHour : List Cond := .code yX0_nextHour cX0_nextHour 6 (some .int) :: ((wsX0_nextHour_r1 ++ wsX0_nextHour_r2) ++ wsX00 ++ wsX30 ++ wsX40)
def wsX0_hourAfter_r1 : List Cond := [Cond.fieldLink RX0 21 "LatestSets$Board" "guild" "LLatestSets$Guild;", Cond.fieldLink RX0 64 "LatestSets$Guild" "law" "LLatestSets$Law;", Cond.methodLink RX0 68 yX0_nextHour, Cond.instanceMethod yX0_nextHour, Cond.selects RX0 yX0_nextHour yX0_nextHour, Cond.initialized RX0, Cond.code yX0_nextHour cX0_nextHour 6 (some .int), Cond.fieldLink RX0 36 "LatestSets$Guild" "count" "I", Cond.fieldLink RX0 40 "LatestSets$Guild" "early" "[I", Cond.methodLink RX0 55 Lib.Math.min.name, Cond.static Lib.Math.min.name, Cond.initialized "java/lang/Math", Cond.code Lib.Math.min.name Lib.Math.min.code 2 (some .int), Cond.methodLink RX0 61 Lib.Math.max.name, Cond.static Lib.Math.max.name, Cond.code Lib.Math.max.name Lib.Math.max.code 2 (some .int), Cond.static yX7_comingAt, Cond.initialized RX7, Cond.code yX7_comingAt cX7_comingAt 3 (some .int), Cond.methodLink RX7 213 Lib.Math.max.name, Cond.methodLink RX7 218 Lib.Math.min.name, Cond.methodLink RX0 47 yX0_insert, Cond.instanceMethod yX0_insert, Cond.selects RX0 yX0_insert yX0_insert]
def wsX0_hourAfter_r2 : List Cond := [Cond.code yX0_insert cX0_insert 4 none, Cond.fieldLink RX0 15 "LatestSets$Board" "came" "[I", Cond.methodLink RX0 51 yX0_madeBy, Cond.instanceMethod yX0_madeBy, Cond.selects RX0 yX0_madeBy yX0_madeBy, Cond.code yX0_madeBy cX0_madeBy 6 (some .int), Cond.fieldLink RX0 92 "LatestSets$Board" "height" "I", Cond.fieldLink RX0 95 "LatestSets$Law" "length" "I", Cond.fieldLink RX0 100 "LatestSets$Law" "signs" "[I", Cond.methodLink RX0 103 yX0_pop, Cond.instanceMethod yX0_pop, Cond.selects RX0 yX0_pop yX0_pop, Cond.code yX0_pop cX0_pop 1 (some .int), Cond.fieldLink RX0 18 "LatestSets$Board" "stack" "[I", Cond.methodLink RX0 107 yX0_push, Cond.instanceMethod yX0_push, Cond.selects RX0 yX0_push yX0_push, Cond.code yX0_push cX0_push 2 none, Cond.methodLink RX0 111 yX0_placeOf, Cond.instanceMethod yX0_placeOf, Cond.selects RX0 yX0_placeOf yX0_placeOf, Cond.code yX0_placeOf cX0_placeOf 3 (some .int)]
def wsX0_hourAfter : List Cond := .code yX0_hourAfter cX0_hourAfter 7 (some .int) :: ((wsX0_hourAfter_r1 ++ wsX0_hourAfter_r2) ++ wsX00 ++ wsX30 ++ wsX40)
def wsX0_allSightsHold_r1 : List Cond := [Cond.fieldLink RX0 21 "LatestSets$Board" "guild" "LLatestSets$Guild;", Cond.fieldLink RX0 79 "LatestSets$Guild" "sights" "I", Cond.fieldLink RX0 82 "LatestSets$Guild" "sightWeek" "[I", Cond.fieldLink RX0 9 "LatestSets$Board" "trial" "[I", Cond.fieldLink RX0 89 "LatestSets$Guild" "sightHour" "[I", Cond.methodLink RX0 85 yX0_hourAfter, Cond.instanceMethod yX0_hourAfter, Cond.selects RX0 yX0_hourAfter yX0_hourAfter, Cond.initialized RX0, Cond.code yX0_hourAfter cX0_hourAfter 7 (some .int), Cond.fieldLink RX0 64 "LatestSets$Guild" "law" "LLatestSets$Law;", Cond.methodLink RX0 68 yX0_nextHour, Cond.instanceMethod yX0_nextHour, Cond.selects RX0 yX0_nextHour yX0_nextHour, Cond.code yX0_nextHour cX0_nextHour 6 (some .int), Cond.fieldLink RX0 36 "LatestSets$Guild" "count" "I", Cond.fieldLink RX0 40 "LatestSets$Guild" "early" "[I", Cond.methodLink RX0 55 Lib.Math.min.name, Cond.static Lib.Math.min.name, Cond.initialized "java/lang/Math", Cond.code Lib.Math.min.name Lib.Math.min.code 2 (some .int), Cond.methodLink RX0 61 Lib.Math.max.name, Cond.static Lib.Math.max.name, Cond.code Lib.Math.max.name Lib.Math.max.code 2 (some .int)]
def wsX0_allSightsHold_r2 : List Cond := [Cond.static yX7_comingAt, Cond.initialized RX7, Cond.code yX7_comingAt cX7_comingAt 3 (some .int), Cond.methodLink RX7 213 Lib.Math.max.name, Cond.methodLink RX7 218 Lib.Math.min.name, Cond.methodLink RX0 47 yX0_insert, Cond.instanceMethod yX0_insert, Cond.selects RX0 yX0_insert yX0_insert, Cond.code yX0_insert cX0_insert 4 none, Cond.fieldLink RX0 15 "LatestSets$Board" "came" "[I", Cond.methodLink RX0 51 yX0_madeBy, Cond.instanceMethod yX0_madeBy, Cond.selects RX0 yX0_madeBy yX0_madeBy, Cond.code yX0_madeBy cX0_madeBy 6 (some .int), Cond.fieldLink RX0 92 "LatestSets$Board" "height" "I", Cond.fieldLink RX0 95 "LatestSets$Law" "length" "I", Cond.fieldLink RX0 100 "LatestSets$Law" "signs" "[I", Cond.methodLink RX0 103 yX0_pop, Cond.instanceMethod yX0_pop, Cond.selects RX0 yX0_pop yX0_pop, Cond.code yX0_pop cX0_pop 1 (some .int), Cond.fieldLink RX0 18 "LatestSets$Board" "stack" "[I", Cond.methodLink RX0 107 yX0_push, Cond.instanceMethod yX0_push]
def wsX0_allSightsHold_r3 : List Cond := [Cond.selects RX0 yX0_push yX0_push, Cond.code yX0_push cX0_push 2 none, Cond.methodLink RX0 111 yX0_placeOf, Cond.instanceMethod yX0_placeOf, Cond.selects RX0 yX0_placeOf yX0_placeOf, Cond.code yX0_placeOf cX0_placeOf 3 (some .int)]
def wsX0_allSightsHold : List Cond := .code yX0_allSightsHold cX0_allSightsHold 3 (some .boolean) :: ((wsX0_allSightsHold_r1 ++ (wsX0_allSightsHold_r2 ++ wsX0_allSightsHold_r3)) ++ wsX00 ++ wsX30 ++ wsX40)
def wsX0_latesThatFit_r1 : List Cond := [Cond.fieldLink RX0 9 "LatestSets$Board" "trial" "[I", Cond.methodLink RX0 72 yX0_tryAsTold, Cond.instanceMethod yX0_tryAsTold, Cond.selects RX0 yX0_tryAsTold yX0_tryAsTold, Cond.initialized RX0, Cond.code yX0_tryAsTold cX0_tryAsTold 1 none, Cond.fieldLink RX0 21 "LatestSets$Board" "guild" "LLatestSets$Guild;", Cond.fieldLink RX0 25 "LatestSets$Guild" "late" "[I", Cond.methodLink RX0 30 arraycopyName, Cond.native arraycopyName, Cond.static arraycopyName, Cond.initialized "java/lang/System", Cond.methodLink RX0 75 yX0_allSightsHold, Cond.instanceMethod yX0_allSightsHold, Cond.selects RX0 yX0_allSightsHold yX0_allSightsHold, Cond.code yX0_allSightsHold cX0_allSightsHold 3 (some .boolean), Cond.fieldLink RX0 79 "LatestSets$Guild" "sights" "I", Cond.fieldLink RX0 82 "LatestSets$Guild" "sightWeek" "[I", Cond.fieldLink RX0 89 "LatestSets$Guild" "sightHour" "[I", Cond.methodLink RX0 85 yX0_hourAfter, Cond.instanceMethod yX0_hourAfter, Cond.selects RX0 yX0_hourAfter yX0_hourAfter, Cond.code yX0_hourAfter cX0_hourAfter 7 (some .int), Cond.fieldLink RX0 64 "LatestSets$Guild" "law" "LLatestSets$Law;"]
def wsX0_latesThatFit_r2 : List Cond := [Cond.methodLink RX0 68 yX0_nextHour, Cond.instanceMethod yX0_nextHour, Cond.selects RX0 yX0_nextHour yX0_nextHour, Cond.code yX0_nextHour cX0_nextHour 6 (some .int), Cond.fieldLink RX0 36 "LatestSets$Guild" "count" "I", Cond.fieldLink RX0 40 "LatestSets$Guild" "early" "[I", Cond.methodLink RX0 55 Lib.Math.min.name, Cond.static Lib.Math.min.name, Cond.initialized "java/lang/Math", Cond.code Lib.Math.min.name Lib.Math.min.code 2 (some .int), Cond.methodLink RX0 61 Lib.Math.max.name, Cond.static Lib.Math.max.name, Cond.code Lib.Math.max.name Lib.Math.max.code 2 (some .int), Cond.static yX7_comingAt, Cond.initialized RX7, Cond.code yX7_comingAt cX7_comingAt 3 (some .int), Cond.methodLink RX7 213 Lib.Math.max.name, Cond.methodLink RX7 218 Lib.Math.min.name, Cond.methodLink RX0 47 yX0_insert, Cond.instanceMethod yX0_insert, Cond.selects RX0 yX0_insert yX0_insert, Cond.code yX0_insert cX0_insert 4 none, Cond.fieldLink RX0 15 "LatestSets$Board" "came" "[I", Cond.methodLink RX0 51 yX0_madeBy]
def wsX0_latesThatFit_r3 : List Cond := [Cond.instanceMethod yX0_madeBy, Cond.selects RX0 yX0_madeBy yX0_madeBy, Cond.code yX0_madeBy cX0_madeBy 6 (some .int), Cond.fieldLink RX0 92 "LatestSets$Board" "height" "I", Cond.fieldLink RX0 95 "LatestSets$Law" "length" "I", Cond.fieldLink RX0 100 "LatestSets$Law" "signs" "[I", Cond.methodLink RX0 103 yX0_pop, Cond.instanceMethod yX0_pop, Cond.selects RX0 yX0_pop yX0_pop, Cond.code yX0_pop cX0_pop 1 (some .int), Cond.fieldLink RX0 18 "LatestSets$Board" "stack" "[I", Cond.methodLink RX0 107 yX0_push, Cond.instanceMethod yX0_push, Cond.selects RX0 yX0_push yX0_push, Cond.code yX0_push cX0_push 2 none, Cond.methodLink RX0 111 yX0_placeOf, Cond.instanceMethod yX0_placeOf, Cond.selects RX0 yX0_placeOf yX0_placeOf, Cond.code yX0_placeOf cX0_placeOf 3 (some .int)]
def wsX0_latesThatFit : List Cond := .code yX0_latesThatFit cX0_latesThatFit 5 (some .int) :: ((wsX0_latesThatFit_r1 ++ (wsX0_latesThatFit_r2 ++ wsX0_latesThatFit_r3)) ++ wsX00 ++ wsX30 ++ wsX40)
def wsX1_init : List Cond := .code yX1_init cX1_init 2 none :: ([.methodLink RX1 3 objectInit, .instanceMethod objectInit, .code objectInit ⟨#[0xb1]⟩ 1 none, .arrayClass .long, .fieldLink RX1 9 "LatestSets$Chance" "weight" "[J", .fieldLink RX1 15 "LatestSets$Chance" "nextWeight" "[J", .fieldLink RX1 18 "LatestSets$Chance" "board" "LLatestSets$Board;"] ++ wsX10)
def wsJ7_fill_d0a16 : List Cond := .code yJ7_fill_d0a16 cJ7_fill_d0a16 5 none :: ([])
def wsX1_rainOneWeek_r1 : List Cond := [Cond.fieldLink RX1 15 "LatestSets$Chance" "nextWeight" "[J", Cond.fieldLink RX1 9 "LatestSets$Chance" "weight" "[J", Cond.fieldLink RX1 18 "LatestSets$Chance" "board" "LLatestSets$Board;", Cond.fieldLink RX1 49 "LatestSets$Board" "guild" "LLatestSets$Guild;", Cond.fieldLink RX1 55 "LatestSets$Guild" "law" "LLatestSets$Law;", Cond.fieldLink RX1 61 "LatestSets$Guild" "late" "[I", Cond.methodLink RX1 69 arraycopyName, Cond.native arraycopyName, Cond.static arraycopyName, Cond.initialized "java/lang/System", Cond.methodLink RX1 22 yJ7_fill_d0a16, Cond.static yJ7_fill_d0a16, Cond.initialized RJ7, Cond.code yJ7_fill_d0a16 cJ7_fill_d0a16 5 none, Cond.methodLink RX1 65 yX0_nextHour, Cond.instanceMethod yX0_nextHour, Cond.selects RX0 yX0_nextHour yX0_nextHour, Cond.initialized RX0, Cond.code yX0_nextHour cX0_nextHour 6 (some .int), Cond.fieldLink RX0 21 "LatestSets$Board" "guild" "LLatestSets$Guild;", Cond.fieldLink RX0 36 "LatestSets$Guild" "count" "I", Cond.fieldLink RX0 40 "LatestSets$Guild" "early" "[I", Cond.methodLink RX0 55 Lib.Math.min.name, Cond.static Lib.Math.min.name]
def wsX1_rainOneWeek_r2 : List Cond := [Cond.initialized "java/lang/Math", Cond.code Lib.Math.min.name Lib.Math.min.code 2 (some .int), Cond.methodLink RX0 61 Lib.Math.max.name, Cond.static Lib.Math.max.name, Cond.code Lib.Math.max.name Lib.Math.max.code 2 (some .int), Cond.static yX7_comingAt, Cond.initialized RX7, Cond.code yX7_comingAt cX7_comingAt 3 (some .int), Cond.methodLink RX7 213 Lib.Math.max.name, Cond.methodLink RX7 218 Lib.Math.min.name, Cond.methodLink RX0 47 yX0_insert, Cond.instanceMethod yX0_insert, Cond.selects RX0 yX0_insert yX0_insert, Cond.code yX0_insert cX0_insert 4 none, Cond.fieldLink RX0 15 "LatestSets$Board" "came" "[I", Cond.methodLink RX0 51 yX0_madeBy, Cond.instanceMethod yX0_madeBy, Cond.selects RX0 yX0_madeBy yX0_madeBy, Cond.code yX0_madeBy cX0_madeBy 6 (some .int), Cond.fieldLink RX0 92 "LatestSets$Board" "height" "I", Cond.fieldLink RX0 95 "LatestSets$Law" "length" "I", Cond.fieldLink RX0 100 "LatestSets$Law" "signs" "[I", Cond.methodLink RX0 103 yX0_pop, Cond.instanceMethod yX0_pop]
def wsX1_rainOneWeek_r3 : List Cond := [Cond.selects RX0 yX0_pop yX0_pop, Cond.code yX0_pop cX0_pop 1 (some .int), Cond.fieldLink RX0 18 "LatestSets$Board" "stack" "[I", Cond.methodLink RX0 107 yX0_push, Cond.instanceMethod yX0_push, Cond.selects RX0 yX0_push yX0_push, Cond.code yX0_push cX0_push 2 none, Cond.methodLink RX0 111 yX0_placeOf, Cond.instanceMethod yX0_placeOf, Cond.selects RX0 yX0_placeOf yX0_placeOf, Cond.code yX0_placeOf cX0_placeOf 3 (some .int)]
def wsX1_rainOneWeek : List Cond := .code yX1_rainOneWeek cX1_rainOneWeek 6 none :: ((wsX1_rainOneWeek_r1 ++ (wsX1_rainOneWeek_r2 ++ wsX1_rainOneWeek_r3)) ++ wsX10 ++ wsX00 ++ wsX30 ++ wsX40)
def wsX1_cancel : List Cond := .code yX1_cancel cX1_cancel 5 none :: ([.fieldLink RX1 38 "LatestSets$Chance" "upper" "J", .fieldLink RX1 28 "LatestSets$Chance" "lower" "J"] ++ wsX10)
def wsX1_rainOn_r1 : List Cond := [Cond.fieldLink RX1 9 "LatestSets$Chance" "weight" "[J", Cond.fieldLink RX1 28 "LatestSets$Chance" "lower" "J", Cond.constantLong RX1 36 (10), Cond.fieldLink RX1 38 "LatestSets$Chance" "upper" "J", Cond.constantLong RX1 41 (2), Cond.constantLong RX1 47 (5), Cond.methodLink RX1 22 yJ7_fill_d0a16, Cond.static yJ7_fill_d0a16, Cond.initialized RJ7, Cond.code yJ7_fill_d0a16 cJ7_fill_d0a16 5 none, Cond.methodLink RX1 32 yX1_rainOneWeek, Cond.instanceMethod yX1_rainOneWeek, Cond.selects RX1 yX1_rainOneWeek yX1_rainOneWeek, Cond.initialized RX1, Cond.code yX1_rainOneWeek cX1_rainOneWeek 6 none, Cond.fieldLink RX1 15 "LatestSets$Chance" "nextWeight" "[J", Cond.fieldLink RX1 18 "LatestSets$Chance" "board" "LLatestSets$Board;", Cond.fieldLink RX1 49 "LatestSets$Board" "guild" "LLatestSets$Guild;", Cond.fieldLink RX1 55 "LatestSets$Guild" "law" "LLatestSets$Law;", Cond.fieldLink RX1 61 "LatestSets$Guild" "late" "[I", Cond.methodLink RX1 69 arraycopyName, Cond.native arraycopyName, Cond.static arraycopyName, Cond.initialized "java/lang/System"]
def wsX1_rainOn_r2 : List Cond := [Cond.methodLink RX1 65 yX0_nextHour, Cond.instanceMethod yX0_nextHour, Cond.selects RX0 yX0_nextHour yX0_nextHour, Cond.initialized RX0, Cond.code yX0_nextHour cX0_nextHour 6 (some .int), Cond.fieldLink RX0 21 "LatestSets$Board" "guild" "LLatestSets$Guild;", Cond.fieldLink RX0 36 "LatestSets$Guild" "count" "I", Cond.fieldLink RX0 40 "LatestSets$Guild" "early" "[I", Cond.methodLink RX0 55 Lib.Math.min.name, Cond.static Lib.Math.min.name, Cond.initialized "java/lang/Math", Cond.code Lib.Math.min.name Lib.Math.min.code 2 (some .int), Cond.methodLink RX0 61 Lib.Math.max.name, Cond.static Lib.Math.max.name, Cond.code Lib.Math.max.name Lib.Math.max.code 2 (some .int), Cond.static yX7_comingAt, Cond.initialized RX7, Cond.code yX7_comingAt cX7_comingAt 3 (some .int), Cond.methodLink RX7 213 Lib.Math.max.name, Cond.methodLink RX7 218 Lib.Math.min.name, Cond.methodLink RX0 47 yX0_insert, Cond.instanceMethod yX0_insert, Cond.selects RX0 yX0_insert yX0_insert, Cond.code yX0_insert cX0_insert 4 none]
def wsX1_rainOn_r3 : List Cond := [Cond.fieldLink RX0 15 "LatestSets$Board" "came" "[I", Cond.methodLink RX0 51 yX0_madeBy, Cond.instanceMethod yX0_madeBy, Cond.selects RX0 yX0_madeBy yX0_madeBy, Cond.code yX0_madeBy cX0_madeBy 6 (some .int), Cond.fieldLink RX0 92 "LatestSets$Board" "height" "I", Cond.fieldLink RX0 95 "LatestSets$Law" "length" "I", Cond.fieldLink RX0 100 "LatestSets$Law" "signs" "[I", Cond.methodLink RX0 103 yX0_pop, Cond.instanceMethod yX0_pop, Cond.selects RX0 yX0_pop yX0_pop, Cond.code yX0_pop cX0_pop 1 (some .int), Cond.fieldLink RX0 18 "LatestSets$Board" "stack" "[I", Cond.methodLink RX0 107 yX0_push, Cond.instanceMethod yX0_push, Cond.selects RX0 yX0_push yX0_push, Cond.code yX0_push cX0_push 2 none, Cond.methodLink RX0 111 yX0_placeOf, Cond.instanceMethod yX0_placeOf, Cond.selects RX0 yX0_placeOf yX0_placeOf, Cond.code yX0_placeOf cX0_placeOf 3 (some .int), Cond.methodLink RX1 43 yX1_cancel, Cond.instanceMethod yX1_cancel, Cond.selects RX1 yX1_cancel yX1_cancel]
def wsX1_rainOn_r4 : List Cond := [Cond.code yX1_cancel cX1_cancel 5 none]
def wsX1_rainOn : List Cond := .code yX1_rainOn cX1_rainOn 6 none :: ((wsX1_rainOn_r1 ++ (wsX1_rainOn_r2 ++ (wsX1_rainOn_r3 ++ wsX1_rainOn_r4))) ++ wsX10 ++ wsX00 ++ wsX30 ++ wsX40)
def wsX1_drawYear_r1 : List Cond := [Cond.fieldLink RX1 75 "LatestSets$Chance" "lastHour" "I", Cond.fieldLink RX1 79 "LatestSets$Chance" "latestHour" "I", Cond.fieldLink RX1 82 "LatestSets$Chance" "fines" "I", Cond.fieldLink RX1 18 "LatestSets$Chance" "board" "LLatestSets$Board;", Cond.fieldLink RX1 49 "LatestSets$Board" "guild" "LLatestSets$Guild;", Cond.fieldLink RX1 85 "LatestSets$Guild" "count" "I", Cond.constant RX1 88 (65537), Cond.fieldLink RX1 89 "LatestSets$Board" "trial" "[I", Cond.fieldLink RX1 61 "LatestSets$Guild" "late" "[I", Cond.fieldLink RX1 92 "LatestSets$Guild" "fineEach" "I", Cond.fieldLink RX1 55 "LatestSets$Guild" "law" "LLatestSets$Law;", Cond.methodLink RX1 95 Lib.Math.max.name, Cond.static Lib.Math.max.name, Cond.initialized "java/lang/Math", Cond.code Lib.Math.max.name Lib.Math.max.code 2 (some .int), Cond.methodLink RX1 65 yX0_nextHour, Cond.instanceMethod yX0_nextHour, Cond.selects RX0 yX0_nextHour yX0_nextHour, Cond.initialized RX0, Cond.code yX0_nextHour cX0_nextHour 6 (some .int), Cond.fieldLink RX0 21 "LatestSets$Board" "guild" "LLatestSets$Guild;", Cond.fieldLink RX0 36 "LatestSets$Guild" "count" "I", Cond.fieldLink RX0 40 "LatestSets$Guild" "early" "[I", Cond.methodLink RX0 55 Lib.Math.min.name]
def wsX1_drawYear_r2 : List Cond := [Cond.static Lib.Math.min.name, Cond.code Lib.Math.min.name Lib.Math.min.code 2 (some .int), Cond.methodLink RX0 61 Lib.Math.max.name, Cond.static yX7_comingAt, Cond.initialized RX7, Cond.code yX7_comingAt cX7_comingAt 3 (some .int), Cond.methodLink RX7 213 Lib.Math.max.name, Cond.methodLink RX7 218 Lib.Math.min.name, Cond.methodLink RX0 47 yX0_insert, Cond.instanceMethod yX0_insert, Cond.selects RX0 yX0_insert yX0_insert, Cond.code yX0_insert cX0_insert 4 none, Cond.fieldLink RX0 15 "LatestSets$Board" "came" "[I", Cond.methodLink RX0 51 yX0_madeBy, Cond.instanceMethod yX0_madeBy, Cond.selects RX0 yX0_madeBy yX0_madeBy, Cond.code yX0_madeBy cX0_madeBy 6 (some .int), Cond.fieldLink RX0 92 "LatestSets$Board" "height" "I", Cond.fieldLink RX0 95 "LatestSets$Law" "length" "I", Cond.fieldLink RX0 100 "LatestSets$Law" "signs" "[I", Cond.methodLink RX0 103 yX0_pop, Cond.instanceMethod yX0_pop, Cond.selects RX0 yX0_pop yX0_pop, Cond.code yX0_pop cX0_pop 1 (some .int)]
def wsX1_drawYear_r3 : List Cond := [Cond.fieldLink RX0 18 "LatestSets$Board" "stack" "[I", Cond.methodLink RX0 107 yX0_push, Cond.instanceMethod yX0_push, Cond.selects RX0 yX0_push yX0_push, Cond.code yX0_push cX0_push 2 none, Cond.methodLink RX0 111 yX0_placeOf, Cond.instanceMethod yX0_placeOf, Cond.selects RX0 yX0_placeOf yX0_placeOf, Cond.code yX0_placeOf cX0_placeOf 3 (some .int)]
def wsX1_drawYear : List Cond := .code yX1_drawYear cX1_drawYear 7 none :: ((wsX1_drawYear_r1 ++ (wsX1_drawYear_r2 ++ wsX1_drawYear_r3)) ++ wsX10 ++ wsX00 ++ wsX30 ++ wsX40)
def wsX2_init : List Cond := .code yX2_init cX2_init 2 none :: ([.methodLink RX2 3 objectInit, .instanceMethod objectInit, .code objectInit ⟨#[0xb1]⟩ 1 none, .classLink RX2 9 "[[I", .arrayClass .int, .fieldLink RX2 11 "LatestSets$Choices" "cost" "[[I", .fieldLink RX2 16 "LatestSets$Choices" "pick" "[[I", .fieldLink RX2 19 "LatestSets$Choices" "nextBy" "[I", .fieldLink RX2 23 "LatestSets$Choices" "board" "LLatestSets$Board;"] ++ wsX20)
def wsJ7_fill_53178 : List Cond := .code yJ7_fill_53178 cJ7_fill_53178 4 none :: ([])
def wsX2_nextIf_r1 : List Cond := [Cond.fieldLink RX2 23 "LatestSets$Choices" "board" "LLatestSets$Board;", Cond.fieldLink RX2 52 "LatestSets$Board" "trial" "[I", Cond.fieldLink RX2 55 "LatestSets$Board" "guild" "LLatestSets$Guild;", Cond.fieldLink RX2 59 "LatestSets$Guild" "law" "LLatestSets$Law;", Cond.methodLink RX2 65 yX0_nextHour, Cond.instanceMethod yX0_nextHour, Cond.selects RX0 yX0_nextHour yX0_nextHour, Cond.initialized RX0, Cond.code yX0_nextHour cX0_nextHour 6 (some .int), Cond.fieldLink RX0 21 "LatestSets$Board" "guild" "LLatestSets$Guild;", Cond.fieldLink RX0 36 "LatestSets$Guild" "count" "I", Cond.fieldLink RX0 40 "LatestSets$Guild" "early" "[I", Cond.methodLink RX0 55 Lib.Math.min.name, Cond.static Lib.Math.min.name, Cond.initialized "java/lang/Math", Cond.code Lib.Math.min.name Lib.Math.min.code 2 (some .int), Cond.methodLink RX0 61 Lib.Math.max.name, Cond.static Lib.Math.max.name, Cond.code Lib.Math.max.name Lib.Math.max.code 2 (some .int), Cond.static yX7_comingAt, Cond.initialized RX7, Cond.code yX7_comingAt cX7_comingAt 3 (some .int), Cond.methodLink RX7 213 Lib.Math.max.name, Cond.methodLink RX7 218 Lib.Math.min.name]
def wsX2_nextIf_r2 : List Cond := [Cond.methodLink RX0 47 yX0_insert, Cond.instanceMethod yX0_insert, Cond.selects RX0 yX0_insert yX0_insert, Cond.code yX0_insert cX0_insert 4 none, Cond.fieldLink RX0 15 "LatestSets$Board" "came" "[I", Cond.methodLink RX0 51 yX0_madeBy, Cond.instanceMethod yX0_madeBy, Cond.selects RX0 yX0_madeBy yX0_madeBy, Cond.code yX0_madeBy cX0_madeBy 6 (some .int), Cond.fieldLink RX0 92 "LatestSets$Board" "height" "I", Cond.fieldLink RX0 95 "LatestSets$Law" "length" "I", Cond.fieldLink RX0 100 "LatestSets$Law" "signs" "[I", Cond.methodLink RX0 103 yX0_pop, Cond.instanceMethod yX0_pop, Cond.selects RX0 yX0_pop yX0_pop, Cond.code yX0_pop cX0_pop 1 (some .int), Cond.fieldLink RX0 18 "LatestSets$Board" "stack" "[I", Cond.methodLink RX0 107 yX0_push, Cond.instanceMethod yX0_push, Cond.selects RX0 yX0_push yX0_push, Cond.code yX0_push cX0_push 2 none, Cond.methodLink RX0 111 yX0_placeOf, Cond.instanceMethod yX0_placeOf, Cond.selects RX0 yX0_placeOf yX0_placeOf]
def wsX2_nextIf_r3 : List Cond := [Cond.code yX0_placeOf cX0_placeOf 3 (some .int)]
def wsX2_nextIf : List Cond := .code yX2_nextIf cX2_nextIf 4 (some .int) :: ((wsX2_nextIf_r1 ++ (wsX2_nextIf_r2 ++ wsX2_nextIf_r3)) ++ wsX20 ++ wsX00 ++ wsX30 ++ wsX40)
def wsX2_costOf : List Cond := .code yX2_costOf cX2_costOf 4 (some .int) :: ([.fieldLink RX2 23 "LatestSets$Choices" "board" "LLatestSets$Board;", .fieldLink RX2 55 "LatestSets$Board" "guild" "LLatestSets$Guild;", .fieldLink RX2 69 "LatestSets$Guild" "best" "[I", .methodLink RX2 72 Lib.Math.abs.name, .static Lib.Math.abs.name, .initialized "java/lang/Math", .code Lib.Math.abs.name Lib.Math.abs.code 1 (some .int), .fieldLink RX2 78 "LatestSets$Guild" "fineEach" "I"] ++ wsX20 ++ wsX00 ++ wsX30)
def wsX2_weighHour_r1 : List Cond := [Cond.constant RX2 48 (2147483647), Cond.fieldLink RX2 11 "LatestSets$Choices" "cost" "[[I", Cond.fieldLink RX2 16 "LatestSets$Choices" "pick" "[[I", Cond.methodLink RX2 42 yX2_nextIf, Cond.instanceMethod yX2_nextIf, Cond.selects RX2 yX2_nextIf yX2_nextIf, Cond.initialized RX2, Cond.code yX2_nextIf cX2_nextIf 4 (some .int), Cond.fieldLink RX2 23 "LatestSets$Choices" "board" "LLatestSets$Board;", Cond.fieldLink RX2 52 "LatestSets$Board" "trial" "[I", Cond.fieldLink RX2 55 "LatestSets$Board" "guild" "LLatestSets$Guild;", Cond.fieldLink RX2 59 "LatestSets$Guild" "law" "LLatestSets$Law;", Cond.methodLink RX2 65 yX0_nextHour, Cond.instanceMethod yX0_nextHour, Cond.selects RX0 yX0_nextHour yX0_nextHour, Cond.initialized RX0, Cond.code yX0_nextHour cX0_nextHour 6 (some .int), Cond.fieldLink RX0 21 "LatestSets$Board" "guild" "LLatestSets$Guild;", Cond.fieldLink RX0 36 "LatestSets$Guild" "count" "I", Cond.fieldLink RX0 40 "LatestSets$Guild" "early" "[I", Cond.methodLink RX0 55 Lib.Math.min.name, Cond.static Lib.Math.min.name, Cond.initialized "java/lang/Math", Cond.code Lib.Math.min.name Lib.Math.min.code 2 (some .int)]
def wsX2_weighHour_r2 : List Cond := [Cond.methodLink RX0 61 Lib.Math.max.name, Cond.static Lib.Math.max.name, Cond.code Lib.Math.max.name Lib.Math.max.code 2 (some .int), Cond.static yX7_comingAt, Cond.initialized RX7, Cond.code yX7_comingAt cX7_comingAt 3 (some .int), Cond.methodLink RX7 213 Lib.Math.max.name, Cond.methodLink RX7 218 Lib.Math.min.name, Cond.methodLink RX0 47 yX0_insert, Cond.instanceMethod yX0_insert, Cond.selects RX0 yX0_insert yX0_insert, Cond.code yX0_insert cX0_insert 4 none, Cond.fieldLink RX0 15 "LatestSets$Board" "came" "[I", Cond.methodLink RX0 51 yX0_madeBy, Cond.instanceMethod yX0_madeBy, Cond.selects RX0 yX0_madeBy yX0_madeBy, Cond.code yX0_madeBy cX0_madeBy 6 (some .int), Cond.fieldLink RX0 92 "LatestSets$Board" "height" "I", Cond.fieldLink RX0 95 "LatestSets$Law" "length" "I", Cond.fieldLink RX0 100 "LatestSets$Law" "signs" "[I", Cond.methodLink RX0 103 yX0_pop, Cond.instanceMethod yX0_pop, Cond.selects RX0 yX0_pop yX0_pop, Cond.code yX0_pop cX0_pop 1 (some .int)]
def wsX2_weighHour_r3 : List Cond := [Cond.fieldLink RX0 18 "LatestSets$Board" "stack" "[I", Cond.methodLink RX0 107 yX0_push, Cond.instanceMethod yX0_push, Cond.selects RX0 yX0_push yX0_push, Cond.code yX0_push cX0_push 2 none, Cond.methodLink RX0 111 yX0_placeOf, Cond.instanceMethod yX0_placeOf, Cond.selects RX0 yX0_placeOf yX0_placeOf, Cond.code yX0_placeOf cX0_placeOf 3 (some .int), Cond.methodLink RX2 49 yX2_costOf, Cond.instanceMethod yX2_costOf, Cond.selects RX2 yX2_costOf yX2_costOf, Cond.code yX2_costOf cX2_costOf 4 (some .int), Cond.fieldLink RX2 69 "LatestSets$Guild" "best" "[I", Cond.methodLink RX2 72 Lib.Math.abs.name, Cond.static Lib.Math.abs.name, Cond.code Lib.Math.abs.name Lib.Math.abs.code 1 (some .int), Cond.fieldLink RX2 78 "LatestSets$Guild" "fineEach" "I"]
def wsX2_weighHour : List Cond := .code yX2_weighHour cX2_weighHour 8 none :: ((wsX2_weighHour_r1 ++ (wsX2_weighHour_r2 ++ wsX2_weighHour_r3)) ++ wsX20 ++ wsX00 ++ wsX30 ++ wsX40)
def wsX2_weigh_r1 : List Cond := [Cond.fieldLink RX2 23 "LatestSets$Choices" "board" "LLatestSets$Board;", Cond.fieldLink RX2 11 "LatestSets$Choices" "cost" "[[I", Cond.methodLink RX2 27 yX0_tryAsTold, Cond.instanceMethod yX0_tryAsTold, Cond.selects RX0 yX0_tryAsTold yX0_tryAsTold, Cond.initialized RX0, Cond.code yX0_tryAsTold cX0_tryAsTold 1 none, Cond.fieldLink RX0 21 "LatestSets$Board" "guild" "LLatestSets$Guild;", Cond.fieldLink RX0 25 "LatestSets$Guild" "late" "[I", Cond.fieldLink RX0 9 "LatestSets$Board" "trial" "[I", Cond.methodLink RX0 30 arraycopyName, Cond.native arraycopyName, Cond.static arraycopyName, Cond.initialized "java/lang/System", Cond.methodLink RX2 32 yJ7_fill_53178, Cond.static yJ7_fill_53178, Cond.initialized RJ7, Cond.code yJ7_fill_53178 cJ7_fill_53178 4 none, Cond.methodLink RX2 38 yX2_weighHour, Cond.instanceMethod yX2_weighHour, Cond.selects RX2 yX2_weighHour yX2_weighHour, Cond.initialized RX2, Cond.code yX2_weighHour cX2_weighHour 8 none, Cond.constant RX2 48 (2147483647)]
def wsX2_weigh_r2 : List Cond := [Cond.fieldLink RX2 16 "LatestSets$Choices" "pick" "[[I", Cond.methodLink RX2 42 yX2_nextIf, Cond.instanceMethod yX2_nextIf, Cond.selects RX2 yX2_nextIf yX2_nextIf, Cond.code yX2_nextIf cX2_nextIf 4 (some .int), Cond.fieldLink RX2 52 "LatestSets$Board" "trial" "[I", Cond.fieldLink RX2 55 "LatestSets$Board" "guild" "LLatestSets$Guild;", Cond.fieldLink RX2 59 "LatestSets$Guild" "law" "LLatestSets$Law;", Cond.methodLink RX2 65 yX0_nextHour, Cond.instanceMethod yX0_nextHour, Cond.selects RX0 yX0_nextHour yX0_nextHour, Cond.code yX0_nextHour cX0_nextHour 6 (some .int), Cond.fieldLink RX0 36 "LatestSets$Guild" "count" "I", Cond.fieldLink RX0 40 "LatestSets$Guild" "early" "[I", Cond.methodLink RX0 55 Lib.Math.min.name, Cond.static Lib.Math.min.name, Cond.initialized "java/lang/Math", Cond.code Lib.Math.min.name Lib.Math.min.code 2 (some .int), Cond.methodLink RX0 61 Lib.Math.max.name, Cond.static Lib.Math.max.name, Cond.code Lib.Math.max.name Lib.Math.max.code 2 (some .int), Cond.static yX7_comingAt, Cond.initialized RX7, Cond.code yX7_comingAt cX7_comingAt 3 (some .int)]
def wsX2_weigh_r3 : List Cond := [Cond.methodLink RX7 213 Lib.Math.max.name, Cond.methodLink RX7 218 Lib.Math.min.name, Cond.methodLink RX0 47 yX0_insert, Cond.instanceMethod yX0_insert, Cond.selects RX0 yX0_insert yX0_insert, Cond.code yX0_insert cX0_insert 4 none, Cond.fieldLink RX0 15 "LatestSets$Board" "came" "[I", Cond.methodLink RX0 51 yX0_madeBy, Cond.instanceMethod yX0_madeBy, Cond.selects RX0 yX0_madeBy yX0_madeBy, Cond.code yX0_madeBy cX0_madeBy 6 (some .int), Cond.fieldLink RX0 92 "LatestSets$Board" "height" "I", Cond.fieldLink RX0 95 "LatestSets$Law" "length" "I", Cond.fieldLink RX0 100 "LatestSets$Law" "signs" "[I", Cond.methodLink RX0 103 yX0_pop, Cond.instanceMethod yX0_pop, Cond.selects RX0 yX0_pop yX0_pop, Cond.code yX0_pop cX0_pop 1 (some .int), Cond.fieldLink RX0 18 "LatestSets$Board" "stack" "[I", Cond.methodLink RX0 107 yX0_push, Cond.instanceMethod yX0_push, Cond.selects RX0 yX0_push yX0_push, Cond.code yX0_push cX0_push 2 none, Cond.methodLink RX0 111 yX0_placeOf]
def wsX2_weigh_r4 : List Cond := [Cond.instanceMethod yX0_placeOf, Cond.selects RX0 yX0_placeOf yX0_placeOf, Cond.code yX0_placeOf cX0_placeOf 3 (some .int), Cond.methodLink RX2 49 yX2_costOf, Cond.instanceMethod yX2_costOf, Cond.selects RX2 yX2_costOf yX2_costOf, Cond.code yX2_costOf cX2_costOf 4 (some .int), Cond.fieldLink RX2 69 "LatestSets$Guild" "best" "[I", Cond.methodLink RX2 72 Lib.Math.abs.name, Cond.static Lib.Math.abs.name, Cond.code Lib.Math.abs.name Lib.Math.abs.code 1 (some .int), Cond.fieldLink RX2 78 "LatestSets$Guild" "fineEach" "I"]
def wsX2_weigh : List Cond := .code yX2_weigh cX2_weigh 5 none :: ((wsX2_weigh_r1 ++ (wsX2_weigh_r2 ++ (wsX2_weigh_r3 ++ wsX2_weigh_r4))) ++ wsX20 ++ wsX00 ++ wsX30 ++ wsX40)
def wsX2_leastCost : List Cond := .code yX2_leastCost cX2_leastCost 2 (some .int) :: ([.fieldLink RX2 11 "LatestSets$Choices" "cost" "[[I"] ++ wsX20)
def wsX2_lateInWeek_r1 : List Cond := [Cond.fieldLink RX2 16 "LatestSets$Choices" "pick" "[[I", Cond.methodLink RX2 42 yX2_nextIf, Cond.instanceMethod yX2_nextIf, Cond.selects RX2 yX2_nextIf yX2_nextIf, Cond.initialized RX2, Cond.code yX2_nextIf cX2_nextIf 4 (some .int), Cond.fieldLink RX2 23 "LatestSets$Choices" "board" "LLatestSets$Board;", Cond.fieldLink RX2 52 "LatestSets$Board" "trial" "[I", Cond.fieldLink RX2 55 "LatestSets$Board" "guild" "LLatestSets$Guild;", Cond.fieldLink RX2 59 "LatestSets$Guild" "law" "LLatestSets$Law;", Cond.methodLink RX2 65 yX0_nextHour, Cond.instanceMethod yX0_nextHour, Cond.selects RX0 yX0_nextHour yX0_nextHour, Cond.initialized RX0, Cond.code yX0_nextHour cX0_nextHour 6 (some .int), Cond.fieldLink RX0 21 "LatestSets$Board" "guild" "LLatestSets$Guild;", Cond.fieldLink RX0 36 "LatestSets$Guild" "count" "I", Cond.fieldLink RX0 40 "LatestSets$Guild" "early" "[I", Cond.methodLink RX0 55 Lib.Math.min.name, Cond.static Lib.Math.min.name, Cond.initialized "java/lang/Math", Cond.code Lib.Math.min.name Lib.Math.min.code 2 (some .int), Cond.methodLink RX0 61 Lib.Math.max.name, Cond.static Lib.Math.max.name]
def wsX2_lateInWeek_r2 : List Cond := [Cond.code Lib.Math.max.name Lib.Math.max.code 2 (some .int), Cond.static yX7_comingAt, Cond.initialized RX7, Cond.code yX7_comingAt cX7_comingAt 3 (some .int), Cond.methodLink RX7 213 Lib.Math.max.name, Cond.methodLink RX7 218 Lib.Math.min.name, Cond.methodLink RX0 47 yX0_insert, Cond.instanceMethod yX0_insert, Cond.selects RX0 yX0_insert yX0_insert, Cond.code yX0_insert cX0_insert 4 none, Cond.fieldLink RX0 15 "LatestSets$Board" "came" "[I", Cond.methodLink RX0 51 yX0_madeBy, Cond.instanceMethod yX0_madeBy, Cond.selects RX0 yX0_madeBy yX0_madeBy, Cond.code yX0_madeBy cX0_madeBy 6 (some .int), Cond.fieldLink RX0 92 "LatestSets$Board" "height" "I", Cond.fieldLink RX0 95 "LatestSets$Law" "length" "I", Cond.fieldLink RX0 100 "LatestSets$Law" "signs" "[I", Cond.methodLink RX0 103 yX0_pop, Cond.instanceMethod yX0_pop, Cond.selects RX0 yX0_pop yX0_pop, Cond.code yX0_pop cX0_pop 1 (some .int), Cond.fieldLink RX0 18 "LatestSets$Board" "stack" "[I", Cond.methodLink RX0 107 yX0_push]
def wsX2_lateInWeek_r3 : List Cond := [Cond.instanceMethod yX0_push, Cond.selects RX0 yX0_push yX0_push, Cond.code yX0_push cX0_push 2 none, Cond.methodLink RX0 111 yX0_placeOf, Cond.instanceMethod yX0_placeOf, Cond.selects RX0 yX0_placeOf yX0_placeOf, Cond.code yX0_placeOf cX0_placeOf 3 (some .int)]
def wsX2_lateInWeek : List Cond := .code yX2_lateInWeek cX2_lateInWeek 6 (some .int) :: ((wsX2_lateInWeek_r1 ++ (wsX2_lateInWeek_r2 ++ wsX2_lateInWeek_r3)) ++ wsX20 ++ wsX00 ++ wsX30 ++ wsX40)
def wsX2_restWays : List Cond := .code yX2_restWays cX2_restWays 1 (some .int) :: ([.fieldLink RX2 23 "LatestSets$Choices" "board" "LLatestSets$Board;", .fieldLink RX2 55 "LatestSets$Board" "guild" "LLatestSets$Guild;", .fieldLink RX2 86 "LatestSets$Guild" "count" "I", .methodLink RX2 100 Lib.Math.min.name, .static Lib.Math.min.name, .initialized "java/lang/Math", .code Lib.Math.min.name Lib.Math.min.code 2 (some .int)] ++ wsX20 ++ wsX00 ++ wsX30)
def wsX2_shiftOf : List Cond := .code yX2_shiftOf cX2_shiftOf 2 (some .int) :: ([.fieldLink RX2 23 "LatestSets$Choices" "board" "LLatestSets$Board;", .fieldLink RX2 55 "LatestSets$Board" "guild" "LLatestSets$Guild;", .fieldLink RX2 86 "LatestSets$Guild" "count" "I"] ++ wsX20 ++ wsX00 ++ wsX30)
def wsX2_lateIn : List Cond := .code yX2_lateIn cX2_lateIn 3 (some .int) :: ([.methodLink RX2 103 yX2_shiftOf, .instanceMethod yX2_shiftOf, .selects RX2 yX2_shiftOf yX2_shiftOf, .initialized RX2, .code yX2_shiftOf cX2_shiftOf 2 (some .int), .fieldLink RX2 23 "LatestSets$Choices" "board" "LLatestSets$Board;", .fieldLink RX2 55 "LatestSets$Board" "guild" "LLatestSets$Guild;", .fieldLink RX2 86 "LatestSets$Guild" "count" "I"] ++ wsX20 ++ wsX00 ++ wsX30)
def wsX2_tabulate_r1 : List Cond := [Cond.fieldLink RX2 23 "LatestSets$Choices" "board" "LLatestSets$Board;", Cond.fieldLink RX2 55 "LatestSets$Board" "guild" "LLatestSets$Guild;", Cond.fieldLink RX2 86 "LatestSets$Guild" "count" "I", Cond.fieldLink RX2 52 "LatestSets$Board" "trial" "[I", Cond.fieldLink RX2 19 "LatestSets$Choices" "nextBy" "[I", Cond.fieldLink RX2 59 "LatestSets$Guild" "law" "LLatestSets$Law;", Cond.methodLink RX2 82 yX2_restWays, Cond.instanceMethod yX2_restWays, Cond.selects RX2 yX2_restWays yX2_restWays, Cond.initialized RX2, Cond.code yX2_restWays cX2_restWays 1 (some .int), Cond.methodLink RX2 100 Lib.Math.min.name, Cond.static Lib.Math.min.name, Cond.initialized "java/lang/Math", Cond.code Lib.Math.min.name Lib.Math.min.code 2 (some .int), Cond.methodLink RX2 89 yX2_lateIn, Cond.instanceMethod yX2_lateIn, Cond.selects RX2 yX2_lateIn yX2_lateIn, Cond.code yX2_lateIn cX2_lateIn 3 (some .int), Cond.methodLink RX2 103 yX2_shiftOf, Cond.instanceMethod yX2_shiftOf, Cond.selects RX2 yX2_shiftOf yX2_shiftOf, Cond.code yX2_shiftOf cX2_shiftOf 2 (some .int), Cond.methodLink RX2 65 yX0_nextHour]
def wsX2_tabulate_r2 : List Cond := [Cond.instanceMethod yX0_nextHour, Cond.selects RX0 yX0_nextHour yX0_nextHour, Cond.initialized RX0, Cond.code yX0_nextHour cX0_nextHour 6 (some .int), Cond.fieldLink RX0 21 "LatestSets$Board" "guild" "LLatestSets$Guild;", Cond.fieldLink RX0 36 "LatestSets$Guild" "count" "I", Cond.fieldLink RX0 40 "LatestSets$Guild" "early" "[I", Cond.methodLink RX0 55 Lib.Math.min.name, Cond.methodLink RX0 61 Lib.Math.max.name, Cond.static Lib.Math.max.name, Cond.code Lib.Math.max.name Lib.Math.max.code 2 (some .int), Cond.static yX7_comingAt, Cond.initialized RX7, Cond.code yX7_comingAt cX7_comingAt 3 (some .int), Cond.methodLink RX7 213 Lib.Math.max.name, Cond.methodLink RX7 218 Lib.Math.min.name, Cond.methodLink RX0 47 yX0_insert, Cond.instanceMethod yX0_insert, Cond.selects RX0 yX0_insert yX0_insert, Cond.code yX0_insert cX0_insert 4 none, Cond.fieldLink RX0 15 "LatestSets$Board" "came" "[I", Cond.methodLink RX0 51 yX0_madeBy, Cond.instanceMethod yX0_madeBy, Cond.selects RX0 yX0_madeBy yX0_madeBy]
def wsX2_tabulate_r3 : List Cond := [Cond.code yX0_madeBy cX0_madeBy 6 (some .int), Cond.fieldLink RX0 92 "LatestSets$Board" "height" "I", Cond.fieldLink RX0 95 "LatestSets$Law" "length" "I", Cond.fieldLink RX0 100 "LatestSets$Law" "signs" "[I", Cond.methodLink RX0 103 yX0_pop, Cond.instanceMethod yX0_pop, Cond.selects RX0 yX0_pop yX0_pop, Cond.code yX0_pop cX0_pop 1 (some .int), Cond.fieldLink RX0 18 "LatestSets$Board" "stack" "[I", Cond.methodLink RX0 107 yX0_push, Cond.instanceMethod yX0_push, Cond.selects RX0 yX0_push yX0_push, Cond.code yX0_push cX0_push 2 none, Cond.methodLink RX0 111 yX0_placeOf, Cond.instanceMethod yX0_placeOf, Cond.selects RX0 yX0_placeOf yX0_placeOf, Cond.code yX0_placeOf cX0_placeOf 3 (some .int)]
def wsX2_tabulate : List Cond := .code yX2_tabulate cX2_tabulate 5 none :: ((wsX2_tabulate_r1 ++ (wsX2_tabulate_r2 ++ wsX2_tabulate_r3)) ++ wsX20 ++ wsX00 ++ wsX30 ++ wsX40)
def wsX2_isRest : List Cond := .code yX2_isRest cX2_isRest 8 (some .boolean) :: ([.fieldLink RX2 23 "LatestSets$Choices" "board" "LLatestSets$Board;", .fieldLink RX2 55 "LatestSets$Board" "guild" "LLatestSets$Guild;", .fieldLink RX2 86 "LatestSets$Guild" "count" "I", .fieldLink RX2 19 "LatestSets$Choices" "nextBy" "[I", .methodLink RX2 89 yX2_lateIn, .instanceMethod yX2_lateIn, .selects RX2 yX2_lateIn yX2_lateIn, .initialized RX2, .code yX2_lateIn cX2_lateIn 3 (some .int), .methodLink RX2 103 yX2_shiftOf, .instanceMethod yX2_shiftOf, .selects RX2 yX2_shiftOf yX2_shiftOf, .code yX2_shiftOf cX2_shiftOf 2 (some .int), .methodLink RX2 49 yX2_costOf, .instanceMethod yX2_costOf, .selects RX2 yX2_costOf yX2_costOf, .code yX2_costOf cX2_costOf 4 (some .int), .fieldLink RX2 69 "LatestSets$Guild" "best" "[I", .methodLink RX2 72 Lib.Math.abs.name, .static Lib.Math.abs.name, .initialized "java/lang/Math", .code Lib.Math.abs.name Lib.Math.abs.code 1 (some .int), .fieldLink RX2 78 "LatestSets$Guild" "fineEach" "I"] ++ wsX20 ++ wsX00 ++ wsX30)
def wsX2_restCount_r1 : List Cond := [Cond.methodLink RX2 82 yX2_restWays, Cond.instanceMethod yX2_restWays, Cond.selects RX2 yX2_restWays yX2_restWays, Cond.initialized RX2, Cond.code yX2_restWays cX2_restWays 1 (some .int), Cond.fieldLink RX2 23 "LatestSets$Choices" "board" "LLatestSets$Board;", Cond.fieldLink RX2 55 "LatestSets$Board" "guild" "LLatestSets$Guild;", Cond.fieldLink RX2 86 "LatestSets$Guild" "count" "I", Cond.methodLink RX2 100 Lib.Math.min.name, Cond.static Lib.Math.min.name, Cond.initialized "java/lang/Math", Cond.code Lib.Math.min.name Lib.Math.min.code 2 (some .int), Cond.methodLink RX2 93 yX2_isRest, Cond.instanceMethod yX2_isRest, Cond.selects RX2 yX2_isRest yX2_isRest, Cond.code yX2_isRest cX2_isRest 8 (some .boolean), Cond.fieldLink RX2 19 "LatestSets$Choices" "nextBy" "[I", Cond.methodLink RX2 89 yX2_lateIn, Cond.instanceMethod yX2_lateIn, Cond.selects RX2 yX2_lateIn yX2_lateIn, Cond.code yX2_lateIn cX2_lateIn 3 (some .int), Cond.methodLink RX2 103 yX2_shiftOf, Cond.instanceMethod yX2_shiftOf, Cond.selects RX2 yX2_shiftOf yX2_shiftOf]
def wsX2_restCount_r2 : List Cond := [Cond.code yX2_shiftOf cX2_shiftOf 2 (some .int), Cond.methodLink RX2 49 yX2_costOf, Cond.instanceMethod yX2_costOf, Cond.selects RX2 yX2_costOf yX2_costOf, Cond.code yX2_costOf cX2_costOf 4 (some .int), Cond.fieldLink RX2 69 "LatestSets$Guild" "best" "[I", Cond.methodLink RX2 72 Lib.Math.abs.name, Cond.static Lib.Math.abs.name, Cond.code Lib.Math.abs.name Lib.Math.abs.code 1 (some .int), Cond.fieldLink RX2 78 "LatestSets$Guild" "fineEach" "I"]
def wsX2_restCount : List Cond := .code yX2_restCount cX2_restCount 4 (some .int) :: ((wsX2_restCount_r1 ++ wsX2_restCount_r2) ++ wsX20 ++ wsX00 ++ wsX30)
def wsX2_digitsOf : List Cond := .code yX2_digitsOf cX2_digitsOf 4 (some .int) :: ([.fieldLink RX2 23 "LatestSets$Choices" "board" "LLatestSets$Board;", .fieldLink RX2 55 "LatestSets$Board" "guild" "LLatestSets$Guild;", .fieldLink RX2 86 "LatestSets$Guild" "count" "I", .methodLink RX2 89 yX2_lateIn, .instanceMethod yX2_lateIn, .selects RX2 yX2_lateIn yX2_lateIn, .initialized RX2, .code yX2_lateIn cX2_lateIn 3 (some .int), .methodLink RX2 103 yX2_shiftOf, .instanceMethod yX2_shiftOf, .selects RX2 yX2_shiftOf yX2_shiftOf, .code yX2_shiftOf cX2_shiftOf 2 (some .int)] ++ wsX20 ++ wsX00 ++ wsX30)
def wsX2_restAt_r1 : List Cond := [Cond.methodLink RX2 82 yX2_restWays, Cond.instanceMethod yX2_restWays, Cond.selects RX2 yX2_restWays yX2_restWays, Cond.initialized RX2, Cond.code yX2_restWays cX2_restWays 1 (some .int), Cond.fieldLink RX2 23 "LatestSets$Choices" "board" "LLatestSets$Board;", Cond.fieldLink RX2 55 "LatestSets$Board" "guild" "LLatestSets$Guild;", Cond.fieldLink RX2 86 "LatestSets$Guild" "count" "I", Cond.methodLink RX2 100 Lib.Math.min.name, Cond.static Lib.Math.min.name, Cond.initialized "java/lang/Math", Cond.code Lib.Math.min.name Lib.Math.min.code 2 (some .int), Cond.methodLink RX2 93 yX2_isRest, Cond.instanceMethod yX2_isRest, Cond.selects RX2 yX2_isRest yX2_isRest, Cond.code yX2_isRest cX2_isRest 8 (some .boolean), Cond.fieldLink RX2 19 "LatestSets$Choices" "nextBy" "[I", Cond.methodLink RX2 89 yX2_lateIn, Cond.instanceMethod yX2_lateIn, Cond.selects RX2 yX2_lateIn yX2_lateIn, Cond.code yX2_lateIn cX2_lateIn 3 (some .int), Cond.methodLink RX2 103 yX2_shiftOf, Cond.instanceMethod yX2_shiftOf, Cond.selects RX2 yX2_shiftOf yX2_shiftOf]
def wsX2_restAt_r2 : List Cond := [Cond.code yX2_shiftOf cX2_shiftOf 2 (some .int), Cond.methodLink RX2 49 yX2_costOf, Cond.instanceMethod yX2_costOf, Cond.selects RX2 yX2_costOf yX2_costOf, Cond.code yX2_costOf cX2_costOf 4 (some .int), Cond.fieldLink RX2 69 "LatestSets$Guild" "best" "[I", Cond.methodLink RX2 72 Lib.Math.abs.name, Cond.static Lib.Math.abs.name, Cond.code Lib.Math.abs.name Lib.Math.abs.code 1 (some .int), Cond.fieldLink RX2 78 "LatestSets$Guild" "fineEach" "I", Cond.methodLink RX2 97 yX2_digitsOf, Cond.instanceMethod yX2_digitsOf, Cond.selects RX2 yX2_digitsOf yX2_digitsOf, Cond.code yX2_digitsOf cX2_digitsOf 4 (some .int)]
def wsX2_restAt : List Cond := .code yX2_restAt cX2_restAt 5 (some .int) :: ((wsX2_restAt_r1 ++ wsX2_restAt_r2) ++ wsX20 ++ wsX00 ++ wsX30)
def wsJ6_bitCount_0f7a4 : List Cond := .code yJ6_bitCount_0f7a4 cJ6_bitCount_0f7a4 1 (some .int) :: ([.constant RJ6 265 (1431655765), .constant RJ6 266 (858993459), .constant RJ6 267 (252645135)])
def wsX2_tryWay : List Cond := .code yX2_tryWay cX2_tryWay 6 none :: ([.fieldLink RX2 23 "LatestSets$Choices" "board" "LLatestSets$Board;", .fieldLink RX2 55 "LatestSets$Board" "guild" "LLatestSets$Guild;", .fieldLink RX2 86 "LatestSets$Guild" "count" "I", .fieldLink RX2 52 "LatestSets$Board" "trial" "[I", .fieldLink RX2 121 "LatestSets$Guild" "late" "[I"] ++ wsX20 ++ wsX00 ++ wsX30)
def wsX2_canMove_r1 : List Cond := [Cond.fieldLink RX2 23 "LatestSets$Choices" "board" "LLatestSets$Board;", Cond.fieldLink RX2 52 "LatestSets$Board" "trial" "[I", Cond.methodLink RX2 27 yX0_tryAsTold, Cond.instanceMethod yX0_tryAsTold, Cond.selects RX0 yX0_tryAsTold yX0_tryAsTold, Cond.initialized RX0, Cond.code yX0_tryAsTold cX0_tryAsTold 1 none, Cond.fieldLink RX0 21 "LatestSets$Board" "guild" "LLatestSets$Guild;", Cond.fieldLink RX0 25 "LatestSets$Guild" "late" "[I", Cond.fieldLink RX0 9 "LatestSets$Board" "trial" "[I", Cond.methodLink RX0 30 arraycopyName, Cond.native arraycopyName, Cond.static arraycopyName, Cond.initialized "java/lang/System", Cond.methodLink RX2 106 yJ6_bitCount_0f7a4, Cond.static yJ6_bitCount_0f7a4, Cond.initialized RJ6, Cond.code yJ6_bitCount_0f7a4 cJ6_bitCount_0f7a4 1 (some .int), Cond.constant RJ6 265 (1431655765), Cond.constant RJ6 266 (858993459), Cond.constant RJ6 267 (252645135), Cond.methodLink RX2 113 yX2_tryWay, Cond.instanceMethod yX2_tryWay, Cond.selects RX2 yX2_tryWay yX2_tryWay]
def wsX2_canMove_r2 : List Cond := [Cond.initialized RX2, Cond.code yX2_tryWay cX2_tryWay 6 none, Cond.fieldLink RX2 55 "LatestSets$Board" "guild" "LLatestSets$Guild;", Cond.fieldLink RX2 86 "LatestSets$Guild" "count" "I", Cond.fieldLink RX2 121 "LatestSets$Guild" "late" "[I", Cond.methodLink RX2 117 yX0_hourAfter, Cond.instanceMethod yX0_hourAfter, Cond.selects RX0 yX0_hourAfter yX0_hourAfter, Cond.code yX0_hourAfter cX0_hourAfter 7 (some .int), Cond.fieldLink RX0 64 "LatestSets$Guild" "law" "LLatestSets$Law;", Cond.methodLink RX0 68 yX0_nextHour, Cond.instanceMethod yX0_nextHour, Cond.selects RX0 yX0_nextHour yX0_nextHour, Cond.code yX0_nextHour cX0_nextHour 6 (some .int), Cond.fieldLink RX0 36 "LatestSets$Guild" "count" "I", Cond.fieldLink RX0 40 "LatestSets$Guild" "early" "[I", Cond.methodLink RX0 55 Lib.Math.min.name, Cond.static Lib.Math.min.name, Cond.initialized "java/lang/Math", Cond.code Lib.Math.min.name Lib.Math.min.code 2 (some .int), Cond.methodLink RX0 61 Lib.Math.max.name, Cond.static Lib.Math.max.name, Cond.code Lib.Math.max.name Lib.Math.max.code 2 (some .int), Cond.static yX7_comingAt]
def wsX2_canMove_r3 : List Cond := [Cond.initialized RX7, Cond.code yX7_comingAt cX7_comingAt 3 (some .int), Cond.methodLink RX7 213 Lib.Math.max.name, Cond.methodLink RX7 218 Lib.Math.min.name, Cond.methodLink RX0 47 yX0_insert, Cond.instanceMethod yX0_insert, Cond.selects RX0 yX0_insert yX0_insert, Cond.code yX0_insert cX0_insert 4 none, Cond.fieldLink RX0 15 "LatestSets$Board" "came" "[I", Cond.methodLink RX0 51 yX0_madeBy, Cond.instanceMethod yX0_madeBy, Cond.selects RX0 yX0_madeBy yX0_madeBy, Cond.code yX0_madeBy cX0_madeBy 6 (some .int), Cond.fieldLink RX0 92 "LatestSets$Board" "height" "I", Cond.fieldLink RX0 95 "LatestSets$Law" "length" "I", Cond.fieldLink RX0 100 "LatestSets$Law" "signs" "[I", Cond.methodLink RX0 103 yX0_pop, Cond.instanceMethod yX0_pop, Cond.selects RX0 yX0_pop yX0_pop, Cond.code yX0_pop cX0_pop 1 (some .int), Cond.fieldLink RX0 18 "LatestSets$Board" "stack" "[I", Cond.methodLink RX0 107 yX0_push, Cond.instanceMethod yX0_push, Cond.selects RX0 yX0_push yX0_push]
def wsX2_canMove_r4 : List Cond := [Cond.code yX0_push cX0_push 2 none, Cond.methodLink RX0 111 yX0_placeOf, Cond.instanceMethod yX0_placeOf, Cond.selects RX0 yX0_placeOf yX0_placeOf, Cond.code yX0_placeOf cX0_placeOf 3 (some .int)]
def wsX2_canMove : List Cond := .code yX2_canMove cX2_canMove 8 (some .boolean) :: ((wsX2_canMove_r1 ++ (wsX2_canMove_r2 ++ (wsX2_canMove_r3 ++ wsX2_canMove_r4))) ++ wsX20 ++ wsX00 ++ wsX30 ++ wsX40)
def wsX2_leastMovers_r1 : List Cond := [Cond.fieldLink RX2 23 "LatestSets$Choices" "board" "LLatestSets$Board;", Cond.fieldLink RX2 55 "LatestSets$Board" "guild" "LLatestSets$Guild;", Cond.fieldLink RX2 86 "LatestSets$Guild" "count" "I", Cond.methodLink RX2 106 yJ6_bitCount_0f7a4, Cond.static yJ6_bitCount_0f7a4, Cond.initialized RJ6, Cond.code yJ6_bitCount_0f7a4 cJ6_bitCount_0f7a4 1 (some .int), Cond.constant RJ6 265 (1431655765), Cond.constant RJ6 266 (858993459), Cond.constant RJ6 267 (252645135), Cond.methodLink RX2 109 yX2_canMove, Cond.instanceMethod yX2_canMove, Cond.selects RX2 yX2_canMove yX2_canMove, Cond.initialized RX2, Cond.code yX2_canMove cX2_canMove 8 (some .boolean), Cond.fieldLink RX2 52 "LatestSets$Board" "trial" "[I", Cond.methodLink RX2 27 yX0_tryAsTold, Cond.instanceMethod yX0_tryAsTold, Cond.selects RX0 yX0_tryAsTold yX0_tryAsTold, Cond.initialized RX0, Cond.code yX0_tryAsTold cX0_tryAsTold 1 none, Cond.fieldLink RX0 21 "LatestSets$Board" "guild" "LLatestSets$Guild;", Cond.fieldLink RX0 25 "LatestSets$Guild" "late" "[I", Cond.fieldLink RX0 9 "LatestSets$Board" "trial" "[I"]
def wsX2_leastMovers_r2 : List Cond := [Cond.methodLink RX0 30 arraycopyName, Cond.native arraycopyName, Cond.static arraycopyName, Cond.initialized "java/lang/System", Cond.methodLink RX2 113 yX2_tryWay, Cond.instanceMethod yX2_tryWay, Cond.selects RX2 yX2_tryWay yX2_tryWay, Cond.code yX2_tryWay cX2_tryWay 6 none, Cond.fieldLink RX2 121 "LatestSets$Guild" "late" "[I", Cond.methodLink RX2 117 yX0_hourAfter, Cond.instanceMethod yX0_hourAfter, Cond.selects RX0 yX0_hourAfter yX0_hourAfter, Cond.code yX0_hourAfter cX0_hourAfter 7 (some .int), Cond.fieldLink RX0 64 "LatestSets$Guild" "law" "LLatestSets$Law;", Cond.methodLink RX0 68 yX0_nextHour, Cond.instanceMethod yX0_nextHour, Cond.selects RX0 yX0_nextHour yX0_nextHour, Cond.code yX0_nextHour cX0_nextHour 6 (some .int), Cond.fieldLink RX0 36 "LatestSets$Guild" "count" "I", Cond.fieldLink RX0 40 "LatestSets$Guild" "early" "[I", Cond.methodLink RX0 55 Lib.Math.min.name, Cond.static Lib.Math.min.name, Cond.initialized "java/lang/Math", Cond.code Lib.Math.min.name Lib.Math.min.code 2 (some .int)]
def wsX2_leastMovers_r3 : List Cond := [Cond.methodLink RX0 61 Lib.Math.max.name, Cond.static Lib.Math.max.name, Cond.code Lib.Math.max.name Lib.Math.max.code 2 (some .int), Cond.static yX7_comingAt, Cond.initialized RX7, Cond.code yX7_comingAt cX7_comingAt 3 (some .int), Cond.methodLink RX7 213 Lib.Math.max.name, Cond.methodLink RX7 218 Lib.Math.min.name, Cond.methodLink RX0 47 yX0_insert, Cond.instanceMethod yX0_insert, Cond.selects RX0 yX0_insert yX0_insert, Cond.code yX0_insert cX0_insert 4 none, Cond.fieldLink RX0 15 "LatestSets$Board" "came" "[I", Cond.methodLink RX0 51 yX0_madeBy, Cond.instanceMethod yX0_madeBy, Cond.selects RX0 yX0_madeBy yX0_madeBy, Cond.code yX0_madeBy cX0_madeBy 6 (some .int), Cond.fieldLink RX0 92 "LatestSets$Board" "height" "I", Cond.fieldLink RX0 95 "LatestSets$Law" "length" "I", Cond.fieldLink RX0 100 "LatestSets$Law" "signs" "[I", Cond.methodLink RX0 103 yX0_pop, Cond.instanceMethod yX0_pop, Cond.selects RX0 yX0_pop yX0_pop, Cond.code yX0_pop cX0_pop 1 (some .int)]
def wsX2_leastMovers_r4 : List Cond := [Cond.fieldLink RX0 18 "LatestSets$Board" "stack" "[I", Cond.methodLink RX0 107 yX0_push, Cond.instanceMethod yX0_push, Cond.selects RX0 yX0_push yX0_push, Cond.code yX0_push cX0_push 2 none, Cond.methodLink RX0 111 yX0_placeOf, Cond.instanceMethod yX0_placeOf, Cond.selects RX0 yX0_placeOf yX0_placeOf, Cond.code yX0_placeOf cX0_placeOf 3 (some .int)]
def wsX2_leastMovers : List Cond := .code yX2_leastMovers cX2_leastMovers 7 (some .int) :: ((wsX2_leastMovers_r1 ++ (wsX2_leastMovers_r2 ++ (wsX2_leastMovers_r3 ++ wsX2_leastMovers_r4))) ++ wsX20 ++ wsX00 ++ wsX30 ++ wsX40)
def wsX4_init : List Cond := .code yX4_init cX4_init 1 none :: ([.methodLink RX4 3 objectInit, .instanceMethod objectInit, .code objectInit ⟨#[0xb1]⟩ 1 none, .arrayClass .int, .fieldLink RX4 9 "LatestSets$Law" "signs" "[I", .fieldLink RX4 15 "LatestSets$Law" "length" "I"] ++ wsX40)
def wsX3_init_r1 : List Cond := [Cond.methodLink RX3 3 objectInit, Cond.instanceMethod objectInit, Cond.code objectInit ⟨#[0xb1]⟩ 1 none, Cond.arrayClass .int, Cond.fieldLink RX3 9 "LatestSets$Guild" "early" "[I", Cond.fieldLink RX3 15 "LatestSets$Guild" "late" "[I", Cond.fieldLink RX3 18 "LatestSets$Guild" "best" "[I", Cond.classLink RX3 21 RX4, Cond.instantiable RX4 2, Cond.initialized RX4, Cond.fieldLink RX3 24 "LatestSets$Guild" "law" "LLatestSets$Law;", Cond.fieldLink RX3 28 "LatestSets$Guild" "sightWeek" "[I", Cond.fieldLink RX3 31 "LatestSets$Guild" "sightHour" "[I", Cond.fieldLink RX3 34 "LatestSets$Guild" "fineEach" "I", Cond.fieldLink RX3 38 "LatestSets$Guild" "count" "I", Cond.methodLink RX3 23 yX4_init, Cond.instanceMethod yX4_init, Cond.code yX4_init cX4_init 1 none, Cond.methodLink RX4 3 objectInit, Cond.fieldLink RX4 9 "LatestSets$Law" "signs" "[I", Cond.fieldLink RX4 15 "LatestSets$Law" "length" "I", Cond.methodLink RX3 41 yJ7_fill_53178, Cond.static yJ7_fill_53178, Cond.initialized RJ7]
def wsX3_init_r2 : List Cond := [Cond.code yJ7_fill_53178 cJ7_fill_53178 4 none]
def wsX3_init : List Cond := .code yX3_init cX3_init 1 none :: ((wsX3_init_r1 ++ wsX3_init_r2) ++ wsX30 ++ wsX40)
def wsX3_assemble : List Cond := .code yX3_assemble cX3_assemble 2 none :: ([.fieldLink RX3 38 "LatestSets$Guild" "count" "I", .fieldLink RX3 47 "LatestSets$Guild" "sights" "I", .fieldLink RX3 9 "LatestSets$Guild" "early" "[I", .fieldLink RX3 15 "LatestSets$Guild" "late" "[I", .fieldLink RX3 18 "LatestSets$Guild" "best" "[I", .methodLink RX3 41 yJ7_fill_53178, .static yJ7_fill_53178, .initialized RJ7, .code yJ7_fill_53178 cJ7_fill_53178 4 none] ++ wsX30)
def wsX4_take : List Cond := .code yX4_take cX4_take 3 none :: ([.methodLink RX4 19 Lib.Math.min.name, .static Lib.Math.min.name, .initialized "java/lang/Math", .code Lib.Math.min.name Lib.Math.min.code 2 (some .int), .fieldLink RX4 15 "LatestSets$Law" "length" "I", .fieldLink RX4 9 "LatestSets$Law" "signs" "[I", .methodLink RX4 25 arraycopyName, .native arraycopyName, .static arraycopyName, .initialized "java/lang/System"] ++ wsX40)
def wsX3_become_r1 : List Cond := [Cond.fieldLink RX3 38 "LatestSets$Guild" "count" "I", Cond.fieldLink RX3 34 "LatestSets$Guild" "fineEach" "I", Cond.fieldLink RX3 47 "LatestSets$Guild" "sights" "I", Cond.fieldLink RX3 24 "LatestSets$Guild" "law" "LLatestSets$Law;", Cond.fieldLink RX3 50 "LatestSets$Law" "signs" "[I", Cond.fieldLink RX3 53 "LatestSets$Law" "length" "I", Cond.fieldLink RX3 9 "LatestSets$Guild" "early" "[I", Cond.methodLink RX3 59 arraycopyName, Cond.native arraycopyName, Cond.static arraycopyName, Cond.initialized "java/lang/System", Cond.fieldLink RX3 15 "LatestSets$Guild" "late" "[I", Cond.fieldLink RX3 18 "LatestSets$Guild" "best" "[I", Cond.fieldLink RX3 28 "LatestSets$Guild" "sightWeek" "[I", Cond.fieldLink RX3 31 "LatestSets$Guild" "sightHour" "[I", Cond.methodLink RX3 56 yX4_take, Cond.instanceMethod yX4_take, Cond.selects RX4 yX4_take yX4_take, Cond.initialized RX4, Cond.code yX4_take cX4_take 3 none, Cond.methodLink RX4 19 Lib.Math.min.name, Cond.static Lib.Math.min.name, Cond.initialized "java/lang/Math", Cond.code Lib.Math.min.name Lib.Math.min.code 2 (some .int)]
def wsX3_become_r2 : List Cond := [Cond.fieldLink RX4 15 "LatestSets$Law" "length" "I", Cond.fieldLink RX4 9 "LatestSets$Law" "signs" "[I", Cond.methodLink RX4 25 arraycopyName]
def wsX3_become : List Cond := .code yX3_become cX3_become 2 none :: ((wsX3_become_r1 ++ wsX3_become_r2) ++ wsX30 ++ wsX40)
def wsX3_has : List Cond := .code yX3_has cX3_has 2 (some .boolean) :: ([.fieldLink RX3 38 "LatestSets$Guild" "count" "I"] ++ wsX30)
def wsX3_rowOf : List Cond := .code yX3_rowOf cX3_rowOf 2 (some (.array .int)) :: ([.fieldLink RX3 9 "LatestSets$Guild" "early" "[I", .fieldLink RX3 15 "LatestSets$Guild" "late" "[I", .fieldLink RX3 18 "LatestSets$Guild" "best" "[I"] ++ wsX30)
def wsX3_toldOfMember : List Cond := .code yX3_toldOfMember cX3_toldOfMember 3 (some .int) :: ([.methodLink RX3 65 yX3_has, .instanceMethod yX3_has, .selects RX3 yX3_has yX3_has, .initialized RX3, .code yX3_has cX3_has 2 (some .boolean), .fieldLink RX3 38 "LatestSets$Guild" "count" "I", .methodLink RX3 69 yX3_rowOf, .instanceMethod yX3_rowOf, .selects RX3 yX3_rowOf yX3_rowOf, .code yX3_rowOf cX3_rowOf 2 (some (.array .int)), .fieldLink RX3 9 "LatestSets$Guild" "early" "[I", .fieldLink RX3 15 "LatestSets$Guild" "late" "[I", .fieldLink RX3 18 "LatestSets$Guild" "best" "[I"] ++ wsX30)
def wsX3_addSight : List Cond := .code yX3_addSight cX3_addSight 3 (some .int) :: ([.fieldLink RX3 47 "LatestSets$Guild" "sights" "I", .fieldLink RX3 28 "LatestSets$Guild" "sightWeek" "[I", .fieldLink RX3 31 "LatestSets$Guild" "sightHour" "[I"] ++ wsX30)
def wsX3_farFromBest : List Cond := .code yX3_farFromBest cX3_farFromBest 4 (some .int) :: ([.fieldLink RX3 38 "LatestSets$Guild" "count" "I", .fieldLink RX3 18 "LatestSets$Guild" "best" "[I", .methodLink RX3 73 Lib.Math.abs.name, .static Lib.Math.abs.name, .initialized "java/lang/Math", .code Lib.Math.abs.name Lib.Math.abs.code 1 (some .int)] ++ wsX30)
def wsX4_signOf : List Cond := .code yX4_signOf cX4_signOf 1 (some .int) :: ([])
def wsX4_takeNumber : List Cond := .code yX4_takeNumber cX4_takeNumber 2 none :: ([.fieldLink RX4 9 "LatestSets$Law" "signs" "[I", .fieldLink RX4 15 "LatestSets$Law" "length" "I", .methodLink RX4 31 yX4_signOf, .static yX4_signOf, .initialized RX4, .code yX4_signOf cX4_signOf 1 (some .int)] ++ wsX40)
def wsX5_init : List Cond := .code yX5_init cX5_init 1 none :: ([.methodLink RX5 3 objectInit, .instanceMethod objectInit, .code objectInit ⟨#[0xb1]⟩ 1 none, .arrayClass .int, .fieldLink RX5 9 "LatestSets$Pad" "signs" "[I"] ++ wsX50)
def wsX5_write : List Cond := .code yX5_write cX5_write 2 (some .int) :: ([.fieldLink RX5 15 "LatestSets$Pad" "count" "I", .fieldLink RX5 9 "LatestSets$Pad" "signs" "[I"] ++ wsX50)
def wsX5_partsOf : List Cond := .code yX5_partsOf cX5_partsOf 1 (some .int) :: ([])
def wsX5_firstFault : List Cond := .code yX5_firstFault cX5_firstFault 5 (some .int) :: ([.fieldLink RX5 15 "LatestSets$Pad" "count" "I", .fieldLink RX5 9 "LatestSets$Pad" "signs" "[I", .methodLink RX5 19 yX5_partsOf, .static yX5_partsOf, .initialized RX5, .code yX5_partsOf cX5_partsOf 1 (some .int)] ++ wsX50)
def wsX6_init : List Cond := .code yX6_init cX6_init 2 none :: ([.methodLink RX6 3 objectInit, .instanceMethod objectInit, .code objectInit ⟨#[0xb1]⟩ 1 none, .classLink RX6 9 RX4, .instantiable RX4 2, .initialized RX4, .fieldLink RX6 12 "LatestSets$Ring" "toldLaw" "LLatestSets$Law;", .arrayClass .int, .fieldLink RX6 18 "LatestSets$Ring" "firstWeek" "[I", .fieldLink RX6 22 "LatestSets$Ring" "board" "LLatestSets$Board;", .methodLink RX6 11 yX4_init, .instanceMethod yX4_init, .code yX4_init cX4_init 1 none, .methodLink RX4 3 objectInit, .fieldLink RX4 9 "LatestSets$Law" "signs" "[I", .fieldLink RX4 15 "LatestSets$Law" "length" "I"] ++ wsX40 ++ wsX60)
def wsX6_follow_r1 : List Cond := [Cond.fieldLink RX6 18 "LatestSets$Ring" "firstWeek" "[I", Cond.fieldLink RX6 22 "LatestSets$Ring" "board" "LLatestSets$Board;", Cond.fieldLink RX6 32 "LatestSets$Board" "guild" "LLatestSets$Guild;", Cond.fieldLink RX6 38 "LatestSets$Guild" "late" "[I", Cond.fieldLink RX6 47 "LatestSets$Ring" "ahead" "I", Cond.fieldLink RX6 51 "LatestSets$Ring" "length" "I", Cond.fieldLink RX6 54 "LatestSets$Ring" "least" "I", Cond.methodLink RX6 26 yJ7_fill_53178, Cond.static yJ7_fill_53178, Cond.initialized RJ7, Cond.code yJ7_fill_53178 cJ7_fill_53178 4 none, Cond.methodLink RX6 43 yX0_nextHour, Cond.instanceMethod yX0_nextHour, Cond.selects RX0 yX0_nextHour yX0_nextHour, Cond.initialized RX0, Cond.code yX0_nextHour cX0_nextHour 6 (some .int), Cond.fieldLink RX0 21 "LatestSets$Board" "guild" "LLatestSets$Guild;", Cond.fieldLink RX0 36 "LatestSets$Guild" "count" "I", Cond.fieldLink RX0 40 "LatestSets$Guild" "early" "[I", Cond.methodLink RX0 55 Lib.Math.min.name, Cond.static Lib.Math.min.name, Cond.initialized "java/lang/Math", Cond.code Lib.Math.min.name Lib.Math.min.code 2 (some .int), Cond.methodLink RX0 61 Lib.Math.max.name]
def wsX6_follow_r2 : List Cond := [Cond.static Lib.Math.max.name, Cond.code Lib.Math.max.name Lib.Math.max.code 2 (some .int), Cond.static yX7_comingAt, Cond.initialized RX7, Cond.code yX7_comingAt cX7_comingAt 3 (some .int), Cond.methodLink RX7 213 Lib.Math.max.name, Cond.methodLink RX7 218 Lib.Math.min.name, Cond.methodLink RX0 47 yX0_insert, Cond.instanceMethod yX0_insert, Cond.selects RX0 yX0_insert yX0_insert, Cond.code yX0_insert cX0_insert 4 none, Cond.fieldLink RX0 15 "LatestSets$Board" "came" "[I", Cond.methodLink RX0 51 yX0_madeBy, Cond.instanceMethod yX0_madeBy, Cond.selects RX0 yX0_madeBy yX0_madeBy, Cond.code yX0_madeBy cX0_madeBy 6 (some .int), Cond.fieldLink RX0 92 "LatestSets$Board" "height" "I", Cond.fieldLink RX0 95 "LatestSets$Law" "length" "I", Cond.fieldLink RX0 100 "LatestSets$Law" "signs" "[I", Cond.methodLink RX0 103 yX0_pop, Cond.instanceMethod yX0_pop, Cond.selects RX0 yX0_pop yX0_pop, Cond.code yX0_pop cX0_pop 1 (some .int), Cond.fieldLink RX0 18 "LatestSets$Board" "stack" "[I"]
def wsX6_follow_r3 : List Cond := [Cond.methodLink RX0 107 yX0_push, Cond.instanceMethod yX0_push, Cond.selects RX0 yX0_push yX0_push, Cond.code yX0_push cX0_push 2 none, Cond.methodLink RX0 111 yX0_placeOf, Cond.instanceMethod yX0_placeOf, Cond.selects RX0 yX0_placeOf yX0_placeOf, Cond.code yX0_placeOf cX0_placeOf 3 (some .int)]
def wsX6_follow : List Cond := .code yX6_follow cX6_follow 6 none :: ((wsX6_follow_r1 ++ (wsX6_follow_r2 ++ wsX6_follow_r3)) ++ wsX60 ++ wsX00 ++ wsX30 ++ wsX40)
def wsX6_restUnder_r1 : List Cond := [Cond.fieldLink RX6 12 "LatestSets$Ring" "toldLaw" "LLatestSets$Law;", Cond.fieldLink RX6 51 "LatestSets$Ring" "length" "I", Cond.fieldLink RX6 54 "LatestSets$Ring" "least" "I", Cond.methodLink RX6 68 yX4_takeNumber, Cond.instanceMethod yX4_takeNumber, Cond.selects RX4 yX4_takeNumber yX4_takeNumber, Cond.initialized RX4, Cond.code yX4_takeNumber cX4_takeNumber 2 none, Cond.fieldLink RX4 9 "LatestSets$Law" "signs" "[I", Cond.fieldLink RX4 15 "LatestSets$Law" "length" "I", Cond.methodLink RX4 31 yX4_signOf, Cond.static yX4_signOf, Cond.code yX4_signOf cX4_signOf 1 (some .int), Cond.methodLink RX6 72 yX6_follow, Cond.instanceMethod yX6_follow, Cond.selects RX6 yX6_follow yX6_follow, Cond.initialized RX6, Cond.code yX6_follow cX6_follow 6 none, Cond.fieldLink RX6 18 "LatestSets$Ring" "firstWeek" "[I", Cond.fieldLink RX6 22 "LatestSets$Ring" "board" "LLatestSets$Board;", Cond.fieldLink RX6 32 "LatestSets$Board" "guild" "LLatestSets$Guild;", Cond.fieldLink RX6 38 "LatestSets$Guild" "late" "[I", Cond.fieldLink RX6 47 "LatestSets$Ring" "ahead" "I", Cond.methodLink RX6 26 yJ7_fill_53178]
def wsX6_restUnder_r2 : List Cond := [Cond.static yJ7_fill_53178, Cond.initialized RJ7, Cond.code yJ7_fill_53178 cJ7_fill_53178 4 none, Cond.methodLink RX6 43 yX0_nextHour, Cond.instanceMethod yX0_nextHour, Cond.selects RX0 yX0_nextHour yX0_nextHour, Cond.initialized RX0, Cond.code yX0_nextHour cX0_nextHour 6 (some .int), Cond.fieldLink RX0 21 "LatestSets$Board" "guild" "LLatestSets$Guild;", Cond.fieldLink RX0 36 "LatestSets$Guild" "count" "I", Cond.fieldLink RX0 40 "LatestSets$Guild" "early" "[I", Cond.methodLink RX0 55 Lib.Math.min.name, Cond.static Lib.Math.min.name, Cond.initialized "java/lang/Math", Cond.code Lib.Math.min.name Lib.Math.min.code 2 (some .int), Cond.methodLink RX0 61 Lib.Math.max.name, Cond.static Lib.Math.max.name, Cond.code Lib.Math.max.name Lib.Math.max.code 2 (some .int), Cond.static yX7_comingAt, Cond.initialized RX7, Cond.code yX7_comingAt cX7_comingAt 3 (some .int), Cond.methodLink RX7 213 Lib.Math.max.name, Cond.methodLink RX7 218 Lib.Math.min.name, Cond.methodLink RX0 47 yX0_insert]
def wsX6_restUnder_r3 : List Cond := [Cond.instanceMethod yX0_insert, Cond.selects RX0 yX0_insert yX0_insert, Cond.code yX0_insert cX0_insert 4 none, Cond.fieldLink RX0 15 "LatestSets$Board" "came" "[I", Cond.methodLink RX0 51 yX0_madeBy, Cond.instanceMethod yX0_madeBy, Cond.selects RX0 yX0_madeBy yX0_madeBy, Cond.code yX0_madeBy cX0_madeBy 6 (some .int), Cond.fieldLink RX0 92 "LatestSets$Board" "height" "I", Cond.fieldLink RX0 95 "LatestSets$Law" "length" "I", Cond.fieldLink RX0 100 "LatestSets$Law" "signs" "[I", Cond.methodLink RX0 103 yX0_pop, Cond.instanceMethod yX0_pop, Cond.selects RX0 yX0_pop yX0_pop, Cond.code yX0_pop cX0_pop 1 (some .int), Cond.fieldLink RX0 18 "LatestSets$Board" "stack" "[I", Cond.methodLink RX0 107 yX0_push, Cond.instanceMethod yX0_push, Cond.selects RX0 yX0_push yX0_push, Cond.code yX0_push cX0_push 2 none, Cond.methodLink RX0 111 yX0_placeOf, Cond.instanceMethod yX0_placeOf, Cond.selects RX0 yX0_placeOf yX0_placeOf, Cond.code yX0_placeOf cX0_placeOf 3 (some .int)]
def wsX6_restUnder : List Cond := .code yX6_restUnder cX6_restUnder 3 (some .int) :: ((wsX6_restUnder_r1 ++ (wsX6_restUnder_r2 ++ wsX6_restUnder_r3)) ++ wsX60 ++ wsX40 ++ wsX00 ++ wsX30)
def wsX6_bestToldLaw_r1 : List Cond := [Cond.constant RX6 59 (2147483647), Cond.fieldLink RX6 22 "LatestSets$Ring" "board" "LLatestSets$Board;", Cond.fieldLink RX6 32 "LatestSets$Board" "guild" "LLatestSets$Guild;", Cond.methodLink RX6 60 yX6_restUnder, Cond.instanceMethod yX6_restUnder, Cond.selects RX6 yX6_restUnder yX6_restUnder, Cond.initialized RX6, Cond.code yX6_restUnder cX6_restUnder 3 (some .int), Cond.fieldLink RX6 12 "LatestSets$Ring" "toldLaw" "LLatestSets$Law;", Cond.fieldLink RX6 51 "LatestSets$Ring" "length" "I", Cond.fieldLink RX6 54 "LatestSets$Ring" "least" "I", Cond.methodLink RX6 68 yX4_takeNumber, Cond.instanceMethod yX4_takeNumber, Cond.selects RX4 yX4_takeNumber yX4_takeNumber, Cond.initialized RX4, Cond.code yX4_takeNumber cX4_takeNumber 2 none, Cond.fieldLink RX4 9 "LatestSets$Law" "signs" "[I", Cond.fieldLink RX4 15 "LatestSets$Law" "length" "I", Cond.methodLink RX4 31 yX4_signOf, Cond.static yX4_signOf, Cond.code yX4_signOf cX4_signOf 1 (some .int), Cond.methodLink RX6 72 yX6_follow, Cond.instanceMethod yX6_follow, Cond.selects RX6 yX6_follow yX6_follow]
def wsX6_bestToldLaw_r2 : List Cond := [Cond.code yX6_follow cX6_follow 6 none, Cond.fieldLink RX6 18 "LatestSets$Ring" "firstWeek" "[I", Cond.fieldLink RX6 38 "LatestSets$Guild" "late" "[I", Cond.fieldLink RX6 47 "LatestSets$Ring" "ahead" "I", Cond.methodLink RX6 26 yJ7_fill_53178, Cond.static yJ7_fill_53178, Cond.initialized RJ7, Cond.code yJ7_fill_53178 cJ7_fill_53178 4 none, Cond.methodLink RX6 43 yX0_nextHour, Cond.instanceMethod yX0_nextHour, Cond.selects RX0 yX0_nextHour yX0_nextHour, Cond.initialized RX0, Cond.code yX0_nextHour cX0_nextHour 6 (some .int), Cond.fieldLink RX0 21 "LatestSets$Board" "guild" "LLatestSets$Guild;", Cond.fieldLink RX0 36 "LatestSets$Guild" "count" "I", Cond.fieldLink RX0 40 "LatestSets$Guild" "early" "[I", Cond.methodLink RX0 55 Lib.Math.min.name, Cond.static Lib.Math.min.name, Cond.initialized "java/lang/Math", Cond.code Lib.Math.min.name Lib.Math.min.code 2 (some .int), Cond.methodLink RX0 61 Lib.Math.max.name, Cond.static Lib.Math.max.name, Cond.code Lib.Math.max.name Lib.Math.max.code 2 (some .int), Cond.static yX7_comingAt]
def wsX6_bestToldLaw_r3 : List Cond := [Cond.initialized RX7, Cond.code yX7_comingAt cX7_comingAt 3 (some .int), Cond.methodLink RX7 213 Lib.Math.max.name, Cond.methodLink RX7 218 Lib.Math.min.name, Cond.methodLink RX0 47 yX0_insert, Cond.instanceMethod yX0_insert, Cond.selects RX0 yX0_insert yX0_insert, Cond.code yX0_insert cX0_insert 4 none, Cond.fieldLink RX0 15 "LatestSets$Board" "came" "[I", Cond.methodLink RX0 51 yX0_madeBy, Cond.instanceMethod yX0_madeBy, Cond.selects RX0 yX0_madeBy yX0_madeBy, Cond.code yX0_madeBy cX0_madeBy 6 (some .int), Cond.fieldLink RX0 92 "LatestSets$Board" "height" "I", Cond.fieldLink RX0 95 "LatestSets$Law" "length" "I", Cond.fieldLink RX0 100 "LatestSets$Law" "signs" "[I", Cond.methodLink RX0 103 yX0_pop, Cond.instanceMethod yX0_pop, Cond.selects RX0 yX0_pop yX0_pop, Cond.code yX0_pop cX0_pop 1 (some .int), Cond.fieldLink RX0 18 "LatestSets$Board" "stack" "[I", Cond.methodLink RX0 107 yX0_push, Cond.instanceMethod yX0_push, Cond.selects RX0 yX0_push yX0_push]
def wsX6_bestToldLaw_r4 : List Cond := [Cond.code yX0_push cX0_push 2 none, Cond.methodLink RX0 111 yX0_placeOf, Cond.instanceMethod yX0_placeOf, Cond.selects RX0 yX0_placeOf yX0_placeOf, Cond.code yX0_placeOf cX0_placeOf 3 (some .int), Cond.methodLink RX6 64 yX3_farFromBest, Cond.instanceMethod yX3_farFromBest, Cond.selects RX3 yX3_farFromBest yX3_farFromBest, Cond.initialized RX3, Cond.code yX3_farFromBest cX3_farFromBest 4 (some .int), Cond.fieldLink RX3 38 "LatestSets$Guild" "count" "I", Cond.fieldLink RX3 18 "LatestSets$Guild" "best" "[I", Cond.methodLink RX3 73 Lib.Math.abs.name, Cond.static Lib.Math.abs.name, Cond.code Lib.Math.abs.name Lib.Math.abs.code 1 (some .int)]
def wsX6_bestToldLaw : List Cond := .code yX6_bestToldLaw cX6_bestToldLaw 7 (some .int) :: ((wsX6_bestToldLaw_r1 ++ (wsX6_bestToldLaw_r2 ++ (wsX6_bestToldLaw_r3 ++ wsX6_bestToldLaw_r4))) ++ wsX60 ++ wsX00 ++ wsX40 ++ wsX30)
def wsX7_init_r1 : List Cond := [Cond.methodLink RX7 1 objectInit, Cond.instanceMethod objectInit, Cond.code objectInit ⟨#[0xb1]⟩ 1 none, Cond.classLink RX7 7 RX3, Cond.instantiable RX3 9, Cond.initialized RX3, Cond.classLink RX7 10 RX0, Cond.instantiable RX0 5, Cond.initialized RX0, Cond.fieldLink RX7 15 "LatestSets" "guild" "LLatestSets$Guild;", Cond.fieldLink RX7 21 "LatestSets" "board" "LLatestSets$Board;", Cond.classLink RX7 25 RX5, Cond.instantiable RX5 2, Cond.initialized RX5, Cond.fieldLink RX7 28 "LatestSets" "pad" "LLatestSets$Pad;", Cond.classLink RX7 32 RX6, Cond.instantiable RX6 6, Cond.initialized RX6, Cond.fieldLink RX7 37 "LatestSets" "ring" "LLatestSets$Ring;", Cond.classLink RX7 41 RX2, Cond.instantiable RX2 4, Cond.initialized RX2, Cond.fieldLink RX7 44 "LatestSets" "choices" "LLatestSets$Choices;", Cond.classLink RX7 48 RX1]
def wsX7_init_r2 : List Cond := [Cond.instantiable RX1 8, Cond.initialized RX1, Cond.fieldLink RX7 51 "LatestSets" "chance" "LLatestSets$Chance;", Cond.fieldLink RX7 55 "LatestSets" "images" "[LLatestSets$Guild;", Cond.methodLink RX7 9 yX3_init, Cond.instanceMethod yX3_init, Cond.code yX3_init cX3_init 1 none, Cond.methodLink RX3 3 objectInit, Cond.arrayClass .int, Cond.fieldLink RX3 9 "LatestSets$Guild" "early" "[I", Cond.fieldLink RX3 15 "LatestSets$Guild" "late" "[I", Cond.fieldLink RX3 18 "LatestSets$Guild" "best" "[I", Cond.classLink RX3 21 RX4, Cond.instantiable RX4 2, Cond.initialized RX4, Cond.fieldLink RX3 24 "LatestSets$Guild" "law" "LLatestSets$Law;", Cond.fieldLink RX3 28 "LatestSets$Guild" "sightWeek" "[I", Cond.fieldLink RX3 31 "LatestSets$Guild" "sightHour" "[I", Cond.fieldLink RX3 34 "LatestSets$Guild" "fineEach" "I", Cond.fieldLink RX3 38 "LatestSets$Guild" "count" "I", Cond.methodLink RX3 23 yX4_init, Cond.instanceMethod yX4_init, Cond.code yX4_init cX4_init 1 none, Cond.methodLink RX4 3 objectInit]
def wsX7_init_r3 : List Cond := [Cond.fieldLink RX4 9 "LatestSets$Law" "signs" "[I", Cond.fieldLink RX4 15 "LatestSets$Law" "length" "I", Cond.methodLink RX3 41 yJ7_fill_53178, Cond.static yJ7_fill_53178, Cond.initialized RJ7, Cond.code yJ7_fill_53178 cJ7_fill_53178 4 none, Cond.methodLink RX7 12 yX0_init, Cond.instanceMethod yX0_init, Cond.code yX0_init cX0_init 2 none, Cond.methodLink RX0 3 objectInit, Cond.fieldLink RX0 9 "LatestSets$Board" "trial" "[I", Cond.fieldLink RX0 15 "LatestSets$Board" "came" "[I", Cond.fieldLink RX0 18 "LatestSets$Board" "stack" "[I", Cond.fieldLink RX0 21 "LatestSets$Board" "guild" "LLatestSets$Guild;", Cond.instanceMethod yX5_init, Cond.code yX5_init cX5_init 1 none, Cond.methodLink RX5 3 objectInit, Cond.fieldLink RX5 9 "LatestSets$Pad" "signs" "[I", Cond.methodLink RX7 34 yX6_init, Cond.instanceMethod yX6_init, Cond.code yX6_init cX6_init 2 none, Cond.methodLink RX6 3 objectInit, Cond.classLink RX6 9 RX4, Cond.fieldLink RX6 12 "LatestSets$Ring" "toldLaw" "LLatestSets$Law;"]
def wsX7_init_r4 : List Cond := [Cond.fieldLink RX6 18 "LatestSets$Ring" "firstWeek" "[I", Cond.fieldLink RX6 22 "LatestSets$Ring" "board" "LLatestSets$Board;", Cond.methodLink RX6 11 yX4_init, Cond.methodLink RX7 43 yX2_init, Cond.instanceMethod yX2_init, Cond.code yX2_init cX2_init 2 none, Cond.methodLink RX2 3 objectInit, Cond.classLink RX2 9 "[[I", Cond.fieldLink RX2 11 "LatestSets$Choices" "cost" "[[I", Cond.fieldLink RX2 16 "LatestSets$Choices" "pick" "[[I", Cond.fieldLink RX2 19 "LatestSets$Choices" "nextBy" "[I", Cond.fieldLink RX2 23 "LatestSets$Choices" "board" "LLatestSets$Board;", Cond.methodLink RX7 50 yX1_init, Cond.instanceMethod yX1_init, Cond.code yX1_init cX1_init 2 none, Cond.methodLink RX1 3 objectInit, Cond.arrayClass .long, Cond.fieldLink RX1 9 "LatestSets$Chance" "weight" "[J", Cond.fieldLink RX1 15 "LatestSets$Chance" "nextWeight" "[J", Cond.fieldLink RX1 18 "LatestSets$Chance" "board" "LLatestSets$Board;"]
def wsX7_init : List Cond := .code yX7_init cX7_init 3 none :: ((wsX7_init_r1 ++ (wsX7_init_r2 ++ (wsX7_init_r3 ++ wsX7_init_r4))) ++ wsX30 ++ wsX00 ++ wsX70 ++ wsX50 ++ wsX60 ++ wsX20 ++ wsX10 ++ wsX40)
def wsX7_within : List Cond := .code yX7_within cX7_within 3 (some .boolean) :: ([])
def wsX7_members : List Cond := .code yX7_members cX7_members 3 (some .int) :: ([.fieldLink RX7 15 "LatestSets" "guild" "LLatestSets$Guild;", .fieldLink RX7 63 "LatestSets$Guild" "count" "I", .methodLink RX7 59 yX7_within, .static yX7_within, .initialized RX7, .code yX7_within cX7_within 3 (some .boolean), .methodLink RX7 67 yX3_assemble, .instanceMethod yX3_assemble, .selects RX3 yX3_assemble yX3_assemble, .initialized RX3, .code yX3_assemble cX3_assemble 2 none, .fieldLink RX3 38 "LatestSets$Guild" "count" "I", .fieldLink RX3 47 "LatestSets$Guild" "sights" "I", .fieldLink RX3 9 "LatestSets$Guild" "early" "[I", .fieldLink RX3 15 "LatestSets$Guild" "late" "[I", .fieldLink RX3 18 "LatestSets$Guild" "best" "[I", .methodLink RX3 41 yJ7_fill_53178, .static yJ7_fill_53178, .initialized RJ7, .code yJ7_fill_53178 cJ7_fill_53178 4 none] ++ wsX70 ++ wsX30)
def wsX7_member : List Cond := .code yX7_member cX7_member 6 (some .int) :: ([.fieldLink RX7 15 "LatestSets" "guild" "LLatestSets$Guild;", .methodLink RX7 71 yX3_has, .instanceMethod yX3_has, .selects RX3 yX3_has yX3_has, .initialized RX3, .code yX3_has cX3_has 2 (some .boolean), .fieldLink RX3 38 "LatestSets$Guild" "count" "I", .methodLink RX7 59 yX7_within, .static yX7_within, .initialized RX7, .code yX7_within cX7_within 3 (some .boolean), .methodLink RX7 75 yX3_rowOf, .instanceMethod yX3_rowOf, .selects RX3 yX3_rowOf yX3_rowOf, .code yX3_rowOf cX3_rowOf 2 (some (.array .int)), .fieldLink RX3 9 "LatestSets$Guild" "early" "[I", .fieldLink RX3 15 "LatestSets$Guild" "late" "[I", .fieldLink RX3 18 "LatestSets$Guild" "best" "[I"] ++ wsX70 ++ wsX30)
def wsX7_fine : List Cond := .code yX7_fine cX7_fine 3 (some .int) :: ([.fieldLink RX7 15 "LatestSets" "guild" "LLatestSets$Guild;", .fieldLink RX7 79 "LatestSets$Guild" "fineEach" "I", .methodLink RX7 59 yX7_within, .static yX7_within, .initialized RX7, .code yX7_within cX7_within 3 (some .boolean)] ++ wsX70 ++ wsX30)
def wsX7_say : List Cond := .code yX7_say cX7_say 2 (some .int) :: ([.fieldLink RX7 28 "LatestSets" "pad" "LLatestSets$Pad;", .fieldLink RX7 82 "LatestSets$Pad" "count" "I", .methodLink RX7 59 yX7_within, .static yX7_within, .initialized RX7, .code yX7_within cX7_within 3 (some .boolean), .methodLink RX7 83 yX5_write, .instanceMethod yX5_write, .selects RX5 yX5_write yX5_write, .initialized RX5, .code yX5_write cX5_write 2 (some .int), .fieldLink RX5 15 "LatestSets$Pad" "count" "I", .fieldLink RX5 9 "LatestSets$Pad" "signs" "[I"] ++ wsX70 ++ wsX50)
def wsX7_wipe : List Cond := .code yX7_wipe cX7_wipe 2 (some .int) :: ([.fieldLink RX7 28 "LatestSets" "pad" "LLatestSets$Pad;", .fieldLink RX7 82 "LatestSets$Pad" "count" "I"] ++ wsX70 ++ wsX50)
def wsX7_fault : List Cond := .code yX7_fault cX7_fault 1 (some .int) :: ([.fieldLink RX7 28 "LatestSets" "pad" "LLatestSets$Pad;", .methodLink RX7 87 yX5_firstFault, .instanceMethod yX5_firstFault, .selects RX5 yX5_firstFault yX5_firstFault, .initialized RX5, .code yX5_firstFault cX5_firstFault 5 (some .int), .fieldLink RX5 15 "LatestSets$Pad" "count" "I", .fieldLink RX5 9 "LatestSets$Pad" "signs" "[I", .methodLink RX5 19 yX5_partsOf, .static yX5_partsOf, .code yX5_partsOf cX5_partsOf 1 (some .int)] ++ wsX70 ++ wsX50)
def wsX7_enact_r1 : List Cond := [Cond.fieldLink RX7 28 "LatestSets" "pad" "LLatestSets$Pad;", Cond.fieldLink RX7 15 "LatestSets" "guild" "LLatestSets$Guild;", Cond.fieldLink RX7 91 "LatestSets$Guild" "law" "LLatestSets$Law;", Cond.fieldLink RX7 95 "LatestSets$Pad" "signs" "[I", Cond.fieldLink RX7 82 "LatestSets$Pad" "count" "I", Cond.fieldLink RX7 105 "LatestSets$Law" "length" "I", Cond.methodLink RX7 87 yX5_firstFault, Cond.instanceMethod yX5_firstFault, Cond.selects RX5 yX5_firstFault yX5_firstFault, Cond.initialized RX5, Cond.code yX5_firstFault cX5_firstFault 5 (some .int), Cond.fieldLink RX5 15 "LatestSets$Pad" "count" "I", Cond.fieldLink RX5 9 "LatestSets$Pad" "signs" "[I", Cond.methodLink RX5 19 yX5_partsOf, Cond.static yX5_partsOf, Cond.code yX5_partsOf cX5_partsOf 1 (some .int), Cond.methodLink RX7 99 yX4_take, Cond.instanceMethod yX4_take, Cond.selects RX4 yX4_take yX4_take, Cond.initialized RX4, Cond.code yX4_take cX4_take 3 none, Cond.methodLink RX4 19 Lib.Math.min.name, Cond.static Lib.Math.min.name, Cond.initialized "java/lang/Math"]
def wsX7_enact_r2 : List Cond := [Cond.code Lib.Math.min.name Lib.Math.min.code 2 (some .int), Cond.fieldLink RX4 15 "LatestSets$Law" "length" "I", Cond.fieldLink RX4 9 "LatestSets$Law" "signs" "[I", Cond.methodLink RX4 25 arraycopyName, Cond.native arraycopyName, Cond.static arraycopyName, Cond.initialized "java/lang/System"]
def wsX7_enact : List Cond := .code yX7_enact cX7_enact 1 (some .int) :: ((wsX7_enact_r1 ++ wsX7_enact_r2) ++ wsX70 ++ wsX30 ++ wsX50 ++ wsX40)
def wsX7_isHour : List Cond := .code yX7_isHour cX7_isHour 1 (some .boolean) :: ([])
def wsX7_hour_r1 : List Cond := [Cond.fieldLink RX7 21 "LatestSets" "board" "LLatestSets$Board;", Cond.fieldLink RX7 15 "LatestSets" "guild" "LLatestSets$Guild;", Cond.fieldLink RX7 111 "LatestSets$Guild" "late" "[I", Cond.methodLink RX7 108 yX7_isHour, Cond.static yX7_isHour, Cond.initialized RX7, Cond.code yX7_isHour cX7_isHour 1 (some .boolean), Cond.methodLink RX7 59 yX7_within, Cond.static yX7_within, Cond.code yX7_within cX7_within 3 (some .boolean), Cond.methodLink RX7 114 yX0_hourAfter, Cond.instanceMethod yX0_hourAfter, Cond.selects RX0 yX0_hourAfter yX0_hourAfter, Cond.initialized RX0, Cond.code yX0_hourAfter cX0_hourAfter 7 (some .int), Cond.fieldLink RX0 21 "LatestSets$Board" "guild" "LLatestSets$Guild;", Cond.fieldLink RX0 64 "LatestSets$Guild" "law" "LLatestSets$Law;", Cond.methodLink RX0 68 yX0_nextHour, Cond.instanceMethod yX0_nextHour, Cond.selects RX0 yX0_nextHour yX0_nextHour, Cond.code yX0_nextHour cX0_nextHour 6 (some .int), Cond.fieldLink RX0 36 "LatestSets$Guild" "count" "I", Cond.fieldLink RX0 40 "LatestSets$Guild" "early" "[I", Cond.methodLink RX0 55 Lib.Math.min.name]
def wsX7_hour_r2 : List Cond := [Cond.static Lib.Math.min.name, Cond.initialized "java/lang/Math", Cond.code Lib.Math.min.name Lib.Math.min.code 2 (some .int), Cond.methodLink RX0 61 Lib.Math.max.name, Cond.static Lib.Math.max.name, Cond.code Lib.Math.max.name Lib.Math.max.code 2 (some .int), Cond.static yX7_comingAt, Cond.code yX7_comingAt cX7_comingAt 3 (some .int), Cond.methodLink RX7 213 Lib.Math.max.name, Cond.methodLink RX7 218 Lib.Math.min.name, Cond.methodLink RX0 47 yX0_insert, Cond.instanceMethod yX0_insert, Cond.selects RX0 yX0_insert yX0_insert, Cond.code yX0_insert cX0_insert 4 none, Cond.fieldLink RX0 15 "LatestSets$Board" "came" "[I", Cond.methodLink RX0 51 yX0_madeBy, Cond.instanceMethod yX0_madeBy, Cond.selects RX0 yX0_madeBy yX0_madeBy, Cond.code yX0_madeBy cX0_madeBy 6 (some .int), Cond.fieldLink RX0 92 "LatestSets$Board" "height" "I", Cond.fieldLink RX0 95 "LatestSets$Law" "length" "I", Cond.fieldLink RX0 100 "LatestSets$Law" "signs" "[I", Cond.methodLink RX0 103 yX0_pop, Cond.instanceMethod yX0_pop]
def wsX7_hour_r3 : List Cond := [Cond.selects RX0 yX0_pop yX0_pop, Cond.code yX0_pop cX0_pop 1 (some .int), Cond.fieldLink RX0 18 "LatestSets$Board" "stack" "[I", Cond.methodLink RX0 107 yX0_push, Cond.instanceMethod yX0_push, Cond.selects RX0 yX0_push yX0_push, Cond.code yX0_push cX0_push 2 none, Cond.methodLink RX0 111 yX0_placeOf, Cond.instanceMethod yX0_placeOf, Cond.selects RX0 yX0_placeOf yX0_placeOf, Cond.code yX0_placeOf cX0_placeOf 3 (some .int)]
def wsX7_hour : List Cond := .code yX7_hour cX7_hour 3 (some .int) :: ((wsX7_hour_r1 ++ (wsX7_hour_r2 ++ wsX7_hour_r3)) ++ wsX70 ++ wsX30 ++ wsX00 ++ wsX40)
def wsX7_comes_r1 : List Cond := [Cond.fieldLink RX7 15 "LatestSets" "guild" "LLatestSets$Guild;", Cond.fieldLink RX7 21 "LatestSets" "board" "LLatestSets$Board;", Cond.fieldLink RX7 111 "LatestSets$Guild" "late" "[I", Cond.fieldLink RX7 118 "LatestSets$Guild" "early" "[I", Cond.methodLink RX7 71 yX3_has, Cond.instanceMethod yX3_has, Cond.selects RX3 yX3_has yX3_has, Cond.initialized RX3, Cond.code yX3_has cX3_has 2 (some .boolean), Cond.fieldLink RX3 38 "LatestSets$Guild" "count" "I", Cond.methodLink RX7 108 yX7_isHour, Cond.static yX7_isHour, Cond.initialized RX7, Cond.code yX7_isHour cX7_isHour 1 (some .boolean), Cond.methodLink RX7 59 yX7_within, Cond.static yX7_within, Cond.code yX7_within cX7_within 3 (some .boolean), Cond.methodLink RX7 114 yX0_hourAfter, Cond.instanceMethod yX0_hourAfter, Cond.selects RX0 yX0_hourAfter yX0_hourAfter, Cond.initialized RX0, Cond.code yX0_hourAfter cX0_hourAfter 7 (some .int), Cond.fieldLink RX0 21 "LatestSets$Board" "guild" "LLatestSets$Guild;", Cond.fieldLink RX0 64 "LatestSets$Guild" "law" "LLatestSets$Law;"]
def wsX7_comes_r2 : List Cond := [Cond.methodLink RX0 68 yX0_nextHour, Cond.instanceMethod yX0_nextHour, Cond.selects RX0 yX0_nextHour yX0_nextHour, Cond.code yX0_nextHour cX0_nextHour 6 (some .int), Cond.fieldLink RX0 36 "LatestSets$Guild" "count" "I", Cond.fieldLink RX0 40 "LatestSets$Guild" "early" "[I", Cond.methodLink RX0 55 Lib.Math.min.name, Cond.static Lib.Math.min.name, Cond.initialized "java/lang/Math", Cond.code Lib.Math.min.name Lib.Math.min.code 2 (some .int), Cond.methodLink RX0 61 Lib.Math.max.name, Cond.static Lib.Math.max.name, Cond.code Lib.Math.max.name Lib.Math.max.code 2 (some .int), Cond.static yX7_comingAt, Cond.code yX7_comingAt cX7_comingAt 3 (some .int), Cond.methodLink RX7 213 Lib.Math.max.name, Cond.methodLink RX7 218 Lib.Math.min.name, Cond.methodLink RX0 47 yX0_insert, Cond.instanceMethod yX0_insert, Cond.selects RX0 yX0_insert yX0_insert, Cond.code yX0_insert cX0_insert 4 none, Cond.fieldLink RX0 15 "LatestSets$Board" "came" "[I", Cond.methodLink RX0 51 yX0_madeBy, Cond.instanceMethod yX0_madeBy]
def wsX7_comes_r3 : List Cond := [Cond.selects RX0 yX0_madeBy yX0_madeBy, Cond.code yX0_madeBy cX0_madeBy 6 (some .int), Cond.fieldLink RX0 92 "LatestSets$Board" "height" "I", Cond.fieldLink RX0 95 "LatestSets$Law" "length" "I", Cond.fieldLink RX0 100 "LatestSets$Law" "signs" "[I", Cond.methodLink RX0 103 yX0_pop, Cond.instanceMethod yX0_pop, Cond.selects RX0 yX0_pop yX0_pop, Cond.code yX0_pop cX0_pop 1 (some .int), Cond.fieldLink RX0 18 "LatestSets$Board" "stack" "[I", Cond.methodLink RX0 107 yX0_push, Cond.instanceMethod yX0_push, Cond.selects RX0 yX0_push yX0_push, Cond.code yX0_push cX0_push 2 none, Cond.methodLink RX0 111 yX0_placeOf, Cond.instanceMethod yX0_placeOf, Cond.selects RX0 yX0_placeOf yX0_placeOf, Cond.code yX0_placeOf cX0_placeOf 3 (some .int), Cond.methodLink RX7 121 yX7_comingAt]
def wsX7_comes : List Cond := .code yX7_comes cX7_comes 5 (some .int) :: ((wsX7_comes_r1 ++ (wsX7_comes_r2 ++ wsX7_comes_r3)) ++ wsX70 ++ wsX30 ++ wsX00 ++ wsX40)
def wsX7_tends_r1 : List Cond := [Cond.fieldLink RX7 37 "LatestSets" "ring" "LLatestSets$Ring;", Cond.fieldLink RX7 15 "LatestSets" "guild" "LLatestSets$Guild;", Cond.fieldLink RX7 91 "LatestSets$Guild" "law" "LLatestSets$Law;", Cond.fieldLink RX7 129 "LatestSets$Ring" "ahead" "I", Cond.fieldLink RX7 132 "LatestSets$Ring" "length" "I", Cond.fieldLink RX7 133 "LatestSets$Ring" "least" "I", Cond.methodLink RX7 108 yX7_isHour, Cond.static yX7_isHour, Cond.initialized RX7, Cond.code yX7_isHour cX7_isHour 1 (some .boolean), Cond.methodLink RX7 59 yX7_within, Cond.static yX7_within, Cond.code yX7_within cX7_within 3 (some .boolean), Cond.methodLink RX7 125 yX6_follow, Cond.instanceMethod yX6_follow, Cond.selects RX6 yX6_follow yX6_follow, Cond.initialized RX6, Cond.code yX6_follow cX6_follow 6 none, Cond.fieldLink RX6 18 "LatestSets$Ring" "firstWeek" "[I", Cond.fieldLink RX6 22 "LatestSets$Ring" "board" "LLatestSets$Board;", Cond.fieldLink RX6 32 "LatestSets$Board" "guild" "LLatestSets$Guild;", Cond.fieldLink RX6 38 "LatestSets$Guild" "late" "[I", Cond.fieldLink RX6 47 "LatestSets$Ring" "ahead" "I", Cond.fieldLink RX6 51 "LatestSets$Ring" "length" "I"]
def wsX7_tends_r2 : List Cond := [Cond.fieldLink RX6 54 "LatestSets$Ring" "least" "I", Cond.methodLink RX6 26 yJ7_fill_53178, Cond.static yJ7_fill_53178, Cond.initialized RJ7, Cond.code yJ7_fill_53178 cJ7_fill_53178 4 none, Cond.methodLink RX6 43 yX0_nextHour, Cond.instanceMethod yX0_nextHour, Cond.selects RX0 yX0_nextHour yX0_nextHour, Cond.initialized RX0, Cond.code yX0_nextHour cX0_nextHour 6 (some .int), Cond.fieldLink RX0 21 "LatestSets$Board" "guild" "LLatestSets$Guild;", Cond.fieldLink RX0 36 "LatestSets$Guild" "count" "I", Cond.fieldLink RX0 40 "LatestSets$Guild" "early" "[I", Cond.methodLink RX0 55 Lib.Math.min.name, Cond.static Lib.Math.min.name, Cond.initialized "java/lang/Math", Cond.code Lib.Math.min.name Lib.Math.min.code 2 (some .int), Cond.methodLink RX0 61 Lib.Math.max.name, Cond.static Lib.Math.max.name, Cond.code Lib.Math.max.name Lib.Math.max.code 2 (some .int), Cond.static yX7_comingAt, Cond.code yX7_comingAt cX7_comingAt 3 (some .int), Cond.methodLink RX7 213 Lib.Math.max.name, Cond.methodLink RX7 218 Lib.Math.min.name]
def wsX7_tends_r3 : List Cond := [Cond.methodLink RX0 47 yX0_insert, Cond.instanceMethod yX0_insert, Cond.selects RX0 yX0_insert yX0_insert, Cond.code yX0_insert cX0_insert 4 none, Cond.fieldLink RX0 15 "LatestSets$Board" "came" "[I", Cond.methodLink RX0 51 yX0_madeBy, Cond.instanceMethod yX0_madeBy, Cond.selects RX0 yX0_madeBy yX0_madeBy, Cond.code yX0_madeBy cX0_madeBy 6 (some .int), Cond.fieldLink RX0 92 "LatestSets$Board" "height" "I", Cond.fieldLink RX0 95 "LatestSets$Law" "length" "I", Cond.fieldLink RX0 100 "LatestSets$Law" "signs" "[I", Cond.methodLink RX0 103 yX0_pop, Cond.instanceMethod yX0_pop, Cond.selects RX0 yX0_pop yX0_pop, Cond.code yX0_pop cX0_pop 1 (some .int), Cond.fieldLink RX0 18 "LatestSets$Board" "stack" "[I", Cond.methodLink RX0 107 yX0_push, Cond.instanceMethod yX0_push, Cond.selects RX0 yX0_push yX0_push, Cond.code yX0_push cX0_push 2 none, Cond.methodLink RX0 111 yX0_placeOf, Cond.instanceMethod yX0_placeOf, Cond.selects RX0 yX0_placeOf yX0_placeOf]
def wsX7_tends_r4 : List Cond := [Cond.code yX0_placeOf cX0_placeOf 3 (some .int)]
def wsX7_tends : List Cond := .code yX7_tends cX7_tends 3 (some .int) :: ((wsX7_tends_r1 ++ (wsX7_tends_r2 ++ (wsX7_tends_r3 ++ wsX7_tends_r4))) ++ wsX70 ++ wsX30 ++ wsX60 ++ wsX00 ++ wsX40)
def wsX7_paid : List Cond := .code yX7_paid cX7_paid 3 (some .int) :: ([.fieldLink RX7 15 "LatestSets" "guild" "LLatestSets$Guild;", .fieldLink RX7 79 "LatestSets$Guild" "fineEach" "I", .fieldLink RX7 111 "LatestSets$Guild" "late" "[I", .methodLink RX7 71 yX3_has, .instanceMethod yX3_has, .selects RX3 yX3_has yX3_has, .initialized RX3, .code yX3_has cX3_has 2 (some .boolean), .fieldLink RX3 38 "LatestSets$Guild" "count" "I", .methodLink RX7 59 yX7_within, .static yX7_within, .initialized RX7, .code yX7_within cX7_within 3 (some .boolean)] ++ wsX70 ++ wsX30)
def wsX7_content : List Cond := .code yX7_content cX7_content 2 (some .int) :: ([.fieldLink RX7 15 "LatestSets" "guild" "LLatestSets$Guild;", .methodLink RX7 108 yX7_isHour, .static yX7_isHour, .initialized RX7, .code yX7_isHour cX7_isHour 1 (some .boolean), .methodLink RX7 136 yX3_farFromBest, .instanceMethod yX3_farFromBest, .selects RX3 yX3_farFromBest yX3_farFromBest, .initialized RX3, .code yX3_farFromBest cX3_farFromBest 4 (some .int), .fieldLink RX3 38 "LatestSets$Guild" "count" "I", .fieldLink RX3 18 "LatestSets$Guild" "best" "[I", .methodLink RX3 73 Lib.Math.abs.name, .static Lib.Math.abs.name, .initialized "java/lang/Math", .code Lib.Math.abs.name Lib.Math.abs.code 1 (some .int)] ++ wsX70 ++ wsX30)
def wsX7_choice_r1 : List Cond := [Cond.fieldLink RX7 15 "LatestSets" "guild" "LLatestSets$Guild;", Cond.fieldLink RX7 44 "LatestSets" "choices" "LLatestSets$Choices;", Cond.methodLink RX7 71 yX3_has, Cond.instanceMethod yX3_has, Cond.selects RX3 yX3_has yX3_has, Cond.initialized RX3, Cond.code yX3_has cX3_has 2 (some .boolean), Cond.fieldLink RX3 38 "LatestSets$Guild" "count" "I", Cond.methodLink RX7 108 yX7_isHour, Cond.static yX7_isHour, Cond.initialized RX7, Cond.code yX7_isHour cX7_isHour 1 (some .boolean), Cond.methodLink RX7 59 yX7_within, Cond.static yX7_within, Cond.code yX7_within cX7_within 3 (some .boolean), Cond.methodLink RX7 139 yX2_weigh, Cond.instanceMethod yX2_weigh, Cond.selects RX2 yX2_weigh yX2_weigh, Cond.initialized RX2, Cond.code yX2_weigh cX2_weigh 5 none, Cond.fieldLink RX2 23 "LatestSets$Choices" "board" "LLatestSets$Board;", Cond.fieldLink RX2 11 "LatestSets$Choices" "cost" "[[I", Cond.methodLink RX2 27 yX0_tryAsTold, Cond.instanceMethod yX0_tryAsTold]
def wsX7_choice_r2 : List Cond := [Cond.selects RX0 yX0_tryAsTold yX0_tryAsTold, Cond.initialized RX0, Cond.code yX0_tryAsTold cX0_tryAsTold 1 none, Cond.fieldLink RX0 21 "LatestSets$Board" "guild" "LLatestSets$Guild;", Cond.fieldLink RX0 25 "LatestSets$Guild" "late" "[I", Cond.fieldLink RX0 9 "LatestSets$Board" "trial" "[I", Cond.methodLink RX0 30 arraycopyName, Cond.native arraycopyName, Cond.static arraycopyName, Cond.initialized "java/lang/System", Cond.methodLink RX2 32 yJ7_fill_53178, Cond.static yJ7_fill_53178, Cond.initialized RJ7, Cond.code yJ7_fill_53178 cJ7_fill_53178 4 none, Cond.methodLink RX2 38 yX2_weighHour, Cond.instanceMethod yX2_weighHour, Cond.selects RX2 yX2_weighHour yX2_weighHour, Cond.code yX2_weighHour cX2_weighHour 8 none, Cond.constant RX2 48 (2147483647), Cond.fieldLink RX2 16 "LatestSets$Choices" "pick" "[[I", Cond.methodLink RX2 42 yX2_nextIf, Cond.instanceMethod yX2_nextIf, Cond.selects RX2 yX2_nextIf yX2_nextIf, Cond.code yX2_nextIf cX2_nextIf 4 (some .int)]
def wsX7_choice_r3 : List Cond := [Cond.fieldLink RX2 52 "LatestSets$Board" "trial" "[I", Cond.fieldLink RX2 55 "LatestSets$Board" "guild" "LLatestSets$Guild;", Cond.fieldLink RX2 59 "LatestSets$Guild" "law" "LLatestSets$Law;", Cond.methodLink RX2 65 yX0_nextHour, Cond.instanceMethod yX0_nextHour, Cond.selects RX0 yX0_nextHour yX0_nextHour, Cond.code yX0_nextHour cX0_nextHour 6 (some .int), Cond.fieldLink RX0 36 "LatestSets$Guild" "count" "I", Cond.fieldLink RX0 40 "LatestSets$Guild" "early" "[I", Cond.methodLink RX0 55 Lib.Math.min.name, Cond.static Lib.Math.min.name, Cond.initialized "java/lang/Math", Cond.code Lib.Math.min.name Lib.Math.min.code 2 (some .int), Cond.methodLink RX0 61 Lib.Math.max.name, Cond.static Lib.Math.max.name, Cond.code Lib.Math.max.name Lib.Math.max.code 2 (some .int), Cond.static yX7_comingAt, Cond.code yX7_comingAt cX7_comingAt 3 (some .int), Cond.methodLink RX7 213 Lib.Math.max.name, Cond.methodLink RX7 218 Lib.Math.min.name, Cond.methodLink RX0 47 yX0_insert, Cond.instanceMethod yX0_insert, Cond.selects RX0 yX0_insert yX0_insert, Cond.code yX0_insert cX0_insert 4 none]
def wsX7_choice_r4 : List Cond := [Cond.fieldLink RX0 15 "LatestSets$Board" "came" "[I", Cond.methodLink RX0 51 yX0_madeBy, Cond.instanceMethod yX0_madeBy, Cond.selects RX0 yX0_madeBy yX0_madeBy, Cond.code yX0_madeBy cX0_madeBy 6 (some .int), Cond.fieldLink RX0 92 "LatestSets$Board" "height" "I", Cond.fieldLink RX0 95 "LatestSets$Law" "length" "I", Cond.fieldLink RX0 100 "LatestSets$Law" "signs" "[I", Cond.methodLink RX0 103 yX0_pop, Cond.instanceMethod yX0_pop, Cond.selects RX0 yX0_pop yX0_pop, Cond.code yX0_pop cX0_pop 1 (some .int), Cond.fieldLink RX0 18 "LatestSets$Board" "stack" "[I", Cond.methodLink RX0 107 yX0_push, Cond.instanceMethod yX0_push, Cond.selects RX0 yX0_push yX0_push, Cond.code yX0_push cX0_push 2 none, Cond.methodLink RX0 111 yX0_placeOf, Cond.instanceMethod yX0_placeOf, Cond.selects RX0 yX0_placeOf yX0_placeOf, Cond.code yX0_placeOf cX0_placeOf 3 (some .int), Cond.methodLink RX2 49 yX2_costOf, Cond.instanceMethod yX2_costOf, Cond.selects RX2 yX2_costOf yX2_costOf]
def wsX7_choice_r5 : List Cond := [Cond.code yX2_costOf cX2_costOf 4 (some .int), Cond.fieldLink RX2 69 "LatestSets$Guild" "best" "[I", Cond.methodLink RX2 72 Lib.Math.abs.name, Cond.static Lib.Math.abs.name, Cond.code Lib.Math.abs.name Lib.Math.abs.code 1 (some .int), Cond.fieldLink RX2 78 "LatestSets$Guild" "fineEach" "I", Cond.methodLink RX7 143 yX2_leastCost, Cond.instanceMethod yX2_leastCost, Cond.selects RX2 yX2_leastCost yX2_leastCost, Cond.code yX2_leastCost cX2_leastCost 2 (some .int), Cond.methodLink RX7 146 yX2_lateInWeek, Cond.instanceMethod yX2_lateInWeek, Cond.selects RX2 yX2_lateInWeek yX2_lateInWeek, Cond.code yX2_lateInWeek cX2_lateInWeek 6 (some .int)]
def wsX7_choice : List Cond := .code yX7_choice cX7_choice 5 (some .int) :: ((wsX7_choice_r1 ++ (wsX7_choice_r2 ++ (wsX7_choice_r3 ++ (wsX7_choice_r4 ++ wsX7_choice_r5)))) ++ wsX70 ++ wsX30 ++ wsX20 ++ wsX00 ++ wsX40)
def wsX7_rests_r1 : List Cond := [Cond.fieldLink RX7 44 "LatestSets" "choices" "LLatestSets$Choices;", Cond.methodLink RX7 108 yX7_isHour, Cond.static yX7_isHour, Cond.initialized RX7, Cond.code yX7_isHour cX7_isHour 1 (some .boolean), Cond.methodLink RX7 149 yX2_tabulate, Cond.instanceMethod yX2_tabulate, Cond.selects RX2 yX2_tabulate yX2_tabulate, Cond.initialized RX2, Cond.code yX2_tabulate cX2_tabulate 5 none, Cond.fieldLink RX2 23 "LatestSets$Choices" "board" "LLatestSets$Board;", Cond.fieldLink RX2 55 "LatestSets$Board" "guild" "LLatestSets$Guild;", Cond.fieldLink RX2 86 "LatestSets$Guild" "count" "I", Cond.fieldLink RX2 52 "LatestSets$Board" "trial" "[I", Cond.fieldLink RX2 19 "LatestSets$Choices" "nextBy" "[I", Cond.fieldLink RX2 59 "LatestSets$Guild" "law" "LLatestSets$Law;", Cond.methodLink RX2 82 yX2_restWays, Cond.instanceMethod yX2_restWays, Cond.selects RX2 yX2_restWays yX2_restWays, Cond.code yX2_restWays cX2_restWays 1 (some .int), Cond.methodLink RX2 100 Lib.Math.min.name, Cond.static Lib.Math.min.name, Cond.initialized "java/lang/Math", Cond.code Lib.Math.min.name Lib.Math.min.code 2 (some .int)]
def wsX7_rests_r2 : List Cond := [Cond.methodLink RX2 89 yX2_lateIn, Cond.instanceMethod yX2_lateIn, Cond.selects RX2 yX2_lateIn yX2_lateIn, Cond.code yX2_lateIn cX2_lateIn 3 (some .int), Cond.methodLink RX2 103 yX2_shiftOf, Cond.instanceMethod yX2_shiftOf, Cond.selects RX2 yX2_shiftOf yX2_shiftOf, Cond.code yX2_shiftOf cX2_shiftOf 2 (some .int), Cond.methodLink RX2 65 yX0_nextHour, Cond.instanceMethod yX0_nextHour, Cond.selects RX0 yX0_nextHour yX0_nextHour, Cond.initialized RX0, Cond.code yX0_nextHour cX0_nextHour 6 (some .int), Cond.fieldLink RX0 21 "LatestSets$Board" "guild" "LLatestSets$Guild;", Cond.fieldLink RX0 36 "LatestSets$Guild" "count" "I", Cond.fieldLink RX0 40 "LatestSets$Guild" "early" "[I", Cond.methodLink RX0 55 Lib.Math.min.name, Cond.methodLink RX0 61 Lib.Math.max.name, Cond.static Lib.Math.max.name, Cond.code Lib.Math.max.name Lib.Math.max.code 2 (some .int), Cond.static yX7_comingAt, Cond.code yX7_comingAt cX7_comingAt 3 (some .int), Cond.methodLink RX7 213 Lib.Math.max.name, Cond.methodLink RX7 218 Lib.Math.min.name]
def wsX7_rests_r3 : List Cond := [Cond.methodLink RX0 47 yX0_insert, Cond.instanceMethod yX0_insert, Cond.selects RX0 yX0_insert yX0_insert, Cond.code yX0_insert cX0_insert 4 none, Cond.fieldLink RX0 15 "LatestSets$Board" "came" "[I", Cond.methodLink RX0 51 yX0_madeBy, Cond.instanceMethod yX0_madeBy, Cond.selects RX0 yX0_madeBy yX0_madeBy, Cond.code yX0_madeBy cX0_madeBy 6 (some .int), Cond.fieldLink RX0 92 "LatestSets$Board" "height" "I", Cond.fieldLink RX0 95 "LatestSets$Law" "length" "I", Cond.fieldLink RX0 100 "LatestSets$Law" "signs" "[I", Cond.methodLink RX0 103 yX0_pop, Cond.instanceMethod yX0_pop, Cond.selects RX0 yX0_pop yX0_pop, Cond.code yX0_pop cX0_pop 1 (some .int), Cond.fieldLink RX0 18 "LatestSets$Board" "stack" "[I", Cond.methodLink RX0 107 yX0_push, Cond.instanceMethod yX0_push, Cond.selects RX0 yX0_push yX0_push, Cond.code yX0_push cX0_push 2 none, Cond.methodLink RX0 111 yX0_placeOf, Cond.instanceMethod yX0_placeOf, Cond.selects RX0 yX0_placeOf yX0_placeOf]
def wsX7_rests_r4 : List Cond := [Cond.code yX0_placeOf cX0_placeOf 3 (some .int), Cond.methodLink RX7 152 yX2_restCount, Cond.instanceMethod yX2_restCount, Cond.selects RX2 yX2_restCount yX2_restCount, Cond.code yX2_restCount cX2_restCount 4 (some .int), Cond.methodLink RX2 93 yX2_isRest, Cond.instanceMethod yX2_isRest, Cond.selects RX2 yX2_isRest yX2_isRest, Cond.code yX2_isRest cX2_isRest 8 (some .boolean), Cond.methodLink RX2 49 yX2_costOf, Cond.instanceMethod yX2_costOf, Cond.selects RX2 yX2_costOf yX2_costOf, Cond.code yX2_costOf cX2_costOf 4 (some .int), Cond.fieldLink RX2 69 "LatestSets$Guild" "best" "[I", Cond.methodLink RX2 72 Lib.Math.abs.name, Cond.static Lib.Math.abs.name, Cond.code Lib.Math.abs.name Lib.Math.abs.code 1 (some .int), Cond.fieldLink RX2 78 "LatestSets$Guild" "fineEach" "I", Cond.methodLink RX7 155 yX2_restAt, Cond.instanceMethod yX2_restAt, Cond.selects RX2 yX2_restAt yX2_restAt, Cond.code yX2_restAt cX2_restAt 5 (some .int), Cond.methodLink RX2 97 yX2_digitsOf, Cond.instanceMethod yX2_digitsOf]
def wsX7_rests_r5 : List Cond := [Cond.selects RX2 yX2_digitsOf yX2_digitsOf, Cond.code yX2_digitsOf cX2_digitsOf 4 (some .int)]
def wsX7_rests : List Cond := .code yX7_rests cX7_rests 3 (some .int) :: ((wsX7_rests_r1 ++ (wsX7_rests_r2 ++ (wsX7_rests_r3 ++ (wsX7_rests_r4 ++ wsX7_rests_r5)))) ++ wsX70 ++ wsX20 ++ wsX00 ++ wsX30 ++ wsX40)
def wsX7_laws_r1 : List Cond := [Cond.fieldLink RX7 37 "LatestSets" "ring" "LLatestSets$Ring;", Cond.methodLink RX7 108 yX7_isHour, Cond.static yX7_isHour, Cond.initialized RX7, Cond.code yX7_isHour cX7_isHour 1 (some .boolean), Cond.methodLink RX7 59 yX7_within, Cond.static yX7_within, Cond.code yX7_within cX7_within 3 (some .boolean), Cond.methodLink RX7 158 yX6_bestToldLaw, Cond.instanceMethod yX6_bestToldLaw, Cond.selects RX6 yX6_bestToldLaw yX6_bestToldLaw, Cond.initialized RX6, Cond.code yX6_bestToldLaw cX6_bestToldLaw 7 (some .int), Cond.constant RX6 59 (2147483647), Cond.fieldLink RX6 22 "LatestSets$Ring" "board" "LLatestSets$Board;", Cond.fieldLink RX6 32 "LatestSets$Board" "guild" "LLatestSets$Guild;", Cond.methodLink RX6 60 yX6_restUnder, Cond.instanceMethod yX6_restUnder, Cond.selects RX6 yX6_restUnder yX6_restUnder, Cond.code yX6_restUnder cX6_restUnder 3 (some .int), Cond.fieldLink RX6 12 "LatestSets$Ring" "toldLaw" "LLatestSets$Law;", Cond.fieldLink RX6 51 "LatestSets$Ring" "length" "I", Cond.fieldLink RX6 54 "LatestSets$Ring" "least" "I", Cond.methodLink RX6 68 yX4_takeNumber]
def wsX7_laws_r2 : List Cond := [Cond.instanceMethod yX4_takeNumber, Cond.selects RX4 yX4_takeNumber yX4_takeNumber, Cond.initialized RX4, Cond.code yX4_takeNumber cX4_takeNumber 2 none, Cond.fieldLink RX4 9 "LatestSets$Law" "signs" "[I", Cond.fieldLink RX4 15 "LatestSets$Law" "length" "I", Cond.methodLink RX4 31 yX4_signOf, Cond.static yX4_signOf, Cond.code yX4_signOf cX4_signOf 1 (some .int), Cond.methodLink RX6 72 yX6_follow, Cond.instanceMethod yX6_follow, Cond.selects RX6 yX6_follow yX6_follow, Cond.code yX6_follow cX6_follow 6 none, Cond.fieldLink RX6 18 "LatestSets$Ring" "firstWeek" "[I", Cond.fieldLink RX6 38 "LatestSets$Guild" "late" "[I", Cond.fieldLink RX6 47 "LatestSets$Ring" "ahead" "I", Cond.methodLink RX6 26 yJ7_fill_53178, Cond.static yJ7_fill_53178, Cond.initialized RJ7, Cond.code yJ7_fill_53178 cJ7_fill_53178 4 none, Cond.methodLink RX6 43 yX0_nextHour, Cond.instanceMethod yX0_nextHour, Cond.selects RX0 yX0_nextHour yX0_nextHour, Cond.initialized RX0]
def wsX7_laws_r3 : List Cond := [Cond.code yX0_nextHour cX0_nextHour 6 (some .int), Cond.fieldLink RX0 21 "LatestSets$Board" "guild" "LLatestSets$Guild;", Cond.fieldLink RX0 36 "LatestSets$Guild" "count" "I", Cond.fieldLink RX0 40 "LatestSets$Guild" "early" "[I", Cond.methodLink RX0 55 Lib.Math.min.name, Cond.static Lib.Math.min.name, Cond.initialized "java/lang/Math", Cond.code Lib.Math.min.name Lib.Math.min.code 2 (some .int), Cond.methodLink RX0 61 Lib.Math.max.name, Cond.static Lib.Math.max.name, Cond.code Lib.Math.max.name Lib.Math.max.code 2 (some .int), Cond.static yX7_comingAt, Cond.code yX7_comingAt cX7_comingAt 3 (some .int), Cond.methodLink RX7 213 Lib.Math.max.name, Cond.methodLink RX7 218 Lib.Math.min.name, Cond.methodLink RX0 47 yX0_insert, Cond.instanceMethod yX0_insert, Cond.selects RX0 yX0_insert yX0_insert, Cond.code yX0_insert cX0_insert 4 none, Cond.fieldLink RX0 15 "LatestSets$Board" "came" "[I", Cond.methodLink RX0 51 yX0_madeBy, Cond.instanceMethod yX0_madeBy, Cond.selects RX0 yX0_madeBy yX0_madeBy, Cond.code yX0_madeBy cX0_madeBy 6 (some .int)]
def wsX7_laws_r4 : List Cond := [Cond.fieldLink RX0 92 "LatestSets$Board" "height" "I", Cond.fieldLink RX0 95 "LatestSets$Law" "length" "I", Cond.fieldLink RX0 100 "LatestSets$Law" "signs" "[I", Cond.methodLink RX0 103 yX0_pop, Cond.instanceMethod yX0_pop, Cond.selects RX0 yX0_pop yX0_pop, Cond.code yX0_pop cX0_pop 1 (some .int), Cond.fieldLink RX0 18 "LatestSets$Board" "stack" "[I", Cond.methodLink RX0 107 yX0_push, Cond.instanceMethod yX0_push, Cond.selects RX0 yX0_push yX0_push, Cond.code yX0_push cX0_push 2 none, Cond.methodLink RX0 111 yX0_placeOf, Cond.instanceMethod yX0_placeOf, Cond.selects RX0 yX0_placeOf yX0_placeOf, Cond.code yX0_placeOf cX0_placeOf 3 (some .int), Cond.methodLink RX6 64 yX3_farFromBest, Cond.instanceMethod yX3_farFromBest, Cond.selects RX3 yX3_farFromBest yX3_farFromBest, Cond.initialized RX3, Cond.code yX3_farFromBest cX3_farFromBest 4 (some .int), Cond.fieldLink RX3 38 "LatestSets$Guild" "count" "I", Cond.fieldLink RX3 18 "LatestSets$Guild" "best" "[I", Cond.methodLink RX3 73 Lib.Math.abs.name]
def wsX7_laws_r5 : List Cond := [Cond.static Lib.Math.abs.name, Cond.code Lib.Math.abs.name Lib.Math.abs.code 1 (some .int), Cond.methodLink RX7 161 yX6_restUnder]
def wsX7_laws : List Cond := .code yX7_laws cX7_laws 4 (some .int) :: ((wsX7_laws_r1 ++ (wsX7_laws_r2 ++ (wsX7_laws_r3 ++ (wsX7_laws_r4 ++ wsX7_laws_r5)))) ++ wsX70 ++ wsX60 ++ wsX00 ++ wsX40 ++ wsX30)
def wsX7_move_r1 : List Cond := [Cond.fieldLink RX7 44 "LatestSets" "choices" "LLatestSets$Choices;", Cond.methodLink RX7 108 yX7_isHour, Cond.static yX7_isHour, Cond.initialized RX7, Cond.code yX7_isHour cX7_isHour 1 (some .boolean), Cond.methodLink RX7 59 yX7_within, Cond.static yX7_within, Cond.code yX7_within cX7_within 3 (some .boolean), Cond.methodLink RX7 165 yX2_leastMovers, Cond.instanceMethod yX2_leastMovers, Cond.selects RX2 yX2_leastMovers yX2_leastMovers, Cond.initialized RX2, Cond.code yX2_leastMovers cX2_leastMovers 7 (some .int), Cond.fieldLink RX2 23 "LatestSets$Choices" "board" "LLatestSets$Board;", Cond.fieldLink RX2 55 "LatestSets$Board" "guild" "LLatestSets$Guild;", Cond.fieldLink RX2 86 "LatestSets$Guild" "count" "I", Cond.methodLink RX2 106 yJ6_bitCount_0f7a4, Cond.static yJ6_bitCount_0f7a4, Cond.initialized RJ6, Cond.code yJ6_bitCount_0f7a4 cJ6_bitCount_0f7a4 1 (some .int), Cond.constant RJ6 265 (1431655765), Cond.constant RJ6 266 (858993459), Cond.constant RJ6 267 (252645135), Cond.methodLink RX2 109 yX2_canMove]
def wsX7_move_r2 : List Cond := [Cond.instanceMethod yX2_canMove, Cond.selects RX2 yX2_canMove yX2_canMove, Cond.code yX2_canMove cX2_canMove 8 (some .boolean), Cond.fieldLink RX2 52 "LatestSets$Board" "trial" "[I", Cond.methodLink RX2 27 yX0_tryAsTold, Cond.instanceMethod yX0_tryAsTold, Cond.selects RX0 yX0_tryAsTold yX0_tryAsTold, Cond.initialized RX0, Cond.code yX0_tryAsTold cX0_tryAsTold 1 none, Cond.fieldLink RX0 21 "LatestSets$Board" "guild" "LLatestSets$Guild;", Cond.fieldLink RX0 25 "LatestSets$Guild" "late" "[I", Cond.fieldLink RX0 9 "LatestSets$Board" "trial" "[I", Cond.methodLink RX0 30 arraycopyName, Cond.native arraycopyName, Cond.static arraycopyName, Cond.initialized "java/lang/System", Cond.methodLink RX2 113 yX2_tryWay, Cond.instanceMethod yX2_tryWay, Cond.selects RX2 yX2_tryWay yX2_tryWay, Cond.code yX2_tryWay cX2_tryWay 6 none, Cond.fieldLink RX2 121 "LatestSets$Guild" "late" "[I", Cond.methodLink RX2 117 yX0_hourAfter, Cond.instanceMethod yX0_hourAfter, Cond.selects RX0 yX0_hourAfter yX0_hourAfter]
def wsX7_move_r3 : List Cond := [Cond.code yX0_hourAfter cX0_hourAfter 7 (some .int), Cond.fieldLink RX0 64 "LatestSets$Guild" "law" "LLatestSets$Law;", Cond.methodLink RX0 68 yX0_nextHour, Cond.instanceMethod yX0_nextHour, Cond.selects RX0 yX0_nextHour yX0_nextHour, Cond.code yX0_nextHour cX0_nextHour 6 (some .int), Cond.fieldLink RX0 36 "LatestSets$Guild" "count" "I", Cond.fieldLink RX0 40 "LatestSets$Guild" "early" "[I", Cond.methodLink RX0 55 Lib.Math.min.name, Cond.static Lib.Math.min.name, Cond.initialized "java/lang/Math", Cond.code Lib.Math.min.name Lib.Math.min.code 2 (some .int), Cond.methodLink RX0 61 Lib.Math.max.name, Cond.static Lib.Math.max.name, Cond.code Lib.Math.max.name Lib.Math.max.code 2 (some .int), Cond.static yX7_comingAt, Cond.code yX7_comingAt cX7_comingAt 3 (some .int), Cond.methodLink RX7 213 Lib.Math.max.name, Cond.methodLink RX7 218 Lib.Math.min.name, Cond.methodLink RX0 47 yX0_insert, Cond.instanceMethod yX0_insert, Cond.selects RX0 yX0_insert yX0_insert, Cond.code yX0_insert cX0_insert 4 none, Cond.fieldLink RX0 15 "LatestSets$Board" "came" "[I"]
def wsX7_move_r4 : List Cond := [Cond.methodLink RX0 51 yX0_madeBy, Cond.instanceMethod yX0_madeBy, Cond.selects RX0 yX0_madeBy yX0_madeBy, Cond.code yX0_madeBy cX0_madeBy 6 (some .int), Cond.fieldLink RX0 92 "LatestSets$Board" "height" "I", Cond.fieldLink RX0 95 "LatestSets$Law" "length" "I", Cond.fieldLink RX0 100 "LatestSets$Law" "signs" "[I", Cond.methodLink RX0 103 yX0_pop, Cond.instanceMethod yX0_pop, Cond.selects RX0 yX0_pop yX0_pop, Cond.code yX0_pop cX0_pop 1 (some .int), Cond.fieldLink RX0 18 "LatestSets$Board" "stack" "[I", Cond.methodLink RX0 107 yX0_push, Cond.instanceMethod yX0_push, Cond.selects RX0 yX0_push yX0_push, Cond.code yX0_push cX0_push 2 none, Cond.methodLink RX0 111 yX0_placeOf, Cond.instanceMethod yX0_placeOf, Cond.selects RX0 yX0_placeOf yX0_placeOf, Cond.code yX0_placeOf cX0_placeOf 3 (some .int)]
def wsX7_move : List Cond := .code yX7_move cX7_move 4 (some .int) :: ((wsX7_move_r1 ++ (wsX7_move_r2 ++ (wsX7_move_r3 ++ wsX7_move_r4))) ++ wsX70 ++ wsX20 ++ wsX00 ++ wsX30 ++ wsX40)
def wsX7_seen : List Cond := .code yX7_seen cX7_seen 3 (some .int) :: ([.fieldLink RX7 15 "LatestSets" "guild" "LLatestSets$Guild;", .fieldLink RX7 168 "LatestSets$Guild" "sights" "I", .methodLink RX7 59 yX7_within, .static yX7_within, .initialized RX7, .code yX7_within cX7_within 3 (some .boolean), .methodLink RX7 108 yX7_isHour, .static yX7_isHour, .code yX7_isHour cX7_isHour 1 (some .boolean), .methodLink RX7 171 yX3_addSight, .instanceMethod yX3_addSight, .selects RX3 yX3_addSight yX3_addSight, .initialized RX3, .code yX3_addSight cX3_addSight 3 (some .int), .fieldLink RX3 47 "LatestSets$Guild" "sights" "I", .fieldLink RX3 28 "LatestSets$Guild" "sightWeek" "[I", .fieldLink RX3 31 "LatestSets$Guild" "sightHour" "[I"] ++ wsX70 ++ wsX30)
def wsX7_forget : List Cond := .code yX7_forget cX7_forget 2 (some .int) :: ([.fieldLink RX7 15 "LatestSets" "guild" "LLatestSets$Guild;", .fieldLink RX7 168 "LatestSets$Guild" "sights" "I"] ++ wsX70 ++ wsX30)
def wsX7_could_r1 : List Cond := [Cond.fieldLink RX7 15 "LatestSets" "guild" "LLatestSets$Guild;", Cond.fieldLink RX7 21 "LatestSets" "board" "LLatestSets$Board;", Cond.methodLink RX7 71 yX3_has, Cond.instanceMethod yX3_has, Cond.selects RX3 yX3_has yX3_has, Cond.initialized RX3, Cond.code yX3_has cX3_has 2 (some .boolean), Cond.fieldLink RX3 38 "LatestSets$Guild" "count" "I", Cond.methodLink RX7 108 yX7_isHour, Cond.static yX7_isHour, Cond.initialized RX7, Cond.code yX7_isHour cX7_isHour 1 (some .boolean), Cond.methodLink RX7 174 yX0_latesThatFit, Cond.instanceMethod yX0_latesThatFit, Cond.selects RX0 yX0_latesThatFit yX0_latesThatFit, Cond.initialized RX0, Cond.code yX0_latesThatFit cX0_latesThatFit 5 (some .int), Cond.fieldLink RX0 9 "LatestSets$Board" "trial" "[I", Cond.methodLink RX0 72 yX0_tryAsTold, Cond.instanceMethod yX0_tryAsTold, Cond.selects RX0 yX0_tryAsTold yX0_tryAsTold, Cond.code yX0_tryAsTold cX0_tryAsTold 1 none, Cond.fieldLink RX0 21 "LatestSets$Board" "guild" "LLatestSets$Guild;", Cond.fieldLink RX0 25 "LatestSets$Guild" "late" "[I"]
def wsX7_could_r2 : List Cond := [Cond.methodLink RX0 30 arraycopyName, Cond.native arraycopyName, Cond.static arraycopyName, Cond.initialized "java/lang/System", Cond.methodLink RX0 75 yX0_allSightsHold, Cond.instanceMethod yX0_allSightsHold, Cond.selects RX0 yX0_allSightsHold yX0_allSightsHold, Cond.code yX0_allSightsHold cX0_allSightsHold 3 (some .boolean), Cond.fieldLink RX0 79 "LatestSets$Guild" "sights" "I", Cond.fieldLink RX0 82 "LatestSets$Guild" "sightWeek" "[I", Cond.fieldLink RX0 89 "LatestSets$Guild" "sightHour" "[I", Cond.methodLink RX0 85 yX0_hourAfter, Cond.instanceMethod yX0_hourAfter, Cond.selects RX0 yX0_hourAfter yX0_hourAfter, Cond.code yX0_hourAfter cX0_hourAfter 7 (some .int), Cond.fieldLink RX0 64 "LatestSets$Guild" "law" "LLatestSets$Law;", Cond.methodLink RX0 68 yX0_nextHour, Cond.instanceMethod yX0_nextHour, Cond.selects RX0 yX0_nextHour yX0_nextHour, Cond.code yX0_nextHour cX0_nextHour 6 (some .int), Cond.fieldLink RX0 36 "LatestSets$Guild" "count" "I", Cond.fieldLink RX0 40 "LatestSets$Guild" "early" "[I", Cond.methodLink RX0 55 Lib.Math.min.name, Cond.static Lib.Math.min.name]
def wsX7_could_r3 : List Cond := [Cond.initialized "java/lang/Math", Cond.code Lib.Math.min.name Lib.Math.min.code 2 (some .int), Cond.methodLink RX0 61 Lib.Math.max.name, Cond.static Lib.Math.max.name, Cond.code Lib.Math.max.name Lib.Math.max.code 2 (some .int), Cond.static yX7_comingAt, Cond.code yX7_comingAt cX7_comingAt 3 (some .int), Cond.methodLink RX7 213 Lib.Math.max.name, Cond.methodLink RX7 218 Lib.Math.min.name, Cond.methodLink RX0 47 yX0_insert, Cond.instanceMethod yX0_insert, Cond.selects RX0 yX0_insert yX0_insert, Cond.code yX0_insert cX0_insert 4 none, Cond.fieldLink RX0 15 "LatestSets$Board" "came" "[I", Cond.methodLink RX0 51 yX0_madeBy, Cond.instanceMethod yX0_madeBy, Cond.selects RX0 yX0_madeBy yX0_madeBy, Cond.code yX0_madeBy cX0_madeBy 6 (some .int), Cond.fieldLink RX0 92 "LatestSets$Board" "height" "I", Cond.fieldLink RX0 95 "LatestSets$Law" "length" "I", Cond.fieldLink RX0 100 "LatestSets$Law" "signs" "[I", Cond.methodLink RX0 103 yX0_pop, Cond.instanceMethod yX0_pop, Cond.selects RX0 yX0_pop yX0_pop]
def wsX7_could_r4 : List Cond := [Cond.code yX0_pop cX0_pop 1 (some .int), Cond.fieldLink RX0 18 "LatestSets$Board" "stack" "[I", Cond.methodLink RX0 107 yX0_push, Cond.instanceMethod yX0_push, Cond.selects RX0 yX0_push yX0_push, Cond.code yX0_push cX0_push 2 none, Cond.methodLink RX0 111 yX0_placeOf, Cond.instanceMethod yX0_placeOf, Cond.selects RX0 yX0_placeOf yX0_placeOf, Cond.code yX0_placeOf cX0_placeOf 3 (some .int)]
def wsX7_could : List Cond := .code yX7_could cX7_could 3 (some .int) :: ((wsX7_could_r1 ++ (wsX7_could_r2 ++ (wsX7_could_r3 ++ wsX7_could_r4))) ++ wsX70 ++ wsX30 ++ wsX00 ++ wsX40)
def wsX7_rain_r1 : List Cond := [Cond.constantLong RX7 177 (-1000000000000000002), Cond.fieldLink RX7 51 "LatestSets" "chance" "LLatestSets$Chance;", Cond.fieldLink RX7 183 "LatestSets$Chance" "upper" "J", Cond.fieldLink RX7 187 "LatestSets$Chance" "lower" "J", Cond.methodLink RX7 108 yX7_isHour, Cond.static yX7_isHour, Cond.initialized RX7, Cond.code yX7_isHour cX7_isHour 1 (some .boolean), Cond.methodLink RX7 59 yX7_within, Cond.static yX7_within, Cond.code yX7_within cX7_within 3 (some .boolean), Cond.methodLink RX7 179 yX1_rainOn, Cond.instanceMethod yX1_rainOn, Cond.selects RX1 yX1_rainOn yX1_rainOn, Cond.initialized RX1, Cond.code yX1_rainOn cX1_rainOn 6 none, Cond.fieldLink RX1 9 "LatestSets$Chance" "weight" "[J", Cond.fieldLink RX1 28 "LatestSets$Chance" "lower" "J", Cond.constantLong RX1 36 (10), Cond.fieldLink RX1 38 "LatestSets$Chance" "upper" "J", Cond.constantLong RX1 41 (2), Cond.constantLong RX1 47 (5), Cond.methodLink RX1 22 yJ7_fill_d0a16, Cond.static yJ7_fill_d0a16]
def wsX7_rain_r2 : List Cond := [Cond.initialized RJ7, Cond.code yJ7_fill_d0a16 cJ7_fill_d0a16 5 none, Cond.methodLink RX1 32 yX1_rainOneWeek, Cond.instanceMethod yX1_rainOneWeek, Cond.selects RX1 yX1_rainOneWeek yX1_rainOneWeek, Cond.code yX1_rainOneWeek cX1_rainOneWeek 6 none, Cond.fieldLink RX1 15 "LatestSets$Chance" "nextWeight" "[J", Cond.fieldLink RX1 18 "LatestSets$Chance" "board" "LLatestSets$Board;", Cond.fieldLink RX1 49 "LatestSets$Board" "guild" "LLatestSets$Guild;", Cond.fieldLink RX1 55 "LatestSets$Guild" "law" "LLatestSets$Law;", Cond.fieldLink RX1 61 "LatestSets$Guild" "late" "[I", Cond.methodLink RX1 69 arraycopyName, Cond.native arraycopyName, Cond.static arraycopyName, Cond.initialized "java/lang/System", Cond.methodLink RX1 65 yX0_nextHour, Cond.instanceMethod yX0_nextHour, Cond.selects RX0 yX0_nextHour yX0_nextHour, Cond.initialized RX0, Cond.code yX0_nextHour cX0_nextHour 6 (some .int), Cond.fieldLink RX0 21 "LatestSets$Board" "guild" "LLatestSets$Guild;", Cond.fieldLink RX0 36 "LatestSets$Guild" "count" "I", Cond.fieldLink RX0 40 "LatestSets$Guild" "early" "[I", Cond.methodLink RX0 55 Lib.Math.min.name]
def wsX7_rain_r3 : List Cond := [Cond.static Lib.Math.min.name, Cond.initialized "java/lang/Math", Cond.code Lib.Math.min.name Lib.Math.min.code 2 (some .int), Cond.methodLink RX0 61 Lib.Math.max.name, Cond.static Lib.Math.max.name, Cond.code Lib.Math.max.name Lib.Math.max.code 2 (some .int), Cond.static yX7_comingAt, Cond.code yX7_comingAt cX7_comingAt 3 (some .int), Cond.methodLink RX7 213 Lib.Math.max.name, Cond.methodLink RX7 218 Lib.Math.min.name, Cond.methodLink RX0 47 yX0_insert, Cond.instanceMethod yX0_insert, Cond.selects RX0 yX0_insert yX0_insert, Cond.code yX0_insert cX0_insert 4 none, Cond.fieldLink RX0 15 "LatestSets$Board" "came" "[I", Cond.methodLink RX0 51 yX0_madeBy, Cond.instanceMethod yX0_madeBy, Cond.selects RX0 yX0_madeBy yX0_madeBy, Cond.code yX0_madeBy cX0_madeBy 6 (some .int), Cond.fieldLink RX0 92 "LatestSets$Board" "height" "I", Cond.fieldLink RX0 95 "LatestSets$Law" "length" "I", Cond.fieldLink RX0 100 "LatestSets$Law" "signs" "[I", Cond.methodLink RX0 103 yX0_pop, Cond.instanceMethod yX0_pop]
def wsX7_rain_r4 : List Cond := [Cond.selects RX0 yX0_pop yX0_pop, Cond.code yX0_pop cX0_pop 1 (some .int), Cond.fieldLink RX0 18 "LatestSets$Board" "stack" "[I", Cond.methodLink RX0 107 yX0_push, Cond.instanceMethod yX0_push, Cond.selects RX0 yX0_push yX0_push, Cond.code yX0_push cX0_push 2 none, Cond.methodLink RX0 111 yX0_placeOf, Cond.instanceMethod yX0_placeOf, Cond.selects RX0 yX0_placeOf yX0_placeOf, Cond.code yX0_placeOf cX0_placeOf 3 (some .int), Cond.methodLink RX1 43 yX1_cancel, Cond.instanceMethod yX1_cancel, Cond.selects RX1 yX1_cancel yX1_cancel, Cond.code yX1_cancel cX1_cancel 5 none]
def wsX7_rain : List Cond := .code yX7_rain cX7_rain 6 (some .long) :: ((wsX7_rain_r1 ++ (wsX7_rain_r2 ++ (wsX7_rain_r3 ++ wsX7_rain_r4))) ++ wsX70 ++ wsX10 ++ wsX00 ++ wsX30 ++ wsX40)
def wsX7_year_r1 : List Cond := [Cond.fieldLink RX7 51 "LatestSets" "chance" "LLatestSets$Chance;", Cond.fieldLink RX7 194 "LatestSets$Chance" "lastHour" "I", Cond.fieldLink RX7 197 "LatestSets$Chance" "latestHour" "I", Cond.fieldLink RX7 200 "LatestSets$Chance" "fines" "I", Cond.methodLink RX7 59 yX7_within, Cond.static yX7_within, Cond.initialized RX7, Cond.code yX7_within cX7_within 3 (some .boolean), Cond.methodLink RX7 108 yX7_isHour, Cond.static yX7_isHour, Cond.code yX7_isHour cX7_isHour 1 (some .boolean), Cond.methodLink RX7 190 yX1_drawYear, Cond.instanceMethod yX1_drawYear, Cond.selects RX1 yX1_drawYear yX1_drawYear, Cond.initialized RX1, Cond.code yX1_drawYear cX1_drawYear 7 none, Cond.fieldLink RX1 75 "LatestSets$Chance" "lastHour" "I", Cond.fieldLink RX1 79 "LatestSets$Chance" "latestHour" "I", Cond.fieldLink RX1 82 "LatestSets$Chance" "fines" "I", Cond.fieldLink RX1 18 "LatestSets$Chance" "board" "LLatestSets$Board;", Cond.fieldLink RX1 49 "LatestSets$Board" "guild" "LLatestSets$Guild;", Cond.fieldLink RX1 85 "LatestSets$Guild" "count" "I", Cond.constant RX1 88 (65537), Cond.fieldLink RX1 89 "LatestSets$Board" "trial" "[I"]
def wsX7_year_r2 : List Cond := [Cond.fieldLink RX1 61 "LatestSets$Guild" "late" "[I", Cond.fieldLink RX1 92 "LatestSets$Guild" "fineEach" "I", Cond.fieldLink RX1 55 "LatestSets$Guild" "law" "LLatestSets$Law;", Cond.methodLink RX1 95 Lib.Math.max.name, Cond.static Lib.Math.max.name, Cond.initialized "java/lang/Math", Cond.code Lib.Math.max.name Lib.Math.max.code 2 (some .int), Cond.methodLink RX1 65 yX0_nextHour, Cond.instanceMethod yX0_nextHour, Cond.selects RX0 yX0_nextHour yX0_nextHour, Cond.initialized RX0, Cond.code yX0_nextHour cX0_nextHour 6 (some .int), Cond.fieldLink RX0 21 "LatestSets$Board" "guild" "LLatestSets$Guild;", Cond.fieldLink RX0 36 "LatestSets$Guild" "count" "I", Cond.fieldLink RX0 40 "LatestSets$Guild" "early" "[I", Cond.methodLink RX0 55 Lib.Math.min.name, Cond.static Lib.Math.min.name, Cond.code Lib.Math.min.name Lib.Math.min.code 2 (some .int), Cond.methodLink RX0 61 Lib.Math.max.name, Cond.static yX7_comingAt, Cond.code yX7_comingAt cX7_comingAt 3 (some .int), Cond.methodLink RX7 213 Lib.Math.max.name, Cond.methodLink RX7 218 Lib.Math.min.name, Cond.methodLink RX0 47 yX0_insert]
def wsX7_year_r3 : List Cond := [Cond.instanceMethod yX0_insert, Cond.selects RX0 yX0_insert yX0_insert, Cond.code yX0_insert cX0_insert 4 none, Cond.fieldLink RX0 15 "LatestSets$Board" "came" "[I", Cond.methodLink RX0 51 yX0_madeBy, Cond.instanceMethod yX0_madeBy, Cond.selects RX0 yX0_madeBy yX0_madeBy, Cond.code yX0_madeBy cX0_madeBy 6 (some .int), Cond.fieldLink RX0 92 "LatestSets$Board" "height" "I", Cond.fieldLink RX0 95 "LatestSets$Law" "length" "I", Cond.fieldLink RX0 100 "LatestSets$Law" "signs" "[I", Cond.methodLink RX0 103 yX0_pop, Cond.instanceMethod yX0_pop, Cond.selects RX0 yX0_pop yX0_pop, Cond.code yX0_pop cX0_pop 1 (some .int), Cond.fieldLink RX0 18 "LatestSets$Board" "stack" "[I", Cond.methodLink RX0 107 yX0_push, Cond.instanceMethod yX0_push, Cond.selects RX0 yX0_push yX0_push, Cond.code yX0_push cX0_push 2 none, Cond.methodLink RX0 111 yX0_placeOf, Cond.instanceMethod yX0_placeOf, Cond.selects RX0 yX0_placeOf yX0_placeOf, Cond.code yX0_placeOf cX0_placeOf 3 (some .int)]
def wsX7_year : List Cond := .code yX7_year cX7_year 5 (some .int) :: ((wsX7_year_r1 ++ (wsX7_year_r2 ++ wsX7_year_r3)) ++ wsX70 ++ wsX10 ++ wsX00 ++ wsX30 ++ wsX40)
def wsX7_image_r1 : List Cond := [Cond.fieldLink RX7 55 "LatestSets" "images" "[LLatestSets$Guild;", Cond.classLink RX7 7 RX3, Cond.instantiable RX3 9, Cond.initialized RX3, Cond.fieldLink RX7 15 "LatestSets" "guild" "LLatestSets$Guild;", Cond.methodLink RX7 59 yX7_within, Cond.static yX7_within, Cond.initialized RX7, Cond.code yX7_within cX7_within 3 (some .boolean), Cond.methodLink RX7 9 yX3_init, Cond.instanceMethod yX3_init, Cond.code yX3_init cX3_init 1 none, Cond.methodLink RX3 3 objectInit, Cond.instanceMethod objectInit, Cond.code objectInit ⟨#[0xb1]⟩ 1 none, Cond.arrayClass .int, Cond.fieldLink RX3 9 "LatestSets$Guild" "early" "[I", Cond.fieldLink RX3 15 "LatestSets$Guild" "late" "[I", Cond.fieldLink RX3 18 "LatestSets$Guild" "best" "[I", Cond.classLink RX3 21 RX4, Cond.instantiable RX4 2, Cond.initialized RX4, Cond.fieldLink RX3 24 "LatestSets$Guild" "law" "LLatestSets$Law;", Cond.fieldLink RX3 28 "LatestSets$Guild" "sightWeek" "[I"]
def wsX7_image_r2 : List Cond := [Cond.fieldLink RX3 31 "LatestSets$Guild" "sightHour" "[I", Cond.fieldLink RX3 34 "LatestSets$Guild" "fineEach" "I", Cond.fieldLink RX3 38 "LatestSets$Guild" "count" "I", Cond.methodLink RX3 23 yX4_init, Cond.instanceMethod yX4_init, Cond.code yX4_init cX4_init 1 none, Cond.methodLink RX4 3 objectInit, Cond.fieldLink RX4 9 "LatestSets$Law" "signs" "[I", Cond.fieldLink RX4 15 "LatestSets$Law" "length" "I", Cond.methodLink RX3 41 yJ7_fill_53178, Cond.static yJ7_fill_53178, Cond.initialized RJ7, Cond.code yJ7_fill_53178 cJ7_fill_53178 4 none, Cond.methodLink RX7 203 yX3_become, Cond.instanceMethod yX3_become, Cond.selects RX3 yX3_become yX3_become, Cond.code yX3_become cX3_become 2 none, Cond.fieldLink RX3 47 "LatestSets$Guild" "sights" "I", Cond.fieldLink RX3 50 "LatestSets$Law" "signs" "[I", Cond.fieldLink RX3 53 "LatestSets$Law" "length" "I", Cond.methodLink RX3 59 arraycopyName, Cond.native arraycopyName, Cond.static arraycopyName, Cond.initialized "java/lang/System"]
def wsX7_image_r3 : List Cond := [Cond.methodLink RX3 56 yX4_take, Cond.instanceMethod yX4_take, Cond.selects RX4 yX4_take yX4_take, Cond.code yX4_take cX4_take 3 none, Cond.methodLink RX4 19 Lib.Math.min.name, Cond.static Lib.Math.min.name, Cond.initialized "java/lang/Math", Cond.code Lib.Math.min.name Lib.Math.min.code 2 (some .int), Cond.methodLink RX4 25 arraycopyName]
def wsX7_image : List Cond := .code yX7_image cX7_image 3 (some .int) :: ((wsX7_image_r1 ++ (wsX7_image_r2 ++ wsX7_image_r3)) ++ wsX70 ++ wsX30 ++ wsX40)
def wsX7_restore_r1 : List Cond := [Cond.fieldLink RX7 55 "LatestSets" "images" "[LLatestSets$Guild;", Cond.fieldLink RX7 15 "LatestSets" "guild" "LLatestSets$Guild;", Cond.methodLink RX7 59 yX7_within, Cond.static yX7_within, Cond.initialized RX7, Cond.code yX7_within cX7_within 3 (some .boolean), Cond.methodLink RX7 203 yX3_become, Cond.instanceMethod yX3_become, Cond.selects RX3 yX3_become yX3_become, Cond.initialized RX3, Cond.code yX3_become cX3_become 2 none, Cond.fieldLink RX3 38 "LatestSets$Guild" "count" "I", Cond.fieldLink RX3 34 "LatestSets$Guild" "fineEach" "I", Cond.fieldLink RX3 47 "LatestSets$Guild" "sights" "I", Cond.fieldLink RX3 24 "LatestSets$Guild" "law" "LLatestSets$Law;", Cond.fieldLink RX3 50 "LatestSets$Law" "signs" "[I", Cond.fieldLink RX3 53 "LatestSets$Law" "length" "I", Cond.fieldLink RX3 9 "LatestSets$Guild" "early" "[I", Cond.methodLink RX3 59 arraycopyName, Cond.native arraycopyName, Cond.static arraycopyName, Cond.initialized "java/lang/System", Cond.fieldLink RX3 15 "LatestSets$Guild" "late" "[I", Cond.fieldLink RX3 18 "LatestSets$Guild" "best" "[I"]
def wsX7_restore_r2 : List Cond := [Cond.fieldLink RX3 28 "LatestSets$Guild" "sightWeek" "[I", Cond.fieldLink RX3 31 "LatestSets$Guild" "sightHour" "[I", Cond.methodLink RX3 56 yX4_take, Cond.instanceMethod yX4_take, Cond.selects RX4 yX4_take yX4_take, Cond.initialized RX4, Cond.code yX4_take cX4_take 3 none, Cond.methodLink RX4 19 Lib.Math.min.name, Cond.static Lib.Math.min.name, Cond.initialized "java/lang/Math", Cond.code Lib.Math.min.name Lib.Math.min.code 2 (some .int), Cond.fieldLink RX4 15 "LatestSets$Law" "length" "I", Cond.fieldLink RX4 9 "LatestSets$Law" "signs" "[I", Cond.methodLink RX4 25 arraycopyName]
def wsX7_restore : List Cond := .code yX7_restore cX7_restore 3 (some .int) :: ((wsX7_restore_r1 ++ wsX7_restore_r2) ++ wsX70 ++ wsX30 ++ wsX40)
def wsX7_toldOfRows_r1 : List Cond := [Cond.fieldLink RX7 15 "LatestSets" "guild" "LLatestSets$Guild;", Cond.fieldLink RX7 91 "LatestSets$Guild" "law" "LLatestSets$Law;", Cond.fieldLink RX7 105 "LatestSets$Law" "length" "I", Cond.fieldLink RX7 212 "LatestSets$Law" "signs" "[I", Cond.methodLink RX7 59 yX7_within, Cond.static yX7_within, Cond.initialized RX7, Cond.code yX7_within cX7_within 3 (some .boolean), Cond.methodLink RX7 209 yX3_toldOfMember, Cond.instanceMethod yX3_toldOfMember, Cond.selects RX3 yX3_toldOfMember yX3_toldOfMember, Cond.initialized RX3, Cond.code yX3_toldOfMember cX3_toldOfMember 3 (some .int), Cond.methodLink RX3 65 yX3_has, Cond.instanceMethod yX3_has, Cond.selects RX3 yX3_has yX3_has, Cond.code yX3_has cX3_has 2 (some .boolean), Cond.fieldLink RX3 38 "LatestSets$Guild" "count" "I", Cond.methodLink RX3 69 yX3_rowOf, Cond.instanceMethod yX3_rowOf, Cond.selects RX3 yX3_rowOf yX3_rowOf, Cond.code yX3_rowOf cX3_rowOf 2 (some (.array .int)), Cond.fieldLink RX3 9 "LatestSets$Guild" "early" "[I", Cond.fieldLink RX3 15 "LatestSets$Guild" "late" "[I"]
def wsX7_toldOfRows_r2 : List Cond := [Cond.fieldLink RX3 18 "LatestSets$Guild" "best" "[I"]
def wsX7_toldOfRows : List Cond := .code yX7_toldOfRows cX7_toldOfRows 2 (some .int) :: ((wsX7_toldOfRows_r1 ++ wsX7_toldOfRows_r2) ++ wsX70 ++ wsX30 ++ wsX40)
def wsX7_told_r1 : List Cond := [Cond.fieldLink RX7 28 "LatestSets" "pad" "LLatestSets$Pad;", Cond.fieldLink RX7 82 "LatestSets$Pad" "count" "I", Cond.fieldLink RX7 15 "LatestSets" "guild" "LLatestSets$Guild;", Cond.fieldLink RX7 63 "LatestSets$Guild" "count" "I", Cond.fieldLink RX7 79 "LatestSets$Guild" "fineEach" "I", Cond.fieldLink RX7 91 "LatestSets$Guild" "law" "LLatestSets$Law;", Cond.fieldLink RX7 105 "LatestSets$Law" "length" "I", Cond.fieldLink RX7 168 "LatestSets$Guild" "sights" "I", Cond.methodLink RX7 206 yX7_toldOfRows, Cond.instanceMethod yX7_toldOfRows, Cond.selects RX7 yX7_toldOfRows yX7_toldOfRows, Cond.initialized RX7, Cond.code yX7_toldOfRows cX7_toldOfRows 2 (some .int), Cond.fieldLink RX7 212 "LatestSets$Law" "signs" "[I", Cond.methodLink RX7 59 yX7_within, Cond.static yX7_within, Cond.code yX7_within cX7_within 3 (some .boolean), Cond.methodLink RX7 209 yX3_toldOfMember, Cond.instanceMethod yX3_toldOfMember, Cond.selects RX3 yX3_toldOfMember yX3_toldOfMember, Cond.initialized RX3, Cond.code yX3_toldOfMember cX3_toldOfMember 3 (some .int), Cond.methodLink RX3 65 yX3_has, Cond.instanceMethod yX3_has]
def wsX7_told_r2 : List Cond := [Cond.selects RX3 yX3_has yX3_has, Cond.code yX3_has cX3_has 2 (some .boolean), Cond.fieldLink RX3 38 "LatestSets$Guild" "count" "I", Cond.methodLink RX3 69 yX3_rowOf, Cond.instanceMethod yX3_rowOf, Cond.selects RX3 yX3_rowOf yX3_rowOf, Cond.code yX3_rowOf cX3_rowOf 2 (some (.array .int)), Cond.fieldLink RX3 9 "LatestSets$Guild" "early" "[I", Cond.fieldLink RX3 15 "LatestSets$Guild" "late" "[I", Cond.fieldLink RX3 18 "LatestSets$Guild" "best" "[I"]
def wsX7_told : List Cond := .code yX7_told cX7_told 2 (some .int) :: ((wsX7_told_r1 ++ wsX7_told_r2) ++ wsX70 ++ wsX50 ++ wsX30 ++ wsX40)
def wsX8_plain : List Cond := .code yX8_plain cX8_plain 2 none :: ([.fieldLink RX8 13 "LatestSetsModel" "early" "[I", .fieldLink RX8 17 "LatestSetsModel" "late" "[I", .fieldLink RX8 20 "LatestSetsModel" "best" "[I", .fieldLink RX8 66 "LatestSetsModel" "sights" "I"] ++ wsX80)
def wsX8_init_r1 : List Cond := [Cond.methodLink RX8 1 objectInit, Cond.instanceMethod objectInit, Cond.code objectInit ⟨#[0xb1]⟩ 1 none, Cond.fieldLink RX8 7 "LatestSetsModel" "members" "I", Cond.arrayClass .int, Cond.fieldLink RX8 13 "LatestSetsModel" "early" "[I", Cond.fieldLink RX8 17 "LatestSetsModel" "late" "[I", Cond.fieldLink RX8 20 "LatestSetsModel" "best" "[I", Cond.fieldLink RX8 23 "LatestSetsModel" "fine" "I", Cond.fieldLink RX8 26 "LatestSetsModel" "size" "I", Cond.fieldLink RX8 29 "LatestSetsModel" "text" "[I", Cond.fieldLink RX8 32 "LatestSetsModel" "sight" "[I", Cond.fieldLink RX8 35 "LatestSetsModel" "pad" "[I", Cond.fieldLink RX8 38 "LatestSetsModel" "by" "[I", Cond.fieldLink RX8 41 "LatestSetsModel" "came" "[I", Cond.fieldLink RX8 44 "LatestSetsModel" "stack" "[I", Cond.fieldLink RX8 47 "LatestSetsModel" "when" "[I", Cond.fieldLink RX8 50 "LatestSetsModel" "outcome" "[I", Cond.fieldLink RX8 53 "LatestSetsModel" "kept" "[I", Cond.fieldLink RX8 56 "LatestSetsModel" "image" "[I", Cond.arrayClass .boolean, Cond.fieldLink RX8 59 "LatestSetsModel" "isKept" "[Z", Cond.methodLink RX8 63 yX8_plain, Cond.instanceMethod yX8_plain]
def wsX8_init_r2 : List Cond := [Cond.selects RX8 yX8_plain yX8_plain, Cond.initialized RX8, Cond.code yX8_plain cX8_plain 2 none, Cond.fieldLink RX8 66 "LatestSetsModel" "sights" "I"]
def wsX8_init : List Cond := .code yX8_init cX8_init 1 none :: ((wsX8_init_r1 ++ wsX8_init_r2) ++ wsX80)
def wsX8_in : List Cond := .code yX8_in cX8_in 3 (some .boolean) :: ([])
def wsX8_has : List Cond := .code yX8_has cX8_has 2 (some .boolean) :: ([])
def wsX8_isHour : List Cond := .code yX8_isHour cX8_isHour 1 (some .boolean) :: ([.methodLink RX8 69 yX8_in, .static yX8_in, .initialized RX8, .code yX8_in cX8_in 3 (some .boolean)])
def wsX8_isMember : List Cond := .code yX8_isMember cX8_isMember 2 (some .boolean) :: ([.fieldLink RX8 7 "LatestSetsModel" "members" "I", .methodLink RX8 69 yX8_in, .static yX8_in, .initialized RX8, .code yX8_in cX8_in 3 (some .boolean)] ++ wsX80)
def wsX8_members : List Cond := .code yX8_members cX8_members 3 (some .int) :: ([.fieldLink RX8 7 "LatestSetsModel" "members" "I", .methodLink RX8 69 yX8_in, .static yX8_in, .initialized RX8, .code yX8_in cX8_in 3 (some .boolean), .methodLink RX8 63 yX8_plain, .instanceMethod yX8_plain, .selects RX8 yX8_plain yX8_plain, .code yX8_plain cX8_plain 2 none, .fieldLink RX8 13 "LatestSetsModel" "early" "[I", .fieldLink RX8 17 "LatestSetsModel" "late" "[I", .fieldLink RX8 20 "LatestSetsModel" "best" "[I", .fieldLink RX8 66 "LatestSetsModel" "sights" "I"] ++ wsX80)
def wsX8_member : List Cond := .code yX8_member cX8_member 5 (some .int) :: ([.fieldLink RX8 13 "LatestSetsModel" "early" "[I", .fieldLink RX8 17 "LatestSetsModel" "late" "[I", .fieldLink RX8 20 "LatestSetsModel" "best" "[I", .methodLink RX8 73 yX8_isMember, .instanceMethod yX8_isMember, .selects RX8 yX8_isMember yX8_isMember, .initialized RX8, .code yX8_isMember cX8_isMember 2 (some .boolean), .fieldLink RX8 7 "LatestSetsModel" "members" "I", .methodLink RX8 69 yX8_in, .static yX8_in, .code yX8_in cX8_in 3 (some .boolean)] ++ wsX80)
def wsX8_fine : List Cond := .code yX8_fine cX8_fine 3 (some .int) :: ([.fieldLink RX8 23 "LatestSetsModel" "fine" "I", .methodLink RX8 69 yX8_in, .static yX8_in, .initialized RX8, .code yX8_in cX8_in 3 (some .boolean)] ++ wsX80)
def wsX8_say : List Cond := .code yX8_say cX8_say 2 (some .int) :: ([.fieldLink RX8 77 "LatestSetsModel" "signs" "I", .fieldLink RX8 35 "LatestSetsModel" "pad" "[I", .methodLink RX8 69 yX8_in, .static yX8_in, .initialized RX8, .code yX8_in cX8_in 3 (some .boolean)] ++ wsX80)
def wsX8_wipe : List Cond := .code yX8_wipe cX8_wipe 2 (some .int) :: ([.fieldLink RX8 77 "LatestSetsModel" "signs" "I"] ++ wsX80)
def wsX8_isLeaf : List Cond := .code yX8_isLeaf cX8_isLeaf 1 (some .boolean) :: ([])
def wsX8_isPair : List Cond := .code yX8_isPair cX8_isPair 1 (some .boolean) :: ([])
def wsX8_isShift : List Cond := .code yX8_isShift cX8_isShift 1 (some .boolean) :: ([])
def wsX8_faultOf : List Cond := .code yX8_faultOf cX8_faultOf 6 (some .int) :: ([.fieldLink RX8 77 "LatestSetsModel" "signs" "I", .fieldLink RX8 35 "LatestSetsModel" "pad" "[I", .methodLink RX8 69 yX8_in, .static yX8_in, .initialized RX8, .code yX8_in cX8_in 3 (some .boolean), .methodLink RX8 80 yX8_isLeaf, .static yX8_isLeaf, .code yX8_isLeaf cX8_isLeaf 1 (some .boolean), .methodLink RX8 83 yX8_isPair, .static yX8_isPair, .code yX8_isPair cX8_isPair 1 (some .boolean), .methodLink RX8 86 yX8_isShift, .static yX8_isShift, .code yX8_isShift cX8_isShift 1 (some .boolean)] ++ wsX80)
def wsX8_fault : List Cond := .code yX8_fault cX8_fault 1 (some .int) :: ([.methodLink RX8 89 yX8_faultOf, .instanceMethod yX8_faultOf, .selects RX8 yX8_faultOf yX8_faultOf, .initialized RX8, .code yX8_faultOf cX8_faultOf 6 (some .int), .fieldLink RX8 77 "LatestSetsModel" "signs" "I", .fieldLink RX8 35 "LatestSetsModel" "pad" "[I", .methodLink RX8 69 yX8_in, .static yX8_in, .code yX8_in cX8_in 3 (some .boolean), .methodLink RX8 80 yX8_isLeaf, .static yX8_isLeaf, .code yX8_isLeaf cX8_isLeaf 1 (some .boolean), .methodLink RX8 83 yX8_isPair, .static yX8_isPair, .code yX8_isPair cX8_isPair 1 (some .boolean), .methodLink RX8 86 yX8_isShift, .static yX8_isShift, .code yX8_isShift cX8_isShift 1 (some .boolean)] ++ wsX80)
def wsX8_enact : List Cond := .code yX8_enact cX8_enact 2 (some .int) :: ([.fieldLink RX8 77 "LatestSetsModel" "signs" "I", .fieldLink RX8 26 "LatestSetsModel" "size" "I", .fieldLink RX8 29 "LatestSetsModel" "text" "[I", .fieldLink RX8 35 "LatestSetsModel" "pad" "[I", .methodLink RX8 89 yX8_faultOf, .instanceMethod yX8_faultOf, .selects RX8 yX8_faultOf yX8_faultOf, .initialized RX8, .code yX8_faultOf cX8_faultOf 6 (some .int), .methodLink RX8 69 yX8_in, .static yX8_in, .code yX8_in cX8_in 3 (some .boolean), .methodLink RX8 80 yX8_isLeaf, .static yX8_isLeaf, .code yX8_isLeaf cX8_isLeaf 1 (some .boolean), .methodLink RX8 83 yX8_isPair, .static yX8_isPair, .code yX8_isPair cX8_isPair 1 (some .boolean), .methodLink RX8 86 yX8_isShift, .static yX8_isShift, .code yX8_isShift cX8_isShift 1 (some .boolean)] ++ wsX80)
def wsX8_comesAt : List Cond := .code yX8_comesAt cX8_comesAt 5 (some .int) :: ([.fieldLink RX8 13 "LatestSetsModel" "early" "[I", .fieldLink RX8 93 "LatestSetsModel" "later" "I", .fieldLink RX8 38 "LatestSetsModel" "by" "[I"] ++ wsX80)
def wsX8_layCame : List Cond := .code yX8_layCame cX8_layCame 5 none :: ([.fieldLink RX8 7 "LatestSetsModel" "members" "I", .fieldLink RX8 41 "LatestSetsModel" "came" "[I", .methodLink RX8 96 yX8_comesAt, .instanceMethod yX8_comesAt, .selects RX8 yX8_comesAt yX8_comesAt, .initialized RX8, .code yX8_comesAt cX8_comesAt 5 (some .int), .fieldLink RX8 13 "LatestSetsModel" "early" "[I", .fieldLink RX8 93 "LatestSetsModel" "later" "I", .fieldLink RX8 38 "LatestSetsModel" "by" "[I"] ++ wsX80)
def wsX8_leafOf : List Cond := .code yX8_leafOf cX8_leafOf 3 (some .int) :: ([.fieldLink RX8 41 "LatestSetsModel" "came" "[I", .fieldLink RX8 7 "LatestSetsModel" "members" "I"] ++ wsX80)
def wsX8_cut : List Cond := .code yX8_cut cX8_cut 1 (some .int) :: ([])
def wsX8_nextOf_r1 : List Cond := [Cond.fieldLink RX8 26 "LatestSetsModel" "size" "I", Cond.fieldLink RX8 29 "LatestSetsModel" "text" "[I", Cond.fieldLink RX8 44 "LatestSetsModel" "stack" "[I", Cond.methodLink RX8 100 yX8_layCame, Cond.instanceMethod yX8_layCame, Cond.selects RX8 yX8_layCame yX8_layCame, Cond.initialized RX8, Cond.code yX8_layCame cX8_layCame 5 none, Cond.fieldLink RX8 7 "LatestSetsModel" "members" "I", Cond.fieldLink RX8 41 "LatestSetsModel" "came" "[I", Cond.methodLink RX8 96 yX8_comesAt, Cond.instanceMethod yX8_comesAt, Cond.selects RX8 yX8_comesAt yX8_comesAt, Cond.code yX8_comesAt cX8_comesAt 5 (some .int), Cond.fieldLink RX8 13 "LatestSetsModel" "early" "[I", Cond.fieldLink RX8 93 "LatestSetsModel" "later" "I", Cond.fieldLink RX8 38 "LatestSetsModel" "by" "[I", Cond.methodLink RX8 86 yX8_isShift, Cond.static yX8_isShift, Cond.code yX8_isShift cX8_isShift 1 (some .boolean), Cond.methodLink RX8 69 yX8_in, Cond.static yX8_in, Cond.code yX8_in cX8_in 3 (some .boolean), Cond.methodLink RX8 80 yX8_isLeaf]
def wsX8_nextOf_r2 : List Cond := [Cond.static yX8_isLeaf, Cond.code yX8_isLeaf cX8_isLeaf 1 (some .boolean), Cond.methodLink RX8 104 yX8_leafOf, Cond.instanceMethod yX8_leafOf, Cond.selects RX8 yX8_leafOf yX8_leafOf, Cond.code yX8_leafOf cX8_leafOf 3 (some .int), Cond.methodLink RX8 107 yX8_cut, Cond.static yX8_cut, Cond.code yX8_cut cX8_cut 1 (some .int)]
def wsX8_nextOf : List Cond := .code yX8_nextOf cX8_nextOf 8 (some .int) :: ((wsX8_nextOf_r1 ++ wsX8_nextOf_r2) ++ wsX80)
def wsX8_asTold : List Cond := .code yX8_asTold cX8_asTold 2 none :: ([.fieldLink RX8 93 "LatestSetsModel" "later" "I", .fieldLink RX8 38 "LatestSetsModel" "by" "[I", .fieldLink RX8 17 "LatestSetsModel" "late" "[I"] ++ wsX80)
def wsX8_hourOf_r1 : List Cond := [Cond.methodLink RX8 111 yX8_nextOf, Cond.instanceMethod yX8_nextOf, Cond.selects RX8 yX8_nextOf yX8_nextOf, Cond.initialized RX8, Cond.code yX8_nextOf cX8_nextOf 8 (some .int), Cond.fieldLink RX8 26 "LatestSetsModel" "size" "I", Cond.fieldLink RX8 29 "LatestSetsModel" "text" "[I", Cond.fieldLink RX8 44 "LatestSetsModel" "stack" "[I", Cond.methodLink RX8 100 yX8_layCame, Cond.instanceMethod yX8_layCame, Cond.selects RX8 yX8_layCame yX8_layCame, Cond.code yX8_layCame cX8_layCame 5 none, Cond.fieldLink RX8 7 "LatestSetsModel" "members" "I", Cond.fieldLink RX8 41 "LatestSetsModel" "came" "[I", Cond.methodLink RX8 96 yX8_comesAt, Cond.instanceMethod yX8_comesAt, Cond.selects RX8 yX8_comesAt yX8_comesAt, Cond.code yX8_comesAt cX8_comesAt 5 (some .int), Cond.fieldLink RX8 13 "LatestSetsModel" "early" "[I", Cond.fieldLink RX8 93 "LatestSetsModel" "later" "I", Cond.fieldLink RX8 38 "LatestSetsModel" "by" "[I", Cond.methodLink RX8 86 yX8_isShift, Cond.static yX8_isShift, Cond.code yX8_isShift cX8_isShift 1 (some .boolean)]
def wsX8_hourOf_r2 : List Cond := [Cond.methodLink RX8 69 yX8_in, Cond.static yX8_in, Cond.code yX8_in cX8_in 3 (some .boolean), Cond.methodLink RX8 80 yX8_isLeaf, Cond.static yX8_isLeaf, Cond.code yX8_isLeaf cX8_isLeaf 1 (some .boolean), Cond.methodLink RX8 104 yX8_leafOf, Cond.instanceMethod yX8_leafOf, Cond.selects RX8 yX8_leafOf yX8_leafOf, Cond.code yX8_leafOf cX8_leafOf 3 (some .int), Cond.methodLink RX8 107 yX8_cut, Cond.static yX8_cut, Cond.code yX8_cut cX8_cut 1 (some .int)]
def wsX8_hourOf : List Cond := .code yX8_hourOf cX8_hourOf 5 (some .int) :: ((wsX8_hourOf_r1 ++ wsX8_hourOf_r2) ++ wsX80)
def wsX8_hour_r1 : List Cond := [Cond.methodLink RX8 114 yX8_isHour, Cond.static yX8_isHour, Cond.initialized RX8, Cond.code yX8_isHour cX8_isHour 1 (some .boolean), Cond.methodLink RX8 69 yX8_in, Cond.static yX8_in, Cond.code yX8_in cX8_in 3 (some .boolean), Cond.methodLink RX8 117 yX8_asTold, Cond.instanceMethod yX8_asTold, Cond.selects RX8 yX8_asTold yX8_asTold, Cond.code yX8_asTold cX8_asTold 2 none, Cond.fieldLink RX8 93 "LatestSetsModel" "later" "I", Cond.fieldLink RX8 38 "LatestSetsModel" "by" "[I", Cond.fieldLink RX8 17 "LatestSetsModel" "late" "[I", Cond.methodLink RX8 120 yX8_hourOf, Cond.instanceMethod yX8_hourOf, Cond.selects RX8 yX8_hourOf yX8_hourOf, Cond.code yX8_hourOf cX8_hourOf 5 (some .int), Cond.methodLink RX8 111 yX8_nextOf, Cond.instanceMethod yX8_nextOf, Cond.selects RX8 yX8_nextOf yX8_nextOf, Cond.code yX8_nextOf cX8_nextOf 8 (some .int), Cond.fieldLink RX8 26 "LatestSetsModel" "size" "I", Cond.fieldLink RX8 29 "LatestSetsModel" "text" "[I"]
def wsX8_hour_r2 : List Cond := [Cond.fieldLink RX8 44 "LatestSetsModel" "stack" "[I", Cond.methodLink RX8 100 yX8_layCame, Cond.instanceMethod yX8_layCame, Cond.selects RX8 yX8_layCame yX8_layCame, Cond.code yX8_layCame cX8_layCame 5 none, Cond.fieldLink RX8 7 "LatestSetsModel" "members" "I", Cond.fieldLink RX8 41 "LatestSetsModel" "came" "[I", Cond.methodLink RX8 96 yX8_comesAt, Cond.instanceMethod yX8_comesAt, Cond.selects RX8 yX8_comesAt yX8_comesAt, Cond.code yX8_comesAt cX8_comesAt 5 (some .int), Cond.fieldLink RX8 13 "LatestSetsModel" "early" "[I", Cond.methodLink RX8 86 yX8_isShift, Cond.static yX8_isShift, Cond.code yX8_isShift cX8_isShift 1 (some .boolean), Cond.methodLink RX8 80 yX8_isLeaf, Cond.static yX8_isLeaf, Cond.code yX8_isLeaf cX8_isLeaf 1 (some .boolean), Cond.methodLink RX8 104 yX8_leafOf, Cond.instanceMethod yX8_leafOf, Cond.selects RX8 yX8_leafOf yX8_leafOf, Cond.code yX8_leafOf cX8_leafOf 3 (some .int), Cond.methodLink RX8 107 yX8_cut, Cond.static yX8_cut]
def wsX8_hour_r3 : List Cond := [Cond.code yX8_cut cX8_cut 1 (some .int)]
def wsX8_hour : List Cond := .code yX8_hour cX8_hour 3 (some .int) :: ((wsX8_hour_r1 ++ (wsX8_hour_r2 ++ wsX8_hour_r3)) ++ wsX80)
def wsX8_comes_r1 : List Cond := [Cond.methodLink RX8 73 yX8_isMember, Cond.instanceMethod yX8_isMember, Cond.selects RX8 yX8_isMember yX8_isMember, Cond.initialized RX8, Cond.code yX8_isMember cX8_isMember 2 (some .boolean), Cond.fieldLink RX8 7 "LatestSetsModel" "members" "I", Cond.methodLink RX8 69 yX8_in, Cond.static yX8_in, Cond.code yX8_in cX8_in 3 (some .boolean), Cond.methodLink RX8 114 yX8_isHour, Cond.static yX8_isHour, Cond.code yX8_isHour cX8_isHour 1 (some .boolean), Cond.methodLink RX8 117 yX8_asTold, Cond.instanceMethod yX8_asTold, Cond.selects RX8 yX8_asTold yX8_asTold, Cond.code yX8_asTold cX8_asTold 2 none, Cond.fieldLink RX8 93 "LatestSetsModel" "later" "I", Cond.fieldLink RX8 38 "LatestSetsModel" "by" "[I", Cond.fieldLink RX8 17 "LatestSetsModel" "late" "[I", Cond.methodLink RX8 120 yX8_hourOf, Cond.instanceMethod yX8_hourOf, Cond.selects RX8 yX8_hourOf yX8_hourOf, Cond.code yX8_hourOf cX8_hourOf 5 (some .int), Cond.methodLink RX8 111 yX8_nextOf]
def wsX8_comes_r2 : List Cond := [Cond.instanceMethod yX8_nextOf, Cond.selects RX8 yX8_nextOf yX8_nextOf, Cond.code yX8_nextOf cX8_nextOf 8 (some .int), Cond.fieldLink RX8 26 "LatestSetsModel" "size" "I", Cond.fieldLink RX8 29 "LatestSetsModel" "text" "[I", Cond.fieldLink RX8 44 "LatestSetsModel" "stack" "[I", Cond.methodLink RX8 100 yX8_layCame, Cond.instanceMethod yX8_layCame, Cond.selects RX8 yX8_layCame yX8_layCame, Cond.code yX8_layCame cX8_layCame 5 none, Cond.fieldLink RX8 41 "LatestSetsModel" "came" "[I", Cond.methodLink RX8 96 yX8_comesAt, Cond.instanceMethod yX8_comesAt, Cond.selects RX8 yX8_comesAt yX8_comesAt, Cond.code yX8_comesAt cX8_comesAt 5 (some .int), Cond.fieldLink RX8 13 "LatestSetsModel" "early" "[I", Cond.methodLink RX8 86 yX8_isShift, Cond.static yX8_isShift, Cond.code yX8_isShift cX8_isShift 1 (some .boolean), Cond.methodLink RX8 80 yX8_isLeaf, Cond.static yX8_isLeaf, Cond.code yX8_isLeaf cX8_isLeaf 1 (some .boolean), Cond.methodLink RX8 104 yX8_leafOf, Cond.instanceMethod yX8_leafOf]
def wsX8_comes_r3 : List Cond := [Cond.selects RX8 yX8_leafOf yX8_leafOf, Cond.code yX8_leafOf cX8_leafOf 3 (some .int), Cond.methodLink RX8 107 yX8_cut, Cond.static yX8_cut, Cond.code yX8_cut cX8_cut 1 (some .int)]
def wsX8_comes : List Cond := .code yX8_comes cX8_comes 4 (some .int) :: ((wsX8_comes_r1 ++ (wsX8_comes_r2 ++ wsX8_comes_r3)) ++ wsX80)
def wsX8_layTends_r1 : List Cond := [Cond.fieldLink RX8 47 "LatestSetsModel" "when" "[I", Cond.fieldLink RX8 123 "LatestSetsModel" "ahead" "I", Cond.fieldLink RX8 126 "LatestSetsModel" "ring" "I", Cond.fieldLink RX8 129 "LatestSetsModel" "leastHour" "I", Cond.methodLink RX8 111 yX8_nextOf, Cond.instanceMethod yX8_nextOf, Cond.selects RX8 yX8_nextOf yX8_nextOf, Cond.initialized RX8, Cond.code yX8_nextOf cX8_nextOf 8 (some .int), Cond.fieldLink RX8 26 "LatestSetsModel" "size" "I", Cond.fieldLink RX8 29 "LatestSetsModel" "text" "[I", Cond.fieldLink RX8 44 "LatestSetsModel" "stack" "[I", Cond.methodLink RX8 100 yX8_layCame, Cond.instanceMethod yX8_layCame, Cond.selects RX8 yX8_layCame yX8_layCame, Cond.code yX8_layCame cX8_layCame 5 none, Cond.fieldLink RX8 7 "LatestSetsModel" "members" "I", Cond.fieldLink RX8 41 "LatestSetsModel" "came" "[I", Cond.methodLink RX8 96 yX8_comesAt, Cond.instanceMethod yX8_comesAt, Cond.selects RX8 yX8_comesAt yX8_comesAt, Cond.code yX8_comesAt cX8_comesAt 5 (some .int), Cond.fieldLink RX8 13 "LatestSetsModel" "early" "[I", Cond.fieldLink RX8 93 "LatestSetsModel" "later" "I"]
def wsX8_layTends_r2 : List Cond := [Cond.fieldLink RX8 38 "LatestSetsModel" "by" "[I", Cond.methodLink RX8 86 yX8_isShift, Cond.static yX8_isShift, Cond.code yX8_isShift cX8_isShift 1 (some .boolean), Cond.methodLink RX8 69 yX8_in, Cond.static yX8_in, Cond.code yX8_in cX8_in 3 (some .boolean), Cond.methodLink RX8 80 yX8_isLeaf, Cond.static yX8_isLeaf, Cond.code yX8_isLeaf cX8_isLeaf 1 (some .boolean), Cond.methodLink RX8 104 yX8_leafOf, Cond.instanceMethod yX8_leafOf, Cond.selects RX8 yX8_leafOf yX8_leafOf, Cond.code yX8_leafOf cX8_leafOf 3 (some .int), Cond.methodLink RX8 107 yX8_cut, Cond.static yX8_cut, Cond.code yX8_cut cX8_cut 1 (some .int)]
def wsX8_layTends : List Cond := .code yX8_layTends cX8_layTends 5 none :: ((wsX8_layTends_r1 ++ wsX8_layTends_r2) ++ wsX80)
def wsX8_tends_r1 : List Cond := [Cond.fieldLink RX8 123 "LatestSetsModel" "ahead" "I", Cond.fieldLink RX8 126 "LatestSetsModel" "ring" "I", Cond.fieldLink RX8 129 "LatestSetsModel" "leastHour" "I", Cond.methodLink RX8 114 yX8_isHour, Cond.static yX8_isHour, Cond.initialized RX8, Cond.code yX8_isHour cX8_isHour 1 (some .boolean), Cond.methodLink RX8 69 yX8_in, Cond.static yX8_in, Cond.code yX8_in cX8_in 3 (some .boolean), Cond.methodLink RX8 117 yX8_asTold, Cond.instanceMethod yX8_asTold, Cond.selects RX8 yX8_asTold yX8_asTold, Cond.code yX8_asTold cX8_asTold 2 none, Cond.fieldLink RX8 93 "LatestSetsModel" "later" "I", Cond.fieldLink RX8 38 "LatestSetsModel" "by" "[I", Cond.fieldLink RX8 17 "LatestSetsModel" "late" "[I", Cond.methodLink RX8 132 yX8_layTends, Cond.instanceMethod yX8_layTends, Cond.selects RX8 yX8_layTends yX8_layTends, Cond.code yX8_layTends cX8_layTends 5 none, Cond.fieldLink RX8 47 "LatestSetsModel" "when" "[I", Cond.methodLink RX8 111 yX8_nextOf, Cond.instanceMethod yX8_nextOf]
def wsX8_tends_r2 : List Cond := [Cond.selects RX8 yX8_nextOf yX8_nextOf, Cond.code yX8_nextOf cX8_nextOf 8 (some .int), Cond.fieldLink RX8 26 "LatestSetsModel" "size" "I", Cond.fieldLink RX8 29 "LatestSetsModel" "text" "[I", Cond.fieldLink RX8 44 "LatestSetsModel" "stack" "[I", Cond.methodLink RX8 100 yX8_layCame, Cond.instanceMethod yX8_layCame, Cond.selects RX8 yX8_layCame yX8_layCame, Cond.code yX8_layCame cX8_layCame 5 none, Cond.fieldLink RX8 7 "LatestSetsModel" "members" "I", Cond.fieldLink RX8 41 "LatestSetsModel" "came" "[I", Cond.methodLink RX8 96 yX8_comesAt, Cond.instanceMethod yX8_comesAt, Cond.selects RX8 yX8_comesAt yX8_comesAt, Cond.code yX8_comesAt cX8_comesAt 5 (some .int), Cond.fieldLink RX8 13 "LatestSetsModel" "early" "[I", Cond.methodLink RX8 86 yX8_isShift, Cond.static yX8_isShift, Cond.code yX8_isShift cX8_isShift 1 (some .boolean), Cond.methodLink RX8 80 yX8_isLeaf, Cond.static yX8_isLeaf, Cond.code yX8_isLeaf cX8_isLeaf 1 (some .boolean), Cond.methodLink RX8 104 yX8_leafOf, Cond.instanceMethod yX8_leafOf]
def wsX8_tends_r3 : List Cond := [Cond.selects RX8 yX8_leafOf yX8_leafOf, Cond.code yX8_leafOf cX8_leafOf 3 (some .int), Cond.methodLink RX8 107 yX8_cut, Cond.static yX8_cut, Cond.code yX8_cut cX8_cut 1 (some .int)]
def wsX8_tends : List Cond := .code yX8_tends cX8_tends 3 (some .int) :: ((wsX8_tends_r1 ++ (wsX8_tends_r2 ++ wsX8_tends_r3)) ++ wsX80)
def wsX8_paid : List Cond := .code yX8_paid cX8_paid 3 (some .int) :: ([.fieldLink RX8 23 "LatestSetsModel" "fine" "I", .fieldLink RX8 17 "LatestSetsModel" "late" "[I", .methodLink RX8 73 yX8_isMember, .instanceMethod yX8_isMember, .selects RX8 yX8_isMember yX8_isMember, .initialized RX8, .code yX8_isMember cX8_isMember 2 (some .boolean), .fieldLink RX8 7 "LatestSetsModel" "members" "I", .methodLink RX8 69 yX8_in, .static yX8_in, .code yX8_in cX8_in 3 (some .boolean)] ++ wsX80)
def wsX8_apart : List Cond := .code yX8_apart cX8_apart 2 (some .int) :: ([])
def wsX8_contentOf : List Cond := .code yX8_contentOf cX8_contentOf 4 (some .int) :: ([.fieldLink RX8 7 "LatestSetsModel" "members" "I", .fieldLink RX8 20 "LatestSetsModel" "best" "[I", .methodLink RX8 135 yX8_apart, .static yX8_apart, .initialized RX8, .code yX8_apart cX8_apart 2 (some .int)] ++ wsX80)
def wsX8_content : List Cond := .code yX8_content cX8_content 2 (some .int) :: ([.methodLink RX8 114 yX8_isHour, .static yX8_isHour, .initialized RX8, .code yX8_isHour cX8_isHour 1 (some .boolean), .methodLink RX8 69 yX8_in, .static yX8_in, .code yX8_in cX8_in 3 (some .boolean), .methodLink RX8 138 yX8_contentOf, .instanceMethod yX8_contentOf, .selects RX8 yX8_contentOf yX8_contentOf, .code yX8_contentOf cX8_contentOf 4 (some .int), .fieldLink RX8 7 "LatestSetsModel" "members" "I", .fieldLink RX8 20 "LatestSetsModel" "best" "[I", .methodLink RX8 135 yX8_apart, .static yX8_apart, .code yX8_apart cX8_apart 2 (some .int)] ++ wsX80)
def wsX8_choice_r1 : List Cond := [Cond.constant RX8 141 (1000000), Cond.fieldLink RX8 38 "LatestSetsModel" "by" "[I", Cond.fieldLink RX8 20 "LatestSetsModel" "best" "[I", Cond.fieldLink RX8 23 "LatestSetsModel" "fine" "I", Cond.methodLink RX8 73 yX8_isMember, Cond.instanceMethod yX8_isMember, Cond.selects RX8 yX8_isMember yX8_isMember, Cond.initialized RX8, Cond.code yX8_isMember cX8_isMember 2 (some .boolean), Cond.fieldLink RX8 7 "LatestSetsModel" "members" "I", Cond.methodLink RX8 69 yX8_in, Cond.static yX8_in, Cond.code yX8_in cX8_in 3 (some .boolean), Cond.methodLink RX8 114 yX8_isHour, Cond.static yX8_isHour, Cond.code yX8_isHour cX8_isHour 1 (some .boolean), Cond.methodLink RX8 117 yX8_asTold, Cond.instanceMethod yX8_asTold, Cond.selects RX8 yX8_asTold yX8_asTold, Cond.code yX8_asTold cX8_asTold 2 none, Cond.fieldLink RX8 93 "LatestSetsModel" "later" "I", Cond.fieldLink RX8 17 "LatestSetsModel" "late" "[I", Cond.methodLink RX8 111 yX8_nextOf, Cond.instanceMethod yX8_nextOf]
def wsX8_choice_r2 : List Cond := [Cond.selects RX8 yX8_nextOf yX8_nextOf, Cond.code yX8_nextOf cX8_nextOf 8 (some .int), Cond.fieldLink RX8 26 "LatestSetsModel" "size" "I", Cond.fieldLink RX8 29 "LatestSetsModel" "text" "[I", Cond.fieldLink RX8 44 "LatestSetsModel" "stack" "[I", Cond.methodLink RX8 100 yX8_layCame, Cond.instanceMethod yX8_layCame, Cond.selects RX8 yX8_layCame yX8_layCame, Cond.code yX8_layCame cX8_layCame 5 none, Cond.fieldLink RX8 41 "LatestSetsModel" "came" "[I", Cond.methodLink RX8 96 yX8_comesAt, Cond.instanceMethod yX8_comesAt, Cond.selects RX8 yX8_comesAt yX8_comesAt, Cond.code yX8_comesAt cX8_comesAt 5 (some .int), Cond.fieldLink RX8 13 "LatestSetsModel" "early" "[I", Cond.methodLink RX8 86 yX8_isShift, Cond.static yX8_isShift, Cond.code yX8_isShift cX8_isShift 1 (some .boolean), Cond.methodLink RX8 80 yX8_isLeaf, Cond.static yX8_isLeaf, Cond.code yX8_isLeaf cX8_isLeaf 1 (some .boolean), Cond.methodLink RX8 104 yX8_leafOf, Cond.instanceMethod yX8_leafOf, Cond.selects RX8 yX8_leafOf yX8_leafOf]
def wsX8_choice_r3 : List Cond := [Cond.code yX8_leafOf cX8_leafOf 3 (some .int), Cond.methodLink RX8 107 yX8_cut, Cond.static yX8_cut, Cond.code yX8_cut cX8_cut 1 (some .int), Cond.methodLink RX8 135 yX8_apart, Cond.static yX8_apart, Cond.code yX8_apart cX8_apart 2 (some .int)]
def wsX8_choice : List Cond := .code yX8_choice cX8_choice 13 (some .int) :: ((wsX8_choice_r1 ++ (wsX8_choice_r2 ++ wsX8_choice_r3)) ++ wsX80)
def wsX8_powerOf : List Cond := .code yX8_powerOf cX8_powerOf 5 (some .int) :: ([])
def wsX8_layBy : List Cond := .code yX8_layBy cX8_layBy 5 none :: ([.fieldLink RX8 7 "LatestSetsModel" "members" "I", .fieldLink RX8 38 "LatestSetsModel" "by" "[I"] ++ wsX80)
def wsX8_rest : List Cond := .code yX8_rest cX8_rest 9 (some .boolean) :: ([.fieldLink RX8 7 "LatestSetsModel" "members" "I", .fieldLink RX8 50 "LatestSetsModel" "outcome" "[I", .fieldLink RX8 20 "LatestSetsModel" "best" "[I", .fieldLink RX8 23 "LatestSetsModel" "fine" "I", .methodLink RX8 142 yX8_powerOf, .instanceMethod yX8_powerOf, .selects RX8 yX8_powerOf yX8_powerOf, .initialized RX8, .code yX8_powerOf cX8_powerOf 5 (some .int), .methodLink RX8 135 yX8_apart, .static yX8_apart, .code yX8_apart cX8_apart 2 (some .int)] ++ wsX80)
def wsX8_rests_r1 : List Cond := [Cond.fieldLink RX8 7 "LatestSetsModel" "members" "I", Cond.fieldLink RX8 50 "LatestSetsModel" "outcome" "[I", Cond.fieldLink RX8 38 "LatestSetsModel" "by" "[I", Cond.methodLink RX8 114 yX8_isHour, Cond.static yX8_isHour, Cond.initialized RX8, Cond.code yX8_isHour cX8_isHour 1 (some .boolean), Cond.methodLink RX8 69 yX8_in, Cond.static yX8_in, Cond.code yX8_in cX8_in 3 (some .boolean), Cond.methodLink RX8 117 yX8_asTold, Cond.instanceMethod yX8_asTold, Cond.selects RX8 yX8_asTold yX8_asTold, Cond.code yX8_asTold cX8_asTold 2 none, Cond.fieldLink RX8 93 "LatestSetsModel" "later" "I", Cond.fieldLink RX8 17 "LatestSetsModel" "late" "[I", Cond.methodLink RX8 142 yX8_powerOf, Cond.instanceMethod yX8_powerOf, Cond.selects RX8 yX8_powerOf yX8_powerOf, Cond.code yX8_powerOf cX8_powerOf 5 (some .int), Cond.methodLink RX8 145 yX8_layBy, Cond.instanceMethod yX8_layBy, Cond.selects RX8 yX8_layBy yX8_layBy, Cond.code yX8_layBy cX8_layBy 5 none]
def wsX8_rests_r2 : List Cond := [Cond.methodLink RX8 111 yX8_nextOf, Cond.instanceMethod yX8_nextOf, Cond.selects RX8 yX8_nextOf yX8_nextOf, Cond.code yX8_nextOf cX8_nextOf 8 (some .int), Cond.fieldLink RX8 26 "LatestSetsModel" "size" "I", Cond.fieldLink RX8 29 "LatestSetsModel" "text" "[I", Cond.fieldLink RX8 44 "LatestSetsModel" "stack" "[I", Cond.methodLink RX8 100 yX8_layCame, Cond.instanceMethod yX8_layCame, Cond.selects RX8 yX8_layCame yX8_layCame, Cond.code yX8_layCame cX8_layCame 5 none, Cond.fieldLink RX8 41 "LatestSetsModel" "came" "[I", Cond.methodLink RX8 96 yX8_comesAt, Cond.instanceMethod yX8_comesAt, Cond.selects RX8 yX8_comesAt yX8_comesAt, Cond.code yX8_comesAt cX8_comesAt 5 (some .int), Cond.fieldLink RX8 13 "LatestSetsModel" "early" "[I", Cond.methodLink RX8 86 yX8_isShift, Cond.static yX8_isShift, Cond.code yX8_isShift cX8_isShift 1 (some .boolean), Cond.methodLink RX8 80 yX8_isLeaf, Cond.static yX8_isLeaf, Cond.code yX8_isLeaf cX8_isLeaf 1 (some .boolean), Cond.methodLink RX8 104 yX8_leafOf]
def wsX8_rests_r3 : List Cond := [Cond.instanceMethod yX8_leafOf, Cond.selects RX8 yX8_leafOf yX8_leafOf, Cond.code yX8_leafOf cX8_leafOf 3 (some .int), Cond.methodLink RX8 107 yX8_cut, Cond.static yX8_cut, Cond.code yX8_cut cX8_cut 1 (some .int), Cond.methodLink RX8 149 yX8_rest, Cond.instanceMethod yX8_rest, Cond.selects RX8 yX8_rest yX8_rest, Cond.code yX8_rest cX8_rest 9 (some .boolean), Cond.fieldLink RX8 20 "LatestSetsModel" "best" "[I", Cond.fieldLink RX8 23 "LatestSetsModel" "fine" "I", Cond.methodLink RX8 135 yX8_apart, Cond.static yX8_apart, Cond.code yX8_apart cX8_apart 2 (some .int)]
def wsX8_rests : List Cond := .code yX8_rests cX8_rests 8 (some .int) :: ((wsX8_rests_r1 ++ (wsX8_rests_r2 ++ wsX8_rests_r3)) ++ wsX80)
def wsX8_laws_r1 : List Cond := [Cond.fieldLink RX8 26 "LatestSetsModel" "size" "I", Cond.fieldLink RX8 53 "LatestSetsModel" "kept" "[I", Cond.fieldLink RX8 29 "LatestSetsModel" "text" "[I", Cond.constant RX8 141 (1000000), Cond.fieldLink RX8 126 "LatestSetsModel" "ring" "I", Cond.fieldLink RX8 129 "LatestSetsModel" "leastHour" "I", Cond.methodLink RX8 114 yX8_isHour, Cond.static yX8_isHour, Cond.initialized RX8, Cond.code yX8_isHour cX8_isHour 1 (some .boolean), Cond.methodLink RX8 69 yX8_in, Cond.static yX8_in, Cond.code yX8_in cX8_in 3 (some .boolean), Cond.methodLink RX8 117 yX8_asTold, Cond.instanceMethod yX8_asTold, Cond.selects RX8 yX8_asTold yX8_asTold, Cond.code yX8_asTold cX8_asTold 2 none, Cond.fieldLink RX8 93 "LatestSetsModel" "later" "I", Cond.fieldLink RX8 38 "LatestSetsModel" "by" "[I", Cond.fieldLink RX8 17 "LatestSetsModel" "late" "[I", Cond.methodLink RX8 132 yX8_layTends, Cond.instanceMethod yX8_layTends, Cond.selects RX8 yX8_layTends yX8_layTends, Cond.code yX8_layTends cX8_layTends 5 none]
def wsX8_laws_r2 : List Cond := [Cond.fieldLink RX8 47 "LatestSetsModel" "when" "[I", Cond.fieldLink RX8 123 "LatestSetsModel" "ahead" "I", Cond.methodLink RX8 111 yX8_nextOf, Cond.instanceMethod yX8_nextOf, Cond.selects RX8 yX8_nextOf yX8_nextOf, Cond.code yX8_nextOf cX8_nextOf 8 (some .int), Cond.fieldLink RX8 44 "LatestSetsModel" "stack" "[I", Cond.methodLink RX8 100 yX8_layCame, Cond.instanceMethod yX8_layCame, Cond.selects RX8 yX8_layCame yX8_layCame, Cond.code yX8_layCame cX8_layCame 5 none, Cond.fieldLink RX8 7 "LatestSetsModel" "members" "I", Cond.fieldLink RX8 41 "LatestSetsModel" "came" "[I", Cond.methodLink RX8 96 yX8_comesAt, Cond.instanceMethod yX8_comesAt, Cond.selects RX8 yX8_comesAt yX8_comesAt, Cond.code yX8_comesAt cX8_comesAt 5 (some .int), Cond.fieldLink RX8 13 "LatestSetsModel" "early" "[I", Cond.methodLink RX8 86 yX8_isShift, Cond.static yX8_isShift, Cond.code yX8_isShift cX8_isShift 1 (some .boolean), Cond.methodLink RX8 80 yX8_isLeaf, Cond.static yX8_isLeaf, Cond.code yX8_isLeaf cX8_isLeaf 1 (some .boolean)]
def wsX8_laws_r3 : List Cond := [Cond.methodLink RX8 104 yX8_leafOf, Cond.instanceMethod yX8_leafOf, Cond.selects RX8 yX8_leafOf yX8_leafOf, Cond.code yX8_leafOf cX8_leafOf 3 (some .int), Cond.methodLink RX8 107 yX8_cut, Cond.static yX8_cut, Cond.code yX8_cut cX8_cut 1 (some .int), Cond.methodLink RX8 138 yX8_contentOf, Cond.instanceMethod yX8_contentOf, Cond.selects RX8 yX8_contentOf yX8_contentOf, Cond.code yX8_contentOf cX8_contentOf 4 (some .int), Cond.fieldLink RX8 20 "LatestSetsModel" "best" "[I", Cond.methodLink RX8 135 yX8_apart, Cond.static yX8_apart, Cond.code yX8_apart cX8_apart 2 (some .int)]
def wsX8_laws : List Cond := .code yX8_laws cX8_laws 9 (some .int) :: ((wsX8_laws_r1 ++ (wsX8_laws_r2 ++ wsX8_laws_r3)) ++ wsX80)
def wsX8_bits : List Cond := .code yX8_bits cX8_bits 3 (some .int) :: ([])
def wsX8_moves_r1 : List Cond := [Cond.fieldLink RX8 7 "LatestSetsModel" "members" "I", Cond.fieldLink RX8 38 "LatestSetsModel" "by" "[I", Cond.methodLink RX8 117 yX8_asTold, Cond.instanceMethod yX8_asTold, Cond.selects RX8 yX8_asTold yX8_asTold, Cond.initialized RX8, Cond.code yX8_asTold cX8_asTold 2 none, Cond.fieldLink RX8 93 "LatestSetsModel" "later" "I", Cond.fieldLink RX8 17 "LatestSetsModel" "late" "[I", Cond.methodLink RX8 152 yX8_bits, Cond.static yX8_bits, Cond.code yX8_bits cX8_bits 3 (some .int), Cond.methodLink RX8 142 yX8_powerOf, Cond.instanceMethod yX8_powerOf, Cond.selects RX8 yX8_powerOf yX8_powerOf, Cond.code yX8_powerOf cX8_powerOf 5 (some .int), Cond.methodLink RX8 155 yX8_has, Cond.static yX8_has, Cond.code yX8_has cX8_has 2 (some .boolean), Cond.methodLink RX8 120 yX8_hourOf, Cond.instanceMethod yX8_hourOf, Cond.selects RX8 yX8_hourOf yX8_hourOf, Cond.code yX8_hourOf cX8_hourOf 5 (some .int), Cond.methodLink RX8 111 yX8_nextOf]
def wsX8_moves_r2 : List Cond := [Cond.instanceMethod yX8_nextOf, Cond.selects RX8 yX8_nextOf yX8_nextOf, Cond.code yX8_nextOf cX8_nextOf 8 (some .int), Cond.fieldLink RX8 26 "LatestSetsModel" "size" "I", Cond.fieldLink RX8 29 "LatestSetsModel" "text" "[I", Cond.fieldLink RX8 44 "LatestSetsModel" "stack" "[I", Cond.methodLink RX8 100 yX8_layCame, Cond.instanceMethod yX8_layCame, Cond.selects RX8 yX8_layCame yX8_layCame, Cond.code yX8_layCame cX8_layCame 5 none, Cond.fieldLink RX8 41 "LatestSetsModel" "came" "[I", Cond.methodLink RX8 96 yX8_comesAt, Cond.instanceMethod yX8_comesAt, Cond.selects RX8 yX8_comesAt yX8_comesAt, Cond.code yX8_comesAt cX8_comesAt 5 (some .int), Cond.fieldLink RX8 13 "LatestSetsModel" "early" "[I", Cond.methodLink RX8 86 yX8_isShift, Cond.static yX8_isShift, Cond.code yX8_isShift cX8_isShift 1 (some .boolean), Cond.methodLink RX8 69 yX8_in, Cond.static yX8_in, Cond.code yX8_in cX8_in 3 (some .boolean), Cond.methodLink RX8 80 yX8_isLeaf, Cond.static yX8_isLeaf]
def wsX8_moves_r3 : List Cond := [Cond.code yX8_isLeaf cX8_isLeaf 1 (some .boolean), Cond.methodLink RX8 104 yX8_leafOf, Cond.instanceMethod yX8_leafOf, Cond.selects RX8 yX8_leafOf yX8_leafOf, Cond.code yX8_leafOf cX8_leafOf 3 (some .int), Cond.methodLink RX8 107 yX8_cut, Cond.static yX8_cut, Cond.code yX8_cut cX8_cut 1 (some .int)]
def wsX8_moves : List Cond := .code yX8_moves cX8_moves 9 (some .boolean) :: ((wsX8_moves_r1 ++ (wsX8_moves_r2 ++ wsX8_moves_r3)) ++ wsX80)
def wsX8_move_r1 : List Cond := [Cond.fieldLink RX8 7 "LatestSetsModel" "members" "I", Cond.methodLink RX8 114 yX8_isHour, Cond.static yX8_isHour, Cond.initialized RX8, Cond.code yX8_isHour cX8_isHour 1 (some .boolean), Cond.methodLink RX8 69 yX8_in, Cond.static yX8_in, Cond.code yX8_in cX8_in 3 (some .boolean), Cond.methodLink RX8 152 yX8_bits, Cond.static yX8_bits, Cond.code yX8_bits cX8_bits 3 (some .int), Cond.methodLink RX8 159 yX8_moves, Cond.instanceMethod yX8_moves, Cond.selects RX8 yX8_moves yX8_moves, Cond.code yX8_moves cX8_moves 9 (some .boolean), Cond.fieldLink RX8 38 "LatestSetsModel" "by" "[I", Cond.methodLink RX8 117 yX8_asTold, Cond.instanceMethod yX8_asTold, Cond.selects RX8 yX8_asTold yX8_asTold, Cond.code yX8_asTold cX8_asTold 2 none, Cond.fieldLink RX8 93 "LatestSetsModel" "later" "I", Cond.fieldLink RX8 17 "LatestSetsModel" "late" "[I", Cond.methodLink RX8 142 yX8_powerOf, Cond.instanceMethod yX8_powerOf]
def wsX8_move_r2 : List Cond := [Cond.selects RX8 yX8_powerOf yX8_powerOf, Cond.code yX8_powerOf cX8_powerOf 5 (some .int), Cond.methodLink RX8 155 yX8_has, Cond.static yX8_has, Cond.code yX8_has cX8_has 2 (some .boolean), Cond.methodLink RX8 120 yX8_hourOf, Cond.instanceMethod yX8_hourOf, Cond.selects RX8 yX8_hourOf yX8_hourOf, Cond.code yX8_hourOf cX8_hourOf 5 (some .int), Cond.methodLink RX8 111 yX8_nextOf, Cond.instanceMethod yX8_nextOf, Cond.selects RX8 yX8_nextOf yX8_nextOf, Cond.code yX8_nextOf cX8_nextOf 8 (some .int), Cond.fieldLink RX8 26 "LatestSetsModel" "size" "I", Cond.fieldLink RX8 29 "LatestSetsModel" "text" "[I", Cond.fieldLink RX8 44 "LatestSetsModel" "stack" "[I", Cond.methodLink RX8 100 yX8_layCame, Cond.instanceMethod yX8_layCame, Cond.selects RX8 yX8_layCame yX8_layCame, Cond.code yX8_layCame cX8_layCame 5 none, Cond.fieldLink RX8 41 "LatestSetsModel" "came" "[I", Cond.methodLink RX8 96 yX8_comesAt, Cond.instanceMethod yX8_comesAt, Cond.selects RX8 yX8_comesAt yX8_comesAt]
def wsX8_move_r3 : List Cond := [Cond.code yX8_comesAt cX8_comesAt 5 (some .int), Cond.fieldLink RX8 13 "LatestSetsModel" "early" "[I", Cond.methodLink RX8 86 yX8_isShift, Cond.static yX8_isShift, Cond.code yX8_isShift cX8_isShift 1 (some .boolean), Cond.methodLink RX8 80 yX8_isLeaf, Cond.static yX8_isLeaf, Cond.code yX8_isLeaf cX8_isLeaf 1 (some .boolean), Cond.methodLink RX8 104 yX8_leafOf, Cond.instanceMethod yX8_leafOf, Cond.selects RX8 yX8_leafOf yX8_leafOf, Cond.code yX8_leafOf cX8_leafOf 3 (some .int), Cond.methodLink RX8 107 yX8_cut, Cond.static yX8_cut, Cond.code yX8_cut cX8_cut 1 (some .int)]
def wsX8_move : List Cond := .code yX8_move cX8_move 7 (some .int) :: ((wsX8_move_r1 ++ (wsX8_move_r2 ++ wsX8_move_r3)) ++ wsX80)
def wsX8_seen : List Cond := .code yX8_seen cX8_seen 3 (some .int) :: ([.fieldLink RX8 66 "LatestSetsModel" "sights" "I", .fieldLink RX8 32 "LatestSetsModel" "sight" "[I", .methodLink RX8 69 yX8_in, .static yX8_in, .initialized RX8, .code yX8_in cX8_in 3 (some .boolean), .methodLink RX8 114 yX8_isHour, .static yX8_isHour, .code yX8_isHour cX8_isHour 1 (some .boolean)] ++ wsX80)
def wsX8_forget : List Cond := .code yX8_forget cX8_forget 2 (some .int) :: ([.fieldLink RX8 66 "LatestSetsModel" "sights" "I"] ++ wsX80)
def wsX8_could_r1 : List Cond := [Cond.fieldLink RX8 38 "LatestSetsModel" "by" "[I", Cond.fieldLink RX8 66 "LatestSetsModel" "sights" "I", Cond.fieldLink RX8 32 "LatestSetsModel" "sight" "[I", Cond.methodLink RX8 73 yX8_isMember, Cond.instanceMethod yX8_isMember, Cond.selects RX8 yX8_isMember yX8_isMember, Cond.initialized RX8, Cond.code yX8_isMember cX8_isMember 2 (some .boolean), Cond.fieldLink RX8 7 "LatestSetsModel" "members" "I", Cond.methodLink RX8 69 yX8_in, Cond.static yX8_in, Cond.code yX8_in cX8_in 3 (some .boolean), Cond.methodLink RX8 114 yX8_isHour, Cond.static yX8_isHour, Cond.code yX8_isHour cX8_isHour 1 (some .boolean), Cond.methodLink RX8 117 yX8_asTold, Cond.instanceMethod yX8_asTold, Cond.selects RX8 yX8_asTold yX8_asTold, Cond.code yX8_asTold cX8_asTold 2 none, Cond.fieldLink RX8 93 "LatestSetsModel" "later" "I", Cond.fieldLink RX8 17 "LatestSetsModel" "late" "[I", Cond.methodLink RX8 120 yX8_hourOf, Cond.instanceMethod yX8_hourOf, Cond.selects RX8 yX8_hourOf yX8_hourOf]
def wsX8_could_r2 : List Cond := [Cond.code yX8_hourOf cX8_hourOf 5 (some .int), Cond.methodLink RX8 111 yX8_nextOf, Cond.instanceMethod yX8_nextOf, Cond.selects RX8 yX8_nextOf yX8_nextOf, Cond.code yX8_nextOf cX8_nextOf 8 (some .int), Cond.fieldLink RX8 26 "LatestSetsModel" "size" "I", Cond.fieldLink RX8 29 "LatestSetsModel" "text" "[I", Cond.fieldLink RX8 44 "LatestSetsModel" "stack" "[I", Cond.methodLink RX8 100 yX8_layCame, Cond.instanceMethod yX8_layCame, Cond.selects RX8 yX8_layCame yX8_layCame, Cond.code yX8_layCame cX8_layCame 5 none, Cond.fieldLink RX8 41 "LatestSetsModel" "came" "[I", Cond.methodLink RX8 96 yX8_comesAt, Cond.instanceMethod yX8_comesAt, Cond.selects RX8 yX8_comesAt yX8_comesAt, Cond.code yX8_comesAt cX8_comesAt 5 (some .int), Cond.fieldLink RX8 13 "LatestSetsModel" "early" "[I", Cond.methodLink RX8 86 yX8_isShift, Cond.static yX8_isShift, Cond.code yX8_isShift cX8_isShift 1 (some .boolean), Cond.methodLink RX8 80 yX8_isLeaf, Cond.static yX8_isLeaf, Cond.code yX8_isLeaf cX8_isLeaf 1 (some .boolean)]
def wsX8_could_r3 : List Cond := [Cond.methodLink RX8 104 yX8_leafOf, Cond.instanceMethod yX8_leafOf, Cond.selects RX8 yX8_leafOf yX8_leafOf, Cond.code yX8_leafOf cX8_leafOf 3 (some .int), Cond.methodLink RX8 107 yX8_cut, Cond.static yX8_cut, Cond.code yX8_cut cX8_cut 1 (some .int)]
def wsX8_could : List Cond := .code yX8_could cX8_could 7 (some .int) :: ((wsX8_could_r1 ++ (wsX8_could_r2 ++ wsX8_could_r3)) ++ wsX80)
def wsX8_power : List Cond := .code yX8_power cX8_power 6 (some .long) :: ([])
def wsX8_rain_r1 : List Cond := [Cond.constantLong RX8 163 (-1000000000000000002), Cond.fieldLink RX8 93 "LatestSetsModel" "later" "I", Cond.constantLong RX8 169 (10), Cond.methodLink RX8 114 yX8_isHour, Cond.static yX8_isHour, Cond.initialized RX8, Cond.code yX8_isHour cX8_isHour 1 (some .boolean), Cond.methodLink RX8 69 yX8_in, Cond.static yX8_in, Cond.code yX8_in cX8_in 3 (some .boolean), Cond.methodLink RX8 117 yX8_asTold, Cond.instanceMethod yX8_asTold, Cond.selects RX8 yX8_asTold yX8_asTold, Cond.code yX8_asTold cX8_asTold 2 none, Cond.fieldLink RX8 38 "LatestSetsModel" "by" "[I", Cond.fieldLink RX8 17 "LatestSetsModel" "late" "[I", Cond.methodLink RX8 155 yX8_has, Cond.static yX8_has, Cond.code yX8_has cX8_has 2 (some .boolean), Cond.methodLink RX8 111 yX8_nextOf, Cond.instanceMethod yX8_nextOf, Cond.selects RX8 yX8_nextOf yX8_nextOf, Cond.code yX8_nextOf cX8_nextOf 8 (some .int), Cond.fieldLink RX8 26 "LatestSetsModel" "size" "I"]
def wsX8_rain_r2 : List Cond := [Cond.fieldLink RX8 29 "LatestSetsModel" "text" "[I", Cond.fieldLink RX8 44 "LatestSetsModel" "stack" "[I", Cond.methodLink RX8 100 yX8_layCame, Cond.instanceMethod yX8_layCame, Cond.selects RX8 yX8_layCame yX8_layCame, Cond.code yX8_layCame cX8_layCame 5 none, Cond.fieldLink RX8 7 "LatestSetsModel" "members" "I", Cond.fieldLink RX8 41 "LatestSetsModel" "came" "[I", Cond.methodLink RX8 96 yX8_comesAt, Cond.instanceMethod yX8_comesAt, Cond.selects RX8 yX8_comesAt yX8_comesAt, Cond.code yX8_comesAt cX8_comesAt 5 (some .int), Cond.fieldLink RX8 13 "LatestSetsModel" "early" "[I", Cond.methodLink RX8 86 yX8_isShift, Cond.static yX8_isShift, Cond.code yX8_isShift cX8_isShift 1 (some .boolean), Cond.methodLink RX8 80 yX8_isLeaf, Cond.static yX8_isLeaf, Cond.code yX8_isLeaf cX8_isLeaf 1 (some .boolean), Cond.methodLink RX8 104 yX8_leafOf, Cond.instanceMethod yX8_leafOf, Cond.selects RX8 yX8_leafOf yX8_leafOf, Cond.code yX8_leafOf cX8_leafOf 3 (some .int), Cond.methodLink RX8 107 yX8_cut]
def wsX8_rain_r3 : List Cond := [Cond.static yX8_cut, Cond.code yX8_cut cX8_cut 1 (some .int), Cond.methodLink RX8 165 yX8_power, Cond.static yX8_power, Cond.code yX8_power cX8_power 6 (some .long)]
def wsX8_rain : List Cond := .code yX8_rain cX8_rain 14 (some .long) :: ((wsX8_rain_r1 ++ (wsX8_rain_r2 ++ wsX8_rain_r3)) ++ wsX80)
def wsX8_year_r1 : List Cond := [Cond.fieldLink RX8 7 "LatestSetsModel" "members" "I", Cond.constant RX8 171 (65537), Cond.fieldLink RX8 38 "LatestSetsModel" "by" "[I", Cond.fieldLink RX8 17 "LatestSetsModel" "late" "[I", Cond.fieldLink RX8 23 "LatestSetsModel" "fine" "I", Cond.methodLink RX8 69 yX8_in, Cond.static yX8_in, Cond.initialized RX8, Cond.code yX8_in cX8_in 3 (some .boolean), Cond.methodLink RX8 114 yX8_isHour, Cond.static yX8_isHour, Cond.code yX8_isHour cX8_isHour 1 (some .boolean), Cond.methodLink RX8 117 yX8_asTold, Cond.instanceMethod yX8_asTold, Cond.selects RX8 yX8_asTold yX8_asTold, Cond.code yX8_asTold cX8_asTold 2 none, Cond.fieldLink RX8 93 "LatestSetsModel" "later" "I", Cond.methodLink RX8 111 yX8_nextOf, Cond.instanceMethod yX8_nextOf, Cond.selects RX8 yX8_nextOf yX8_nextOf, Cond.code yX8_nextOf cX8_nextOf 8 (some .int), Cond.fieldLink RX8 26 "LatestSetsModel" "size" "I", Cond.fieldLink RX8 29 "LatestSetsModel" "text" "[I", Cond.fieldLink RX8 44 "LatestSetsModel" "stack" "[I"]
def wsX8_year_r2 : List Cond := [Cond.methodLink RX8 100 yX8_layCame, Cond.instanceMethod yX8_layCame, Cond.selects RX8 yX8_layCame yX8_layCame, Cond.code yX8_layCame cX8_layCame 5 none, Cond.fieldLink RX8 41 "LatestSetsModel" "came" "[I", Cond.methodLink RX8 96 yX8_comesAt, Cond.instanceMethod yX8_comesAt, Cond.selects RX8 yX8_comesAt yX8_comesAt, Cond.code yX8_comesAt cX8_comesAt 5 (some .int), Cond.fieldLink RX8 13 "LatestSetsModel" "early" "[I", Cond.methodLink RX8 86 yX8_isShift, Cond.static yX8_isShift, Cond.code yX8_isShift cX8_isShift 1 (some .boolean), Cond.methodLink RX8 80 yX8_isLeaf, Cond.static yX8_isLeaf, Cond.code yX8_isLeaf cX8_isLeaf 1 (some .boolean), Cond.methodLink RX8 104 yX8_leafOf, Cond.instanceMethod yX8_leafOf, Cond.selects RX8 yX8_leafOf yX8_leafOf, Cond.code yX8_leafOf cX8_leafOf 3 (some .int), Cond.methodLink RX8 107 yX8_cut, Cond.static yX8_cut, Cond.code yX8_cut cX8_cut 1 (some .int)]
def wsX8_year : List Cond := .code yX8_year cX8_year 11 (some .int) :: ((wsX8_year_r1 ++ wsX8_year_r2) ++ wsX80)
def wsX8_image : List Cond := .code yX8_image cX8_image 4 (some .int) :: ([.fieldLink RX8 56 "LatestSetsModel" "image" "[I", .fieldLink RX8 13 "LatestSetsModel" "early" "[I", .fieldLink RX8 17 "LatestSetsModel" "late" "[I", .fieldLink RX8 20 "LatestSetsModel" "best" "[I", .fieldLink RX8 29 "LatestSetsModel" "text" "[I", .fieldLink RX8 32 "LatestSetsModel" "sight" "[I", .fieldLink RX8 7 "LatestSetsModel" "members" "I", .fieldLink RX8 23 "LatestSetsModel" "fine" "I", .fieldLink RX8 26 "LatestSetsModel" "size" "I", .fieldLink RX8 66 "LatestSetsModel" "sights" "I", .fieldLink RX8 59 "LatestSetsModel" "isKept" "[Z", .methodLink RX8 69 yX8_in, .static yX8_in, .initialized RX8, .code yX8_in cX8_in 3 (some .boolean)] ++ wsX80)
def wsX8_restore : List Cond := .code yX8_restore cX8_restore 4 (some .int) :: ([.fieldLink RX8 59 "LatestSetsModel" "isKept" "[Z", .fieldLink RX8 13 "LatestSetsModel" "early" "[I", .fieldLink RX8 56 "LatestSetsModel" "image" "[I", .fieldLink RX8 17 "LatestSetsModel" "late" "[I", .fieldLink RX8 20 "LatestSetsModel" "best" "[I", .fieldLink RX8 29 "LatestSetsModel" "text" "[I", .fieldLink RX8 32 "LatestSetsModel" "sight" "[I", .fieldLink RX8 7 "LatestSetsModel" "members" "I", .fieldLink RX8 23 "LatestSetsModel" "fine" "I", .fieldLink RX8 26 "LatestSetsModel" "size" "I", .fieldLink RX8 66 "LatestSetsModel" "sights" "I", .methodLink RX8 69 yX8_in, .static yX8_in, .initialized RX8, .code yX8_in cX8_in 3 (some .boolean)] ++ wsX80)
def wsX8_told : List Cond := .code yX8_told cX8_told 3 (some .int) :: ([.fieldLink RX8 13 "LatestSetsModel" "early" "[I", .fieldLink RX8 17 "LatestSetsModel" "late" "[I", .fieldLink RX8 20 "LatestSetsModel" "best" "[I", .fieldLink RX8 26 "LatestSetsModel" "size" "I", .fieldLink RX8 29 "LatestSetsModel" "text" "[I", .fieldLink RX8 77 "LatestSetsModel" "signs" "I", .fieldLink RX8 7 "LatestSetsModel" "members" "I", .fieldLink RX8 23 "LatestSetsModel" "fine" "I", .fieldLink RX8 66 "LatestSetsModel" "sights" "I", .methodLink RX8 69 yX8_in, .static yX8_in, .initialized RX8, .code yX8_in cX8_in 3 (some .boolean), .methodLink RX8 73 yX8_isMember, .instanceMethod yX8_isMember, .selects RX8 yX8_isMember yX8_isMember, .code yX8_isMember cX8_isMember 2 (some .boolean)] ++ wsX80)
def wsJ9_abs_0f7a4 : List Cond := .code yJ9_abs_0f7a4 cJ9_abs_0f7a4 1 (some .int) :: ([])
def wsJ9_max_7cf53 : List Cond := .code yJ9_max_7cf53 cJ9_max_7cf53 2 (some .int) :: ([])
def wsJ9_min_7cf53 : List Cond := .code yJ9_min_7cf53 cJ9_min_7cf53 2 (some .int) :: ([])
end
section
theorem dX0_init_0 : decode cX0_init 0 = .ok (.aload_n 0, 1) := by decide +kernel
theorem dX0_init_1 : decode cX0_init 1 = .ok (.invokespecial 3, 3) := by decide +kernel
theorem dX0_init_4 : decode cX0_init 4 = .ok (.aload_n 0, 1) := by decide +kernel
theorem dX0_init_5 : decode cX0_init 5 = .ok (.bipush 6, 2) := by decide +kernel
theorem dX0_init_7 : decode cX0_init 7 = .ok (.newarray .int, 2) := by decide +kernel
theorem dX0_init_9 : decode cX0_init 9 = .ok (.putfield 9, 3) := by decide +kernel
theorem dX0_init_12 : decode cX0_init 12 = .ok (.aload_n 0, 1) := by decide +kernel
theorem dX0_init_13 : decode cX0_init 13 = .ok (.bipush 6, 2) := by decide +kernel
theorem dX0_init_15 : decode cX0_init 15 = .ok (.newarray .int, 2) := by decide +kernel
theorem dX0_init_17 : decode cX0_init 17 = .ok (.putfield 15, 3) := by decide +kernel
theorem dX0_init_20 : decode cX0_init 20 = .ok (.aload_n 0, 1) := by decide +kernel
theorem dX0_init_21 : decode cX0_init 21 = .ok (.bipush 20, 2) := by decide +kernel
theorem dX0_init_23 : decode cX0_init 23 = .ok (.newarray .int, 2) := by decide +kernel
theorem dX0_init_25 : decode cX0_init 25 = .ok (.putfield 18, 3) := by decide +kernel
theorem dX0_init_28 : decode cX0_init 28 = .ok (.aload_n 0, 1) := by decide +kernel
theorem dX0_init_29 : decode cX0_init 29 = .ok (.aload_n 1, 1) := by decide +kernel
theorem dX0_init_30 : decode cX0_init 30 = .ok (.putfield 21, 3) := by decide +kernel
theorem dX0_init_33 : decode cX0_init 33 = .ok (.return_, 1) := by decide +kernel
theorem dX0_tryAsTold_0 : decode cX0_tryAsTold 0 = .ok (.aload_n 0, 1) := by decide +kernel
theorem dX0_tryAsTold_1 : decode cX0_tryAsTold 1 = .ok (.getfield 21, 3) := by decide +kernel
theorem dX0_tryAsTold_4 : decode cX0_tryAsTold 4 = .ok (.getfield 25, 3) := by decide +kernel
theorem dX0_tryAsTold_7 : decode cX0_tryAsTold 7 = .ok (.iconst 0, 1) := by decide +kernel
theorem dX0_tryAsTold_8 : decode cX0_tryAsTold 8 = .ok (.aload_n 0, 1) := by decide +kernel
theorem dX0_tryAsTold_9 : decode cX0_tryAsTold 9 = .ok (.getfield 9, 3) := by decide +kernel
theorem dX0_tryAsTold_12 : decode cX0_tryAsTold 12 = .ok (.iconst 0, 1) := by decide +kernel
theorem dX0_tryAsTold_13 : decode cX0_tryAsTold 13 = .ok (.bipush 6, 2) := by decide +kernel
theorem dX0_tryAsTold_15 : decode cX0_tryAsTold 15 = .ok (.invokestatic 30, 3) := by decide +kernel
theorem dX0_tryAsTold_18 : decode cX0_tryAsTold 18 = .ok (.return_, 1) := by decide +kernel
set_option maxRecDepth 20000 in
theorem ggX0_nextHour_X7_comingAt : GoodIn wsX0_nextHour wsX7_comingAt := goodIn_r _ [13, 14, 9, 6, 10, 15, 5, 7] (by decide +kernel) (by decide +kernel)
set_option maxRecDepth 20000 in
theorem gX0_nextHour_X7_comingAt_n43 : GoodIn wsX0_nextHour (wsX7_comingAt) := ggX0_nextHour_X7_comingAt
set_option maxRecDepth 20000 in
theorem ggX0_nextHour_X0_insert : GoodIn wsX0_nextHour wsX0_insert := goodIn_r _ [20, 21, 42, 43, 44, 45, 46] (by decide +kernel) (by decide +kernel)
set_option maxRecDepth 20000 in
theorem gX0_nextHour_X0_insert : GoodIn wsX0_nextHour (wsV RX0 47 RX0 yX0_insert wsX0_insert) := goodIn_app (goodIn_of _ (by decide +kernel)) ggX0_nextHour_X0_insert
set_option maxRecDepth 20000 in
theorem ggX0_nextHour_X0_madeBy : GoodIn wsX0_nextHour wsX0_madeBy := goodIn_r _ [25, 26, 27, 28, 4, 5, 6, 7, 8, 9, 10, 21, 29, 30, 31, 19, 32, 33, 34, 35, 36, 37, 38, 39, 40, 41, 1, 2, 42, 43, 44, 45, 46, 56, 57, 47, 48, 49, 50, 51, 52, 53, 54, 55] (by decide +kernel) (by decide +kernel)
set_option maxRecDepth 20000 in
theorem gX0_nextHour_X0_madeBy : GoodIn wsX0_nextHour (wsV RX0 51 RX0 yX0_madeBy wsX0_madeBy) := goodIn_app (goodIn_of _ (by decide +kernel)) ggX0_nextHour_X0_madeBy
theorem dX0_nextHour_0 : decode cX0_nextHour 0 = .ok (.iconst 0, 1) := by decide +kernel
theorem dX0_nextHour_1 : decode cX0_nextHour 1 = .ok (.istore 5, 2) := by decide +kernel
theorem dX0_nextHour_3 : decode cX0_nextHour 3 = .ok (.iload 5, 2) := by decide +kernel
theorem dX0_nextHour_5 : decode cX0_nextHour 5 = .ok (.aload_n 0, 1) := by decide +kernel
theorem dX0_nextHour_6 : decode cX0_nextHour 6 = .ok (.getfield 21, 3) := by decide +kernel
theorem dX0_nextHour_9 : decode cX0_nextHour 9 = .ok (.getfield 36, 3) := by decide +kernel
theorem dX0_nextHour_12 : decode cX0_nextHour 12 = .ok (.if_icmp .ge 36, 3) := by decide +kernel
theorem dX0_nextHour_15 : decode cX0_nextHour 15 = .ok (.aload_n 0, 1) := by decide +kernel
theorem dX0_nextHour_16 : decode cX0_nextHour 16 = .ok (.iload 5, 2) := by decide +kernel
theorem dX0_nextHour_18 : decode cX0_nextHour 18 = .ok (.iload_n 2, 1) := by decide +kernel
theorem dX0_nextHour_19 : decode cX0_nextHour 19 = .ok (.aload_n 0, 1) := by decide +kernel
theorem dX0_nextHour_20 : decode cX0_nextHour 20 = .ok (.getfield 21, 3) := by decide +kernel
theorem dX0_nextHour_23 : decode cX0_nextHour 23 = .ok (.getfield 40, 3) := by decide +kernel
theorem dX0_nextHour_26 : decode cX0_nextHour 26 = .ok (.iload 5, 2) := by decide +kernel
theorem dX0_nextHour_28 : decode cX0_nextHour 28 = .ok (.iaload, 1) := by decide +kernel
theorem dX0_nextHour_29 : decode cX0_nextHour 29 = .ok (.iload 4, 2) := by decide +kernel
theorem dX0_nextHour_31 : decode cX0_nextHour 31 = .ok (.iadd, 1) := by decide +kernel
theorem dX0_nextHour_32 : decode cX0_nextHour 32 = .ok (.aload_n 3, 1) := by decide +kernel
theorem dX0_nextHour_33 : decode cX0_nextHour 33 = .ok (.iload 5, 2) := by decide +kernel
theorem dX0_nextHour_35 : decode cX0_nextHour 35 = .ok (.iaload, 1) := by decide +kernel
theorem dX0_nextHour_36 : decode cX0_nextHour 36 = .ok (.invokestatic 43, 3) := by decide +kernel
theorem dX0_nextHour_39 : decode cX0_nextHour 39 = .ok (.invokevirtual 47, 3) := by decide +kernel
theorem dX0_nextHour_42 : decode cX0_nextHour 42 = .ok (.iinc 5 1, 3) := by decide +kernel
theorem dX0_nextHour_45 : decode cX0_nextHour 45 = .ok (.goto (-42), 3) := by decide +kernel
theorem dX0_nextHour_48 : decode cX0_nextHour 48 = .ok (.aload_n 0, 1) := by decide +kernel
theorem dX0_nextHour_49 : decode cX0_nextHour 49 = .ok (.aload_n 1, 1) := by decide +kernel
theorem dX0_nextHour_50 : decode cX0_nextHour 50 = .ok (.iload_n 2, 1) := by decide +kernel
theorem dX0_nextHour_51 : decode cX0_nextHour 51 = .ok (.invokevirtual 51, 3) := by decide +kernel
theorem dX0_nextHour_54 : decode cX0_nextHour 54 = .ok (.istore 5, 2) := by decide +kernel
theorem dX0_nextHour_56 : decode cX0_nextHour 56 = .ok (.iconst 0, 1) := by decide +kernel
theorem dX0_nextHour_57 : decode cX0_nextHour 57 = .ok (.bipush 23, 2) := by decide +kernel
theorem dX0_nextHour_59 : decode cX0_nextHour 59 = .ok (.iload 5, 2) := by decide +kernel
theorem dX0_nextHour_61 : decode cX0_nextHour 61 = .ok (.invokestatic 55, 3) := by decide +kernel
theorem dX0_nextHour_64 : decode cX0_nextHour 64 = .ok (.invokestatic 61, 3) := by decide +kernel
theorem dX0_nextHour_67 : decode cX0_nextHour 67 = .ok (.ireturn, 1) := by decide +kernel
set_option maxRecDepth 20000 in
theorem ggX0_hourAfter_X0_nextHour : GoodIn wsX0_hourAfter wsX0_nextHour := goodIn_r _ [7, 1, 8, 9, 10, 11, 12, 13, 14, 15, 16, 17, 18, 19, 20, 21, 22, 23, 24, 6, 25, 26, 27, 28, 29, 30, 31, 32, 33, 34, 35, 36, 37, 38, 39, 40, 41, 42, 43, 44, 45, 46, 47, 48, 49, 50, 51, 52, 53, 54, 55, 56, 57, 58, 59, 60, 61, 62] (by decide +kernel) (by decide +kernel)
set_option maxRecDepth 20000 in
theorem gX0_hourAfter_X0_nextHour : GoodIn wsX0_hourAfter (wsV RX0 68 RX0 yX0_nextHour wsX0_nextHour) := goodIn_app (goodIn_of _ (by decide +kernel)) ggX0_hourAfter_X0_nextHour
theorem dX0_hourAfter_0 : decode cX0_hourAfter 0 = .ok (.iload_n 1, 1) := by decide +kernel
theorem dX0_hourAfter_1 : decode cX0_hourAfter 1 = .ok (.istore 4, 2) := by decide +kernel
theorem dX0_hourAfter_3 : decode cX0_hourAfter 3 = .ok (.iconst 0, 1) := by decide +kernel
theorem dX0_hourAfter_4 : decode cX0_hourAfter 4 = .ok (.istore 5, 2) := by decide +kernel
theorem dX0_hourAfter_6 : decode cX0_hourAfter 6 = .ok (.iload 5, 2) := by decide +kernel
theorem dX0_hourAfter_8 : decode cX0_hourAfter 8 = .ok (.iload_n 2, 1) := by decide +kernel
theorem dX0_hourAfter_9 : decode cX0_hourAfter 9 = .ok (.if_icmp .ge 40, 3) := by decide +kernel
theorem dX0_hourAfter_12 : decode cX0_hourAfter 12 = .ok (.aload_n 0, 1) := by decide +kernel
theorem dX0_hourAfter_13 : decode cX0_hourAfter 13 = .ok (.aload_n 0, 1) := by decide +kernel
theorem dX0_hourAfter_14 : decode cX0_hourAfter 14 = .ok (.getfield 21, 3) := by decide +kernel
theorem dX0_hourAfter_17 : decode cX0_hourAfter 17 = .ok (.getfield 64, 3) := by decide +kernel
theorem dX0_hourAfter_20 : decode cX0_hourAfter 20 = .ok (.iload 4, 2) := by decide +kernel
theorem dX0_hourAfter_22 : decode cX0_hourAfter 22 = .ok (.aload_n 3, 1) := by decide +kernel
theorem dX0_hourAfter_23 : decode cX0_hourAfter 23 = .ok (.iconst 0, 1) := by decide +kernel
theorem dX0_hourAfter_24 : decode cX0_hourAfter 24 = .ok (.invokevirtual 68, 3) := by decide +kernel
theorem dX0_hourAfter_27 : decode cX0_hourAfter 27 = .ok (.istore 6, 2) := by decide +kernel
theorem dX0_hourAfter_29 : decode cX0_hourAfter 29 = .ok (.iload 6, 2) := by decide +kernel
theorem dX0_hourAfter_31 : decode cX0_hourAfter 31 = .ok (.iload 4, 2) := by decide +kernel
theorem dX0_hourAfter_33 : decode cX0_hourAfter 33 = .ok (.if_icmp .ne 6, 3) := by decide +kernel
theorem dX0_hourAfter_36 : decode cX0_hourAfter 36 = .ok (.iload 4, 2) := by decide +kernel
theorem dX0_hourAfter_38 : decode cX0_hourAfter 38 = .ok (.ireturn, 1) := by decide +kernel
theorem dX0_hourAfter_39 : decode cX0_hourAfter 39 = .ok (.iload 6, 2) := by decide +kernel
theorem dX0_hourAfter_41 : decode cX0_hourAfter 41 = .ok (.istore 4, 2) := by decide +kernel
theorem dX0_hourAfter_43 : decode cX0_hourAfter 43 = .ok (.iinc 5 1, 3) := by decide +kernel
theorem dX0_hourAfter_46 : decode cX0_hourAfter 46 = .ok (.goto (-40), 3) := by decide +kernel
theorem dX0_hourAfter_49 : decode cX0_hourAfter 49 = .ok (.iload 4, 2) := by decide +kernel
theorem dX0_hourAfter_51 : decode cX0_hourAfter 51 = .ok (.ireturn, 1) := by decide +kernel
set_option maxRecDepth 20000 in
theorem ggX0_latesThatFit_X0_tryAsTold : GoodIn wsX0_latesThatFit wsX0_tryAsTold := goodIn_r _ [6, 7, 8, 1, 9, 10, 11, 12, 68, 69, 70, 71, 72, 73, 74, 75, 76, 77, 78, 79, 80, 81] (by decide +kernel) (by decide +kernel)
set_option maxRecDepth 20000 in
theorem gX0_latesThatFit_X0_tryAsTold : GoodIn wsX0_latesThatFit (wsV RX0 72 RX0 yX0_tryAsTold wsX0_tryAsTold) := goodIn_app (goodIn_of _ (by decide +kernel)) ggX0_latesThatFit_X0_tryAsTold
set_option maxRecDepth 20000 in
theorem ggX0_latesThatFit_X0_allSightsHold : GoodIn wsX0_latesThatFit wsX0_allSightsHold := goodIn_r _ [16, 7, 17, 18, 1, 19, 20, 21, 22, 5, 23, 24, 25, 26, 27, 28, 29, 30, 31, 32, 33, 34, 35, 36, 37, 38, 39, 40, 41, 42, 43, 44, 45, 46, 47, 48, 49, 50, 51, 52, 53, 54, 55, 56, 57, 58, 59, 60, 61, 62, 63, 64, 65, 66, 67, 68, 69, 70, 71, 72, 73, 74, 75, 76, 77, 78, 79, 80, 81, 82, 83] (by decide +kernel) (by decide +kernel)
set_option maxRecDepth 20000 in
theorem gX0_latesThatFit_X0_allSightsHold : GoodIn wsX0_latesThatFit (wsV RX0 75 RX0 yX0_allSightsHold wsX0_allSightsHold) := goodIn_app (goodIn_of _ (by decide +kernel)) ggX0_latesThatFit_X0_allSightsHold
theorem dX0_latesThatFit_0 : decode cX0_latesThatFit 0 = .ok (.aload_n 0, 1) := by decide +kernel
theorem dX0_latesThatFit_1 : decode cX0_latesThatFit 1 = .ok (.invokevirtual 72, 3) := by decide +kernel
theorem dX0_latesThatFit_4 : decode cX0_latesThatFit 4 = .ok (.iconst 0, 1) := by decide +kernel
theorem dX0_latesThatFit_5 : decode cX0_latesThatFit 5 = .ok (.istore_n 3, 1) := by decide +kernel
theorem dX0_latesThatFit_6 : decode cX0_latesThatFit 6 = .ok (.iconst 0, 1) := by decide +kernel
theorem dX0_latesThatFit_7 : decode cX0_latesThatFit 7 = .ok (.istore 4, 2) := by decide +kernel
theorem dX0_latesThatFit_9 : decode cX0_latesThatFit 9 = .ok (.iload 4, 2) := by decide +kernel
theorem dX0_latesThatFit_11 : decode cX0_latesThatFit 11 = .ok (.iconst 5, 1) := by decide +kernel
theorem dX0_latesThatFit_12 : decode cX0_latesThatFit 12 = .ok (.if_icmp .gt 32, 3) := by decide +kernel
theorem dX0_latesThatFit_15 : decode cX0_latesThatFit 15 = .ok (.aload_n 0, 1) := by decide +kernel
theorem dX0_latesThatFit_16 : decode cX0_latesThatFit 16 = .ok (.getfield 9, 3) := by decide +kernel
theorem dX0_latesThatFit_19 : decode cX0_latesThatFit 19 = .ok (.iload_n 1, 1) := by decide +kernel
theorem dX0_latesThatFit_20 : decode cX0_latesThatFit 20 = .ok (.iload 4, 2) := by decide +kernel
theorem dX0_latesThatFit_22 : decode cX0_latesThatFit 22 = .ok (.iastore, 1) := by decide +kernel
theorem dX0_latesThatFit_23 : decode cX0_latesThatFit 23 = .ok (.aload_n 0, 1) := by decide +kernel
theorem dX0_latesThatFit_24 : decode cX0_latesThatFit 24 = .ok (.iload_n 2, 1) := by decide +kernel
theorem dX0_latesThatFit_25 : decode cX0_latesThatFit 25 = .ok (.invokevirtual 75, 3) := by decide +kernel
theorem dX0_latesThatFit_28 : decode cX0_latesThatFit 28 = .ok (.ifCond .eq 10, 3) := by decide +kernel
theorem dX0_latesThatFit_31 : decode cX0_latesThatFit 31 = .ok (.iload_n 3, 1) := by decide +kernel
theorem dX0_latesThatFit_32 : decode cX0_latesThatFit 32 = .ok (.iconst 1, 1) := by decide +kernel
theorem dX0_latesThatFit_33 : decode cX0_latesThatFit 33 = .ok (.iload 4, 2) := by decide +kernel
theorem dX0_latesThatFit_35 : decode cX0_latesThatFit 35 = .ok (.ishl, 1) := by decide +kernel
theorem dX0_latesThatFit_36 : decode cX0_latesThatFit 36 = .ok (.ior, 1) := by decide +kernel
theorem dX0_latesThatFit_37 : decode cX0_latesThatFit 37 = .ok (.istore_n 3, 1) := by decide +kernel
theorem dX0_latesThatFit_38 : decode cX0_latesThatFit 38 = .ok (.iinc 4 1, 3) := by decide +kernel
theorem dX0_latesThatFit_41 : decode cX0_latesThatFit 41 = .ok (.goto (-32), 3) := by decide +kernel
theorem dX0_latesThatFit_44 : decode cX0_latesThatFit 44 = .ok (.iload_n 3, 1) := by decide +kernel
theorem dX0_latesThatFit_45 : decode cX0_latesThatFit 45 = .ok (.ireturn, 1) := by decide +kernel
set_option maxRecDepth 20000 in
theorem ggX0_allSightsHold_X0_hourAfter : GoodIn wsX0_allSightsHold wsX0_hourAfter := goodIn_r _ [10, 1, 11, 12, 13, 14, 9, 15, 16, 17, 18, 19, 20, 21, 22, 23, 24, 25, 26, 27, 28, 29, 30, 31, 32, 33, 34, 35, 36, 37, 38, 39, 40, 41, 42, 43, 44, 45, 46, 47, 48, 49, 50, 51, 52, 53, 54, 55, 56, 57, 58, 59, 60, 61, 62, 63, 64, 65, 66, 67, 68, 69, 70] (by decide +kernel) (by decide +kernel)
set_option maxRecDepth 20000 in
theorem gX0_allSightsHold_X0_hourAfter : GoodIn wsX0_allSightsHold (wsV RX0 85 RX0 yX0_hourAfter wsX0_hourAfter) := goodIn_app (goodIn_of _ (by decide +kernel)) ggX0_allSightsHold_X0_hourAfter
theorem dX0_allSightsHold_0 : decode cX0_allSightsHold 0 = .ok (.iconst 0, 1) := by decide +kernel
theorem dX0_allSightsHold_1 : decode cX0_allSightsHold 1 = .ok (.istore_n 2, 1) := by decide +kernel
theorem dX0_allSightsHold_2 : decode cX0_allSightsHold 2 = .ok (.iload_n 2, 1) := by decide +kernel
theorem dX0_allSightsHold_3 : decode cX0_allSightsHold 3 = .ok (.aload_n 0, 1) := by decide +kernel
theorem dX0_allSightsHold_4 : decode cX0_allSightsHold 4 = .ok (.getfield 21, 3) := by decide +kernel
theorem dX0_allSightsHold_7 : decode cX0_allSightsHold 7 = .ok (.getfield 79, 3) := by decide +kernel
theorem dX0_allSightsHold_10 : decode cX0_allSightsHold 10 = .ok (.if_icmp .ge 41, 3) := by decide +kernel
theorem dX0_allSightsHold_13 : decode cX0_allSightsHold 13 = .ok (.aload_n 0, 1) := by decide +kernel
theorem dX0_allSightsHold_14 : decode cX0_allSightsHold 14 = .ok (.iload_n 1, 1) := by decide +kernel
theorem dX0_allSightsHold_15 : decode cX0_allSightsHold 15 = .ok (.aload_n 0, 1) := by decide +kernel
theorem dX0_allSightsHold_16 : decode cX0_allSightsHold 16 = .ok (.getfield 21, 3) := by decide +kernel
theorem dX0_allSightsHold_19 : decode cX0_allSightsHold 19 = .ok (.getfield 82, 3) := by decide +kernel
theorem dX0_allSightsHold_22 : decode cX0_allSightsHold 22 = .ok (.iload_n 2, 1) := by decide +kernel
theorem dX0_allSightsHold_23 : decode cX0_allSightsHold 23 = .ok (.iaload, 1) := by decide +kernel
theorem dX0_allSightsHold_24 : decode cX0_allSightsHold 24 = .ok (.aload_n 0, 1) := by decide +kernel
theorem dX0_allSightsHold_25 : decode cX0_allSightsHold 25 = .ok (.getfield 9, 3) := by decide +kernel
theorem dX0_allSightsHold_28 : decode cX0_allSightsHold 28 = .ok (.invokevirtual 85, 3) := by decide +kernel
theorem dX0_allSightsHold_31 : decode cX0_allSightsHold 31 = .ok (.aload_n 0, 1) := by decide +kernel
theorem dX0_allSightsHold_32 : decode cX0_allSightsHold 32 = .ok (.getfield 21, 3) := by decide +kernel
theorem dX0_allSightsHold_35 : decode cX0_allSightsHold 35 = .ok (.getfield 89, 3) := by decide +kernel
theorem dX0_allSightsHold_38 : decode cX0_allSightsHold 38 = .ok (.iload_n 2, 1) := by decide +kernel
theorem dX0_allSightsHold_39 : decode cX0_allSightsHold 39 = .ok (.iaload, 1) := by decide +kernel
theorem dX0_allSightsHold_40 : decode cX0_allSightsHold 40 = .ok (.if_icmp .eq 5, 3) := by decide +kernel
theorem dX0_allSightsHold_43 : decode cX0_allSightsHold 43 = .ok (.iconst 0, 1) := by decide +kernel
theorem dX0_allSightsHold_44 : decode cX0_allSightsHold 44 = .ok (.ireturn, 1) := by decide +kernel
theorem dX0_allSightsHold_45 : decode cX0_allSightsHold 45 = .ok (.iinc 2 1, 3) := by decide +kernel
theorem dX0_allSightsHold_48 : decode cX0_allSightsHold 48 = .ok (.goto (-46), 3) := by decide +kernel
theorem dX0_allSightsHold_51 : decode cX0_allSightsHold 51 = .ok (.iconst 1, 1) := by decide +kernel
theorem dX0_allSightsHold_52 : decode cX0_allSightsHold 52 = .ok (.ireturn, 1) := by decide +kernel
theorem dX0_insert_0 : decode cX0_insert 0 = .ok (.iload_n 1, 1) := by decide +kernel
theorem dX0_insert_1 : decode cX0_insert 1 = .ok (.istore_n 3, 1) := by decide +kernel
theorem dX0_insert_2 : decode cX0_insert 2 = .ok (.iload_n 3, 1) := by decide +kernel
theorem dX0_insert_3 : decode cX0_insert 3 = .ok (.ifCond .le 35, 3) := by decide +kernel
theorem dX0_insert_6 : decode cX0_insert 6 = .ok (.aload_n 0, 1) := by decide +kernel
theorem dX0_insert_7 : decode cX0_insert 7 = .ok (.getfield 15, 3) := by decide +kernel
theorem dX0_insert_10 : decode cX0_insert 10 = .ok (.iload_n 3, 1) := by decide +kernel
theorem dX0_insert_11 : decode cX0_insert 11 = .ok (.iconst 1, 1) := by decide +kernel
theorem dX0_insert_12 : decode cX0_insert 12 = .ok (.isub, 1) := by decide +kernel
theorem dX0_insert_13 : decode cX0_insert 13 = .ok (.iaload, 1) := by decide +kernel
theorem dX0_insert_14 : decode cX0_insert 14 = .ok (.iload_n 2, 1) := by decide +kernel
theorem dX0_insert_15 : decode cX0_insert 15 = .ok (.if_icmp .le 23, 3) := by decide +kernel
theorem dX0_insert_18 : decode cX0_insert 18 = .ok (.aload_n 0, 1) := by decide +kernel
theorem dX0_insert_19 : decode cX0_insert 19 = .ok (.getfield 15, 3) := by decide +kernel
theorem dX0_insert_22 : decode cX0_insert 22 = .ok (.iload_n 3, 1) := by decide +kernel
theorem dX0_insert_23 : decode cX0_insert 23 = .ok (.aload_n 0, 1) := by decide +kernel
theorem dX0_insert_24 : decode cX0_insert 24 = .ok (.getfield 15, 3) := by decide +kernel
theorem dX0_insert_27 : decode cX0_insert 27 = .ok (.iload_n 3, 1) := by decide +kernel
theorem dX0_insert_28 : decode cX0_insert 28 = .ok (.iconst 1, 1) := by decide +kernel
theorem dX0_insert_29 : decode cX0_insert 29 = .ok (.isub, 1) := by decide +kernel
theorem dX0_insert_30 : decode cX0_insert 30 = .ok (.iaload, 1) := by decide +kernel
theorem dX0_insert_31 : decode cX0_insert 31 = .ok (.iastore, 1) := by decide +kernel
theorem dX0_insert_32 : decode cX0_insert 32 = .ok (.iinc 3 (-1), 3) := by decide +kernel
theorem dX0_insert_35 : decode cX0_insert 35 = .ok (.goto (-33), 3) := by decide +kernel
theorem dX0_insert_38 : decode cX0_insert 38 = .ok (.aload_n 0, 1) := by decide +kernel
theorem dX0_insert_39 : decode cX0_insert 39 = .ok (.getfield 15, 3) := by decide +kernel
theorem dX0_insert_42 : decode cX0_insert 42 = .ok (.iload_n 3, 1) := by decide +kernel
theorem dX0_insert_43 : decode cX0_insert 43 = .ok (.iload_n 2, 1) := by decide +kernel
theorem dX0_insert_44 : decode cX0_insert 44 = .ok (.iastore, 1) := by decide +kernel
theorem dX0_insert_45 : decode cX0_insert 45 = .ok (.return_, 1) := by decide +kernel
set_option maxRecDepth 20000 in
theorem ggX0_madeBy_X0_pop : GoodIn wsX0_madeBy wsX0_pop := goodIn_r _ [16, 1, 17, 28, 29, 30, 31, 32] (by decide +kernel) (by decide +kernel)
set_option maxRecDepth 20000 in
theorem gX0_madeBy_X0_pop : GoodIn wsX0_madeBy (wsV RX0 103 RX0 yX0_pop wsX0_pop) := goodIn_app (goodIn_of _ (by decide +kernel)) ggX0_madeBy_X0_pop
set_option maxRecDepth 20000 in
theorem ggX0_madeBy_X0_push : GoodIn wsX0_madeBy wsX0_push := goodIn_r _ [21, 1, 17, 28, 29, 30, 31, 32] (by decide +kernel) (by decide +kernel)
set_option maxRecDepth 20000 in
theorem gX0_madeBy_X0_push : GoodIn wsX0_madeBy (wsV RX0 107 RX0 yX0_push wsX0_push) := goodIn_app (goodIn_of _ (by decide +kernel)) ggX0_madeBy_X0_push
set_option maxRecDepth 20000 in
theorem ggX0_madeBy_X0_placeOf : GoodIn wsX0_madeBy wsX0_placeOf := goodIn_r _ [25, 26, 27, 8, 9, 6, 10, 28, 29, 30, 31, 32, 35, 36, 37, 38, 39, 40, 41, 42, 43] (by decide +kernel) (by decide +kernel)
set_option maxRecDepth 20000 in
theorem gX0_madeBy_X0_placeOf : GoodIn wsX0_madeBy (wsV RX0 111 RX0 yX0_placeOf wsX0_placeOf) := goodIn_app (goodIn_of _ (by decide +kernel)) ggX0_madeBy_X0_placeOf
theorem dX0_madeBy_0 : decode cX0_madeBy 0 = .ok (.aload_n 0, 1) := by decide +kernel
theorem dX0_madeBy_1 : decode cX0_madeBy 1 = .ok (.iconst 0, 1) := by decide +kernel
theorem dX0_madeBy_2 : decode cX0_madeBy 2 = .ok (.putfield 92, 3) := by decide +kernel
theorem dX0_madeBy_5 : decode cX0_madeBy 5 = .ok (.iconst 0, 1) := by decide +kernel
theorem dX0_madeBy_6 : decode cX0_madeBy 6 = .ok (.istore_n 3, 1) := by decide +kernel
theorem dX0_madeBy_7 : decode cX0_madeBy 7 = .ok (.aload_n 1, 1) := by decide +kernel
theorem dX0_madeBy_8 : decode cX0_madeBy 8 = .ok (.getfield 95, 3) := by decide +kernel
theorem dX0_madeBy_11 : decode cX0_madeBy 11 = .ok (.iconst 1, 1) := by decide +kernel
theorem dX0_madeBy_12 : decode cX0_madeBy 12 = .ok (.isub, 1) := by decide +kernel
theorem dX0_madeBy_13 : decode cX0_madeBy 13 = .ok (.istore 4, 2) := by decide +kernel
theorem dX0_madeBy_15 : decode cX0_madeBy 15 = .ok (.iload 4, 2) := by decide +kernel
theorem dX0_madeBy_17 : decode cX0_madeBy 17 = .ok (.ifCond .lt 243, 3) := by decide +kernel
theorem dX0_madeBy_20 : decode cX0_madeBy 20 = .ok (.aload_n 1, 1) := by decide +kernel
theorem dX0_madeBy_21 : decode cX0_madeBy 21 = .ok (.getfield 100, 3) := by decide +kernel
theorem dX0_madeBy_24 : decode cX0_madeBy 24 = .ok (.iload 4, 2) := by decide +kernel
theorem dX0_madeBy_26 : decode cX0_madeBy 26 = .ok (.iaload, 1) := by decide +kernel
theorem dX0_madeBy_27 : decode cX0_madeBy 27 = .ok (.istore 5, 2) := by decide +kernel
theorem dX0_madeBy_29 : decode cX0_madeBy 29 = .ok (.iload 5, 2) := by decide +kernel
theorem dX0_madeBy_31 : decode cX0_madeBy 31 = .ok (.lookupswitch 217 #[(43, 178), (45, 165), (47, 133), (60, 97), (62, 115), (102, 199), (104, 191), (108, 199), (109, 199), (112, 199), (126, 151)], 97) := by decide +kernel
theorem dX0_madeBy_128 : decode cX0_madeBy 128 = .ok (.aload_n 0, 1) := by decide +kernel
theorem dX0_madeBy_129 : decode cX0_madeBy 129 = .ok (.aload_n 0, 1) := by decide +kernel
theorem dX0_madeBy_130 : decode cX0_madeBy 130 = .ok (.invokevirtual 103, 3) := by decide +kernel
theorem dX0_madeBy_133 : decode cX0_madeBy 133 = .ok (.aload_n 0, 1) := by decide +kernel
theorem dX0_madeBy_134 : decode cX0_madeBy 134 = .ok (.invokevirtual 103, 3) := by decide +kernel
theorem dX0_madeBy_137 : decode cX0_madeBy 137 = .ok (.invokestatic 55, 3) := by decide +kernel
theorem dX0_madeBy_140 : decode cX0_madeBy 140 = .ok (.invokevirtual 107, 3) := by decide +kernel
theorem dX0_madeBy_143 : decode cX0_madeBy 143 = .ok (.goto 111, 3) := by decide +kernel
theorem dX0_madeBy_146 : decode cX0_madeBy 146 = .ok (.aload_n 0, 1) := by decide +kernel
theorem dX0_madeBy_147 : decode cX0_madeBy 147 = .ok (.aload_n 0, 1) := by decide +kernel
theorem dX0_madeBy_148 : decode cX0_madeBy 148 = .ok (.invokevirtual 103, 3) := by decide +kernel
theorem dX0_madeBy_151 : decode cX0_madeBy 151 = .ok (.aload_n 0, 1) := by decide +kernel
theorem dX0_madeBy_152 : decode cX0_madeBy 152 = .ok (.invokevirtual 103, 3) := by decide +kernel
theorem dX0_madeBy_155 : decode cX0_madeBy 155 = .ok (.invokestatic 61, 3) := by decide +kernel
theorem dX0_madeBy_158 : decode cX0_madeBy 158 = .ok (.invokevirtual 107, 3) := by decide +kernel
theorem dX0_madeBy_161 : decode cX0_madeBy 161 = .ok (.goto 93, 3) := by decide +kernel
theorem dX0_madeBy_164 : decode cX0_madeBy 164 = .ok (.aload_n 0, 1) := by decide +kernel
theorem dX0_madeBy_165 : decode cX0_madeBy 165 = .ok (.aload_n 0, 1) := by decide +kernel
theorem dX0_madeBy_166 : decode cX0_madeBy 166 = .ok (.invokevirtual 103, 3) := by decide +kernel
theorem dX0_madeBy_169 : decode cX0_madeBy 169 = .ok (.aload_n 0, 1) := by decide +kernel
theorem dX0_madeBy_170 : decode cX0_madeBy 170 = .ok (.invokevirtual 103, 3) := by decide +kernel
theorem dX0_madeBy_173 : decode cX0_madeBy 173 = .ok (.iadd, 1) := by decide +kernel
theorem dX0_madeBy_174 : decode cX0_madeBy 174 = .ok (.iconst 2, 1) := by decide +kernel
theorem dX0_madeBy_175 : decode cX0_madeBy 175 = .ok (.idiv, 1) := by decide +kernel
theorem dX0_madeBy_176 : decode cX0_madeBy 176 = .ok (.invokevirtual 107, 3) := by decide +kernel
theorem dX0_madeBy_179 : decode cX0_madeBy 179 = .ok (.goto 75, 3) := by decide +kernel
theorem dX0_madeBy_182 : decode cX0_madeBy 182 = .ok (.aload_n 0, 1) := by decide +kernel
theorem dX0_madeBy_183 : decode cX0_madeBy 183 = .ok (.bipush 23, 2) := by decide +kernel
theorem dX0_madeBy_185 : decode cX0_madeBy 185 = .ok (.aload_n 0, 1) := by decide +kernel
theorem dX0_madeBy_186 : decode cX0_madeBy 186 = .ok (.invokevirtual 103, 3) := by decide +kernel
theorem dX0_madeBy_189 : decode cX0_madeBy 189 = .ok (.isub, 1) := by decide +kernel
theorem dX0_madeBy_190 : decode cX0_madeBy 190 = .ok (.invokevirtual 107, 3) := by decide +kernel
theorem dX0_madeBy_193 : decode cX0_madeBy 193 = .ok (.goto 61, 3) := by decide +kernel
theorem dX0_madeBy_196 : decode cX0_madeBy 196 = .ok (.aload_n 0, 1) := by decide +kernel
theorem dX0_madeBy_197 : decode cX0_madeBy 197 = .ok (.aload_n 0, 1) := by decide +kernel
theorem dX0_madeBy_198 : decode cX0_madeBy 198 = .ok (.invokevirtual 103, 3) := by decide +kernel
theorem dX0_madeBy_201 : decode cX0_madeBy 201 = .ok (.iload_n 3, 1) := by decide +kernel
theorem dX0_madeBy_202 : decode cX0_madeBy 202 = .ok (.isub, 1) := by decide +kernel
theorem dX0_madeBy_203 : decode cX0_madeBy 203 = .ok (.invokevirtual 107, 3) := by decide +kernel
theorem dX0_madeBy_206 : decode cX0_madeBy 206 = .ok (.goto 48, 3) := by decide +kernel
theorem dX0_madeBy_209 : decode cX0_madeBy 209 = .ok (.aload_n 0, 1) := by decide +kernel
theorem dX0_madeBy_210 : decode cX0_madeBy 210 = .ok (.aload_n 0, 1) := by decide +kernel
theorem dX0_madeBy_211 : decode cX0_madeBy 211 = .ok (.invokevirtual 103, 3) := by decide +kernel
theorem dX0_madeBy_214 : decode cX0_madeBy 214 = .ok (.iload_n 3, 1) := by decide +kernel
theorem dX0_madeBy_215 : decode cX0_madeBy 215 = .ok (.iadd, 1) := by decide +kernel
theorem dX0_madeBy_216 : decode cX0_madeBy 216 = .ok (.invokevirtual 107, 3) := by decide +kernel
theorem dX0_madeBy_219 : decode cX0_madeBy 219 = .ok (.goto 35, 3) := by decide +kernel
theorem dX0_madeBy_222 : decode cX0_madeBy 222 = .ok (.aload_n 0, 1) := by decide +kernel
theorem dX0_madeBy_223 : decode cX0_madeBy 223 = .ok (.iload_n 2, 1) := by decide +kernel
theorem dX0_madeBy_224 : decode cX0_madeBy 224 = .ok (.invokevirtual 107, 3) := by decide +kernel
theorem dX0_madeBy_227 : decode cX0_madeBy 227 = .ok (.goto 27, 3) := by decide +kernel
theorem dX0_madeBy_230 : decode cX0_madeBy 230 = .ok (.aload_n 0, 1) := by decide +kernel
theorem dX0_madeBy_231 : decode cX0_madeBy 231 = .ok (.aload_n 0, 1) := by decide +kernel
theorem dX0_madeBy_232 : decode cX0_madeBy 232 = .ok (.getfield 15, 3) := by decide +kernel
theorem dX0_madeBy_235 : decode cX0_madeBy 235 = .ok (.aload_n 0, 1) := by decide +kernel
theorem dX0_madeBy_236 : decode cX0_madeBy 236 = .ok (.iload 5, 2) := by decide +kernel
theorem dX0_madeBy_238 : decode cX0_madeBy 238 = .ok (.invokevirtual 111, 3) := by decide +kernel
theorem dX0_madeBy_241 : decode cX0_madeBy 241 = .ok (.iaload, 1) := by decide +kernel
theorem dX0_madeBy_242 : decode cX0_madeBy 242 = .ok (.invokevirtual 107, 3) := by decide +kernel
theorem dX0_madeBy_245 : decode cX0_madeBy 245 = .ok (.goto 9, 3) := by decide +kernel
theorem dX0_madeBy_248 : decode cX0_madeBy 248 = .ok (.iload 5, 2) := by decide +kernel
theorem dX0_madeBy_250 : decode cX0_madeBy 250 = .ok (.bipush 48, 2) := by decide +kernel
theorem dX0_madeBy_252 : decode cX0_madeBy 252 = .ok (.isub, 1) := by decide +kernel
theorem dX0_madeBy_253 : decode cX0_madeBy 253 = .ok (.istore_n 3, 1) := by decide +kernel
theorem dX0_madeBy_254 : decode cX0_madeBy 254 = .ok (.iinc 4 (-1), 3) := by decide +kernel
theorem dX0_madeBy_257 : decode cX0_madeBy 257 = .ok (.goto (-242), 3) := by decide +kernel
theorem dX0_madeBy_260 : decode cX0_madeBy 260 = .ok (.aload_n 0, 1) := by decide +kernel
theorem dX0_madeBy_261 : decode cX0_madeBy 261 = .ok (.invokevirtual 103, 3) := by decide +kernel
theorem dX0_madeBy_264 : decode cX0_madeBy 264 = .ok (.ireturn, 1) := by decide +kernel
theorem dX0_placeOf_0 : decode cX0_placeOf 0 = .ok (.aload_n 0, 1) := by decide +kernel
theorem dX0_placeOf_1 : decode cX0_placeOf 1 = .ok (.getfield 21, 3) := by decide +kernel
theorem dX0_placeOf_4 : decode cX0_placeOf 4 = .ok (.getfield 36, 3) := by decide +kernel
theorem dX0_placeOf_7 : decode cX0_placeOf 7 = .ok (.iconst 1, 1) := by decide +kernel
theorem dX0_placeOf_8 : decode cX0_placeOf 8 = .ok (.isub, 1) := by decide +kernel
theorem dX0_placeOf_9 : decode cX0_placeOf 9 = .ok (.istore_n 2, 1) := by decide +kernel
theorem dX0_placeOf_10 : decode cX0_placeOf 10 = .ok (.iload_n 1, 1) := by decide +kernel
theorem dX0_placeOf_11 : decode cX0_placeOf 11 = .ok (.tableswitch 47 108 112 #[33, 35, 47, 47, 39], 33) := by decide +kernel
theorem dX0_placeOf_44 : decode cX0_placeOf 44 = .ok (.iload_n 2, 1) := by decide +kernel
theorem dX0_placeOf_45 : decode cX0_placeOf 45 = .ok (.ireturn, 1) := by decide +kernel
theorem dX0_placeOf_46 : decode cX0_placeOf 46 = .ok (.iload_n 2, 1) := by decide +kernel
theorem dX0_placeOf_47 : decode cX0_placeOf 47 = .ok (.iconst 2, 1) := by decide +kernel
theorem dX0_placeOf_48 : decode cX0_placeOf 48 = .ok (.idiv, 1) := by decide +kernel
theorem dX0_placeOf_49 : decode cX0_placeOf 49 = .ok (.ireturn, 1) := by decide +kernel
theorem dX0_placeOf_50 : decode cX0_placeOf 50 = .ok (.iconst 0, 1) := by decide +kernel
theorem dX0_placeOf_51 : decode cX0_placeOf 51 = .ok (.iload_n 2, 1) := by decide +kernel
theorem dX0_placeOf_52 : decode cX0_placeOf 52 = .ok (.iconst 1, 1) := by decide +kernel
theorem dX0_placeOf_53 : decode cX0_placeOf 53 = .ok (.isub, 1) := by decide +kernel
theorem dX0_placeOf_54 : decode cX0_placeOf 54 = .ok (.invokestatic 61, 3) := by decide +kernel
theorem dX0_placeOf_57 : decode cX0_placeOf 57 = .ok (.ireturn, 1) := by decide +kernel
theorem dX0_placeOf_58 : decode cX0_placeOf 58 = .ok (.iconst 0, 1) := by decide +kernel
theorem dX0_placeOf_59 : decode cX0_placeOf 59 = .ok (.ireturn, 1) := by decide +kernel
theorem dX0_push_0 : decode cX0_push 0 = .ok (.aload_n 0, 1) := by decide +kernel
theorem dX0_push_1 : decode cX0_push 1 = .ok (.getfield 92, 3) := by decide +kernel
theorem dX0_push_4 : decode cX0_push 4 = .ok (.bipush 20, 2) := by decide +kernel
theorem dX0_push_6 : decode cX0_push 6 = .ok (.if_icmp .ge 23, 3) := by decide +kernel
theorem dX0_push_9 : decode cX0_push 9 = .ok (.aload_n 0, 1) := by decide +kernel
theorem dX0_push_10 : decode cX0_push 10 = .ok (.getfield 18, 3) := by decide +kernel
theorem dX0_push_13 : decode cX0_push 13 = .ok (.aload_n 0, 1) := by decide +kernel
theorem dX0_push_14 : decode cX0_push 14 = .ok (.getfield 92, 3) := by decide +kernel
theorem dX0_push_17 : decode cX0_push 17 = .ok (.iload_n 1, 1) := by decide +kernel
theorem dX0_push_18 : decode cX0_push 18 = .ok (.iastore, 1) := by decide +kernel
theorem dX0_push_19 : decode cX0_push 19 = .ok (.aload_n 0, 1) := by decide +kernel
theorem dX0_push_20 : decode cX0_push 20 = .ok (.dup, 1) := by decide +kernel
theorem dX0_push_21 : decode cX0_push 21 = .ok (.getfield 92, 3) := by decide +kernel
theorem dX0_push_24 : decode cX0_push 24 = .ok (.iconst 1, 1) := by decide +kernel
theorem dX0_push_25 : decode cX0_push 25 = .ok (.iadd, 1) := by decide +kernel
theorem dX0_push_26 : decode cX0_push 26 = .ok (.putfield 92, 3) := by decide +kernel
theorem dX0_push_29 : decode cX0_push 29 = .ok (.return_, 1) := by decide +kernel
theorem dX0_pop_0 : decode cX0_pop 0 = .ok (.aload_n 0, 1) := by decide +kernel
theorem dX0_pop_1 : decode cX0_pop 1 = .ok (.getfield 92, 3) := by decide +kernel
theorem dX0_pop_4 : decode cX0_pop 4 = .ok (.ifCond .le 23, 3) := by decide +kernel
theorem dX0_pop_7 : decode cX0_pop 7 = .ok (.aload_n 0, 1) := by decide +kernel
theorem dX0_pop_8 : decode cX0_pop 8 = .ok (.dup, 1) := by decide +kernel
theorem dX0_pop_9 : decode cX0_pop 9 = .ok (.getfield 92, 3) := by decide +kernel
theorem dX0_pop_12 : decode cX0_pop 12 = .ok (.iconst 1, 1) := by decide +kernel
theorem dX0_pop_13 : decode cX0_pop 13 = .ok (.isub, 1) := by decide +kernel
theorem dX0_pop_14 : decode cX0_pop 14 = .ok (.putfield 92, 3) := by decide +kernel
theorem dX0_pop_17 : decode cX0_pop 17 = .ok (.aload_n 0, 1) := by decide +kernel
theorem dX0_pop_18 : decode cX0_pop 18 = .ok (.getfield 18, 3) := by decide +kernel
theorem dX0_pop_21 : decode cX0_pop 21 = .ok (.aload_n 0, 1) := by decide +kernel
theorem dX0_pop_22 : decode cX0_pop 22 = .ok (.getfield 92, 3) := by decide +kernel
theorem dX0_pop_25 : decode cX0_pop 25 = .ok (.iaload, 1) := by decide +kernel
theorem dX0_pop_26 : decode cX0_pop 26 = .ok (.ireturn, 1) := by decide +kernel
theorem dX0_pop_27 : decode cX0_pop 27 = .ok (.iconst 0, 1) := by decide +kernel
theorem dX0_pop_28 : decode cX0_pop 28 = .ok (.ireturn, 1) := by decide +kernel
theorem dX1_init_0 : decode cX1_init 0 = .ok (.aload_n 0, 1) := by decide +kernel
theorem dX1_init_1 : decode cX1_init 1 = .ok (.invokespecial 3, 3) := by decide +kernel
theorem dX1_init_4 : decode cX1_init 4 = .ok (.aload_n 0, 1) := by decide +kernel
theorem dX1_init_5 : decode cX1_init 5 = .ok (.bipush 24, 2) := by decide +kernel
theorem dX1_init_7 : decode cX1_init 7 = .ok (.newarray .long, 2) := by decide +kernel
theorem dX1_init_9 : decode cX1_init 9 = .ok (.putfield 9, 3) := by decide +kernel
theorem dX1_init_12 : decode cX1_init 12 = .ok (.aload_n 0, 1) := by decide +kernel
theorem dX1_init_13 : decode cX1_init 13 = .ok (.bipush 24, 2) := by decide +kernel
theorem dX1_init_15 : decode cX1_init 15 = .ok (.newarray .long, 2) := by decide +kernel
theorem dX1_init_17 : decode cX1_init 17 = .ok (.putfield 15, 3) := by decide +kernel
theorem dX1_init_20 : decode cX1_init 20 = .ok (.aload_n 0, 1) := by decide +kernel
theorem dX1_init_21 : decode cX1_init 21 = .ok (.aload_n 1, 1) := by decide +kernel
theorem dX1_init_22 : decode cX1_init 22 = .ok (.putfield 18, 3) := by decide +kernel
theorem dX1_init_25 : decode cX1_init 25 = .ok (.return_, 1) := by decide +kernel
set_option maxRecDepth 20000 in
theorem ggX1_rainOn_J7_fill_d0a16 : GoodIn wsX1_rainOn wsJ7_fill_d0a16 := goodIn_r _ [10] (by decide +kernel) (by decide +kernel)
set_option maxRecDepth 20000 in
theorem gX1_rainOn_J7_fill_d0a16 : GoodIn wsX1_rainOn (va_wsS RX1 22 yJ7_fill_d0a16 wsJ7_fill_d0a16) := goodIn_app (goodIn_of _ (by decide +kernel)) ggX1_rainOn_J7_fill_d0a16
set_option maxRecDepth 20000 in
theorem ggX1_rainOn_X1_rainOneWeek : GoodIn wsX1_rainOn wsX1_rainOneWeek := goodIn_r _ [15, 16, 1, 17, 18, 19, 20, 21, 22, 23, 24, 7, 8, 9, 10, 25, 26, 27, 28, 29, 30, 31, 32, 33, 34, 35, 36, 37, 38, 39, 40, 41, 42, 43, 44, 45, 46, 47, 48, 49, 50, 51, 52, 53, 54, 55, 56, 57, 58, 59, 60, 61, 62, 63, 64, 65, 66, 67, 68, 69, 74, 75, 76, 77, 78, 79, 80, 81, 82, 83, 84, 85, 86, 87, 88, 89, 90, 91, 92, 93, 94, 95, 96, 97] (by decide +kernel) (by decide +kernel)
set_option maxRecDepth 20000 in
theorem gX1_rainOn_X1_rainOneWeek : GoodIn wsX1_rainOn (wsV RX1 32 RX1 yX1_rainOneWeek wsX1_rainOneWeek) := goodIn_app (goodIn_of _ (by decide +kernel)) ggX1_rainOn_X1_rainOneWeek
set_option maxRecDepth 20000 in
theorem ggX1_rainOn_X1_cancel : GoodIn wsX1_rainOn wsX1_cancel := goodIn_r _ [73, 4, 2, 74, 75, 76, 77, 78, 79, 80, 81] (by decide +kernel) (by decide +kernel)
set_option maxRecDepth 20000 in
theorem gX1_rainOn_X1_cancel : GoodIn wsX1_rainOn (wsV RX1 43 RX1 yX1_cancel wsX1_cancel) := goodIn_app (goodIn_of _ (by decide +kernel)) ggX1_rainOn_X1_cancel
theorem dX1_rainOn_0 : decode cX1_rainOn 0 = .ok (.aload_n 0, 1) := by decide +kernel
theorem dX1_rainOn_1 : decode cX1_rainOn 1 = .ok (.getfield 9, 3) := by decide +kernel
theorem dX1_rainOn_4 : decode cX1_rainOn 4 = .ok (.lconst 0, 1) := by decide +kernel
theorem dX1_rainOn_5 : decode cX1_rainOn 5 = .ok (.invokestatic 22, 3) := by decide +kernel
theorem dX1_rainOn_8 : decode cX1_rainOn 8 = .ok (.aload_n 0, 1) := by decide +kernel
theorem dX1_rainOn_9 : decode cX1_rainOn 9 = .ok (.getfield 9, 3) := by decide +kernel
theorem dX1_rainOn_12 : decode cX1_rainOn 12 = .ok (.iload_n 1, 1) := by decide +kernel
theorem dX1_rainOn_13 : decode cX1_rainOn 13 = .ok (.lconst 1, 1) := by decide +kernel
theorem dX1_rainOn_14 : decode cX1_rainOn 14 = .ok (.lastore, 1) := by decide +kernel
theorem dX1_rainOn_15 : decode cX1_rainOn 15 = .ok (.aload_n 0, 1) := by decide +kernel
theorem dX1_rainOn_16 : decode cX1_rainOn 16 = .ok (.lconst 1, 1) := by decide +kernel
theorem dX1_rainOn_17 : decode cX1_rainOn 17 = .ok (.putfield 28, 3) := by decide +kernel
theorem dX1_rainOn_20 : decode cX1_rainOn 20 = .ok (.iconst 0, 1) := by decide +kernel
theorem dX1_rainOn_21 : decode cX1_rainOn 21 = .ok (.istore 5, 2) := by decide +kernel
theorem dX1_rainOn_23 : decode cX1_rainOn 23 = .ok (.iload 5, 2) := by decide +kernel
theorem dX1_rainOn_25 : decode cX1_rainOn 25 = .ok (.iload_n 2, 1) := by decide +kernel
theorem dX1_rainOn_26 : decode cX1_rainOn 26 = .ok (.if_icmp .ge 28, 3) := by decide +kernel
theorem dX1_rainOn_29 : decode cX1_rainOn 29 = .ok (.aload_n 0, 1) := by decide +kernel
theorem dX1_rainOn_30 : decode cX1_rainOn 30 = .ok (.iload_n 3, 1) := by decide +kernel
theorem dX1_rainOn_31 : decode cX1_rainOn 31 = .ok (.iload 4, 2) := by decide +kernel
theorem dX1_rainOn_33 : decode cX1_rainOn 33 = .ok (.invokevirtual 32, 3) := by decide +kernel
theorem dX1_rainOn_36 : decode cX1_rainOn 36 = .ok (.aload_n 0, 1) := by decide +kernel
theorem dX1_rainOn_37 : decode cX1_rainOn 37 = .ok (.dup, 1) := by decide +kernel
theorem dX1_rainOn_38 : decode cX1_rainOn 38 = .ok (.getfield 28, 3) := by decide +kernel
theorem dX1_rainOn_41 : decode cX1_rainOn 41 = .ok (.ldc2_w 36, 3) := by decide +kernel
theorem dX1_rainOn_44 : decode cX1_rainOn 44 = .ok (.lmul, 1) := by decide +kernel
theorem dX1_rainOn_45 : decode cX1_rainOn 45 = .ok (.putfield 28, 3) := by decide +kernel
theorem dX1_rainOn_48 : decode cX1_rainOn 48 = .ok (.iinc 5 1, 3) := by decide +kernel
theorem dX1_rainOn_51 : decode cX1_rainOn 51 = .ok (.goto (-28), 3) := by decide +kernel
theorem dX1_rainOn_54 : decode cX1_rainOn 54 = .ok (.aload_n 0, 1) := by decide +kernel
theorem dX1_rainOn_55 : decode cX1_rainOn 55 = .ok (.lconst 0, 1) := by decide +kernel
theorem dX1_rainOn_56 : decode cX1_rainOn 56 = .ok (.putfield 38, 3) := by decide +kernel
theorem dX1_rainOn_59 : decode cX1_rainOn 59 = .ok (.iconst 0, 1) := by decide +kernel
theorem dX1_rainOn_60 : decode cX1_rainOn 60 = .ok (.istore 5, 2) := by decide +kernel
theorem dX1_rainOn_62 : decode cX1_rainOn 62 = .ok (.iload 5, 2) := by decide +kernel
theorem dX1_rainOn_64 : decode cX1_rainOn 64 = .ok (.bipush 24, 2) := by decide +kernel
theorem dX1_rainOn_66 : decode cX1_rainOn 66 = .ok (.if_icmp .ge 29, 3) := by decide +kernel
theorem dX1_rainOn_69 : decode cX1_rainOn 69 = .ok (.aload_n 0, 1) := by decide +kernel
theorem dX1_rainOn_70 : decode cX1_rainOn 70 = .ok (.dup, 1) := by decide +kernel
theorem dX1_rainOn_71 : decode cX1_rainOn 71 = .ok (.getfield 38, 3) := by decide +kernel
theorem dX1_rainOn_74 : decode cX1_rainOn 74 = .ok (.iload 5, 2) := by decide +kernel
theorem dX1_rainOn_76 : decode cX1_rainOn 76 = .ok (.i2l, 1) := by decide +kernel
theorem dX1_rainOn_77 : decode cX1_rainOn 77 = .ok (.aload_n 0, 1) := by decide +kernel
theorem dX1_rainOn_78 : decode cX1_rainOn 78 = .ok (.getfield 9, 3) := by decide +kernel
theorem dX1_rainOn_81 : decode cX1_rainOn 81 = .ok (.iload 5, 2) := by decide +kernel
theorem dX1_rainOn_83 : decode cX1_rainOn 83 = .ok (.laload, 1) := by decide +kernel
theorem dX1_rainOn_84 : decode cX1_rainOn 84 = .ok (.lmul, 1) := by decide +kernel
theorem dX1_rainOn_85 : decode cX1_rainOn 85 = .ok (.ladd, 1) := by decide +kernel
theorem dX1_rainOn_86 : decode cX1_rainOn 86 = .ok (.putfield 38, 3) := by decide +kernel
theorem dX1_rainOn_89 : decode cX1_rainOn 89 = .ok (.iinc 5 1, 3) := by decide +kernel
theorem dX1_rainOn_92 : decode cX1_rainOn 92 = .ok (.goto (-30), 3) := by decide +kernel
theorem dX1_rainOn_95 : decode cX1_rainOn 95 = .ok (.aload_n 0, 1) := by decide +kernel
theorem dX1_rainOn_96 : decode cX1_rainOn 96 = .ok (.ldc2_w 41, 3) := by decide +kernel
theorem dX1_rainOn_99 : decode cX1_rainOn 99 = .ok (.iload_n 2, 1) := by decide +kernel
theorem dX1_rainOn_100 : decode cX1_rainOn 100 = .ok (.invokevirtual 43, 3) := by decide +kernel
theorem dX1_rainOn_103 : decode cX1_rainOn 103 = .ok (.aload_n 0, 1) := by decide +kernel
theorem dX1_rainOn_104 : decode cX1_rainOn 104 = .ok (.ldc2_w 47, 3) := by decide +kernel
theorem dX1_rainOn_107 : decode cX1_rainOn 107 = .ok (.iload_n 2, 1) := by decide +kernel
theorem dX1_rainOn_108 : decode cX1_rainOn 108 = .ok (.invokevirtual 43, 3) := by decide +kernel
theorem dX1_rainOn_111 : decode cX1_rainOn 111 = .ok (.return_, 1) := by decide +kernel
set_option maxRecDepth 20000 in
theorem ggX1_rainOneWeek_J7_fill_d0a16 : GoodIn wsX1_rainOneWeek wsJ7_fill_d0a16 := goodIn_r _ [14] (by decide +kernel) (by decide +kernel)
set_option maxRecDepth 20000 in
theorem gX1_rainOneWeek_J7_fill_d0a16 : GoodIn wsX1_rainOneWeek (va_wsS RX1 22 yJ7_fill_d0a16 wsJ7_fill_d0a16) := goodIn_app (goodIn_of _ (by decide +kernel)) ggX1_rainOneWeek_J7_fill_d0a16
set_option maxRecDepth 20000 in
theorem ggX1_rainOneWeek_X0_nextHour : GoodIn wsX1_rainOneWeek wsX0_nextHour := goodIn_r _ [19, 20, 21, 22, 23, 24, 25, 26, 27, 28, 29, 30, 31, 32, 33, 34, 35, 36, 37, 18, 38, 39, 40, 41, 42, 43, 44, 45, 46, 47, 48, 49, 50, 51, 52, 53, 54, 55, 56, 57, 58, 59, 68, 69, 70, 71, 72, 73, 74, 75, 76, 77, 78, 79, 80, 81, 82, 83] (by decide +kernel) (by decide +kernel)
set_option maxRecDepth 20000 in
theorem gX1_rainOneWeek_X0_nextHour : GoodIn wsX1_rainOneWeek (wsV RX1 65 RX0 yX0_nextHour wsX0_nextHour) := goodIn_app (goodIn_of _ (by decide +kernel)) ggX1_rainOneWeek_X0_nextHour
theorem dX1_rainOneWeek_0 : decode cX1_rainOneWeek 0 = .ok (.aload_n 0, 1) := by decide +kernel
theorem dX1_rainOneWeek_1 : decode cX1_rainOneWeek 1 = .ok (.getfield 15, 3) := by decide +kernel
theorem dX1_rainOneWeek_4 : decode cX1_rainOneWeek 4 = .ok (.lconst 0, 1) := by decide +kernel
theorem dX1_rainOneWeek_5 : decode cX1_rainOneWeek 5 = .ok (.invokestatic 22, 3) := by decide +kernel
theorem dX1_rainOneWeek_8 : decode cX1_rainOneWeek 8 = .ok (.iconst 0, 1) := by decide +kernel
theorem dX1_rainOneWeek_9 : decode cX1_rainOneWeek 9 = .ok (.istore_n 3, 1) := by decide +kernel
theorem dX1_rainOneWeek_10 : decode cX1_rainOneWeek 10 = .ok (.iload_n 3, 1) := by decide +kernel
theorem dX1_rainOneWeek_11 : decode cX1_rainOneWeek 11 = .ok (.bipush 24, 2) := by decide +kernel
theorem dX1_rainOneWeek_13 : decode cX1_rainOneWeek 13 = .ok (.if_icmp .ge 123, 3) := by decide +kernel
theorem dX1_rainOneWeek_16 : decode cX1_rainOneWeek 16 = .ok (.aload_n 0, 1) := by decide +kernel
theorem dX1_rainOneWeek_17 : decode cX1_rainOneWeek 17 = .ok (.getfield 9, 3) := by decide +kernel
theorem dX1_rainOneWeek_20 : decode cX1_rainOneWeek 20 = .ok (.iload_n 3, 1) := by decide +kernel
theorem dX1_rainOneWeek_21 : decode cX1_rainOneWeek 21 = .ok (.laload, 1) := by decide +kernel
theorem dX1_rainOneWeek_22 : decode cX1_rainOneWeek 22 = .ok (.lconst 0, 1) := by decide +kernel
theorem dX1_rainOneWeek_23 : decode cX1_rainOneWeek 23 = .ok (.lcmp, 1) := by decide +kernel
theorem dX1_rainOneWeek_24 : decode cX1_rainOneWeek 24 = .ok (.ifCond .eq 106, 3) := by decide +kernel
theorem dX1_rainOneWeek_27 : decode cX1_rainOneWeek 27 = .ok (.aload_n 0, 1) := by decide +kernel
theorem dX1_rainOneWeek_28 : decode cX1_rainOneWeek 28 = .ok (.getfield 18, 3) := by decide +kernel
theorem dX1_rainOneWeek_31 : decode cX1_rainOneWeek 31 = .ok (.aload_n 0, 1) := by decide +kernel
theorem dX1_rainOneWeek_32 : decode cX1_rainOneWeek 32 = .ok (.getfield 18, 3) := by decide +kernel
theorem dX1_rainOneWeek_35 : decode cX1_rainOneWeek 35 = .ok (.getfield 49, 3) := by decide +kernel
theorem dX1_rainOneWeek_38 : decode cX1_rainOneWeek 38 = .ok (.getfield 55, 3) := by decide +kernel
theorem dX1_rainOneWeek_41 : decode cX1_rainOneWeek 41 = .ok (.iload_n 3, 1) := by decide +kernel
theorem dX1_rainOneWeek_42 : decode cX1_rainOneWeek 42 = .ok (.aload_n 0, 1) := by decide +kernel
theorem dX1_rainOneWeek_43 : decode cX1_rainOneWeek 43 = .ok (.getfield 18, 3) := by decide +kernel
theorem dX1_rainOneWeek_46 : decode cX1_rainOneWeek 46 = .ok (.getfield 49, 3) := by decide +kernel
theorem dX1_rainOneWeek_49 : decode cX1_rainOneWeek 49 = .ok (.getfield 61, 3) := by decide +kernel
theorem dX1_rainOneWeek_52 : decode cX1_rainOneWeek 52 = .ok (.iconst 0, 1) := by decide +kernel
theorem dX1_rainOneWeek_53 : decode cX1_rainOneWeek 53 = .ok (.invokevirtual 65, 3) := by decide +kernel
theorem dX1_rainOneWeek_56 : decode cX1_rainOneWeek 56 = .ok (.istore 4, 2) := by decide +kernel
theorem dX1_rainOneWeek_58 : decode cX1_rainOneWeek 58 = .ok (.aload_n 0, 1) := by decide +kernel
theorem dX1_rainOneWeek_59 : decode cX1_rainOneWeek 59 = .ok (.getfield 18, 3) := by decide +kernel
theorem dX1_rainOneWeek_62 : decode cX1_rainOneWeek 62 = .ok (.aload_n 0, 1) := by decide +kernel
theorem dX1_rainOneWeek_63 : decode cX1_rainOneWeek 63 = .ok (.getfield 18, 3) := by decide +kernel
theorem dX1_rainOneWeek_66 : decode cX1_rainOneWeek 66 = .ok (.getfield 49, 3) := by decide +kernel
theorem dX1_rainOneWeek_69 : decode cX1_rainOneWeek 69 = .ok (.getfield 55, 3) := by decide +kernel
theorem dX1_rainOneWeek_72 : decode cX1_rainOneWeek 72 = .ok (.iload_n 3, 1) := by decide +kernel
theorem dX1_rainOneWeek_73 : decode cX1_rainOneWeek 73 = .ok (.aload_n 0, 1) := by decide +kernel
theorem dX1_rainOneWeek_74 : decode cX1_rainOneWeek 74 = .ok (.getfield 18, 3) := by decide +kernel
theorem dX1_rainOneWeek_77 : decode cX1_rainOneWeek 77 = .ok (.getfield 49, 3) := by decide +kernel
theorem dX1_rainOneWeek_80 : decode cX1_rainOneWeek 80 = .ok (.getfield 61, 3) := by decide +kernel
theorem dX1_rainOneWeek_83 : decode cX1_rainOneWeek 83 = .ok (.iload_n 2, 1) := by decide +kernel
theorem dX1_rainOneWeek_84 : decode cX1_rainOneWeek 84 = .ok (.invokevirtual 65, 3) := by decide +kernel
theorem dX1_rainOneWeek_87 : decode cX1_rainOneWeek 87 = .ok (.istore 5, 2) := by decide +kernel
theorem dX1_rainOneWeek_89 : decode cX1_rainOneWeek 89 = .ok (.aload_n 0, 1) := by decide +kernel
theorem dX1_rainOneWeek_90 : decode cX1_rainOneWeek 90 = .ok (.getfield 15, 3) := by decide +kernel
theorem dX1_rainOneWeek_93 : decode cX1_rainOneWeek 93 = .ok (.iload 4, 2) := by decide +kernel
theorem dX1_rainOneWeek_95 : decode cX1_rainOneWeek 95 = .ok (.dup2, 1) := by decide +kernel
theorem dX1_rainOneWeek_96 : decode cX1_rainOneWeek 96 = .ok (.laload, 1) := by decide +kernel
theorem dX1_rainOneWeek_97 : decode cX1_rainOneWeek 97 = .ok (.aload_n 0, 1) := by decide +kernel
theorem dX1_rainOneWeek_98 : decode cX1_rainOneWeek 98 = .ok (.getfield 9, 3) := by decide +kernel
theorem dX1_rainOneWeek_101 : decode cX1_rainOneWeek 101 = .ok (.iload_n 3, 1) := by decide +kernel
theorem dX1_rainOneWeek_102 : decode cX1_rainOneWeek 102 = .ok (.laload, 1) := by decide +kernel
theorem dX1_rainOneWeek_103 : decode cX1_rainOneWeek 103 = .ok (.bipush 10, 2) := by decide +kernel
theorem dX1_rainOneWeek_105 : decode cX1_rainOneWeek 105 = .ok (.iload_n 1, 1) := by decide +kernel
theorem dX1_rainOneWeek_106 : decode cX1_rainOneWeek 106 = .ok (.isub, 1) := by decide +kernel
theorem dX1_rainOneWeek_107 : decode cX1_rainOneWeek 107 = .ok (.i2l, 1) := by decide +kernel
theorem dX1_rainOneWeek_108 : decode cX1_rainOneWeek 108 = .ok (.lmul, 1) := by decide +kernel
theorem dX1_rainOneWeek_109 : decode cX1_rainOneWeek 109 = .ok (.ladd, 1) := by decide +kernel
theorem dX1_rainOneWeek_110 : decode cX1_rainOneWeek 110 = .ok (.lastore, 1) := by decide +kernel
theorem dX1_rainOneWeek_111 : decode cX1_rainOneWeek 111 = .ok (.aload_n 0, 1) := by decide +kernel
theorem dX1_rainOneWeek_112 : decode cX1_rainOneWeek 112 = .ok (.getfield 15, 3) := by decide +kernel
theorem dX1_rainOneWeek_115 : decode cX1_rainOneWeek 115 = .ok (.iload 5, 2) := by decide +kernel
theorem dX1_rainOneWeek_117 : decode cX1_rainOneWeek 117 = .ok (.dup2, 1) := by decide +kernel
theorem dX1_rainOneWeek_118 : decode cX1_rainOneWeek 118 = .ok (.laload, 1) := by decide +kernel
theorem dX1_rainOneWeek_119 : decode cX1_rainOneWeek 119 = .ok (.aload_n 0, 1) := by decide +kernel
theorem dX1_rainOneWeek_120 : decode cX1_rainOneWeek 120 = .ok (.getfield 9, 3) := by decide +kernel
theorem dX1_rainOneWeek_123 : decode cX1_rainOneWeek 123 = .ok (.iload_n 3, 1) := by decide +kernel
theorem dX1_rainOneWeek_124 : decode cX1_rainOneWeek 124 = .ok (.laload, 1) := by decide +kernel
theorem dX1_rainOneWeek_125 : decode cX1_rainOneWeek 125 = .ok (.iload_n 1, 1) := by decide +kernel
theorem dX1_rainOneWeek_126 : decode cX1_rainOneWeek 126 = .ok (.i2l, 1) := by decide +kernel
theorem dX1_rainOneWeek_127 : decode cX1_rainOneWeek 127 = .ok (.lmul, 1) := by decide +kernel
theorem dX1_rainOneWeek_128 : decode cX1_rainOneWeek 128 = .ok (.ladd, 1) := by decide +kernel
theorem dX1_rainOneWeek_129 : decode cX1_rainOneWeek 129 = .ok (.lastore, 1) := by decide +kernel
theorem dX1_rainOneWeek_130 : decode cX1_rainOneWeek 130 = .ok (.iinc 3 1, 3) := by decide +kernel
theorem dX1_rainOneWeek_133 : decode cX1_rainOneWeek 133 = .ok (.goto (-123), 3) := by decide +kernel
theorem dX1_rainOneWeek_136 : decode cX1_rainOneWeek 136 = .ok (.aload_n 0, 1) := by decide +kernel
theorem dX1_rainOneWeek_137 : decode cX1_rainOneWeek 137 = .ok (.getfield 15, 3) := by decide +kernel
theorem dX1_rainOneWeek_140 : decode cX1_rainOneWeek 140 = .ok (.iconst 0, 1) := by decide +kernel
theorem dX1_rainOneWeek_141 : decode cX1_rainOneWeek 141 = .ok (.aload_n 0, 1) := by decide +kernel
theorem dX1_rainOneWeek_142 : decode cX1_rainOneWeek 142 = .ok (.getfield 9, 3) := by decide +kernel
theorem dX1_rainOneWeek_145 : decode cX1_rainOneWeek 145 = .ok (.iconst 0, 1) := by decide +kernel
theorem dX1_rainOneWeek_146 : decode cX1_rainOneWeek 146 = .ok (.bipush 24, 2) := by decide +kernel
theorem dX1_rainOneWeek_148 : decode cX1_rainOneWeek 148 = .ok (.invokestatic 69, 3) := by decide +kernel
theorem dX1_rainOneWeek_151 : decode cX1_rainOneWeek 151 = .ok (.return_, 1) := by decide +kernel
theorem dX1_cancel_0 : decode cX1_cancel 0 = .ok (.lload_n 1, 1) := by decide +kernel
theorem dX1_cancel_1 : decode cX1_cancel 1 = .ok (.lconst 0, 1) := by decide +kernel
theorem dX1_cancel_2 : decode cX1_cancel 2 = .ok (.lcmp, 1) := by decide +kernel
theorem dX1_cancel_3 : decode cX1_cancel 3 = .ok (.ifCond .ne 4, 3) := by decide +kernel
theorem dX1_cancel_6 : decode cX1_cancel 6 = .ok (.return_, 1) := by decide +kernel
theorem dX1_cancel_7 : decode cX1_cancel 7 = .ok (.iconst 0, 1) := by decide +kernel
theorem dX1_cancel_8 : decode cX1_cancel 8 = .ok (.istore 4, 2) := by decide +kernel
theorem dX1_cancel_10 : decode cX1_cancel 10 = .ok (.iload 4, 2) := by decide +kernel
theorem dX1_cancel_12 : decode cX1_cancel 12 = .ok (.iload_n 3, 1) := by decide +kernel
theorem dX1_cancel_13 : decode cX1_cancel 13 = .ok (.if_icmp .ge 51, 3) := by decide +kernel
theorem dX1_cancel_16 : decode cX1_cancel 16 = .ok (.aload_n 0, 1) := by decide +kernel
theorem dX1_cancel_17 : decode cX1_cancel 17 = .ok (.getfield 38, 3) := by decide +kernel
theorem dX1_cancel_20 : decode cX1_cancel 20 = .ok (.lload_n 1, 1) := by decide +kernel
theorem dX1_cancel_21 : decode cX1_cancel 21 = .ok (.lrem, 1) := by decide +kernel
theorem dX1_cancel_22 : decode cX1_cancel 22 = .ok (.lconst 0, 1) := by decide +kernel
theorem dX1_cancel_23 : decode cX1_cancel 23 = .ok (.lcmp, 1) := by decide +kernel
theorem dX1_cancel_24 : decode cX1_cancel 24 = .ok (.ifCond .ne 34, 3) := by decide +kernel
theorem dX1_cancel_27 : decode cX1_cancel 27 = .ok (.aload_n 0, 1) := by decide +kernel
theorem dX1_cancel_28 : decode cX1_cancel 28 = .ok (.getfield 28, 3) := by decide +kernel
theorem dX1_cancel_31 : decode cX1_cancel 31 = .ok (.lload_n 1, 1) := by decide +kernel
theorem dX1_cancel_32 : decode cX1_cancel 32 = .ok (.lrem, 1) := by decide +kernel
theorem dX1_cancel_33 : decode cX1_cancel 33 = .ok (.lconst 0, 1) := by decide +kernel
theorem dX1_cancel_34 : decode cX1_cancel 34 = .ok (.lcmp, 1) := by decide +kernel
theorem dX1_cancel_35 : decode cX1_cancel 35 = .ok (.ifCond .ne 23, 3) := by decide +kernel
theorem dX1_cancel_38 : decode cX1_cancel 38 = .ok (.aload_n 0, 1) := by decide +kernel
theorem dX1_cancel_39 : decode cX1_cancel 39 = .ok (.dup, 1) := by decide +kernel
theorem dX1_cancel_40 : decode cX1_cancel 40 = .ok (.getfield 38, 3) := by decide +kernel
theorem dX1_cancel_43 : decode cX1_cancel 43 = .ok (.lload_n 1, 1) := by decide +kernel
theorem dX1_cancel_44 : decode cX1_cancel 44 = .ok (.ldiv, 1) := by decide +kernel
theorem dX1_cancel_45 : decode cX1_cancel 45 = .ok (.putfield 38, 3) := by decide +kernel
theorem dX1_cancel_48 : decode cX1_cancel 48 = .ok (.aload_n 0, 1) := by decide +kernel
theorem dX1_cancel_49 : decode cX1_cancel 49 = .ok (.dup, 1) := by decide +kernel
theorem dX1_cancel_50 : decode cX1_cancel 50 = .ok (.getfield 28, 3) := by decide +kernel
theorem dX1_cancel_53 : decode cX1_cancel 53 = .ok (.lload_n 1, 1) := by decide +kernel
theorem dX1_cancel_54 : decode cX1_cancel 54 = .ok (.ldiv, 1) := by decide +kernel
theorem dX1_cancel_55 : decode cX1_cancel 55 = .ok (.putfield 28, 3) := by decide +kernel
theorem dX1_cancel_58 : decode cX1_cancel 58 = .ok (.iinc 4 1, 3) := by decide +kernel
theorem dX1_cancel_61 : decode cX1_cancel 61 = .ok (.goto (-51), 3) := by decide +kernel
theorem dX1_cancel_64 : decode cX1_cancel 64 = .ok (.return_, 1) := by decide +kernel
set_option maxRecDepth 20000 in
theorem ggX1_drawYear_X0_nextHour : GoodIn wsX1_drawYear wsX0_nextHour := goodIn_r _ [20, 21, 22, 23, 24, 25, 14, 26, 27, 13, 15, 28, 29, 30, 31, 32, 33, 34, 35, 19, 36, 37, 38, 39, 40, 41, 42, 43, 44, 45, 46, 47, 48, 49, 50, 51, 52, 53, 54, 55, 56, 57, 66, 67, 68, 69, 70, 71, 72, 73, 74, 75, 76, 77, 78, 79, 80, 81] (by decide +kernel) (by decide +kernel)
set_option maxRecDepth 20000 in
theorem gX1_drawYear_X0_nextHour : GoodIn wsX1_drawYear (wsV RX1 65 RX0 yX0_nextHour wsX0_nextHour) := goodIn_app (goodIn_of _ (by decide +kernel)) ggX1_drawYear_X0_nextHour
theorem dX1_drawYear_0 : decode cX1_drawYear 0 = .ok (.iload_n 1, 1) := by decide +kernel
theorem dX1_drawYear_1 : decode cX1_drawYear 1 = .ok (.istore 4, 2) := by decide +kernel
theorem dX1_drawYear_3 : decode cX1_drawYear 3 = .ok (.aload_n 0, 1) := by decide +kernel
theorem dX1_drawYear_4 : decode cX1_drawYear 4 = .ok (.iload_n 3, 1) := by decide +kernel
theorem dX1_drawYear_5 : decode cX1_drawYear 5 = .ok (.putfield 75, 3) := by decide +kernel
theorem dX1_drawYear_8 : decode cX1_drawYear 8 = .ok (.aload_n 0, 1) := by decide +kernel
theorem dX1_drawYear_9 : decode cX1_drawYear 9 = .ok (.iload_n 3, 1) := by decide +kernel
theorem dX1_drawYear_10 : decode cX1_drawYear 10 = .ok (.putfield 79, 3) := by decide +kernel
theorem dX1_drawYear_13 : decode cX1_drawYear 13 = .ok (.aload_n 0, 1) := by decide +kernel
theorem dX1_drawYear_14 : decode cX1_drawYear 14 = .ok (.iconst 0, 1) := by decide +kernel
theorem dX1_drawYear_15 : decode cX1_drawYear 15 = .ok (.putfield 82, 3) := by decide +kernel
theorem dX1_drawYear_18 : decode cX1_drawYear 18 = .ok (.iconst 0, 1) := by decide +kernel
theorem dX1_drawYear_19 : decode cX1_drawYear 19 = .ok (.istore 5, 2) := by decide +kernel
theorem dX1_drawYear_21 : decode cX1_drawYear 21 = .ok (.iload 5, 2) := by decide +kernel
theorem dX1_drawYear_23 : decode cX1_drawYear 23 = .ok (.iload_n 2, 1) := by decide +kernel
theorem dX1_drawYear_24 : decode cX1_drawYear 24 = .ok (.if_icmp .ge 152, 3) := by decide +kernel
theorem dX1_drawYear_27 : decode cX1_drawYear 27 = .ok (.iconst 0, 1) := by decide +kernel
theorem dX1_drawYear_28 : decode cX1_drawYear 28 = .ok (.istore 6, 2) := by decide +kernel
theorem dX1_drawYear_30 : decode cX1_drawYear 30 = .ok (.iload 6, 2) := by decide +kernel
theorem dX1_drawYear_32 : decode cX1_drawYear 32 = .ok (.aload_n 0, 1) := by decide +kernel
theorem dX1_drawYear_33 : decode cX1_drawYear 33 = .ok (.getfield 18, 3) := by decide +kernel
theorem dX1_drawYear_36 : decode cX1_drawYear 36 = .ok (.getfield 49, 3) := by decide +kernel
theorem dX1_drawYear_39 : decode cX1_drawYear 39 = .ok (.getfield 85, 3) := by decide +kernel
theorem dX1_drawYear_42 : decode cX1_drawYear 42 = .ok (.if_icmp .ge 80, 3) := by decide +kernel
theorem dX1_drawYear_45 : decode cX1_drawYear 45 = .ok (.bipush 75, 2) := by decide +kernel
theorem dX1_drawYear_47 : decode cX1_drawYear 47 = .ok (.iload 4, 2) := by decide +kernel
theorem dX1_drawYear_49 : decode cX1_drawYear 49 = .ok (.imul, 1) := by decide +kernel
theorem dX1_drawYear_50 : decode cX1_drawYear 50 = .ok (.bipush 74, 2) := by decide +kernel
theorem dX1_drawYear_52 : decode cX1_drawYear 52 = .ok (.iadd, 1) := by decide +kernel
theorem dX1_drawYear_53 : decode cX1_drawYear 53 = .ok (.ldc 88, 2) := by decide +kernel
theorem dX1_drawYear_55 : decode cX1_drawYear 55 = .ok (.irem, 1) := by decide +kernel
theorem dX1_drawYear_56 : decode cX1_drawYear 56 = .ok (.istore 4, 2) := by decide +kernel
theorem dX1_drawYear_58 : decode cX1_drawYear 58 = .ok (.aload_n 0, 1) := by decide +kernel
theorem dX1_drawYear_59 : decode cX1_drawYear 59 = .ok (.getfield 18, 3) := by decide +kernel
theorem dX1_drawYear_62 : decode cX1_drawYear 62 = .ok (.getfield 89, 3) := by decide +kernel
theorem dX1_drawYear_65 : decode cX1_drawYear 65 = .ok (.iload 6, 2) := by decide +kernel
theorem dX1_drawYear_67 : decode cX1_drawYear 67 = .ok (.aload_n 0, 1) := by decide +kernel
theorem dX1_drawYear_68 : decode cX1_drawYear 68 = .ok (.getfield 18, 3) := by decide +kernel
theorem dX1_drawYear_71 : decode cX1_drawYear 71 = .ok (.getfield 49, 3) := by decide +kernel
theorem dX1_drawYear_74 : decode cX1_drawYear 74 = .ok (.getfield 61, 3) := by decide +kernel
theorem dX1_drawYear_77 : decode cX1_drawYear 77 = .ok (.iload 6, 2) := by decide +kernel
theorem dX1_drawYear_79 : decode cX1_drawYear 79 = .ok (.iaload, 1) := by decide +kernel
theorem dX1_drawYear_80 : decode cX1_drawYear 80 = .ok (.iload 4, 2) := by decide +kernel
theorem dX1_drawYear_82 : decode cX1_drawYear 82 = .ok (.iconst 3, 1) := by decide +kernel
theorem dX1_drawYear_83 : decode cX1_drawYear 83 = .ok (.irem, 1) := by decide +kernel
theorem dX1_drawYear_84 : decode cX1_drawYear 84 = .ok (.iadd, 1) := by decide +kernel
theorem dX1_drawYear_85 : decode cX1_drawYear 85 = .ok (.iastore, 1) := by decide +kernel
theorem dX1_drawYear_86 : decode cX1_drawYear 86 = .ok (.aload_n 0, 1) := by decide +kernel
theorem dX1_drawYear_87 : decode cX1_drawYear 87 = .ok (.dup, 1) := by decide +kernel
theorem dX1_drawYear_88 : decode cX1_drawYear 88 = .ok (.getfield 82, 3) := by decide +kernel
theorem dX1_drawYear_91 : decode cX1_drawYear 91 = .ok (.aload_n 0, 1) := by decide +kernel
theorem dX1_drawYear_92 : decode cX1_drawYear 92 = .ok (.getfield 18, 3) := by decide +kernel
theorem dX1_drawYear_95 : decode cX1_drawYear 95 = .ok (.getfield 49, 3) := by decide +kernel
theorem dX1_drawYear_98 : decode cX1_drawYear 98 = .ok (.getfield 92, 3) := by decide +kernel
theorem dX1_drawYear_101 : decode cX1_drawYear 101 = .ok (.aload_n 0, 1) := by decide +kernel
theorem dX1_drawYear_102 : decode cX1_drawYear 102 = .ok (.getfield 18, 3) := by decide +kernel
theorem dX1_drawYear_105 : decode cX1_drawYear 105 = .ok (.getfield 89, 3) := by decide +kernel
theorem dX1_drawYear_108 : decode cX1_drawYear 108 = .ok (.iload 6, 2) := by decide +kernel
theorem dX1_drawYear_110 : decode cX1_drawYear 110 = .ok (.iaload, 1) := by decide +kernel
theorem dX1_drawYear_111 : decode cX1_drawYear 111 = .ok (.imul, 1) := by decide +kernel
theorem dX1_drawYear_112 : decode cX1_drawYear 112 = .ok (.iadd, 1) := by decide +kernel
theorem dX1_drawYear_113 : decode cX1_drawYear 113 = .ok (.putfield 82, 3) := by decide +kernel
theorem dX1_drawYear_116 : decode cX1_drawYear 116 = .ok (.iinc 6 1, 3) := by decide +kernel
theorem dX1_drawYear_119 : decode cX1_drawYear 119 = .ok (.goto (-89), 3) := by decide +kernel
theorem dX1_drawYear_122 : decode cX1_drawYear 122 = .ok (.aload_n 0, 1) := by decide +kernel
theorem dX1_drawYear_123 : decode cX1_drawYear 123 = .ok (.aload_n 0, 1) := by decide +kernel
theorem dX1_drawYear_124 : decode cX1_drawYear 124 = .ok (.getfield 18, 3) := by decide +kernel
theorem dX1_drawYear_127 : decode cX1_drawYear 127 = .ok (.aload_n 0, 1) := by decide +kernel
theorem dX1_drawYear_128 : decode cX1_drawYear 128 = .ok (.getfield 18, 3) := by decide +kernel
theorem dX1_drawYear_131 : decode cX1_drawYear 131 = .ok (.getfield 49, 3) := by decide +kernel
theorem dX1_drawYear_134 : decode cX1_drawYear 134 = .ok (.getfield 55, 3) := by decide +kernel
theorem dX1_drawYear_137 : decode cX1_drawYear 137 = .ok (.aload_n 0, 1) := by decide +kernel
theorem dX1_drawYear_138 : decode cX1_drawYear 138 = .ok (.getfield 75, 3) := by decide +kernel
theorem dX1_drawYear_141 : decode cX1_drawYear 141 = .ok (.aload_n 0, 1) := by decide +kernel
theorem dX1_drawYear_142 : decode cX1_drawYear 142 = .ok (.getfield 18, 3) := by decide +kernel
theorem dX1_drawYear_145 : decode cX1_drawYear 145 = .ok (.getfield 89, 3) := by decide +kernel
theorem dX1_drawYear_148 : decode cX1_drawYear 148 = .ok (.iconst 0, 1) := by decide +kernel
theorem dX1_drawYear_149 : decode cX1_drawYear 149 = .ok (.invokevirtual 65, 3) := by decide +kernel
theorem dX1_drawYear_152 : decode cX1_drawYear 152 = .ok (.putfield 75, 3) := by decide +kernel
theorem dX1_drawYear_155 : decode cX1_drawYear 155 = .ok (.aload_n 0, 1) := by decide +kernel
theorem dX1_drawYear_156 : decode cX1_drawYear 156 = .ok (.aload_n 0, 1) := by decide +kernel
theorem dX1_drawYear_157 : decode cX1_drawYear 157 = .ok (.getfield 79, 3) := by decide +kernel
theorem dX1_drawYear_160 : decode cX1_drawYear 160 = .ok (.aload_n 0, 1) := by decide +kernel
theorem dX1_drawYear_161 : decode cX1_drawYear 161 = .ok (.getfield 75, 3) := by decide +kernel
theorem dX1_drawYear_164 : decode cX1_drawYear 164 = .ok (.invokestatic 95, 3) := by decide +kernel
theorem dX1_drawYear_167 : decode cX1_drawYear 167 = .ok (.putfield 79, 3) := by decide +kernel
theorem dX1_drawYear_170 : decode cX1_drawYear 170 = .ok (.iinc 5 1, 3) := by decide +kernel
theorem dX1_drawYear_173 : decode cX1_drawYear 173 = .ok (.goto (-152), 3) := by decide +kernel
theorem dX1_drawYear_176 : decode cX1_drawYear 176 = .ok (.return_, 1) := by decide +kernel
theorem dX2_init_0 : decode cX2_init 0 = .ok (.aload_n 0, 1) := by decide +kernel
theorem dX2_init_1 : decode cX2_init 1 = .ok (.invokespecial 3, 3) := by decide +kernel
theorem dX2_init_4 : decode cX2_init 4 = .ok (.aload_n 0, 1) := by decide +kernel
theorem dX2_init_5 : decode cX2_init 5 = .ok (.iconst 5, 1) := by decide +kernel
theorem dX2_init_6 : decode cX2_init 6 = .ok (.bipush 24, 2) := by decide +kernel
theorem dX2_init_8 : decode cX2_init 8 = .ok (.multianewarray 9 2, 4) := by decide +kernel
theorem dX2_init_12 : decode cX2_init 12 = .ok (.putfield 11, 3) := by decide +kernel
theorem dX2_init_15 : decode cX2_init 15 = .ok (.aload_n 0, 1) := by decide +kernel
theorem dX2_init_16 : decode cX2_init 16 = .ok (.iconst 4, 1) := by decide +kernel
theorem dX2_init_17 : decode cX2_init 17 = .ok (.bipush 24, 2) := by decide +kernel
theorem dX2_init_19 : decode cX2_init 19 = .ok (.multianewarray 9 2, 4) := by decide +kernel
theorem dX2_init_23 : decode cX2_init 23 = .ok (.putfield 16, 3) := by decide +kernel
theorem dX2_init_26 : decode cX2_init 26 = .ok (.aload_n 0, 1) := by decide +kernel
theorem dX2_init_27 : decode cX2_init 27 = .ok (.sipush 4096, 3) := by decide +kernel
theorem dX2_init_30 : decode cX2_init 30 = .ok (.newarray .int, 2) := by decide +kernel
theorem dX2_init_32 : decode cX2_init 32 = .ok (.putfield 19, 3) := by decide +kernel
theorem dX2_init_35 : decode cX2_init 35 = .ok (.aload_n 0, 1) := by decide +kernel
theorem dX2_init_36 : decode cX2_init 36 = .ok (.aload_n 1, 1) := by decide +kernel
theorem dX2_init_37 : decode cX2_init 37 = .ok (.putfield 23, 3) := by decide +kernel
theorem dX2_init_40 : decode cX2_init 40 = .ok (.return_, 1) := by decide +kernel
set_option maxRecDepth 20000 in
theorem ggX2_weigh_X0_tryAsTold : GoodIn wsX2_weigh wsX0_tryAsTold := goodIn_r _ [7, 8, 9, 10, 11, 12, 13, 14, 89, 90, 91, 92, 93, 94, 95, 96, 97, 98, 99, 100, 101, 102] (by decide +kernel) (by decide +kernel)
set_option maxRecDepth 20000 in
theorem gX2_weigh_X0_tryAsTold : GoodIn wsX2_weigh (wsV RX2 27 RX0 yX0_tryAsTold wsX0_tryAsTold) := goodIn_app (goodIn_of _ (by decide +kernel)) ggX2_weigh_X0_tryAsTold
set_option maxRecDepth 20000 in
theorem ggX2_weigh_J7_fill_53178 : GoodIn wsX2_weigh wsJ7_fill_53178 := goodIn_r _ [18] (by decide +kernel) (by decide +kernel)
set_option maxRecDepth 20000 in
theorem gX2_weigh_J7_fill_53178 : GoodIn wsX2_weigh (va_wsS RX2 32 yJ7_fill_53178 wsJ7_fill_53178) := goodIn_app (goodIn_of _ (by decide +kernel)) ggX2_weigh_J7_fill_53178
set_option maxRecDepth 20000 in
theorem ggX2_weigh_X2_weighHour : GoodIn wsX2_weigh wsX2_weighHour := goodIn_r _ [23, 24, 2, 25, 26, 27, 28, 22, 29, 1, 30, 31, 32, 33, 34, 35, 6, 36, 8, 37, 38, 39, 40, 41, 42, 43, 44, 45, 46, 47, 48, 49, 50, 51, 52, 53, 54, 55, 56, 57, 58, 59, 60, 61, 62, 63, 64, 65, 66, 67, 68, 69, 70, 71, 72, 73, 74, 75, 76, 77, 78, 79, 80, 81, 82, 83, 84, 85, 86, 87, 88, 89, 90, 91, 92, 93, 94, 95, 96, 97, 98, 99, 100, 101, 102, 103, 104] (by decide +kernel) (by decide +kernel)
set_option maxRecDepth 20000 in
theorem gX2_weigh_X2_weighHour : GoodIn wsX2_weigh (wsV RX2 38 RX2 yX2_weighHour wsX2_weighHour) := goodIn_app (goodIn_of _ (by decide +kernel)) ggX2_weigh_X2_weighHour
theorem dX2_weigh_0 : decode cX2_weigh 0 = .ok (.aload_n 0, 1) := by decide +kernel
theorem dX2_weigh_1 : decode cX2_weigh 1 = .ok (.getfield 23, 3) := by decide +kernel
theorem dX2_weigh_4 : decode cX2_weigh 4 = .ok (.invokevirtual 27, 3) := by decide +kernel
theorem dX2_weigh_7 : decode cX2_weigh 7 = .ok (.aload_n 0, 1) := by decide +kernel
theorem dX2_weigh_8 : decode cX2_weigh 8 = .ok (.getfield 11, 3) := by decide +kernel
theorem dX2_weigh_11 : decode cX2_weigh 11 = .ok (.iload_n 2, 1) := by decide +kernel
theorem dX2_weigh_12 : decode cX2_weigh 12 = .ok (.aaload, 1) := by decide +kernel
theorem dX2_weigh_13 : decode cX2_weigh 13 = .ok (.iconst 0, 1) := by decide +kernel
theorem dX2_weigh_14 : decode cX2_weigh 14 = .ok (.invokestatic 32, 3) := by decide +kernel
theorem dX2_weigh_17 : decode cX2_weigh 17 = .ok (.iload_n 2, 1) := by decide +kernel
theorem dX2_weigh_18 : decode cX2_weigh 18 = .ok (.iconst 1, 1) := by decide +kernel
theorem dX2_weigh_19 : decode cX2_weigh 19 = .ok (.isub, 1) := by decide +kernel
theorem dX2_weigh_20 : decode cX2_weigh 20 = .ok (.istore_n 3, 1) := by decide +kernel
theorem dX2_weigh_21 : decode cX2_weigh 21 = .ok (.iload_n 3, 1) := by decide +kernel
theorem dX2_weigh_22 : decode cX2_weigh 22 = .ok (.ifCond .lt 33, 3) := by decide +kernel
theorem dX2_weigh_25 : decode cX2_weigh 25 = .ok (.iconst 0, 1) := by decide +kernel
theorem dX2_weigh_26 : decode cX2_weigh 26 = .ok (.istore 4, 2) := by decide +kernel
theorem dX2_weigh_28 : decode cX2_weigh 28 = .ok (.iload 4, 2) := by decide +kernel
theorem dX2_weigh_30 : decode cX2_weigh 30 = .ok (.bipush 24, 2) := by decide +kernel
theorem dX2_weigh_32 : decode cX2_weigh 32 = .ok (.if_icmp .ge 17, 3) := by decide +kernel
theorem dX2_weigh_35 : decode cX2_weigh 35 = .ok (.aload_n 0, 1) := by decide +kernel
theorem dX2_weigh_36 : decode cX2_weigh 36 = .ok (.iload_n 1, 1) := by decide +kernel
theorem dX2_weigh_37 : decode cX2_weigh 37 = .ok (.iload_n 3, 1) := by decide +kernel
theorem dX2_weigh_38 : decode cX2_weigh 38 = .ok (.iload 4, 2) := by decide +kernel
theorem dX2_weigh_40 : decode cX2_weigh 40 = .ok (.invokevirtual 38, 3) := by decide +kernel
theorem dX2_weigh_43 : decode cX2_weigh 43 = .ok (.iinc 4 1, 3) := by decide +kernel
theorem dX2_weigh_46 : decode cX2_weigh 46 = .ok (.goto (-18), 3) := by decide +kernel
theorem dX2_weigh_49 : decode cX2_weigh 49 = .ok (.iinc 3 (-1), 3) := by decide +kernel
theorem dX2_weigh_52 : decode cX2_weigh 52 = .ok (.goto (-31), 3) := by decide +kernel
theorem dX2_weigh_55 : decode cX2_weigh 55 = .ok (.return_, 1) := by decide +kernel
theorem dX2_leastCost_0 : decode cX2_leastCost 0 = .ok (.aload_n 0, 1) := by decide +kernel
theorem dX2_leastCost_1 : decode cX2_leastCost 1 = .ok (.getfield 11, 3) := by decide +kernel
theorem dX2_leastCost_4 : decode cX2_leastCost 4 = .ok (.iconst 0, 1) := by decide +kernel
theorem dX2_leastCost_5 : decode cX2_leastCost 5 = .ok (.aaload, 1) := by decide +kernel
theorem dX2_leastCost_6 : decode cX2_leastCost 6 = .ok (.iload_n 1, 1) := by decide +kernel
theorem dX2_leastCost_7 : decode cX2_leastCost 7 = .ok (.iaload, 1) := by decide +kernel
theorem dX2_leastCost_8 : decode cX2_leastCost 8 = .ok (.ireturn, 1) := by decide +kernel
set_option maxRecDepth 20000 in
theorem ggX2_lateInWeek_X2_nextIf : GoodIn wsX2_lateInWeek wsX2_nextIf := goodIn_r _ [6, 7, 8, 9, 10, 11, 12, 13, 14, 15, 16, 17, 18, 19, 20, 21, 22, 23, 24, 25, 26, 27, 28, 29, 30, 31, 32, 33, 34, 35, 36, 37, 38, 39, 40, 41, 42, 43, 44, 45, 46, 47, 48, 49, 50, 51, 52, 53, 54, 55, 56, 57, 58, 59, 60, 61, 62, 63, 64, 65, 66, 67, 68, 69, 70, 71, 72, 73, 74, 75] (by decide +kernel) (by decide +kernel)
set_option maxRecDepth 20000 in
theorem gX2_lateInWeek_X2_nextIf : GoodIn wsX2_lateInWeek (wsV RX2 42 RX2 yX2_nextIf wsX2_nextIf) := goodIn_app (goodIn_of _ (by decide +kernel)) ggX2_lateInWeek_X2_nextIf
theorem dX2_lateInWeek_0 : decode cX2_lateInWeek 0 = .ok (.iload_n 2, 1) := by decide +kernel
theorem dX2_lateInWeek_1 : decode cX2_lateInWeek 1 = .ok (.istore 4, 2) := by decide +kernel
theorem dX2_lateInWeek_3 : decode cX2_lateInWeek 3 = .ok (.iconst 0, 1) := by decide +kernel
theorem dX2_lateInWeek_4 : decode cX2_lateInWeek 4 = .ok (.istore 5, 2) := by decide +kernel
theorem dX2_lateInWeek_6 : decode cX2_lateInWeek 6 = .ok (.iload 5, 2) := by decide +kernel
theorem dX2_lateInWeek_8 : decode cX2_lateInWeek 8 = .ok (.iload_n 3, 1) := by decide +kernel
theorem dX2_lateInWeek_9 : decode cX2_lateInWeek 9 = .ok (.if_icmp .ge 28, 3) := by decide +kernel
theorem dX2_lateInWeek_12 : decode cX2_lateInWeek 12 = .ok (.aload_n 0, 1) := by decide +kernel
theorem dX2_lateInWeek_13 : decode cX2_lateInWeek 13 = .ok (.iload_n 1, 1) := by decide +kernel
theorem dX2_lateInWeek_14 : decode cX2_lateInWeek 14 = .ok (.iload 4, 2) := by decide +kernel
theorem dX2_lateInWeek_16 : decode cX2_lateInWeek 16 = .ok (.aload_n 0, 1) := by decide +kernel
theorem dX2_lateInWeek_17 : decode cX2_lateInWeek 17 = .ok (.getfield 16, 3) := by decide +kernel
theorem dX2_lateInWeek_20 : decode cX2_lateInWeek 20 = .ok (.iload 5, 2) := by decide +kernel
theorem dX2_lateInWeek_22 : decode cX2_lateInWeek 22 = .ok (.aaload, 1) := by decide +kernel
theorem dX2_lateInWeek_23 : decode cX2_lateInWeek 23 = .ok (.iload 4, 2) := by decide +kernel
theorem dX2_lateInWeek_25 : decode cX2_lateInWeek 25 = .ok (.iaload, 1) := by decide +kernel
theorem dX2_lateInWeek_26 : decode cX2_lateInWeek 26 = .ok (.invokevirtual 42, 3) := by decide +kernel
theorem dX2_lateInWeek_29 : decode cX2_lateInWeek 29 = .ok (.istore 4, 2) := by decide +kernel
theorem dX2_lateInWeek_31 : decode cX2_lateInWeek 31 = .ok (.iinc 5 1, 3) := by decide +kernel
theorem dX2_lateInWeek_34 : decode cX2_lateInWeek 34 = .ok (.goto (-28), 3) := by decide +kernel
theorem dX2_lateInWeek_37 : decode cX2_lateInWeek 37 = .ok (.aload_n 0, 1) := by decide +kernel
theorem dX2_lateInWeek_38 : decode cX2_lateInWeek 38 = .ok (.getfield 16, 3) := by decide +kernel
theorem dX2_lateInWeek_41 : decode cX2_lateInWeek 41 = .ok (.iload_n 3, 1) := by decide +kernel
theorem dX2_lateInWeek_42 : decode cX2_lateInWeek 42 = .ok (.aaload, 1) := by decide +kernel
theorem dX2_lateInWeek_43 : decode cX2_lateInWeek 43 = .ok (.iload 4, 2) := by decide +kernel
theorem dX2_lateInWeek_45 : decode cX2_lateInWeek 45 = .ok (.iaload, 1) := by decide +kernel
theorem dX2_lateInWeek_46 : decode cX2_lateInWeek 46 = .ok (.ireturn, 1) := by decide +kernel
set_option maxRecDepth 20000 in
theorem ggX2_weighHour_X2_nextIf : GoodIn wsX2_weighHour wsX2_nextIf := goodIn_r _ [8, 9, 10, 11, 12, 13, 14, 15, 16, 17, 18, 19, 20, 21, 22, 23, 24, 25, 26, 27, 28, 29, 30, 31, 32, 33, 34, 35, 36, 37, 38, 39, 40, 41, 42, 43, 44, 45, 46, 47, 48, 49, 50, 51, 52, 53, 54, 55, 56, 57, 67, 68, 69, 70, 71, 72, 73, 74, 75, 76, 77, 78, 79, 80, 81, 82, 83, 84, 85, 86] (by decide +kernel) (by decide +kernel)
set_option maxRecDepth 20000 in
theorem gX2_weighHour_X2_nextIf : GoodIn wsX2_weighHour (wsV RX2 42 RX2 yX2_nextIf wsX2_nextIf) := goodIn_app (goodIn_of _ (by decide +kernel)) ggX2_weighHour_X2_nextIf
set_option maxRecDepth 20000 in
theorem ggX2_weighHour_X2_costOf : GoodIn wsX2_weighHour wsX2_costOf := goodIn_r _ [61, 9, 11, 62, 63, 64, 23, 65, 66, 67, 68, 69, 70, 71, 72, 73, 74, 75, 76, 77, 78, 79, 80, 81, 82, 83, 84] (by decide +kernel) (by decide +kernel)
set_option maxRecDepth 20000 in
theorem gX2_weighHour_X2_costOf : GoodIn wsX2_weighHour (wsV RX2 49 RX2 yX2_costOf wsX2_costOf) := goodIn_app (goodIn_of _ (by decide +kernel)) ggX2_weighHour_X2_costOf
theorem dX2_weighHour_0 : decode cX2_weighHour 0 = .ok (.ldc 48, 2) := by decide +kernel
theorem dX2_weighHour_2 : decode cX2_weighHour 2 = .ok (.istore 4, 2) := by decide +kernel
theorem dX2_weighHour_4 : decode cX2_weighHour 4 = .ok (.iconst 0, 1) := by decide +kernel
theorem dX2_weighHour_5 : decode cX2_weighHour 5 = .ok (.istore 5, 2) := by decide +kernel
theorem dX2_weighHour_7 : decode cX2_weighHour 7 = .ok (.iload 5, 2) := by decide +kernel
theorem dX2_weighHour_9 : decode cX2_weighHour 9 = .ok (.iconst 5, 1) := by decide +kernel
theorem dX2_weighHour_10 : decode cX2_weighHour 10 = .ok (.if_icmp .gt 63, 3) := by decide +kernel
theorem dX2_weighHour_13 : decode cX2_weighHour 13 = .ok (.aload_n 0, 1) := by decide +kernel
theorem dX2_weighHour_14 : decode cX2_weighHour 14 = .ok (.iload_n 1, 1) := by decide +kernel
theorem dX2_weighHour_15 : decode cX2_weighHour 15 = .ok (.iload_n 3, 1) := by decide +kernel
theorem dX2_weighHour_16 : decode cX2_weighHour 16 = .ok (.iload 5, 2) := by decide +kernel
theorem dX2_weighHour_18 : decode cX2_weighHour 18 = .ok (.invokevirtual 42, 3) := by decide +kernel
theorem dX2_weighHour_21 : decode cX2_weighHour 21 = .ok (.istore 6, 2) := by decide +kernel
theorem dX2_weighHour_23 : decode cX2_weighHour 23 = .ok (.aload_n 0, 1) := by decide +kernel
theorem dX2_weighHour_24 : decode cX2_weighHour 24 = .ok (.iload_n 1, 1) := by decide +kernel
theorem dX2_weighHour_25 : decode cX2_weighHour 25 = .ok (.iload 6, 2) := by decide +kernel
theorem dX2_weighHour_27 : decode cX2_weighHour 27 = .ok (.iload 5, 2) := by decide +kernel
theorem dX2_weighHour_29 : decode cX2_weighHour 29 = .ok (.invokevirtual 49, 3) := by decide +kernel
theorem dX2_weighHour_32 : decode cX2_weighHour 32 = .ok (.aload_n 0, 1) := by decide +kernel
theorem dX2_weighHour_33 : decode cX2_weighHour 33 = .ok (.getfield 11, 3) := by decide +kernel
theorem dX2_weighHour_36 : decode cX2_weighHour 36 = .ok (.iload_n 2, 1) := by decide +kernel
theorem dX2_weighHour_37 : decode cX2_weighHour 37 = .ok (.iconst 1, 1) := by decide +kernel
theorem dX2_weighHour_38 : decode cX2_weighHour 38 = .ok (.iadd, 1) := by decide +kernel
theorem dX2_weighHour_39 : decode cX2_weighHour 39 = .ok (.aaload, 1) := by decide +kernel
theorem dX2_weighHour_40 : decode cX2_weighHour 40 = .ok (.iload 6, 2) := by decide +kernel
theorem dX2_weighHour_42 : decode cX2_weighHour 42 = .ok (.iaload, 1) := by decide +kernel
theorem dX2_weighHour_43 : decode cX2_weighHour 43 = .ok (.iadd, 1) := by decide +kernel
theorem dX2_weighHour_44 : decode cX2_weighHour 44 = .ok (.istore 7, 2) := by decide +kernel
theorem dX2_weighHour_46 : decode cX2_weighHour 46 = .ok (.iload 7, 2) := by decide +kernel
theorem dX2_weighHour_48 : decode cX2_weighHour 48 = .ok (.iload 4, 2) := by decide +kernel
theorem dX2_weighHour_50 : decode cX2_weighHour 50 = .ok (.if_icmp .ge 17, 3) := by decide +kernel
theorem dX2_weighHour_53 : decode cX2_weighHour 53 = .ok (.iload 7, 2) := by decide +kernel
theorem dX2_weighHour_55 : decode cX2_weighHour 55 = .ok (.istore 4, 2) := by decide +kernel
theorem dX2_weighHour_57 : decode cX2_weighHour 57 = .ok (.aload_n 0, 1) := by decide +kernel
theorem dX2_weighHour_58 : decode cX2_weighHour 58 = .ok (.getfield 16, 3) := by decide +kernel
theorem dX2_weighHour_61 : decode cX2_weighHour 61 = .ok (.iload_n 2, 1) := by decide +kernel
theorem dX2_weighHour_62 : decode cX2_weighHour 62 = .ok (.aaload, 1) := by decide +kernel
theorem dX2_weighHour_63 : decode cX2_weighHour 63 = .ok (.iload_n 3, 1) := by decide +kernel
theorem dX2_weighHour_64 : decode cX2_weighHour 64 = .ok (.iload 5, 2) := by decide +kernel
theorem dX2_weighHour_66 : decode cX2_weighHour 66 = .ok (.iastore, 1) := by decide +kernel
theorem dX2_weighHour_67 : decode cX2_weighHour 67 = .ok (.iinc 5 1, 3) := by decide +kernel
theorem dX2_weighHour_70 : decode cX2_weighHour 70 = .ok (.goto (-63), 3) := by decide +kernel
theorem dX2_weighHour_73 : decode cX2_weighHour 73 = .ok (.aload_n 0, 1) := by decide +kernel
theorem dX2_weighHour_74 : decode cX2_weighHour 74 = .ok (.getfield 11, 3) := by decide +kernel
theorem dX2_weighHour_77 : decode cX2_weighHour 77 = .ok (.iload_n 2, 1) := by decide +kernel
theorem dX2_weighHour_78 : decode cX2_weighHour 78 = .ok (.aaload, 1) := by decide +kernel
theorem dX2_weighHour_79 : decode cX2_weighHour 79 = .ok (.iload_n 3, 1) := by decide +kernel
theorem dX2_weighHour_80 : decode cX2_weighHour 80 = .ok (.iload 4, 2) := by decide +kernel
theorem dX2_weighHour_82 : decode cX2_weighHour 82 = .ok (.iastore, 1) := by decide +kernel
theorem dX2_weighHour_83 : decode cX2_weighHour 83 = .ok (.return_, 1) := by decide +kernel
set_option maxRecDepth 20000 in
theorem ggX2_nextIf_X0_nextHour : GoodIn wsX2_nextIf wsX0_nextHour := goodIn_r _ [9, 10, 11, 12, 13, 14, 15, 16, 17, 18, 19, 20, 21, 22, 23, 24, 25, 26, 27, 8, 28, 29, 30, 31, 32, 33, 34, 35, 36, 37, 38, 39, 40, 41, 42, 43, 44, 45, 46, 47, 48, 49, 54, 55, 56, 57, 58, 59, 60, 61, 62, 63, 64, 65, 66, 67, 68, 69] (by decide +kernel) (by decide +kernel)
set_option maxRecDepth 20000 in
theorem gX2_nextIf_X0_nextHour : GoodIn wsX2_nextIf (wsV RX2 65 RX0 yX0_nextHour wsX0_nextHour) := goodIn_app (goodIn_of _ (by decide +kernel)) ggX2_nextIf_X0_nextHour
theorem dX2_nextIf_0 : decode cX2_nextIf 0 = .ok (.aload_n 0, 1) := by decide +kernel
theorem dX2_nextIf_1 : decode cX2_nextIf 1 = .ok (.getfield 23, 3) := by decide +kernel
theorem dX2_nextIf_4 : decode cX2_nextIf 4 = .ok (.getfield 52, 3) := by decide +kernel
theorem dX2_nextIf_7 : decode cX2_nextIf 7 = .ok (.iload_n 1, 1) := by decide +kernel
theorem dX2_nextIf_8 : decode cX2_nextIf 8 = .ok (.iload_n 3, 1) := by decide +kernel
theorem dX2_nextIf_9 : decode cX2_nextIf 9 = .ok (.iastore, 1) := by decide +kernel
theorem dX2_nextIf_10 : decode cX2_nextIf 10 = .ok (.aload_n 0, 1) := by decide +kernel
theorem dX2_nextIf_11 : decode cX2_nextIf 11 = .ok (.getfield 23, 3) := by decide +kernel
theorem dX2_nextIf_14 : decode cX2_nextIf 14 = .ok (.aload_n 0, 1) := by decide +kernel
theorem dX2_nextIf_15 : decode cX2_nextIf 15 = .ok (.getfield 23, 3) := by decide +kernel
theorem dX2_nextIf_18 : decode cX2_nextIf 18 = .ok (.getfield 55, 3) := by decide +kernel
theorem dX2_nextIf_21 : decode cX2_nextIf 21 = .ok (.getfield 59, 3) := by decide +kernel
theorem dX2_nextIf_24 : decode cX2_nextIf 24 = .ok (.iload_n 2, 1) := by decide +kernel
theorem dX2_nextIf_25 : decode cX2_nextIf 25 = .ok (.aload_n 0, 1) := by decide +kernel
theorem dX2_nextIf_26 : decode cX2_nextIf 26 = .ok (.getfield 23, 3) := by decide +kernel
theorem dX2_nextIf_29 : decode cX2_nextIf 29 = .ok (.getfield 52, 3) := by decide +kernel
theorem dX2_nextIf_32 : decode cX2_nextIf 32 = .ok (.iconst 0, 1) := by decide +kernel
theorem dX2_nextIf_33 : decode cX2_nextIf 33 = .ok (.invokevirtual 65, 3) := by decide +kernel
theorem dX2_nextIf_36 : decode cX2_nextIf 36 = .ok (.ireturn, 1) := by decide +kernel
theorem dX2_costOf_0 : decode cX2_costOf 0 = .ok (.iload_n 2, 1) := by decide +kernel
theorem dX2_costOf_1 : decode cX2_costOf 1 = .ok (.aload_n 0, 1) := by decide +kernel
theorem dX2_costOf_2 : decode cX2_costOf 2 = .ok (.getfield 23, 3) := by decide +kernel
theorem dX2_costOf_5 : decode cX2_costOf 5 = .ok (.getfield 55, 3) := by decide +kernel
theorem dX2_costOf_8 : decode cX2_costOf 8 = .ok (.getfield 69, 3) := by decide +kernel
theorem dX2_costOf_11 : decode cX2_costOf 11 = .ok (.iload_n 1, 1) := by decide +kernel
theorem dX2_costOf_12 : decode cX2_costOf 12 = .ok (.iaload, 1) := by decide +kernel
theorem dX2_costOf_13 : decode cX2_costOf 13 = .ok (.isub, 1) := by decide +kernel
theorem dX2_costOf_14 : decode cX2_costOf 14 = .ok (.invokestatic 72, 3) := by decide +kernel
theorem dX2_costOf_17 : decode cX2_costOf 17 = .ok (.aload_n 0, 1) := by decide +kernel
theorem dX2_costOf_18 : decode cX2_costOf 18 = .ok (.getfield 23, 3) := by decide +kernel
theorem dX2_costOf_21 : decode cX2_costOf 21 = .ok (.getfield 55, 3) := by decide +kernel
theorem dX2_costOf_24 : decode cX2_costOf 24 = .ok (.getfield 78, 3) := by decide +kernel
theorem dX2_costOf_27 : decode cX2_costOf 27 = .ok (.iload_n 3, 1) := by decide +kernel
theorem dX2_costOf_28 : decode cX2_costOf 28 = .ok (.imul, 1) := by decide +kernel
theorem dX2_costOf_29 : decode cX2_costOf 29 = .ok (.iadd, 1) := by decide +kernel
theorem dX2_costOf_30 : decode cX2_costOf 30 = .ok (.ireturn, 1) := by decide +kernel
set_option maxRecDepth 20000 in
theorem ggX2_tabulate_X2_restWays : GoodIn wsX2_tabulate wsX2_restWays := goodIn_r _ [11, 1, 2, 3, 12, 13, 14, 15, 66, 67, 68, 69, 70, 71, 72, 73, 74, 75, 76, 77, 78, 79, 80, 81, 82, 83] (by decide +kernel) (by decide +kernel)
set_option maxRecDepth 20000 in
theorem gX2_tabulate_X2_restWays : GoodIn wsX2_tabulate (wsV RX2 82 RX2 yX2_restWays wsX2_restWays) := goodIn_app (goodIn_of _ (by decide +kernel)) ggX2_tabulate_X2_restWays
set_option maxRecDepth 20000 in
theorem ggX2_tabulate_X2_lateIn : GoodIn wsX2_tabulate wsX2_lateIn := goodIn_r _ [19, 20, 21, 22, 10, 23, 1, 2, 3, 66, 67, 68, 69, 70, 71, 72, 73, 74, 75, 76, 77, 78, 79, 80, 81, 82, 83] (by decide +kernel) (by decide +kernel)
set_option maxRecDepth 20000 in
theorem gX2_tabulate_X2_lateIn : GoodIn wsX2_tabulate (wsV RX2 89 RX2 yX2_lateIn wsX2_lateIn) := goodIn_app (goodIn_of _ (by decide +kernel)) ggX2_tabulate_X2_lateIn
set_option maxRecDepth 20000 in
theorem ggX2_tabulate_X0_nextHour : GoodIn wsX2_tabulate wsX0_nextHour := goodIn_r _ [28, 29, 30, 31, 32, 13, 14, 15, 33, 34, 35, 36, 37, 38, 39, 40, 41, 42, 43, 27, 44, 45, 46, 47, 48, 49, 50, 51, 52, 53, 54, 55, 56, 57, 58, 59, 60, 61, 62, 63, 64, 65, 70, 71, 72, 73, 74, 75, 76, 77, 78, 79, 80, 81, 82, 83, 84, 85] (by decide +kernel) (by decide +kernel)
set_option maxRecDepth 20000 in
theorem gX2_tabulate_X0_nextHour : GoodIn wsX2_tabulate (wsV RX2 65 RX0 yX0_nextHour wsX0_nextHour) := goodIn_app (goodIn_of _ (by decide +kernel)) ggX2_tabulate_X0_nextHour
theorem dX2_tabulate_0 : decode cX2_tabulate 0 = .ok (.aload_n 0, 1) := by decide +kernel
theorem dX2_tabulate_1 : decode cX2_tabulate 1 = .ok (.invokevirtual 82, 3) := by decide +kernel
theorem dX2_tabulate_4 : decode cX2_tabulate 4 = .ok (.istore_n 2, 1) := by decide +kernel
theorem dX2_tabulate_5 : decode cX2_tabulate 5 = .ok (.iconst 0, 1) := by decide +kernel
theorem dX2_tabulate_6 : decode cX2_tabulate 6 = .ok (.istore_n 3, 1) := by decide +kernel
theorem dX2_tabulate_7 : decode cX2_tabulate 7 = .ok (.iload_n 3, 1) := by decide +kernel
theorem dX2_tabulate_8 : decode cX2_tabulate 8 = .ok (.iload_n 2, 1) := by decide +kernel
theorem dX2_tabulate_9 : decode cX2_tabulate 9 = .ok (.if_icmp .ge 82, 3) := by decide +kernel
theorem dX2_tabulate_12 : decode cX2_tabulate 12 = .ok (.iconst 0, 1) := by decide +kernel
theorem dX2_tabulate_13 : decode cX2_tabulate 13 = .ok (.istore 4, 2) := by decide +kernel
theorem dX2_tabulate_15 : decode cX2_tabulate 15 = .ok (.iload 4, 2) := by decide +kernel
theorem dX2_tabulate_17 : decode cX2_tabulate 17 = .ok (.aload_n 0, 1) := by decide +kernel
theorem dX2_tabulate_18 : decode cX2_tabulate 18 = .ok (.getfield 23, 3) := by decide +kernel
theorem dX2_tabulate_21 : decode cX2_tabulate 21 = .ok (.getfield 55, 3) := by decide +kernel
theorem dX2_tabulate_24 : decode cX2_tabulate 24 = .ok (.getfield 86, 3) := by decide +kernel
theorem dX2_tabulate_27 : decode cX2_tabulate 27 = .ok (.if_icmp .ge 26, 3) := by decide +kernel
theorem dX2_tabulate_30 : decode cX2_tabulate 30 = .ok (.aload_n 0, 1) := by decide +kernel
theorem dX2_tabulate_31 : decode cX2_tabulate 31 = .ok (.getfield 23, 3) := by decide +kernel
theorem dX2_tabulate_34 : decode cX2_tabulate 34 = .ok (.getfield 52, 3) := by decide +kernel
theorem dX2_tabulate_37 : decode cX2_tabulate 37 = .ok (.iload 4, 2) := by decide +kernel
theorem dX2_tabulate_39 : decode cX2_tabulate 39 = .ok (.aload_n 0, 1) := by decide +kernel
theorem dX2_tabulate_40 : decode cX2_tabulate 40 = .ok (.iload_n 3, 1) := by decide +kernel
theorem dX2_tabulate_41 : decode cX2_tabulate 41 = .ok (.iload 4, 2) := by decide +kernel
theorem dX2_tabulate_43 : decode cX2_tabulate 43 = .ok (.invokevirtual 89, 3) := by decide +kernel
theorem dX2_tabulate_46 : decode cX2_tabulate 46 = .ok (.iastore, 1) := by decide +kernel
theorem dX2_tabulate_47 : decode cX2_tabulate 47 = .ok (.iinc 4 1, 3) := by decide +kernel
theorem dX2_tabulate_50 : decode cX2_tabulate 50 = .ok (.goto (-35), 3) := by decide +kernel
theorem dX2_tabulate_53 : decode cX2_tabulate 53 = .ok (.aload_n 0, 1) := by decide +kernel
theorem dX2_tabulate_54 : decode cX2_tabulate 54 = .ok (.getfield 19, 3) := by decide +kernel
theorem dX2_tabulate_57 : decode cX2_tabulate 57 = .ok (.iload_n 3, 1) := by decide +kernel
theorem dX2_tabulate_58 : decode cX2_tabulate 58 = .ok (.aload_n 0, 1) := by decide +kernel
theorem dX2_tabulate_59 : decode cX2_tabulate 59 = .ok (.getfield 23, 3) := by decide +kernel
theorem dX2_tabulate_62 : decode cX2_tabulate 62 = .ok (.aload_n 0, 1) := by decide +kernel
theorem dX2_tabulate_63 : decode cX2_tabulate 63 = .ok (.getfield 23, 3) := by decide +kernel
theorem dX2_tabulate_66 : decode cX2_tabulate 66 = .ok (.getfield 55, 3) := by decide +kernel
theorem dX2_tabulate_69 : decode cX2_tabulate 69 = .ok (.getfield 59, 3) := by decide +kernel
theorem dX2_tabulate_72 : decode cX2_tabulate 72 = .ok (.iload_n 1, 1) := by decide +kernel
theorem dX2_tabulate_73 : decode cX2_tabulate 73 = .ok (.aload_n 0, 1) := by decide +kernel
theorem dX2_tabulate_74 : decode cX2_tabulate 74 = .ok (.getfield 23, 3) := by decide +kernel
theorem dX2_tabulate_77 : decode cX2_tabulate 77 = .ok (.getfield 52, 3) := by decide +kernel
theorem dX2_tabulate_80 : decode cX2_tabulate 80 = .ok (.iconst 0, 1) := by decide +kernel
theorem dX2_tabulate_81 : decode cX2_tabulate 81 = .ok (.invokevirtual 65, 3) := by decide +kernel
theorem dX2_tabulate_84 : decode cX2_tabulate 84 = .ok (.iastore, 1) := by decide +kernel
theorem dX2_tabulate_85 : decode cX2_tabulate 85 = .ok (.iinc 3 1, 3) := by decide +kernel
theorem dX2_tabulate_88 : decode cX2_tabulate 88 = .ok (.goto (-81), 3) := by decide +kernel
theorem dX2_tabulate_91 : decode cX2_tabulate 91 = .ok (.return_, 1) := by decide +kernel
set_option maxRecDepth 20000 in
theorem ggX2_restCount_X2_restWays : GoodIn wsX2_restCount wsX2_restWays := goodIn_r _ [5, 6, 7, 8, 9, 10, 11, 12, 35, 36, 37, 38, 39, 40, 41, 42, 43, 44, 45, 46, 47, 48, 49, 50, 51, 52] (by decide +kernel) (by decide +kernel)
set_option maxRecDepth 20000 in
theorem gX2_restCount_X2_restWays : GoodIn wsX2_restCount (wsV RX2 82 RX2 yX2_restWays wsX2_restWays) := goodIn_app (goodIn_of _ (by decide +kernel)) ggX2_restCount_X2_restWays
set_option maxRecDepth 20000 in
theorem ggX2_restCount_X2_isRest : GoodIn wsX2_restCount wsX2_isRest := goodIn_r _ [16, 6, 7, 8, 17, 18, 19, 20, 4, 21, 22, 23, 24, 25, 26, 27, 28, 29, 30, 31, 32, 11, 33, 34, 35, 36, 37, 38, 39, 40, 41, 42, 43, 44, 45, 46, 47, 48, 49, 50, 51, 52] (by decide +kernel) (by decide +kernel)
set_option maxRecDepth 20000 in
theorem gX2_restCount_X2_isRest : GoodIn wsX2_restCount (wsV RX2 93 RX2 yX2_isRest wsX2_isRest) := goodIn_app (goodIn_of _ (by decide +kernel)) ggX2_restCount_X2_isRest
theorem dX2_restCount_0 : decode cX2_restCount 0 = .ok (.aload_n 0, 1) := by decide +kernel
theorem dX2_restCount_1 : decode cX2_restCount 1 = .ok (.invokevirtual 82, 3) := by decide +kernel
theorem dX2_restCount_4 : decode cX2_restCount 4 = .ok (.istore_n 1, 1) := by decide +kernel
theorem dX2_restCount_5 : decode cX2_restCount 5 = .ok (.iconst 0, 1) := by decide +kernel
theorem dX2_restCount_6 : decode cX2_restCount 6 = .ok (.istore_n 2, 1) := by decide +kernel
theorem dX2_restCount_7 : decode cX2_restCount 7 = .ok (.iconst 0, 1) := by decide +kernel
theorem dX2_restCount_8 : decode cX2_restCount 8 = .ok (.istore_n 3, 1) := by decide +kernel
theorem dX2_restCount_9 : decode cX2_restCount 9 = .ok (.iload_n 3, 1) := by decide +kernel
theorem dX2_restCount_10 : decode cX2_restCount 10 = .ok (.iload_n 1, 1) := by decide +kernel
theorem dX2_restCount_11 : decode cX2_restCount 11 = .ok (.if_icmp .ge 20, 3) := by decide +kernel
theorem dX2_restCount_14 : decode cX2_restCount 14 = .ok (.aload_n 0, 1) := by decide +kernel
theorem dX2_restCount_15 : decode cX2_restCount 15 = .ok (.iload_n 3, 1) := by decide +kernel
theorem dX2_restCount_16 : decode cX2_restCount 16 = .ok (.invokevirtual 93, 3) := by decide +kernel
theorem dX2_restCount_19 : decode cX2_restCount 19 = .ok (.ifCond .eq 6, 3) := by decide +kernel
theorem dX2_restCount_22 : decode cX2_restCount 22 = .ok (.iinc 2 1, 3) := by decide +kernel
theorem dX2_restCount_25 : decode cX2_restCount 25 = .ok (.iinc 3 1, 3) := by decide +kernel
theorem dX2_restCount_28 : decode cX2_restCount 28 = .ok (.goto (-19), 3) := by decide +kernel
theorem dX2_restCount_31 : decode cX2_restCount 31 = .ok (.iload_n 2, 1) := by decide +kernel
theorem dX2_restCount_32 : decode cX2_restCount 32 = .ok (.ireturn, 1) := by decide +kernel
set_option maxRecDepth 20000 in
theorem ggX2_restAt_X2_restWays : GoodIn wsX2_restAt wsX2_restWays := goodIn_r _ [5, 6, 7, 8, 9, 10, 11, 12, 39, 40, 41, 42, 43, 44, 45, 46, 47, 48, 49, 50, 51, 52, 53, 54, 55, 56] (by decide +kernel) (by decide +kernel)
set_option maxRecDepth 20000 in
theorem gX2_restAt_X2_restWays : GoodIn wsX2_restAt (wsV RX2 82 RX2 yX2_restWays wsX2_restWays) := goodIn_app (goodIn_of _ (by decide +kernel)) ggX2_restAt_X2_restWays
set_option maxRecDepth 20000 in
theorem ggX2_restAt_X2_isRest : GoodIn wsX2_restAt wsX2_isRest := goodIn_r _ [16, 6, 7, 8, 17, 18, 19, 20, 4, 21, 22, 23, 24, 25, 26, 27, 28, 29, 30, 31, 32, 11, 33, 34, 39, 40, 41, 42, 43, 44, 45, 46, 47, 48, 49, 50, 51, 52, 53, 54, 55, 56] (by decide +kernel) (by decide +kernel)
set_option maxRecDepth 20000 in
theorem gX2_restAt_X2_isRest : GoodIn wsX2_restAt (wsV RX2 93 RX2 yX2_isRest wsX2_isRest) := goodIn_app (goodIn_of _ (by decide +kernel)) ggX2_restAt_X2_isRest
set_option maxRecDepth 20000 in
theorem ggX2_restAt_X2_digitsOf : GoodIn wsX2_restAt wsX2_digitsOf := goodIn_r _ [38, 6, 7, 8, 18, 19, 20, 4, 21, 22, 23, 24, 25, 39, 40, 41, 42, 43, 44, 45, 46, 47, 48, 49, 50, 51, 52, 53, 54, 55, 56] (by decide +kernel) (by decide +kernel)
set_option maxRecDepth 20000 in
theorem gX2_restAt_X2_digitsOf : GoodIn wsX2_restAt (wsV RX2 97 RX2 yX2_digitsOf wsX2_digitsOf) := goodIn_app (goodIn_of _ (by decide +kernel)) ggX2_restAt_X2_digitsOf
theorem dX2_restAt_0 : decode cX2_restAt 0 = .ok (.aload_n 0, 1) := by decide +kernel
theorem dX2_restAt_1 : decode cX2_restAt 1 = .ok (.invokevirtual 82, 3) := by decide +kernel
theorem dX2_restAt_4 : decode cX2_restAt 4 = .ok (.istore_n 2, 1) := by decide +kernel
theorem dX2_restAt_5 : decode cX2_restAt 5 = .ok (.iconst 0, 1) := by decide +kernel
theorem dX2_restAt_6 : decode cX2_restAt 6 = .ok (.istore_n 3, 1) := by decide +kernel
theorem dX2_restAt_7 : decode cX2_restAt 7 = .ok (.iconst 0, 1) := by decide +kernel
theorem dX2_restAt_8 : decode cX2_restAt 8 = .ok (.istore 4, 2) := by decide +kernel
theorem dX2_restAt_10 : decode cX2_restAt 10 = .ok (.iload 4, 2) := by decide +kernel
theorem dX2_restAt_12 : decode cX2_restAt 12 = .ok (.iload_n 2, 1) := by decide +kernel
theorem dX2_restAt_13 : decode cX2_restAt 13 = .ok (.if_icmp .ge 33, 3) := by decide +kernel
theorem dX2_restAt_16 : decode cX2_restAt 16 = .ok (.aload_n 0, 1) := by decide +kernel
theorem dX2_restAt_17 : decode cX2_restAt 17 = .ok (.iload 4, 2) := by decide +kernel
theorem dX2_restAt_19 : decode cX2_restAt 19 = .ok (.invokevirtual 93, 3) := by decide +kernel
theorem dX2_restAt_22 : decode cX2_restAt 22 = .ok (.ifCond .eq 18, 3) := by decide +kernel
theorem dX2_restAt_25 : decode cX2_restAt 25 = .ok (.iload_n 3, 1) := by decide +kernel
theorem dX2_restAt_26 : decode cX2_restAt 26 = .ok (.iload_n 1, 1) := by decide +kernel
theorem dX2_restAt_27 : decode cX2_restAt 27 = .ok (.if_icmp .ne 10, 3) := by decide +kernel
theorem dX2_restAt_30 : decode cX2_restAt 30 = .ok (.aload_n 0, 1) := by decide +kernel
theorem dX2_restAt_31 : decode cX2_restAt 31 = .ok (.iload 4, 2) := by decide +kernel
theorem dX2_restAt_33 : decode cX2_restAt 33 = .ok (.invokevirtual 97, 3) := by decide +kernel
theorem dX2_restAt_36 : decode cX2_restAt 36 = .ok (.ireturn, 1) := by decide +kernel
theorem dX2_restAt_37 : decode cX2_restAt 37 = .ok (.iinc 3 1, 3) := by decide +kernel
theorem dX2_restAt_40 : decode cX2_restAt 40 = .ok (.iinc 4 1, 3) := by decide +kernel
theorem dX2_restAt_43 : decode cX2_restAt 43 = .ok (.goto (-33), 3) := by decide +kernel
theorem dX2_restAt_46 : decode cX2_restAt 46 = .ok (.bipush (-6), 2) := by decide +kernel
theorem dX2_restAt_48 : decode cX2_restAt 48 = .ok (.ireturn, 1) := by decide +kernel
theorem dX2_restWays_0 : decode cX2_restWays 0 = .ok (.sipush 4096, 3) := by decide +kernel
theorem dX2_restWays_3 : decode cX2_restWays 3 = .ok (.iconst 1, 1) := by decide +kernel
theorem dX2_restWays_4 : decode cX2_restWays 4 = .ok (.iconst 2, 1) := by decide +kernel
theorem dX2_restWays_5 : decode cX2_restWays 5 = .ok (.aload_n 0, 1) := by decide +kernel
theorem dX2_restWays_6 : decode cX2_restWays 6 = .ok (.getfield 23, 3) := by decide +kernel
theorem dX2_restWays_9 : decode cX2_restWays 9 = .ok (.getfield 55, 3) := by decide +kernel
theorem dX2_restWays_12 : decode cX2_restWays 12 = .ok (.getfield 86, 3) := by decide +kernel
theorem dX2_restWays_15 : decode cX2_restWays 15 = .ok (.imul, 1) := by decide +kernel
theorem dX2_restWays_16 : decode cX2_restWays 16 = .ok (.ishl, 1) := by decide +kernel
theorem dX2_restWays_17 : decode cX2_restWays 17 = .ok (.invokestatic 100, 3) := by decide +kernel
theorem dX2_restWays_20 : decode cX2_restWays 20 = .ok (.ireturn, 1) := by decide +kernel
theorem dX2_shiftOf_0 : decode cX2_shiftOf 0 = .ok (.iconst 2, 1) := by decide +kernel
theorem dX2_shiftOf_1 : decode cX2_shiftOf 1 = .ok (.aload_n 0, 1) := by decide +kernel
theorem dX2_shiftOf_2 : decode cX2_shiftOf 2 = .ok (.getfield 23, 3) := by decide +kernel
theorem dX2_shiftOf_5 : decode cX2_shiftOf 5 = .ok (.getfield 55, 3) := by decide +kernel
theorem dX2_shiftOf_8 : decode cX2_shiftOf 8 = .ok (.getfield 86, 3) := by decide +kernel
theorem dX2_shiftOf_11 : decode cX2_shiftOf 11 = .ok (.iconst 1, 1) := by decide +kernel
theorem dX2_shiftOf_12 : decode cX2_shiftOf 12 = .ok (.isub, 1) := by decide +kernel
theorem dX2_shiftOf_13 : decode cX2_shiftOf 13 = .ok (.iload_n 1, 1) := by decide +kernel
theorem dX2_shiftOf_14 : decode cX2_shiftOf 14 = .ok (.isub, 1) := by decide +kernel
theorem dX2_shiftOf_15 : decode cX2_shiftOf 15 = .ok (.imul, 1) := by decide +kernel
theorem dX2_shiftOf_16 : decode cX2_shiftOf 16 = .ok (.ireturn, 1) := by decide +kernel
set_option maxRecDepth 20000 in
theorem ggX2_lateIn_X2_shiftOf : GoodIn wsX2_lateIn wsX2_shiftOf := goodIn_r _ [5, 6, 7, 8, 9, 10, 11, 12, 13, 14, 15, 16, 17, 18, 19, 20, 21, 22, 23, 24, 25, 26] (by decide +kernel) (by decide +kernel)
set_option maxRecDepth 20000 in
theorem gX2_lateIn_X2_shiftOf : GoodIn wsX2_lateIn (wsV RX2 103 RX2 yX2_shiftOf wsX2_shiftOf) := goodIn_app (goodIn_of _ (by decide +kernel)) ggX2_lateIn_X2_shiftOf
theorem dX2_lateIn_0 : decode cX2_lateIn 0 = .ok (.iload_n 1, 1) := by decide +kernel
theorem dX2_lateIn_1 : decode cX2_lateIn 1 = .ok (.aload_n 0, 1) := by decide +kernel
theorem dX2_lateIn_2 : decode cX2_lateIn 2 = .ok (.iload_n 2, 1) := by decide +kernel
theorem dX2_lateIn_3 : decode cX2_lateIn 3 = .ok (.invokevirtual 103, 3) := by decide +kernel
theorem dX2_lateIn_6 : decode cX2_lateIn 6 = .ok (.ishr, 1) := by decide +kernel
theorem dX2_lateIn_7 : decode cX2_lateIn 7 = .ok (.iconst 3, 1) := by decide +kernel
theorem dX2_lateIn_8 : decode cX2_lateIn 8 = .ok (.iand, 1) := by decide +kernel
theorem dX2_lateIn_9 : decode cX2_lateIn 9 = .ok (.ireturn, 1) := by decide +kernel
set_option maxRecDepth 20000 in
theorem ggX2_isRest_X2_lateIn : GoodIn wsX2_isRest wsX2_lateIn := goodIn_r _ [9, 10, 11, 12, 8, 13, 1, 2, 3, 24, 25, 26, 27, 28, 29, 30, 31, 32, 33, 34, 35, 36, 37, 38, 39, 40, 41] (by decide +kernel) (by decide +kernel)
set_option maxRecDepth 20000 in
theorem gX2_isRest_X2_lateIn : GoodIn wsX2_isRest (wsV RX2 89 RX2 yX2_lateIn wsX2_lateIn) := goodIn_app (goodIn_of _ (by decide +kernel)) ggX2_isRest_X2_lateIn
set_option maxRecDepth 20000 in
theorem ggX2_isRest_X2_shiftOf : GoodIn wsX2_isRest wsX2_shiftOf := goodIn_r _ [13, 1, 2, 3, 24, 25, 26, 27, 28, 29, 30, 31, 32, 33, 34, 35, 36, 37, 38, 39, 40, 41] (by decide +kernel) (by decide +kernel)
set_option maxRecDepth 20000 in
theorem gX2_isRest_X2_shiftOf : GoodIn wsX2_isRest (wsV RX2 103 RX2 yX2_shiftOf wsX2_shiftOf) := goodIn_app (goodIn_of _ (by decide +kernel)) ggX2_isRest_X2_shiftOf
set_option maxRecDepth 20000 in
theorem ggX2_isRest_X2_costOf : GoodIn wsX2_isRest wsX2_costOf := goodIn_r _ [17, 1, 2, 18, 19, 20, 21, 22, 23, 24, 25, 26, 27, 28, 29, 30, 31, 32, 33, 34, 35, 36, 37, 38, 39, 40, 41] (by decide +kernel) (by decide +kernel)
set_option maxRecDepth 20000 in
theorem gX2_isRest_X2_costOf : GoodIn wsX2_isRest (wsV RX2 49 RX2 yX2_costOf wsX2_costOf) := goodIn_app (goodIn_of _ (by decide +kernel)) ggX2_isRest_X2_costOf
theorem dX2_isRest_0 : decode cX2_isRest 0 = .ok (.iconst 0, 1) := by decide +kernel
theorem dX2_isRest_1 : decode cX2_isRest 1 = .ok (.istore_n 2, 1) := by decide +kernel
theorem dX2_isRest_2 : decode cX2_isRest 2 = .ok (.iload_n 2, 1) := by decide +kernel
theorem dX2_isRest_3 : decode cX2_isRest 3 = .ok (.aload_n 0, 1) := by decide +kernel
theorem dX2_isRest_4 : decode cX2_isRest 4 = .ok (.getfield 23, 3) := by decide +kernel
theorem dX2_isRest_7 : decode cX2_isRest 7 = .ok (.getfield 55, 3) := by decide +kernel
theorem dX2_isRest_10 : decode cX2_isRest 10 = .ok (.getfield 86, 3) := by decide +kernel
theorem dX2_isRest_13 : decode cX2_isRest 13 = .ok (.if_icmp .ge 90, 3) := by decide +kernel
theorem dX2_isRest_16 : decode cX2_isRest 16 = .ok (.aload_n 0, 1) := by decide +kernel
theorem dX2_isRest_17 : decode cX2_isRest 17 = .ok (.iload_n 1, 1) := by decide +kernel
theorem dX2_isRest_18 : decode cX2_isRest 18 = .ok (.iload_n 2, 1) := by decide +kernel
theorem dX2_isRest_19 : decode cX2_isRest 19 = .ok (.invokevirtual 89, 3) := by decide +kernel
theorem dX2_isRest_22 : decode cX2_isRest 22 = .ok (.istore_n 3, 1) := by decide +kernel
theorem dX2_isRest_23 : decode cX2_isRest 23 = .ok (.iload_n 1, 1) := by decide +kernel
theorem dX2_isRest_24 : decode cX2_isRest 24 = .ok (.iload_n 3, 1) := by decide +kernel
theorem dX2_isRest_25 : decode cX2_isRest 25 = .ok (.aload_n 0, 1) := by decide +kernel
theorem dX2_isRest_26 : decode cX2_isRest 26 = .ok (.iload_n 2, 1) := by decide +kernel
theorem dX2_isRest_27 : decode cX2_isRest 27 = .ok (.invokevirtual 103, 3) := by decide +kernel
theorem dX2_isRest_30 : decode cX2_isRest 30 = .ok (.ishl, 1) := by decide +kernel
theorem dX2_isRest_31 : decode cX2_isRest 31 = .ok (.isub, 1) := by decide +kernel
theorem dX2_isRest_32 : decode cX2_isRest 32 = .ok (.istore 4, 2) := by decide +kernel
theorem dX2_isRest_34 : decode cX2_isRest 34 = .ok (.aload_n 0, 1) := by decide +kernel
theorem dX2_isRest_35 : decode cX2_isRest 35 = .ok (.iload_n 2, 1) := by decide +kernel
theorem dX2_isRest_36 : decode cX2_isRest 36 = .ok (.aload_n 0, 1) := by decide +kernel
theorem dX2_isRest_37 : decode cX2_isRest 37 = .ok (.getfield 19, 3) := by decide +kernel
theorem dX2_isRest_40 : decode cX2_isRest 40 = .ok (.iload_n 1, 1) := by decide +kernel
theorem dX2_isRest_41 : decode cX2_isRest 41 = .ok (.iaload, 1) := by decide +kernel
theorem dX2_isRest_42 : decode cX2_isRest 42 = .ok (.iload_n 3, 1) := by decide +kernel
theorem dX2_isRest_43 : decode cX2_isRest 43 = .ok (.invokevirtual 49, 3) := by decide +kernel
theorem dX2_isRest_46 : decode cX2_isRest 46 = .ok (.istore 5, 2) := by decide +kernel
theorem dX2_isRest_48 : decode cX2_isRest 48 = .ok (.iconst 0, 1) := by decide +kernel
theorem dX2_isRest_49 : decode cX2_isRest 49 = .ok (.istore 6, 2) := by decide +kernel
theorem dX2_isRest_51 : decode cX2_isRest 51 = .ok (.iload 6, 2) := by decide +kernel
theorem dX2_isRest_53 : decode cX2_isRest 53 = .ok (.iconst 4, 1) := by decide +kernel
theorem dX2_isRest_54 : decode cX2_isRest 54 = .ok (.if_icmp .ge 43, 3) := by decide +kernel
theorem dX2_isRest_57 : decode cX2_isRest 57 = .ok (.aload_n 0, 1) := by decide +kernel
theorem dX2_isRest_58 : decode cX2_isRest 58 = .ok (.getfield 19, 3) := by decide +kernel
theorem dX2_isRest_61 : decode cX2_isRest 61 = .ok (.iload 4, 2) := by decide +kernel
theorem dX2_isRest_63 : decode cX2_isRest 63 = .ok (.iload 6, 2) := by decide +kernel
theorem dX2_isRest_65 : decode cX2_isRest 65 = .ok (.aload_n 0, 1) := by decide +kernel
theorem dX2_isRest_66 : decode cX2_isRest 66 = .ok (.iload_n 2, 1) := by decide +kernel
theorem dX2_isRest_67 : decode cX2_isRest 67 = .ok (.invokevirtual 103, 3) := by decide +kernel
theorem dX2_isRest_70 : decode cX2_isRest 70 = .ok (.ishl, 1) := by decide +kernel
theorem dX2_isRest_71 : decode cX2_isRest 71 = .ok (.iadd, 1) := by decide +kernel
theorem dX2_isRest_72 : decode cX2_isRest 72 = .ok (.iaload, 1) := by decide +kernel
theorem dX2_isRest_73 : decode cX2_isRest 73 = .ok (.istore 7, 2) := by decide +kernel
theorem dX2_isRest_75 : decode cX2_isRest 75 = .ok (.aload_n 0, 1) := by decide +kernel
theorem dX2_isRest_76 : decode cX2_isRest 76 = .ok (.iload_n 2, 1) := by decide +kernel
theorem dX2_isRest_77 : decode cX2_isRest 77 = .ok (.iload 7, 2) := by decide +kernel
theorem dX2_isRest_79 : decode cX2_isRest 79 = .ok (.iload 6, 2) := by decide +kernel
theorem dX2_isRest_81 : decode cX2_isRest 81 = .ok (.invokevirtual 49, 3) := by decide +kernel
theorem dX2_isRest_84 : decode cX2_isRest 84 = .ok (.iload 5, 2) := by decide +kernel
theorem dX2_isRest_86 : decode cX2_isRest 86 = .ok (.if_icmp .ge 5, 3) := by decide +kernel
theorem dX2_isRest_89 : decode cX2_isRest 89 = .ok (.iconst 0, 1) := by decide +kernel
theorem dX2_isRest_90 : decode cX2_isRest 90 = .ok (.ireturn, 1) := by decide +kernel
theorem dX2_isRest_91 : decode cX2_isRest 91 = .ok (.iinc 6 1, 3) := by decide +kernel
theorem dX2_isRest_94 : decode cX2_isRest 94 = .ok (.goto (-43), 3) := by decide +kernel
theorem dX2_isRest_97 : decode cX2_isRest 97 = .ok (.iinc 2 1, 3) := by decide +kernel
theorem dX2_isRest_100 : decode cX2_isRest 100 = .ok (.goto (-98), 3) := by decide +kernel
theorem dX2_isRest_103 : decode cX2_isRest 103 = .ok (.iconst 1, 1) := by decide +kernel
theorem dX2_isRest_104 : decode cX2_isRest 104 = .ok (.ireturn, 1) := by decide +kernel
set_option maxRecDepth 20000 in
theorem ggX2_digitsOf_X2_lateIn : GoodIn wsX2_digitsOf wsX2_lateIn := goodIn_r _ [8, 9, 10, 11, 7, 12, 1, 2, 3, 13, 14, 15, 16, 17, 18, 19, 20, 21, 22, 23, 24, 25, 26, 27, 28, 29, 30] (by decide +kernel) (by decide +kernel)
set_option maxRecDepth 20000 in
theorem gX2_digitsOf_X2_lateIn : GoodIn wsX2_digitsOf (wsV RX2 89 RX2 yX2_lateIn wsX2_lateIn) := goodIn_app (goodIn_of _ (by decide +kernel)) ggX2_digitsOf_X2_lateIn
theorem dX2_digitsOf_0 : decode cX2_digitsOf 0 = .ok (.iconst 0, 1) := by decide +kernel
theorem dX2_digitsOf_1 : decode cX2_digitsOf 1 = .ok (.istore_n 2, 1) := by decide +kernel
theorem dX2_digitsOf_2 : decode cX2_digitsOf 2 = .ok (.iconst 0, 1) := by decide +kernel
theorem dX2_digitsOf_3 : decode cX2_digitsOf 3 = .ok (.istore_n 3, 1) := by decide +kernel
theorem dX2_digitsOf_4 : decode cX2_digitsOf 4 = .ok (.iload_n 3, 1) := by decide +kernel
theorem dX2_digitsOf_5 : decode cX2_digitsOf 5 = .ok (.aload_n 0, 1) := by decide +kernel
theorem dX2_digitsOf_6 : decode cX2_digitsOf 6 = .ok (.getfield 23, 3) := by decide +kernel
theorem dX2_digitsOf_9 : decode cX2_digitsOf 9 = .ok (.getfield 55, 3) := by decide +kernel
theorem dX2_digitsOf_12 : decode cX2_digitsOf 12 = .ok (.getfield 86, 3) := by decide +kernel
theorem dX2_digitsOf_15 : decode cX2_digitsOf 15 = .ok (.if_icmp .ge 21, 3) := by decide +kernel
theorem dX2_digitsOf_18 : decode cX2_digitsOf 18 = .ok (.bipush 10, 2) := by decide +kernel
theorem dX2_digitsOf_20 : decode cX2_digitsOf 20 = .ok (.iload_n 2, 1) := by decide +kernel
theorem dX2_digitsOf_21 : decode cX2_digitsOf 21 = .ok (.imul, 1) := by decide +kernel
theorem dX2_digitsOf_22 : decode cX2_digitsOf 22 = .ok (.aload_n 0, 1) := by decide +kernel
theorem dX2_digitsOf_23 : decode cX2_digitsOf 23 = .ok (.iload_n 1, 1) := by decide +kernel
theorem dX2_digitsOf_24 : decode cX2_digitsOf 24 = .ok (.iload_n 3, 1) := by decide +kernel
theorem dX2_digitsOf_25 : decode cX2_digitsOf 25 = .ok (.invokevirtual 89, 3) := by decide +kernel
theorem dX2_digitsOf_28 : decode cX2_digitsOf 28 = .ok (.iadd, 1) := by decide +kernel
theorem dX2_digitsOf_29 : decode cX2_digitsOf 29 = .ok (.istore_n 2, 1) := by decide +kernel
theorem dX2_digitsOf_30 : decode cX2_digitsOf 30 = .ok (.iinc 3 1, 3) := by decide +kernel
theorem dX2_digitsOf_33 : decode cX2_digitsOf 33 = .ok (.goto (-29), 3) := by decide +kernel
theorem dX2_digitsOf_36 : decode cX2_digitsOf 36 = .ok (.iload_n 2, 1) := by decide +kernel
theorem dX2_digitsOf_37 : decode cX2_digitsOf 37 = .ok (.ireturn, 1) := by decide +kernel
set_option maxRecDepth 20000 in
theorem ggX2_leastMovers_J6_bitCount_0f7a4 : GoodIn wsX2_leastMovers wsJ6_bitCount_0f7a4 := goodIn_r _ [7, 8, 9, 10] (by decide +kernel) (by decide +kernel)
set_option maxRecDepth 20000 in
theorem gX2_leastMovers_J6_bitCount_0f7a4 : GoodIn wsX2_leastMovers (va_wsS RX2 106 yJ6_bitCount_0f7a4 wsJ6_bitCount_0f7a4) := goodIn_app (goodIn_of _ (by decide +kernel)) ggX2_leastMovers_J6_bitCount_0f7a4
set_option maxRecDepth 20000 in
theorem ggX2_leastMovers_X2_canMove : GoodIn wsX2_leastMovers wsX2_canMove := goodIn_r _ [15, 1, 16, 17, 18, 19, 20, 21, 22, 23, 24, 25, 26, 27, 28, 4, 5, 6, 7, 8, 9, 10, 29, 30, 31, 14, 32, 2, 3, 33, 34, 35, 36, 37, 38, 39, 40, 41, 42, 43, 44, 45, 46, 47, 48, 49, 50, 51, 52, 53, 54, 55, 56, 57, 58, 59, 60, 61, 62, 63, 64, 65, 66, 67, 68, 69, 70, 71, 72, 73, 74, 75, 76, 77, 78, 79, 80, 81, 82, 83, 84, 85, 86, 87, 88, 89, 90, 91, 92, 93, 94, 95, 96, 97, 98, 99, 100, 101] (by decide +kernel) (by decide +kernel)
set_option maxRecDepth 20000 in
theorem gX2_leastMovers_X2_canMove : GoodIn wsX2_leastMovers (wsV RX2 109 RX2 yX2_canMove wsX2_canMove) := goodIn_app (goodIn_of _ (by decide +kernel)) ggX2_leastMovers_X2_canMove
theorem dX2_leastMovers_0 : decode cX2_leastMovers 0 = .ok (.aload_n 0, 1) := by decide +kernel
theorem dX2_leastMovers_1 : decode cX2_leastMovers 1 = .ok (.getfield 23, 3) := by decide +kernel
theorem dX2_leastMovers_4 : decode cX2_leastMovers 4 = .ok (.getfield 55, 3) := by decide +kernel
theorem dX2_leastMovers_7 : decode cX2_leastMovers 7 = .ok (.getfield 86, 3) := by decide +kernel
theorem dX2_leastMovers_10 : decode cX2_leastMovers 10 = .ok (.istore 4, 2) := by decide +kernel
theorem dX2_leastMovers_12 : decode cX2_leastMovers 12 = .ok (.iconst 0, 1) := by decide +kernel
theorem dX2_leastMovers_13 : decode cX2_leastMovers 13 = .ok (.istore 5, 2) := by decide +kernel
theorem dX2_leastMovers_15 : decode cX2_leastMovers 15 = .ok (.iload 5, 2) := by decide +kernel
theorem dX2_leastMovers_17 : decode cX2_leastMovers 17 = .ok (.iload 4, 2) := by decide +kernel
theorem dX2_leastMovers_19 : decode cX2_leastMovers 19 = .ok (.if_icmp .gt 52, 3) := by decide +kernel
theorem dX2_leastMovers_22 : decode cX2_leastMovers 22 = .ok (.iconst 0, 1) := by decide +kernel
theorem dX2_leastMovers_23 : decode cX2_leastMovers 23 = .ok (.istore 6, 2) := by decide +kernel
theorem dX2_leastMovers_25 : decode cX2_leastMovers 25 = .ok (.iload 6, 2) := by decide +kernel
theorem dX2_leastMovers_27 : decode cX2_leastMovers 27 = .ok (.iconst 1, 1) := by decide +kernel
theorem dX2_leastMovers_28 : decode cX2_leastMovers 28 = .ok (.iload 4, 2) := by decide +kernel
theorem dX2_leastMovers_30 : decode cX2_leastMovers 30 = .ok (.ishl, 1) := by decide +kernel
theorem dX2_leastMovers_31 : decode cX2_leastMovers 31 = .ok (.if_icmp .ge 34, 3) := by decide +kernel
theorem dX2_leastMovers_34 : decode cX2_leastMovers 34 = .ok (.iload 6, 2) := by decide +kernel
theorem dX2_leastMovers_36 : decode cX2_leastMovers 36 = .ok (.invokestatic 106, 3) := by decide +kernel
theorem dX2_leastMovers_39 : decode cX2_leastMovers 39 = .ok (.iload 5, 2) := by decide +kernel
theorem dX2_leastMovers_41 : decode cX2_leastMovers 41 = .ok (.if_icmp .ne 18, 3) := by decide +kernel
theorem dX2_leastMovers_44 : decode cX2_leastMovers 44 = .ok (.aload_n 0, 1) := by decide +kernel
theorem dX2_leastMovers_45 : decode cX2_leastMovers 45 = .ok (.iload 6, 2) := by decide +kernel
theorem dX2_leastMovers_47 : decode cX2_leastMovers 47 = .ok (.iload_n 1, 1) := by decide +kernel
theorem dX2_leastMovers_48 : decode cX2_leastMovers 48 = .ok (.iload_n 2, 1) := by decide +kernel
theorem dX2_leastMovers_49 : decode cX2_leastMovers 49 = .ok (.iload_n 3, 1) := by decide +kernel
theorem dX2_leastMovers_50 : decode cX2_leastMovers 50 = .ok (.invokevirtual 109, 3) := by decide +kernel
theorem dX2_leastMovers_53 : decode cX2_leastMovers 53 = .ok (.ifCond .eq 6, 3) := by decide +kernel
theorem dX2_leastMovers_56 : decode cX2_leastMovers 56 = .ok (.iload 6, 2) := by decide +kernel
theorem dX2_leastMovers_58 : decode cX2_leastMovers 58 = .ok (.ireturn, 1) := by decide +kernel
theorem dX2_leastMovers_59 : decode cX2_leastMovers 59 = .ok (.iinc 6 1, 3) := by decide +kernel
theorem dX2_leastMovers_62 : decode cX2_leastMovers 62 = .ok (.goto (-37), 3) := by decide +kernel
theorem dX2_leastMovers_65 : decode cX2_leastMovers 65 = .ok (.iinc 5 1, 3) := by decide +kernel
theorem dX2_leastMovers_68 : decode cX2_leastMovers 68 = .ok (.goto (-53), 3) := by decide +kernel
theorem dX2_leastMovers_71 : decode cX2_leastMovers 71 = .ok (.bipush (-6), 2) := by decide +kernel
theorem dX2_leastMovers_73 : decode cX2_leastMovers 73 = .ok (.ireturn, 1) := by decide +kernel
set_option maxRecDepth 20000 in
theorem ggX2_canMove_X0_tryAsTold : GoodIn wsX2_canMove wsX0_tryAsTold := goodIn_r _ [7, 8, 9, 10, 11, 12, 13, 14, 82, 83, 84, 85, 86, 87, 88, 89, 90, 91, 92, 93, 94, 95] (by decide +kernel) (by decide +kernel)
set_option maxRecDepth 20000 in
theorem gX2_canMove_X0_tryAsTold : GoodIn wsX2_canMove (wsV RX2 27 RX0 yX0_tryAsTold wsX0_tryAsTold) := goodIn_app (goodIn_of _ (by decide +kernel)) ggX2_canMove_X0_tryAsTold
set_option maxRecDepth 20000 in
theorem ggX2_canMove_J6_bitCount_0f7a4 : GoodIn wsX2_canMove wsJ6_bitCount_0f7a4 := goodIn_r _ [18, 19, 20, 21] (by decide +kernel) (by decide +kernel)
set_option maxRecDepth 20000 in
theorem gX2_canMove_J6_bitCount_0f7a4 : GoodIn wsX2_canMove (va_wsS RX2 106 yJ6_bitCount_0f7a4 wsJ6_bitCount_0f7a4) := goodIn_app (goodIn_of _ (by decide +kernel)) ggX2_canMove_J6_bitCount_0f7a4
set_option maxRecDepth 20000 in
theorem ggX2_canMove_X2_tryWay : GoodIn wsX2_canMove wsX2_tryWay := goodIn_r _ [26, 1, 27, 28, 2, 29, 78, 79, 80, 81, 82, 83, 84, 85, 86, 87, 88, 89, 90, 91, 92, 93, 94, 95] (by decide +kernel) (by decide +kernel)
set_option maxRecDepth 20000 in
theorem gX2_canMove_X2_tryWay : GoodIn wsX2_canMove (wsV RX2 113 RX2 yX2_tryWay wsX2_tryWay) := goodIn_app (goodIn_of _ (by decide +kernel)) ggX2_canMove_X2_tryWay
set_option maxRecDepth 20000 in
theorem ggX2_canMove_X0_hourAfter : GoodIn wsX2_canMove wsX0_hourAfter := goodIn_r _ [33, 8, 34, 35, 36, 37, 6, 38, 39, 40, 41, 42, 43, 44, 45, 46, 47, 48, 49, 50, 51, 52, 53, 54, 55, 56, 57, 58, 59, 60, 61, 62, 63, 64, 65, 66, 67, 68, 69, 70, 71, 72, 73, 74, 75, 76, 77, 82, 83, 84, 85, 86, 87, 88, 89, 90, 91, 92, 93, 94, 95, 96, 97] (by decide +kernel) (by decide +kernel)
set_option maxRecDepth 20000 in
theorem gX2_canMove_X0_hourAfter : GoodIn wsX2_canMove (wsV RX2 117 RX0 yX0_hourAfter wsX0_hourAfter) := goodIn_app (goodIn_of _ (by decide +kernel)) ggX2_canMove_X0_hourAfter
theorem dX2_canMove_0 : decode cX2_canMove 0 = .ok (.aload_n 0, 1) := by decide +kernel
theorem dX2_canMove_1 : decode cX2_canMove 1 = .ok (.getfield 23, 3) := by decide +kernel
theorem dX2_canMove_4 : decode cX2_canMove 4 = .ok (.invokevirtual 27, 3) := by decide +kernel
theorem dX2_canMove_7 : decode cX2_canMove 7 = .ok (.iconst 1, 1) := by decide +kernel
theorem dX2_canMove_8 : decode cX2_canMove 8 = .ok (.istore 5, 2) := by decide +kernel
theorem dX2_canMove_10 : decode cX2_canMove 10 = .ok (.iconst 0, 1) := by decide +kernel
theorem dX2_canMove_11 : decode cX2_canMove 11 = .ok (.istore 6, 2) := by decide +kernel
theorem dX2_canMove_13 : decode cX2_canMove 13 = .ok (.iload 6, 2) := by decide +kernel
theorem dX2_canMove_15 : decode cX2_canMove 15 = .ok (.iload_n 1, 1) := by decide +kernel
theorem dX2_canMove_16 : decode cX2_canMove 16 = .ok (.invokestatic 106, 3) := by decide +kernel
theorem dX2_canMove_19 : decode cX2_canMove 19 = .ok (.if_icmp .ge 15, 3) := by decide +kernel
theorem dX2_canMove_22 : decode cX2_canMove 22 = .ok (.iload 5, 2) := by decide +kernel
theorem dX2_canMove_24 : decode cX2_canMove 24 = .ok (.iconst 5, 1) := by decide +kernel
theorem dX2_canMove_25 : decode cX2_canMove 25 = .ok (.imul, 1) := by decide +kernel
theorem dX2_canMove_26 : decode cX2_canMove 26 = .ok (.istore 5, 2) := by decide +kernel
theorem dX2_canMove_28 : decode cX2_canMove 28 = .ok (.iinc 6 1, 3) := by decide +kernel
theorem dX2_canMove_31 : decode cX2_canMove 31 = .ok (.goto (-18), 3) := by decide +kernel
theorem dX2_canMove_34 : decode cX2_canMove 34 = .ok (.iconst 0, 1) := by decide +kernel
theorem dX2_canMove_35 : decode cX2_canMove 35 = .ok (.istore 6, 2) := by decide +kernel
theorem dX2_canMove_37 : decode cX2_canMove 37 = .ok (.iload 6, 2) := by decide +kernel
theorem dX2_canMove_39 : decode cX2_canMove 39 = .ok (.iload 5, 2) := by decide +kernel
theorem dX2_canMove_41 : decode cX2_canMove 41 = .ok (.if_icmp .ge 59, 3) := by decide +kernel
theorem dX2_canMove_44 : decode cX2_canMove 44 = .ok (.aload_n 0, 1) := by decide +kernel
theorem dX2_canMove_45 : decode cX2_canMove 45 = .ok (.iload_n 1, 1) := by decide +kernel
theorem dX2_canMove_46 : decode cX2_canMove 46 = .ok (.iload 6, 2) := by decide +kernel
theorem dX2_canMove_48 : decode cX2_canMove 48 = .ok (.invokevirtual 113, 3) := by decide +kernel
theorem dX2_canMove_51 : decode cX2_canMove 51 = .ok (.aload_n 0, 1) := by decide +kernel
theorem dX2_canMove_52 : decode cX2_canMove 52 = .ok (.getfield 23, 3) := by decide +kernel
theorem dX2_canMove_55 : decode cX2_canMove 55 = .ok (.iload_n 2, 1) := by decide +kernel
theorem dX2_canMove_56 : decode cX2_canMove 56 = .ok (.iload_n 3, 1) := by decide +kernel
theorem dX2_canMove_57 : decode cX2_canMove 57 = .ok (.aload_n 0, 1) := by decide +kernel
theorem dX2_canMove_58 : decode cX2_canMove 58 = .ok (.getfield 23, 3) := by decide +kernel
theorem dX2_canMove_61 : decode cX2_canMove 61 = .ok (.getfield 52, 3) := by decide +kernel
theorem dX2_canMove_64 : decode cX2_canMove 64 = .ok (.invokevirtual 117, 3) := by decide +kernel
theorem dX2_canMove_67 : decode cX2_canMove 67 = .ok (.istore 7, 2) := by decide +kernel
theorem dX2_canMove_69 : decode cX2_canMove 69 = .ok (.iload 4, 2) := by decide +kernel
theorem dX2_canMove_71 : decode cX2_canMove 71 = .ok (.iload_n 2, 1) := by decide +kernel
theorem dX2_canMove_72 : decode cX2_canMove 72 = .ok (.if_icmp .ge 13, 3) := by decide +kernel
theorem dX2_canMove_75 : decode cX2_canMove 75 = .ok (.iload 7, 2) := by decide +kernel
theorem dX2_canMove_77 : decode cX2_canMove 77 = .ok (.iload 4, 2) := by decide +kernel
theorem dX2_canMove_79 : decode cX2_canMove 79 = .ok (.if_icmp .gt 15, 3) := by decide +kernel
theorem dX2_canMove_82 : decode cX2_canMove 82 = .ok (.goto 10, 3) := by decide +kernel
theorem dX2_canMove_85 : decode cX2_canMove 85 = .ok (.iload 7, 2) := by decide +kernel
theorem dX2_canMove_87 : decode cX2_canMove 87 = .ok (.iload 4, 2) := by decide +kernel
theorem dX2_canMove_89 : decode cX2_canMove 89 = .ok (.if_icmp .lt 5, 3) := by decide +kernel
theorem dX2_canMove_92 : decode cX2_canMove 92 = .ok (.iconst 1, 1) := by decide +kernel
theorem dX2_canMove_93 : decode cX2_canMove 93 = .ok (.ireturn, 1) := by decide +kernel
theorem dX2_canMove_94 : decode cX2_canMove 94 = .ok (.iinc 6 1, 3) := by decide +kernel
theorem dX2_canMove_97 : decode cX2_canMove 97 = .ok (.goto (-60), 3) := by decide +kernel
theorem dX2_canMove_100 : decode cX2_canMove 100 = .ok (.iconst 0, 1) := by decide +kernel
theorem dX2_canMove_101 : decode cX2_canMove 101 = .ok (.ireturn, 1) := by decide +kernel
theorem dX2_tryWay_0 : decode cX2_tryWay 0 = .ok (.iload_n 2, 1) := by decide +kernel
theorem dX2_tryWay_1 : decode cX2_tryWay 1 = .ok (.istore_n 3, 1) := by decide +kernel
theorem dX2_tryWay_2 : decode cX2_tryWay 2 = .ok (.iconst 0, 1) := by decide +kernel
theorem dX2_tryWay_3 : decode cX2_tryWay 3 = .ok (.istore 4, 2) := by decide +kernel
theorem dX2_tryWay_5 : decode cX2_tryWay 5 = .ok (.iload 4, 2) := by decide +kernel
theorem dX2_tryWay_7 : decode cX2_tryWay 7 = .ok (.aload_n 0, 1) := by decide +kernel
theorem dX2_tryWay_8 : decode cX2_tryWay 8 = .ok (.getfield 23, 3) := by decide +kernel
theorem dX2_tryWay_11 : decode cX2_tryWay 11 = .ok (.getfield 55, 3) := by decide +kernel
theorem dX2_tryWay_14 : decode cX2_tryWay 14 = .ok (.getfield 86, 3) := by decide +kernel
theorem dX2_tryWay_17 : decode cX2_tryWay 17 = .ok (.if_icmp .ge 64, 3) := by decide +kernel
theorem dX2_tryWay_20 : decode cX2_tryWay 20 = .ok (.iload_n 1, 1) := by decide +kernel
theorem dX2_tryWay_21 : decode cX2_tryWay 21 = .ok (.iload 4, 2) := by decide +kernel
theorem dX2_tryWay_23 : decode cX2_tryWay 23 = .ok (.ishr, 1) := by decide +kernel
theorem dX2_tryWay_24 : decode cX2_tryWay 24 = .ok (.iconst 1, 1) := by decide +kernel
theorem dX2_tryWay_25 : decode cX2_tryWay 25 = .ok (.iand, 1) := by decide +kernel
theorem dX2_tryWay_26 : decode cX2_tryWay 26 = .ok (.ifCond .eq 49, 3) := by decide +kernel
theorem dX2_tryWay_29 : decode cX2_tryWay 29 = .ok (.iload_n 3, 1) := by decide +kernel
theorem dX2_tryWay_30 : decode cX2_tryWay 30 = .ok (.iconst 5, 1) := by decide +kernel
theorem dX2_tryWay_31 : decode cX2_tryWay 31 = .ok (.irem, 1) := by decide +kernel
theorem dX2_tryWay_32 : decode cX2_tryWay 32 = .ok (.istore 5, 2) := by decide +kernel
theorem dX2_tryWay_34 : decode cX2_tryWay 34 = .ok (.iload_n 3, 1) := by decide +kernel
theorem dX2_tryWay_35 : decode cX2_tryWay 35 = .ok (.iconst 5, 1) := by decide +kernel
theorem dX2_tryWay_36 : decode cX2_tryWay 36 = .ok (.idiv, 1) := by decide +kernel
theorem dX2_tryWay_37 : decode cX2_tryWay 37 = .ok (.istore_n 3, 1) := by decide +kernel
theorem dX2_tryWay_38 : decode cX2_tryWay 38 = .ok (.aload_n 0, 1) := by decide +kernel
theorem dX2_tryWay_39 : decode cX2_tryWay 39 = .ok (.getfield 23, 3) := by decide +kernel
theorem dX2_tryWay_42 : decode cX2_tryWay 42 = .ok (.getfield 52, 3) := by decide +kernel
theorem dX2_tryWay_45 : decode cX2_tryWay 45 = .ok (.iload 4, 2) := by decide +kernel
theorem dX2_tryWay_47 : decode cX2_tryWay 47 = .ok (.iload 5, 2) := by decide +kernel
theorem dX2_tryWay_49 : decode cX2_tryWay 49 = .ok (.aload_n 0, 1) := by decide +kernel
theorem dX2_tryWay_50 : decode cX2_tryWay 50 = .ok (.getfield 23, 3) := by decide +kernel
theorem dX2_tryWay_53 : decode cX2_tryWay 53 = .ok (.getfield 55, 3) := by decide +kernel
theorem dX2_tryWay_56 : decode cX2_tryWay 56 = .ok (.getfield 121, 3) := by decide +kernel
theorem dX2_tryWay_59 : decode cX2_tryWay 59 = .ok (.iload 4, 2) := by decide +kernel
theorem dX2_tryWay_61 : decode cX2_tryWay 61 = .ok (.iaload, 1) := by decide +kernel
theorem dX2_tryWay_62 : decode cX2_tryWay 62 = .ok (.if_icmp .ge 8, 3) := by decide +kernel
theorem dX2_tryWay_65 : decode cX2_tryWay 65 = .ok (.iload 5, 2) := by decide +kernel
theorem dX2_tryWay_67 : decode cX2_tryWay 67 = .ok (.goto 7, 3) := by decide +kernel
theorem dX2_tryWay_70 : decode cX2_tryWay 70 = .ok (.iload 5, 2) := by decide +kernel
theorem dX2_tryWay_72 : decode cX2_tryWay 72 = .ok (.iconst 1, 1) := by decide +kernel
theorem dX2_tryWay_73 : decode cX2_tryWay 73 = .ok (.iadd, 1) := by decide +kernel
theorem dX2_tryWay_74 : decode cX2_tryWay 74 = .ok (.iastore, 1) := by decide +kernel
theorem dX2_tryWay_75 : decode cX2_tryWay 75 = .ok (.iinc 4 1, 3) := by decide +kernel
theorem dX2_tryWay_78 : decode cX2_tryWay 78 = .ok (.goto (-73), 3) := by decide +kernel
theorem dX2_tryWay_81 : decode cX2_tryWay 81 = .ok (.return_, 1) := by decide +kernel
set_option maxRecDepth 20000 in
theorem ggX3_init_X4_init : GoodIn wsX3_init wsX4_init := goodIn_r _ [18, 19, 2, 3, 4, 20, 21, 35, 36] (by decide +kernel) (by decide +kernel)
set_option maxRecDepth 20000 in
theorem gX3_init_X4_init : GoodIn wsX3_init (wsX4_init) := ggX3_init_X4_init
set_option maxRecDepth 20000 in
theorem ggX3_init_J7_fill_53178 : GoodIn wsX3_init wsJ7_fill_53178 := goodIn_r _ [25] (by decide +kernel) (by decide +kernel)
set_option maxRecDepth 20000 in
theorem gX3_init_J7_fill_53178 : GoodIn wsX3_init (va_wsS RX3 41 yJ7_fill_53178 wsJ7_fill_53178) := goodIn_app (goodIn_of _ (by decide +kernel)) ggX3_init_J7_fill_53178
theorem dX3_init_0 : decode cX3_init 0 = .ok (.aload_n 0, 1) := by decide +kernel
theorem dX3_init_1 : decode cX3_init 1 = .ok (.invokespecial 3, 3) := by decide +kernel
theorem dX3_init_4 : decode cX3_init 4 = .ok (.aload_n 0, 1) := by decide +kernel
theorem dX3_init_5 : decode cX3_init 5 = .ok (.bipush 6, 2) := by decide +kernel
theorem dX3_init_7 : decode cX3_init 7 = .ok (.newarray .int, 2) := by decide +kernel
theorem dX3_init_9 : decode cX3_init 9 = .ok (.putfield 9, 3) := by decide +kernel
theorem dX3_init_12 : decode cX3_init 12 = .ok (.aload_n 0, 1) := by decide +kernel
theorem dX3_init_13 : decode cX3_init 13 = .ok (.bipush 6, 2) := by decide +kernel
theorem dX3_init_15 : decode cX3_init 15 = .ok (.newarray .int, 2) := by decide +kernel
theorem dX3_init_17 : decode cX3_init 17 = .ok (.putfield 15, 3) := by decide +kernel
theorem dX3_init_20 : decode cX3_init 20 = .ok (.aload_n 0, 1) := by decide +kernel
theorem dX3_init_21 : decode cX3_init 21 = .ok (.bipush 6, 2) := by decide +kernel
theorem dX3_init_23 : decode cX3_init 23 = .ok (.newarray .int, 2) := by decide +kernel
theorem dX3_init_25 : decode cX3_init 25 = .ok (.putfield 18, 3) := by decide +kernel
theorem dX3_init_28 : decode cX3_init 28 = .ok (.aload_n 0, 1) := by decide +kernel
theorem dX3_init_29 : decode cX3_init 29 = .ok (.new 21, 3) := by decide +kernel
theorem dX3_init_32 : decode cX3_init 32 = .ok (.dup, 1) := by decide +kernel
theorem dX3_init_33 : decode cX3_init 33 = .ok (.invokespecial 23, 3) := by decide +kernel
theorem dX3_init_36 : decode cX3_init 36 = .ok (.putfield 24, 3) := by decide +kernel
theorem dX3_init_39 : decode cX3_init 39 = .ok (.aload_n 0, 1) := by decide +kernel
theorem dX3_init_40 : decode cX3_init 40 = .ok (.bipush 6, 2) := by decide +kernel
theorem dX3_init_42 : decode cX3_init 42 = .ok (.newarray .int, 2) := by decide +kernel
theorem dX3_init_44 : decode cX3_init 44 = .ok (.putfield 28, 3) := by decide +kernel
theorem dX3_init_47 : decode cX3_init 47 = .ok (.aload_n 0, 1) := by decide +kernel
theorem dX3_init_48 : decode cX3_init 48 = .ok (.bipush 6, 2) := by decide +kernel
theorem dX3_init_50 : decode cX3_init 50 = .ok (.newarray .int, 2) := by decide +kernel
theorem dX3_init_52 : decode cX3_init 52 = .ok (.putfield 31, 3) := by decide +kernel
theorem dX3_init_55 : decode cX3_init 55 = .ok (.aload_n 0, 1) := by decide +kernel
theorem dX3_init_56 : decode cX3_init 56 = .ok (.iconst 1, 1) := by decide +kernel
theorem dX3_init_57 : decode cX3_init 57 = .ok (.putfield 34, 3) := by decide +kernel
theorem dX3_init_60 : decode cX3_init 60 = .ok (.aload_n 0, 1) := by decide +kernel
theorem dX3_init_61 : decode cX3_init 61 = .ok (.iconst 4, 1) := by decide +kernel
theorem dX3_init_62 : decode cX3_init 62 = .ok (.putfield 38, 3) := by decide +kernel
theorem dX3_init_65 : decode cX3_init 65 = .ok (.aload_n 0, 1) := by decide +kernel
theorem dX3_init_66 : decode cX3_init 66 = .ok (.getfield 18, 3) := by decide +kernel
theorem dX3_init_69 : decode cX3_init 69 = .ok (.bipush 12, 2) := by decide +kernel
theorem dX3_init_71 : decode cX3_init 71 = .ok (.invokestatic 41, 3) := by decide +kernel
theorem dX3_init_74 : decode cX3_init 74 = .ok (.return_, 1) := by decide +kernel
set_option maxRecDepth 20000 in
theorem ggX3_assemble_J7_fill_53178 : GoodIn wsX3_assemble wsJ7_fill_53178 := goodIn_r _ [9] (by decide +kernel) (by decide +kernel)
set_option maxRecDepth 20000 in
theorem gX3_assemble_J7_fill_53178 : GoodIn wsX3_assemble (va_wsS RX3 41 yJ7_fill_53178 wsJ7_fill_53178) := goodIn_app (goodIn_of _ (by decide +kernel)) ggX3_assemble_J7_fill_53178
theorem dX3_assemble_0 : decode cX3_assemble 0 = .ok (.aload_n 0, 1) := by decide +kernel
theorem dX3_assemble_1 : decode cX3_assemble 1 = .ok (.iload_n 1, 1) := by decide +kernel
theorem dX3_assemble_2 : decode cX3_assemble 2 = .ok (.putfield 38, 3) := by decide +kernel
theorem dX3_assemble_5 : decode cX3_assemble 5 = .ok (.aload_n 0, 1) := by decide +kernel
theorem dX3_assemble_6 : decode cX3_assemble 6 = .ok (.iconst 0, 1) := by decide +kernel
theorem dX3_assemble_7 : decode cX3_assemble 7 = .ok (.putfield 47, 3) := by decide +kernel
theorem dX3_assemble_10 : decode cX3_assemble 10 = .ok (.aload_n 0, 1) := by decide +kernel
theorem dX3_assemble_11 : decode cX3_assemble 11 = .ok (.getfield 9, 3) := by decide +kernel
theorem dX3_assemble_14 : decode cX3_assemble 14 = .ok (.iconst 0, 1) := by decide +kernel
theorem dX3_assemble_15 : decode cX3_assemble 15 = .ok (.invokestatic 41, 3) := by decide +kernel
theorem dX3_assemble_18 : decode cX3_assemble 18 = .ok (.aload_n 0, 1) := by decide +kernel
theorem dX3_assemble_19 : decode cX3_assemble 19 = .ok (.getfield 15, 3) := by decide +kernel
theorem dX3_assemble_22 : decode cX3_assemble 22 = .ok (.iconst 0, 1) := by decide +kernel
theorem dX3_assemble_23 : decode cX3_assemble 23 = .ok (.invokestatic 41, 3) := by decide +kernel
theorem dX3_assemble_26 : decode cX3_assemble 26 = .ok (.aload_n 0, 1) := by decide +kernel
theorem dX3_assemble_27 : decode cX3_assemble 27 = .ok (.getfield 18, 3) := by decide +kernel
theorem dX3_assemble_30 : decode cX3_assemble 30 = .ok (.bipush 12, 2) := by decide +kernel
theorem dX3_assemble_32 : decode cX3_assemble 32 = .ok (.invokestatic 41, 3) := by decide +kernel
theorem dX3_assemble_35 : decode cX3_assemble 35 = .ok (.return_, 1) := by decide +kernel
set_option maxRecDepth 20000 in
theorem ggX3_become_X4_take : GoodIn wsX3_become wsX4_take := goodIn_r _ [20, 21, 22, 23, 24, 25, 26, 27, 9, 10, 11, 37, 38] (by decide +kernel) (by decide +kernel)
set_option maxRecDepth 20000 in
theorem gX3_become_X4_take : GoodIn wsX3_become (wsV RX3 56 RX4 yX4_take wsX4_take) := goodIn_app (goodIn_of _ (by decide +kernel)) ggX3_become_X4_take
theorem dX3_become_0 : decode cX3_become 0 = .ok (.aload_n 0, 1) := by decide +kernel
theorem dX3_become_1 : decode cX3_become 1 = .ok (.aload_n 1, 1) := by decide +kernel
theorem dX3_become_2 : decode cX3_become 2 = .ok (.getfield 38, 3) := by decide +kernel
theorem dX3_become_5 : decode cX3_become 5 = .ok (.putfield 38, 3) := by decide +kernel
theorem dX3_become_8 : decode cX3_become 8 = .ok (.aload_n 0, 1) := by decide +kernel
theorem dX3_become_9 : decode cX3_become 9 = .ok (.aload_n 1, 1) := by decide +kernel
theorem dX3_become_10 : decode cX3_become 10 = .ok (.getfield 34, 3) := by decide +kernel
theorem dX3_become_13 : decode cX3_become 13 = .ok (.putfield 34, 3) := by decide +kernel
theorem dX3_become_16 : decode cX3_become 16 = .ok (.aload_n 0, 1) := by decide +kernel
theorem dX3_become_17 : decode cX3_become 17 = .ok (.aload_n 1, 1) := by decide +kernel
theorem dX3_become_18 : decode cX3_become 18 = .ok (.getfield 47, 3) := by decide +kernel
theorem dX3_become_21 : decode cX3_become 21 = .ok (.putfield 47, 3) := by decide +kernel
theorem dX3_become_24 : decode cX3_become 24 = .ok (.aload_n 0, 1) := by decide +kernel
theorem dX3_become_25 : decode cX3_become 25 = .ok (.getfield 24, 3) := by decide +kernel
theorem dX3_become_28 : decode cX3_become 28 = .ok (.aload_n 1, 1) := by decide +kernel
theorem dX3_become_29 : decode cX3_become 29 = .ok (.getfield 24, 3) := by decide +kernel
theorem dX3_become_32 : decode cX3_become 32 = .ok (.getfield 50, 3) := by decide +kernel
theorem dX3_become_35 : decode cX3_become 35 = .ok (.aload_n 1, 1) := by decide +kernel
theorem dX3_become_36 : decode cX3_become 36 = .ok (.getfield 24, 3) := by decide +kernel
theorem dX3_become_39 : decode cX3_become 39 = .ok (.getfield 53, 3) := by decide +kernel
theorem dX3_become_42 : decode cX3_become 42 = .ok (.invokevirtual 56, 3) := by decide +kernel
theorem dX3_become_45 : decode cX3_become 45 = .ok (.aload_n 1, 1) := by decide +kernel
theorem dX3_become_46 : decode cX3_become 46 = .ok (.getfield 9, 3) := by decide +kernel
theorem dX3_become_49 : decode cX3_become 49 = .ok (.iconst 0, 1) := by decide +kernel
theorem dX3_become_50 : decode cX3_become 50 = .ok (.aload_n 0, 1) := by decide +kernel
theorem dX3_become_51 : decode cX3_become 51 = .ok (.getfield 9, 3) := by decide +kernel
theorem dX3_become_54 : decode cX3_become 54 = .ok (.iconst 0, 1) := by decide +kernel
theorem dX3_become_55 : decode cX3_become 55 = .ok (.bipush 6, 2) := by decide +kernel
theorem dX3_become_57 : decode cX3_become 57 = .ok (.invokestatic 59, 3) := by decide +kernel
theorem dX3_become_60 : decode cX3_become 60 = .ok (.aload_n 1, 1) := by decide +kernel
theorem dX3_become_61 : decode cX3_become 61 = .ok (.getfield 15, 3) := by decide +kernel
theorem dX3_become_64 : decode cX3_become 64 = .ok (.iconst 0, 1) := by decide +kernel
theorem dX3_become_65 : decode cX3_become 65 = .ok (.aload_n 0, 1) := by decide +kernel
theorem dX3_become_66 : decode cX3_become 66 = .ok (.getfield 15, 3) := by decide +kernel
theorem dX3_become_69 : decode cX3_become 69 = .ok (.iconst 0, 1) := by decide +kernel
theorem dX3_become_70 : decode cX3_become 70 = .ok (.bipush 6, 2) := by decide +kernel
theorem dX3_become_72 : decode cX3_become 72 = .ok (.invokestatic 59, 3) := by decide +kernel
theorem dX3_become_75 : decode cX3_become 75 = .ok (.aload_n 1, 1) := by decide +kernel
theorem dX3_become_76 : decode cX3_become 76 = .ok (.getfield 18, 3) := by decide +kernel
theorem dX3_become_79 : decode cX3_become 79 = .ok (.iconst 0, 1) := by decide +kernel
theorem dX3_become_80 : decode cX3_become 80 = .ok (.aload_n 0, 1) := by decide +kernel
theorem dX3_become_81 : decode cX3_become 81 = .ok (.getfield 18, 3) := by decide +kernel
theorem dX3_become_84 : decode cX3_become 84 = .ok (.iconst 0, 1) := by decide +kernel
theorem dX3_become_85 : decode cX3_become 85 = .ok (.bipush 6, 2) := by decide +kernel
theorem dX3_become_87 : decode cX3_become 87 = .ok (.invokestatic 59, 3) := by decide +kernel
theorem dX3_become_90 : decode cX3_become 90 = .ok (.aload_n 1, 1) := by decide +kernel
theorem dX3_become_91 : decode cX3_become 91 = .ok (.getfield 28, 3) := by decide +kernel
theorem dX3_become_94 : decode cX3_become 94 = .ok (.iconst 0, 1) := by decide +kernel
theorem dX3_become_95 : decode cX3_become 95 = .ok (.aload_n 0, 1) := by decide +kernel
theorem dX3_become_96 : decode cX3_become 96 = .ok (.getfield 28, 3) := by decide +kernel
theorem dX3_become_99 : decode cX3_become 99 = .ok (.iconst 0, 1) := by decide +kernel
theorem dX3_become_100 : decode cX3_become 100 = .ok (.bipush 6, 2) := by decide +kernel
theorem dX3_become_102 : decode cX3_become 102 = .ok (.invokestatic 59, 3) := by decide +kernel
theorem dX3_become_105 : decode cX3_become 105 = .ok (.aload_n 1, 1) := by decide +kernel
theorem dX3_become_106 : decode cX3_become 106 = .ok (.getfield 31, 3) := by decide +kernel
theorem dX3_become_109 : decode cX3_become 109 = .ok (.iconst 0, 1) := by decide +kernel
theorem dX3_become_110 : decode cX3_become 110 = .ok (.aload_n 0, 1) := by decide +kernel
theorem dX3_become_111 : decode cX3_become 111 = .ok (.getfield 31, 3) := by decide +kernel
theorem dX3_become_114 : decode cX3_become 114 = .ok (.iconst 0, 1) := by decide +kernel
theorem dX3_become_115 : decode cX3_become 115 = .ok (.bipush 6, 2) := by decide +kernel
theorem dX3_become_117 : decode cX3_become 117 = .ok (.invokestatic 59, 3) := by decide +kernel
theorem dX3_become_120 : decode cX3_become 120 = .ok (.return_, 1) := by decide +kernel
theorem dX3_has_0 : decode cX3_has 0 = .ok (.iload_n 1, 1) := by decide +kernel
theorem dX3_has_1 : decode cX3_has 1 = .ok (.ifCond .lt 15, 3) := by decide +kernel
theorem dX3_has_4 : decode cX3_has 4 = .ok (.iload_n 1, 1) := by decide +kernel
theorem dX3_has_5 : decode cX3_has 5 = .ok (.aload_n 0, 1) := by decide +kernel
theorem dX3_has_6 : decode cX3_has 6 = .ok (.getfield 38, 3) := by decide +kernel
theorem dX3_has_9 : decode cX3_has 9 = .ok (.if_icmp .ge 7, 3) := by decide +kernel
theorem dX3_has_12 : decode cX3_has 12 = .ok (.iconst 1, 1) := by decide +kernel
theorem dX3_has_13 : decode cX3_has 13 = .ok (.goto 4, 3) := by decide +kernel
theorem dX3_has_16 : decode cX3_has 16 = .ok (.iconst 0, 1) := by decide +kernel
theorem dX3_has_17 : decode cX3_has 17 = .ok (.ireturn, 1) := by decide +kernel
theorem dX3_rowOf_0 : decode cX3_rowOf 0 = .ok (.iload_n 1, 1) := by decide +kernel
theorem dX3_rowOf_1 : decode cX3_rowOf 1 = .ok (.ifCond .ne 8, 3) := by decide +kernel
theorem dX3_rowOf_4 : decode cX3_rowOf 4 = .ok (.aload_n 0, 1) := by decide +kernel
theorem dX3_rowOf_5 : decode cX3_rowOf 5 = .ok (.getfield 9, 3) := by decide +kernel
theorem dX3_rowOf_8 : decode cX3_rowOf 8 = .ok (.areturn, 1) := by decide +kernel
theorem dX3_rowOf_9 : decode cX3_rowOf 9 = .ok (.iload_n 1, 1) := by decide +kernel
theorem dX3_rowOf_10 : decode cX3_rowOf 10 = .ok (.iconst 1, 1) := by decide +kernel
theorem dX3_rowOf_11 : decode cX3_rowOf 11 = .ok (.if_icmp .ne 10, 3) := by decide +kernel
theorem dX3_rowOf_14 : decode cX3_rowOf 14 = .ok (.aload_n 0, 1) := by decide +kernel
theorem dX3_rowOf_15 : decode cX3_rowOf 15 = .ok (.getfield 15, 3) := by decide +kernel
theorem dX3_rowOf_18 : decode cX3_rowOf 18 = .ok (.goto 7, 3) := by decide +kernel
theorem dX3_rowOf_21 : decode cX3_rowOf 21 = .ok (.aload_n 0, 1) := by decide +kernel
theorem dX3_rowOf_22 : decode cX3_rowOf 22 = .ok (.getfield 18, 3) := by decide +kernel
theorem dX3_rowOf_25 : decode cX3_rowOf 25 = .ok (.areturn, 1) := by decide +kernel
set_option maxRecDepth 20000 in
theorem ggX3_toldOfMember_X3_has : GoodIn wsX3_toldOfMember wsX3_has := goodIn_r _ [5, 6, 14, 15, 16, 17, 18, 19, 20, 21, 22] (by decide +kernel) (by decide +kernel)
set_option maxRecDepth 20000 in
theorem gX3_toldOfMember_X3_has : GoodIn wsX3_toldOfMember (wsV RX3 65 RX3 yX3_has wsX3_has) := goodIn_app (goodIn_of _ (by decide +kernel)) ggX3_toldOfMember_X3_has
set_option maxRecDepth 20000 in
theorem ggX3_toldOfMember_X3_rowOf : GoodIn wsX3_toldOfMember wsX3_rowOf := goodIn_r _ [10, 11, 12, 13, 14, 15, 16, 17, 18, 19, 20, 21, 22] (by decide +kernel) (by decide +kernel)
set_option maxRecDepth 20000 in
theorem gX3_toldOfMember_X3_rowOf : GoodIn wsX3_toldOfMember (wsV RX3 69 RX3 yX3_rowOf wsX3_rowOf) := goodIn_app (goodIn_of _ (by decide +kernel)) ggX3_toldOfMember_X3_rowOf
theorem dX3_toldOfMember_0 : decode cX3_toldOfMember 0 = .ok (.aload_n 0, 1) := by decide +kernel
theorem dX3_toldOfMember_1 : decode cX3_toldOfMember 1 = .ok (.iload_n 2, 1) := by decide +kernel
theorem dX3_toldOfMember_2 : decode cX3_toldOfMember 2 = .ok (.invokevirtual 65, 3) := by decide +kernel
theorem dX3_toldOfMember_5 : decode cX3_toldOfMember 5 = .ok (.ifCond .eq 13, 3) := by decide +kernel
theorem dX3_toldOfMember_8 : decode cX3_toldOfMember 8 = .ok (.aload_n 0, 1) := by decide +kernel
theorem dX3_toldOfMember_9 : decode cX3_toldOfMember 9 = .ok (.iload_n 1, 1) := by decide +kernel
theorem dX3_toldOfMember_10 : decode cX3_toldOfMember 10 = .ok (.invokevirtual 69, 3) := by decide +kernel
theorem dX3_toldOfMember_13 : decode cX3_toldOfMember 13 = .ok (.iload_n 2, 1) := by decide +kernel
theorem dX3_toldOfMember_14 : decode cX3_toldOfMember 14 = .ok (.iaload, 1) := by decide +kernel
theorem dX3_toldOfMember_15 : decode cX3_toldOfMember 15 = .ok (.goto 5, 3) := by decide +kernel
theorem dX3_toldOfMember_18 : decode cX3_toldOfMember 18 = .ok (.bipush (-2), 2) := by decide +kernel
theorem dX3_toldOfMember_20 : decode cX3_toldOfMember 20 = .ok (.ireturn, 1) := by decide +kernel
theorem dX3_addSight_0 : decode cX3_addSight 0 = .ok (.aload_n 0, 1) := by decide +kernel
theorem dX3_addSight_1 : decode cX3_addSight 1 = .ok (.getfield 47, 3) := by decide +kernel
theorem dX3_addSight_4 : decode cX3_addSight 4 = .ok (.bipush 6, 2) := by decide +kernel
theorem dX3_addSight_6 : decode cX3_addSight 6 = .ok (.if_icmp .ge 33, 3) := by decide +kernel
theorem dX3_addSight_9 : decode cX3_addSight 9 = .ok (.aload_n 0, 1) := by decide +kernel
theorem dX3_addSight_10 : decode cX3_addSight 10 = .ok (.getfield 28, 3) := by decide +kernel
theorem dX3_addSight_13 : decode cX3_addSight 13 = .ok (.aload_n 0, 1) := by decide +kernel
theorem dX3_addSight_14 : decode cX3_addSight 14 = .ok (.getfield 47, 3) := by decide +kernel
theorem dX3_addSight_17 : decode cX3_addSight 17 = .ok (.iload_n 1, 1) := by decide +kernel
theorem dX3_addSight_18 : decode cX3_addSight 18 = .ok (.iastore, 1) := by decide +kernel
theorem dX3_addSight_19 : decode cX3_addSight 19 = .ok (.aload_n 0, 1) := by decide +kernel
theorem dX3_addSight_20 : decode cX3_addSight 20 = .ok (.getfield 31, 3) := by decide +kernel
theorem dX3_addSight_23 : decode cX3_addSight 23 = .ok (.aload_n 0, 1) := by decide +kernel
theorem dX3_addSight_24 : decode cX3_addSight 24 = .ok (.getfield 47, 3) := by decide +kernel
theorem dX3_addSight_27 : decode cX3_addSight 27 = .ok (.iload_n 2, 1) := by decide +kernel
theorem dX3_addSight_28 : decode cX3_addSight 28 = .ok (.iastore, 1) := by decide +kernel
theorem dX3_addSight_29 : decode cX3_addSight 29 = .ok (.aload_n 0, 1) := by decide +kernel
theorem dX3_addSight_30 : decode cX3_addSight 30 = .ok (.dup, 1) := by decide +kernel
theorem dX3_addSight_31 : decode cX3_addSight 31 = .ok (.getfield 47, 3) := by decide +kernel
theorem dX3_addSight_34 : decode cX3_addSight 34 = .ok (.iconst 1, 1) := by decide +kernel
theorem dX3_addSight_35 : decode cX3_addSight 35 = .ok (.iadd, 1) := by decide +kernel
theorem dX3_addSight_36 : decode cX3_addSight 36 = .ok (.putfield 47, 3) := by decide +kernel
theorem dX3_addSight_39 : decode cX3_addSight 39 = .ok (.aload_n 0, 1) := by decide +kernel
theorem dX3_addSight_40 : decode cX3_addSight 40 = .ok (.getfield 47, 3) := by decide +kernel
theorem dX3_addSight_43 : decode cX3_addSight 43 = .ok (.ireturn, 1) := by decide +kernel
theorem dX3_farFromBest_0 : decode cX3_farFromBest 0 = .ok (.iconst 0, 1) := by decide +kernel
theorem dX3_farFromBest_1 : decode cX3_farFromBest 1 = .ok (.istore_n 2, 1) := by decide +kernel
theorem dX3_farFromBest_2 : decode cX3_farFromBest 2 = .ok (.iconst 0, 1) := by decide +kernel
theorem dX3_farFromBest_3 : decode cX3_farFromBest 3 = .ok (.istore_n 3, 1) := by decide +kernel
theorem dX3_farFromBest_4 : decode cX3_farFromBest 4 = .ok (.iload_n 3, 1) := by decide +kernel
theorem dX3_farFromBest_5 : decode cX3_farFromBest 5 = .ok (.aload_n 0, 1) := by decide +kernel
theorem dX3_farFromBest_6 : decode cX3_farFromBest 6 = .ok (.getfield 38, 3) := by decide +kernel
theorem dX3_farFromBest_9 : decode cX3_farFromBest 9 = .ok (.if_icmp .ge 23, 3) := by decide +kernel
theorem dX3_farFromBest_12 : decode cX3_farFromBest 12 = .ok (.iload_n 2, 1) := by decide +kernel
theorem dX3_farFromBest_13 : decode cX3_farFromBest 13 = .ok (.iload_n 1, 1) := by decide +kernel
theorem dX3_farFromBest_14 : decode cX3_farFromBest 14 = .ok (.aload_n 0, 1) := by decide +kernel
theorem dX3_farFromBest_15 : decode cX3_farFromBest 15 = .ok (.getfield 18, 3) := by decide +kernel
theorem dX3_farFromBest_18 : decode cX3_farFromBest 18 = .ok (.iload_n 3, 1) := by decide +kernel
theorem dX3_farFromBest_19 : decode cX3_farFromBest 19 = .ok (.iaload, 1) := by decide +kernel
theorem dX3_farFromBest_20 : decode cX3_farFromBest 20 = .ok (.isub, 1) := by decide +kernel
theorem dX3_farFromBest_21 : decode cX3_farFromBest 21 = .ok (.invokestatic 73, 3) := by decide +kernel
theorem dX3_farFromBest_24 : decode cX3_farFromBest 24 = .ok (.iadd, 1) := by decide +kernel
theorem dX3_farFromBest_25 : decode cX3_farFromBest 25 = .ok (.istore_n 2, 1) := by decide +kernel
theorem dX3_farFromBest_26 : decode cX3_farFromBest 26 = .ok (.iinc 3 1, 3) := by decide +kernel
theorem dX3_farFromBest_29 : decode cX3_farFromBest 29 = .ok (.goto (-25), 3) := by decide +kernel
theorem dX3_farFromBest_32 : decode cX3_farFromBest 32 = .ok (.iload_n 2, 1) := by decide +kernel
theorem dX3_farFromBest_33 : decode cX3_farFromBest 33 = .ok (.ireturn, 1) := by decide +kernel
theorem dX4_init_0 : decode cX4_init 0 = .ok (.aload_n 0, 1) := by decide +kernel
theorem dX4_init_1 : decode cX4_init 1 = .ok (.invokespecial 3, 3) := by decide +kernel
theorem dX4_init_4 : decode cX4_init 4 = .ok (.aload_n 0, 1) := by decide +kernel
theorem dX4_init_5 : decode cX4_init 5 = .ok (.bipush 20, 2) := by decide +kernel
theorem dX4_init_7 : decode cX4_init 7 = .ok (.newarray .int, 2) := by decide +kernel
theorem dX4_init_9 : decode cX4_init 9 = .ok (.putfield 9, 3) := by decide +kernel
theorem dX4_init_12 : decode cX4_init 12 = .ok (.aload_n 0, 1) := by decide +kernel
theorem dX4_init_13 : decode cX4_init 13 = .ok (.getfield 9, 3) := by decide +kernel
theorem dX4_init_16 : decode cX4_init 16 = .ok (.iconst 0, 1) := by decide +kernel
theorem dX4_init_17 : decode cX4_init 17 = .ok (.bipush 108, 2) := by decide +kernel
theorem dX4_init_19 : decode cX4_init 19 = .ok (.iastore, 1) := by decide +kernel
theorem dX4_init_20 : decode cX4_init 20 = .ok (.aload_n 0, 1) := by decide +kernel
theorem dX4_init_21 : decode cX4_init 21 = .ok (.iconst 1, 1) := by decide +kernel
theorem dX4_init_22 : decode cX4_init 22 = .ok (.putfield 15, 3) := by decide +kernel
theorem dX4_init_25 : decode cX4_init 25 = .ok (.return_, 1) := by decide +kernel
theorem dX4_take_0 : decode cX4_take 0 = .ok (.aload_n 0, 1) := by decide +kernel
theorem dX4_take_1 : decode cX4_take 1 = .ok (.iload_n 2, 1) := by decide +kernel
theorem dX4_take_2 : decode cX4_take 2 = .ok (.bipush 20, 2) := by decide +kernel
theorem dX4_take_4 : decode cX4_take 4 = .ok (.invokestatic 19, 3) := by decide +kernel
theorem dX4_take_7 : decode cX4_take 7 = .ok (.putfield 15, 3) := by decide +kernel
theorem dX4_take_10 : decode cX4_take 10 = .ok (.aload_n 1, 1) := by decide +kernel
theorem dX4_take_11 : decode cX4_take 11 = .ok (.iconst 0, 1) := by decide +kernel
theorem dX4_take_12 : decode cX4_take 12 = .ok (.aload_n 0, 1) := by decide +kernel
theorem dX4_take_13 : decode cX4_take 13 = .ok (.getfield 9, 3) := by decide +kernel
theorem dX4_take_16 : decode cX4_take 16 = .ok (.iconst 0, 1) := by decide +kernel
theorem dX4_take_17 : decode cX4_take 17 = .ok (.aload_n 0, 1) := by decide +kernel
theorem dX4_take_18 : decode cX4_take 18 = .ok (.getfield 15, 3) := by decide +kernel
theorem dX4_take_21 : decode cX4_take 21 = .ok (.invokestatic 25, 3) := by decide +kernel
theorem dX4_take_24 : decode cX4_take 24 = .ok (.return_, 1) := by decide +kernel
set_option maxRecDepth 20000 in
theorem ggX4_takeNumber_X4_signOf : GoodIn wsX4_takeNumber wsX4_signOf := goodIn_r _ [6] (by decide +kernel) (by decide +kernel)
set_option maxRecDepth 20000 in
theorem gX4_takeNumber_X4_signOf : GoodIn wsX4_takeNumber (va_wsS RX4 31 yX4_signOf wsX4_signOf) := goodIn_app (goodIn_of _ (by decide +kernel)) ggX4_takeNumber_X4_signOf
theorem dX4_takeNumber_0 : decode cX4_takeNumber 0 = .ok (.aload_n 0, 1) := by decide +kernel
theorem dX4_takeNumber_1 : decode cX4_takeNumber 1 = .ok (.getfield 9, 3) := by decide +kernel
theorem dX4_takeNumber_4 : decode cX4_takeNumber 4 = .ok (.iconst 0, 1) := by decide +kernel
theorem dX4_takeNumber_5 : decode cX4_takeNumber 5 = .ok (.bipush 45, 2) := by decide +kernel
theorem dX4_takeNumber_7 : decode cX4_takeNumber 7 = .ok (.iastore, 1) := by decide +kernel
theorem dX4_takeNumber_8 : decode cX4_takeNumber 8 = .ok (.aload_n 0, 1) := by decide +kernel
theorem dX4_takeNumber_9 : decode cX4_takeNumber 9 = .ok (.getfield 9, 3) := by decide +kernel
theorem dX4_takeNumber_12 : decode cX4_takeNumber 12 = .ok (.iconst 1, 1) := by decide +kernel
theorem dX4_takeNumber_13 : decode cX4_takeNumber 13 = .ok (.bipush 48, 2) := by decide +kernel
theorem dX4_takeNumber_15 : decode cX4_takeNumber 15 = .ok (.iload_n 1, 1) := by decide +kernel
theorem dX4_takeNumber_16 : decode cX4_takeNumber 16 = .ok (.bipush 6, 2) := by decide +kernel
theorem dX4_takeNumber_18 : decode cX4_takeNumber 18 = .ok (.irem, 1) := by decide +kernel
theorem dX4_takeNumber_19 : decode cX4_takeNumber 19 = .ok (.iadd, 1) := by decide +kernel
theorem dX4_takeNumber_20 : decode cX4_takeNumber 20 = .ok (.iastore, 1) := by decide +kernel
theorem dX4_takeNumber_21 : decode cX4_takeNumber 21 = .ok (.aload_n 0, 1) := by decide +kernel
theorem dX4_takeNumber_22 : decode cX4_takeNumber 22 = .ok (.getfield 9, 3) := by decide +kernel
theorem dX4_takeNumber_25 : decode cX4_takeNumber 25 = .ok (.iconst 2, 1) := by decide +kernel
theorem dX4_takeNumber_26 : decode cX4_takeNumber 26 = .ok (.iload_n 1, 1) := by decide +kernel
theorem dX4_takeNumber_27 : decode cX4_takeNumber 27 = .ok (.bipush 6, 2) := by decide +kernel
theorem dX4_takeNumber_29 : decode cX4_takeNumber 29 = .ok (.idiv, 1) := by decide +kernel
theorem dX4_takeNumber_30 : decode cX4_takeNumber 30 = .ok (.invokestatic 31, 3) := by decide +kernel
theorem dX4_takeNumber_33 : decode cX4_takeNumber 33 = .ok (.iastore, 1) := by decide +kernel
theorem dX4_takeNumber_34 : decode cX4_takeNumber 34 = .ok (.aload_n 0, 1) := by decide +kernel
theorem dX4_takeNumber_35 : decode cX4_takeNumber 35 = .ok (.iconst 3, 1) := by decide +kernel
theorem dX4_takeNumber_36 : decode cX4_takeNumber 36 = .ok (.putfield 15, 3) := by decide +kernel
theorem dX4_takeNumber_39 : decode cX4_takeNumber 39 = .ok (.return_, 1) := by decide +kernel
theorem dX4_signOf_0 : decode cX4_signOf 0 = .ok (.iload_n 0, 1) := by decide +kernel
theorem dX4_signOf_1 : decode cX4_signOf 1 = .ok (.tableswitch 36 0 2 #[27, 30, 33], 27) := by decide +kernel
theorem dX4_signOf_28 : decode cX4_signOf 28 = .ok (.bipush 108, 2) := by decide +kernel
theorem dX4_signOf_30 : decode cX4_signOf 30 = .ok (.ireturn, 1) := by decide +kernel
theorem dX4_signOf_31 : decode cX4_signOf 31 = .ok (.bipush 109, 2) := by decide +kernel
theorem dX4_signOf_33 : decode cX4_signOf 33 = .ok (.ireturn, 1) := by decide +kernel
theorem dX4_signOf_34 : decode cX4_signOf 34 = .ok (.bipush 112, 2) := by decide +kernel
theorem dX4_signOf_36 : decode cX4_signOf 36 = .ok (.ireturn, 1) := by decide +kernel
theorem dX4_signOf_37 : decode cX4_signOf 37 = .ok (.bipush 102, 2) := by decide +kernel
theorem dX4_signOf_39 : decode cX4_signOf 39 = .ok (.ireturn, 1) := by decide +kernel
theorem dX5_init_0 : decode cX5_init 0 = .ok (.aload_n 0, 1) := by decide +kernel
theorem dX5_init_1 : decode cX5_init 1 = .ok (.invokespecial 3, 3) := by decide +kernel
theorem dX5_init_4 : decode cX5_init 4 = .ok (.aload_n 0, 1) := by decide +kernel
theorem dX5_init_5 : decode cX5_init 5 = .ok (.bipush 48, 2) := by decide +kernel
theorem dX5_init_7 : decode cX5_init 7 = .ok (.newarray .int, 2) := by decide +kernel
theorem dX5_init_9 : decode cX5_init 9 = .ok (.putfield 9, 3) := by decide +kernel
theorem dX5_init_12 : decode cX5_init 12 = .ok (.return_, 1) := by decide +kernel
theorem dX5_write_0 : decode cX5_write 0 = .ok (.aload_n 0, 1) := by decide +kernel
theorem dX5_write_1 : decode cX5_write 1 = .ok (.getfield 15, 3) := by decide +kernel
theorem dX5_write_4 : decode cX5_write 4 = .ok (.bipush 48, 2) := by decide +kernel
theorem dX5_write_6 : decode cX5_write 6 = .ok (.if_icmp .ge 23, 3) := by decide +kernel
theorem dX5_write_9 : decode cX5_write 9 = .ok (.aload_n 0, 1) := by decide +kernel
theorem dX5_write_10 : decode cX5_write 10 = .ok (.getfield 9, 3) := by decide +kernel
theorem dX5_write_13 : decode cX5_write 13 = .ok (.aload_n 0, 1) := by decide +kernel
theorem dX5_write_14 : decode cX5_write 14 = .ok (.getfield 15, 3) := by decide +kernel
theorem dX5_write_17 : decode cX5_write 17 = .ok (.iload_n 1, 1) := by decide +kernel
theorem dX5_write_18 : decode cX5_write 18 = .ok (.iastore, 1) := by decide +kernel
theorem dX5_write_19 : decode cX5_write 19 = .ok (.aload_n 0, 1) := by decide +kernel
theorem dX5_write_20 : decode cX5_write 20 = .ok (.dup, 1) := by decide +kernel
theorem dX5_write_21 : decode cX5_write 21 = .ok (.getfield 15, 3) := by decide +kernel
theorem dX5_write_24 : decode cX5_write 24 = .ok (.iconst 1, 1) := by decide +kernel
theorem dX5_write_25 : decode cX5_write 25 = .ok (.iadd, 1) := by decide +kernel
theorem dX5_write_26 : decode cX5_write 26 = .ok (.putfield 15, 3) := by decide +kernel
theorem dX5_write_29 : decode cX5_write 29 = .ok (.aload_n 0, 1) := by decide +kernel
theorem dX5_write_30 : decode cX5_write 30 = .ok (.getfield 15, 3) := by decide +kernel
theorem dX5_write_33 : decode cX5_write 33 = .ok (.ireturn, 1) := by decide +kernel
set_option maxRecDepth 20000 in
theorem ggX5_firstFault_X5_partsOf : GoodIn wsX5_firstFault wsX5_partsOf := goodIn_r _ [6] (by decide +kernel) (by decide +kernel)
set_option maxRecDepth 20000 in
theorem gX5_firstFault_X5_partsOf : GoodIn wsX5_firstFault (va_wsS RX5 19 yX5_partsOf wsX5_partsOf) := goodIn_app (goodIn_of _ (by decide +kernel)) ggX5_firstFault_X5_partsOf
theorem dX5_firstFault_0 : decode cX5_firstFault 0 = .ok (.iconst 1, 1) := by decide +kernel
theorem dX5_firstFault_1 : decode cX5_firstFault 1 = .ok (.istore_n 1, 1) := by decide +kernel
theorem dX5_firstFault_2 : decode cX5_firstFault 2 = .ok (.iconst 0, 1) := by decide +kernel
theorem dX5_firstFault_3 : decode cX5_firstFault 3 = .ok (.istore_n 2, 1) := by decide +kernel
theorem dX5_firstFault_4 : decode cX5_firstFault 4 = .ok (.iconst 0, 1) := by decide +kernel
theorem dX5_firstFault_5 : decode cX5_firstFault 5 = .ok (.istore_n 3, 1) := by decide +kernel
theorem dX5_firstFault_6 : decode cX5_firstFault 6 = .ok (.iload_n 3, 1) := by decide +kernel
theorem dX5_firstFault_7 : decode cX5_firstFault 7 = .ok (.aload_n 0, 1) := by decide +kernel
theorem dX5_firstFault_8 : decode cX5_firstFault 8 = .ok (.getfield 15, 3) := by decide +kernel
theorem dX5_firstFault_11 : decode cX5_firstFault 11 = .ok (.if_icmp .ge 94, 3) := by decide +kernel
theorem dX5_firstFault_14 : decode cX5_firstFault 14 = .ok (.iload_n 3, 1) := by decide +kernel
theorem dX5_firstFault_15 : decode cX5_firstFault 15 = .ok (.bipush 20, 2) := by decide +kernel
theorem dX5_firstFault_17 : decode cX5_firstFault 17 = .ok (.if_icmp .ge 7, 3) := by decide +kernel
theorem dX5_firstFault_20 : decode cX5_firstFault 20 = .ok (.iload_n 1, 1) := by decide +kernel
theorem dX5_firstFault_21 : decode cX5_firstFault 21 = .ok (.ifCond .ne 5, 3) := by decide +kernel
theorem dX5_firstFault_24 : decode cX5_firstFault 24 = .ok (.iload_n 3, 1) := by decide +kernel
theorem dX5_firstFault_25 : decode cX5_firstFault 25 = .ok (.ireturn, 1) := by decide +kernel
theorem dX5_firstFault_26 : decode cX5_firstFault 26 = .ok (.aload_n 0, 1) := by decide +kernel
theorem dX5_firstFault_27 : decode cX5_firstFault 27 = .ok (.getfield 9, 3) := by decide +kernel
theorem dX5_firstFault_30 : decode cX5_firstFault 30 = .ok (.iload_n 3, 1) := by decide +kernel
theorem dX5_firstFault_31 : decode cX5_firstFault 31 = .ok (.iaload, 1) := by decide +kernel
theorem dX5_firstFault_32 : decode cX5_firstFault 32 = .ok (.istore 4, 2) := by decide +kernel
theorem dX5_firstFault_34 : decode cX5_firstFault 34 = .ok (.iload_n 2, 1) := by decide +kernel
theorem dX5_firstFault_35 : decode cX5_firstFault 35 = .ok (.ifCond .eq 24, 3) := by decide +kernel
theorem dX5_firstFault_38 : decode cX5_firstFault 38 = .ok (.iload 4, 2) := by decide +kernel
theorem dX5_firstFault_40 : decode cX5_firstFault 40 = .ok (.bipush 48, 2) := by decide +kernel
theorem dX5_firstFault_42 : decode cX5_firstFault 42 = .ok (.if_icmp .lt 10, 3) := by decide +kernel
theorem dX5_firstFault_45 : decode cX5_firstFault 45 = .ok (.iload 4, 2) := by decide +kernel
theorem dX5_firstFault_47 : decode cX5_firstFault 47 = .ok (.bipush 57, 2) := by decide +kernel
theorem dX5_firstFault_49 : decode cX5_firstFault 49 = .ok (.if_icmp .le 5, 3) := by decide +kernel
theorem dX5_firstFault_52 : decode cX5_firstFault 52 = .ok (.iload_n 3, 1) := by decide +kernel
theorem dX5_firstFault_53 : decode cX5_firstFault 53 = .ok (.ireturn, 1) := by decide +kernel
theorem dX5_firstFault_54 : decode cX5_firstFault 54 = .ok (.iconst 0, 1) := by decide +kernel
theorem dX5_firstFault_55 : decode cX5_firstFault 55 = .ok (.istore_n 2, 1) := by decide +kernel
theorem dX5_firstFault_56 : decode cX5_firstFault 56 = .ok (.goto 43, 3) := by decide +kernel
theorem dX5_firstFault_59 : decode cX5_firstFault 59 = .ok (.iload 4, 2) := by decide +kernel
theorem dX5_firstFault_61 : decode cX5_firstFault 61 = .ok (.invokestatic 19, 3) := by decide +kernel
theorem dX5_firstFault_64 : decode cX5_firstFault 64 = .ok (.ifCond .ge 5, 3) := by decide +kernel
theorem dX5_firstFault_67 : decode cX5_firstFault 67 = .ok (.iload_n 3, 1) := by decide +kernel
theorem dX5_firstFault_68 : decode cX5_firstFault 68 = .ok (.ireturn, 1) := by decide +kernel
theorem dX5_firstFault_69 : decode cX5_firstFault 69 = .ok (.iload_n 1, 1) := by decide +kernel
theorem dX5_firstFault_70 : decode cX5_firstFault 70 = .ok (.iload 4, 2) := by decide +kernel
theorem dX5_firstFault_72 : decode cX5_firstFault 72 = .ok (.invokestatic 19, 3) := by decide +kernel
theorem dX5_firstFault_75 : decode cX5_firstFault 75 = .ok (.iconst 1, 1) := by decide +kernel
theorem dX5_firstFault_76 : decode cX5_firstFault 76 = .ok (.isub, 1) := by decide +kernel
theorem dX5_firstFault_77 : decode cX5_firstFault 77 = .ok (.iadd, 1) := by decide +kernel
theorem dX5_firstFault_78 : decode cX5_firstFault 78 = .ok (.istore_n 1, 1) := by decide +kernel
theorem dX5_firstFault_79 : decode cX5_firstFault 79 = .ok (.iload 4, 2) := by decide +kernel
theorem dX5_firstFault_81 : decode cX5_firstFault 81 = .ok (.bipush 45, 2) := by decide +kernel
theorem dX5_firstFault_83 : decode cX5_firstFault 83 = .ok (.if_icmp .eq 10, 3) := by decide +kernel
theorem dX5_firstFault_86 : decode cX5_firstFault 86 = .ok (.iload 4, 2) := by decide +kernel
theorem dX5_firstFault_88 : decode cX5_firstFault 88 = .ok (.bipush 43, 2) := by decide +kernel
theorem dX5_firstFault_90 : decode cX5_firstFault 90 = .ok (.if_icmp .ne 7, 3) := by decide +kernel
theorem dX5_firstFault_93 : decode cX5_firstFault 93 = .ok (.iconst 1, 1) := by decide +kernel
theorem dX5_firstFault_94 : decode cX5_firstFault 94 = .ok (.goto 4, 3) := by decide +kernel
theorem dX5_firstFault_97 : decode cX5_firstFault 97 = .ok (.iconst 0, 1) := by decide +kernel
theorem dX5_firstFault_98 : decode cX5_firstFault 98 = .ok (.istore_n 2, 1) := by decide +kernel
theorem dX5_firstFault_99 : decode cX5_firstFault 99 = .ok (.iinc 3 1, 3) := by decide +kernel
theorem dX5_firstFault_102 : decode cX5_firstFault 102 = .ok (.goto (-96), 3) := by decide +kernel
theorem dX5_firstFault_105 : decode cX5_firstFault 105 = .ok (.iload_n 1, 1) := by decide +kernel
theorem dX5_firstFault_106 : decode cX5_firstFault 106 = .ok (.ifCond .le 10, 3) := by decide +kernel
theorem dX5_firstFault_109 : decode cX5_firstFault 109 = .ok (.aload_n 0, 1) := by decide +kernel
theorem dX5_firstFault_110 : decode cX5_firstFault 110 = .ok (.getfield 15, 3) := by decide +kernel
theorem dX5_firstFault_113 : decode cX5_firstFault 113 = .ok (.goto 5, 3) := by decide +kernel
theorem dX5_firstFault_116 : decode cX5_firstFault 116 = .ok (.bipush (-6), 2) := by decide +kernel
theorem dX5_firstFault_118 : decode cX5_firstFault 118 = .ok (.ireturn, 1) := by decide +kernel
theorem dX5_partsOf_0 : decode cX5_partsOf 0 = .ok (.iload_n 0, 1) := by decide +kernel
theorem dX5_partsOf_1 : decode cX5_partsOf 1 = .ok (.lookupswitch 105 #[(43, 101), (45, 101), (47, 103), (60, 103), (62, 103), (102, 99), (104, 99), (108, 99), (109, 99), (112, 99), (126, 101)], 99) := by decide +kernel
theorem dX5_partsOf_100 : decode cX5_partsOf 100 = .ok (.iconst 0, 1) := by decide +kernel
theorem dX5_partsOf_101 : decode cX5_partsOf 101 = .ok (.ireturn, 1) := by decide +kernel
theorem dX5_partsOf_102 : decode cX5_partsOf 102 = .ok (.iconst 1, 1) := by decide +kernel
theorem dX5_partsOf_103 : decode cX5_partsOf 103 = .ok (.ireturn, 1) := by decide +kernel
theorem dX5_partsOf_104 : decode cX5_partsOf 104 = .ok (.iconst 2, 1) := by decide +kernel
theorem dX5_partsOf_105 : decode cX5_partsOf 105 = .ok (.ireturn, 1) := by decide +kernel
theorem dX5_partsOf_106 : decode cX5_partsOf 106 = .ok (.iconst (-1), 1) := by decide +kernel
theorem dX5_partsOf_107 : decode cX5_partsOf 107 = .ok (.ireturn, 1) := by decide +kernel
set_option maxRecDepth 20000 in
theorem ggX6_init_X4_init : GoodIn wsX6_init wsX4_init := goodIn_r _ [13, 14, 2, 3, 8, 15, 16, 17, 18] (by decide +kernel) (by decide +kernel)
set_option maxRecDepth 20000 in
theorem gX6_init_X4_init : GoodIn wsX6_init (wsX4_init) := ggX6_init_X4_init
theorem dX6_init_0 : decode cX6_init 0 = .ok (.aload_n 0, 1) := by decide +kernel
theorem dX6_init_1 : decode cX6_init 1 = .ok (.invokespecial 3, 3) := by decide +kernel
theorem dX6_init_4 : decode cX6_init 4 = .ok (.aload_n 0, 1) := by decide +kernel
theorem dX6_init_5 : decode cX6_init 5 = .ok (.new 9, 3) := by decide +kernel
theorem dX6_init_8 : decode cX6_init 8 = .ok (.dup, 1) := by decide +kernel
theorem dX6_init_9 : decode cX6_init 9 = .ok (.invokespecial 11, 3) := by decide +kernel
theorem dX6_init_12 : decode cX6_init 12 = .ok (.putfield 12, 3) := by decide +kernel
theorem dX6_init_15 : decode cX6_init 15 = .ok (.aload_n 0, 1) := by decide +kernel
theorem dX6_init_16 : decode cX6_init 16 = .ok (.bipush 24, 2) := by decide +kernel
theorem dX6_init_18 : decode cX6_init 18 = .ok (.newarray .int, 2) := by decide +kernel
theorem dX6_init_20 : decode cX6_init 20 = .ok (.putfield 18, 3) := by decide +kernel
theorem dX6_init_23 : decode cX6_init 23 = .ok (.aload_n 0, 1) := by decide +kernel
theorem dX6_init_24 : decode cX6_init 24 = .ok (.aload_n 1, 1) := by decide +kernel
theorem dX6_init_25 : decode cX6_init 25 = .ok (.putfield 22, 3) := by decide +kernel
theorem dX6_init_28 : decode cX6_init 28 = .ok (.return_, 1) := by decide +kernel
set_option maxRecDepth 20000 in
theorem ggX6_follow_J7_fill_53178 : GoodIn wsX6_follow wsJ7_fill_53178 := goodIn_r _ [11] (by decide +kernel) (by decide +kernel)
set_option maxRecDepth 20000 in
theorem gX6_follow_J7_fill_53178 : GoodIn wsX6_follow (va_wsS RX6 26 yJ7_fill_53178 wsJ7_fill_53178) := goodIn_app (goodIn_of _ (by decide +kernel)) ggX6_follow_J7_fill_53178
set_option maxRecDepth 20000 in
theorem ggX6_follow_X0_nextHour : GoodIn wsX6_follow wsX0_nextHour := goodIn_r _ [16, 17, 18, 19, 20, 21, 22, 23, 24, 25, 26, 27, 28, 29, 30, 31, 32, 33, 34, 15, 35, 36, 37, 38, 39, 40, 41, 42, 43, 44, 45, 46, 47, 48, 49, 50, 51, 52, 53, 54, 55, 56, 63, 64, 65, 66, 67, 68, 69, 70, 71, 72, 73, 74, 75, 76, 77, 78] (by decide +kernel) (by decide +kernel)
set_option maxRecDepth 20000 in
theorem gX6_follow_X0_nextHour : GoodIn wsX6_follow (wsV RX6 43 RX0 yX0_nextHour wsX0_nextHour) := goodIn_app (goodIn_of _ (by decide +kernel)) ggX6_follow_X0_nextHour
theorem dX6_follow_0 : decode cX6_follow 0 = .ok (.aload_n 0, 1) := by decide +kernel
theorem dX6_follow_1 : decode cX6_follow 1 = .ok (.getfield 18, 3) := by decide +kernel
theorem dX6_follow_4 : decode cX6_follow 4 = .ok (.iconst (-1), 1) := by decide +kernel
theorem dX6_follow_5 : decode cX6_follow 5 = .ok (.invokestatic 26, 3) := by decide +kernel
theorem dX6_follow_8 : decode cX6_follow 8 = .ok (.iload_n 2, 1) := by decide +kernel
theorem dX6_follow_9 : decode cX6_follow 9 = .ok (.istore_n 3, 1) := by decide +kernel
theorem dX6_follow_10 : decode cX6_follow 10 = .ok (.iconst 0, 1) := by decide +kernel
theorem dX6_follow_11 : decode cX6_follow 11 = .ok (.istore 4, 2) := by decide +kernel
theorem dX6_follow_13 : decode cX6_follow 13 = .ok (.iload 4, 2) := by decide +kernel
theorem dX6_follow_15 : decode cX6_follow 15 = .ok (.bipush 24, 2) := by decide +kernel
theorem dX6_follow_17 : decode cX6_follow 17 = .ok (.if_icmp .ge 47, 3) := by decide +kernel
theorem dX6_follow_20 : decode cX6_follow 20 = .ok (.aload_n 0, 1) := by decide +kernel
theorem dX6_follow_21 : decode cX6_follow 21 = .ok (.getfield 18, 3) := by decide +kernel
theorem dX6_follow_24 : decode cX6_follow 24 = .ok (.iload_n 3, 1) := by decide +kernel
theorem dX6_follow_25 : decode cX6_follow 25 = .ok (.iaload, 1) := by decide +kernel
theorem dX6_follow_26 : decode cX6_follow 26 = .ok (.ifCond .ge 38, 3) := by decide +kernel
theorem dX6_follow_29 : decode cX6_follow 29 = .ok (.aload_n 0, 1) := by decide +kernel
theorem dX6_follow_30 : decode cX6_follow 30 = .ok (.getfield 18, 3) := by decide +kernel
theorem dX6_follow_33 : decode cX6_follow 33 = .ok (.iload_n 3, 1) := by decide +kernel
theorem dX6_follow_34 : decode cX6_follow 34 = .ok (.iload 4, 2) := by decide +kernel
theorem dX6_follow_36 : decode cX6_follow 36 = .ok (.iastore, 1) := by decide +kernel
theorem dX6_follow_37 : decode cX6_follow 37 = .ok (.iinc 4 1, 3) := by decide +kernel
theorem dX6_follow_40 : decode cX6_follow 40 = .ok (.aload_n 0, 1) := by decide +kernel
theorem dX6_follow_41 : decode cX6_follow 41 = .ok (.getfield 22, 3) := by decide +kernel
theorem dX6_follow_44 : decode cX6_follow 44 = .ok (.aload_n 1, 1) := by decide +kernel
theorem dX6_follow_45 : decode cX6_follow 45 = .ok (.iload_n 3, 1) := by decide +kernel
theorem dX6_follow_46 : decode cX6_follow 46 = .ok (.aload_n 0, 1) := by decide +kernel
theorem dX6_follow_47 : decode cX6_follow 47 = .ok (.getfield 22, 3) := by decide +kernel
theorem dX6_follow_50 : decode cX6_follow 50 = .ok (.getfield 32, 3) := by decide +kernel
theorem dX6_follow_53 : decode cX6_follow 53 = .ok (.getfield 38, 3) := by decide +kernel
theorem dX6_follow_56 : decode cX6_follow 56 = .ok (.iconst 0, 1) := by decide +kernel
theorem dX6_follow_57 : decode cX6_follow 57 = .ok (.invokevirtual 43, 3) := by decide +kernel
theorem dX6_follow_60 : decode cX6_follow 60 = .ok (.istore_n 3, 1) := by decide +kernel
theorem dX6_follow_61 : decode cX6_follow 61 = .ok (.goto (-48), 3) := by decide +kernel
theorem dX6_follow_64 : decode cX6_follow 64 = .ok (.aload_n 0, 1) := by decide +kernel
theorem dX6_follow_65 : decode cX6_follow 65 = .ok (.aload_n 0, 1) := by decide +kernel
theorem dX6_follow_66 : decode cX6_follow 66 = .ok (.getfield 18, 3) := by decide +kernel
theorem dX6_follow_69 : decode cX6_follow 69 = .ok (.iload_n 3, 1) := by decide +kernel
theorem dX6_follow_70 : decode cX6_follow 70 = .ok (.iaload, 1) := by decide +kernel
theorem dX6_follow_71 : decode cX6_follow 71 = .ok (.putfield 47, 3) := by decide +kernel
theorem dX6_follow_74 : decode cX6_follow 74 = .ok (.aload_n 0, 1) := by decide +kernel
theorem dX6_follow_75 : decode cX6_follow 75 = .ok (.iload 4, 2) := by decide +kernel
theorem dX6_follow_77 : decode cX6_follow 77 = .ok (.aload_n 0, 1) := by decide +kernel
theorem dX6_follow_78 : decode cX6_follow 78 = .ok (.getfield 47, 3) := by decide +kernel
theorem dX6_follow_81 : decode cX6_follow 81 = .ok (.isub, 1) := by decide +kernel
theorem dX6_follow_82 : decode cX6_follow 82 = .ok (.putfield 51, 3) := by decide +kernel
theorem dX6_follow_85 : decode cX6_follow 85 = .ok (.aload_n 0, 1) := by decide +kernel
theorem dX6_follow_86 : decode cX6_follow 86 = .ok (.iload_n 3, 1) := by decide +kernel
theorem dX6_follow_87 : decode cX6_follow 87 = .ok (.putfield 54, 3) := by decide +kernel
theorem dX6_follow_90 : decode cX6_follow 90 = .ok (.iconst 0, 1) := by decide +kernel
theorem dX6_follow_91 : decode cX6_follow 91 = .ok (.istore 5, 2) := by decide +kernel
theorem dX6_follow_93 : decode cX6_follow 93 = .ok (.iload 5, 2) := by decide +kernel
theorem dX6_follow_95 : decode cX6_follow 95 = .ok (.aload_n 0, 1) := by decide +kernel
theorem dX6_follow_96 : decode cX6_follow 96 = .ok (.getfield 54, 3) := by decide +kernel
theorem dX6_follow_99 : decode cX6_follow 99 = .ok (.if_icmp .ge 29, 3) := by decide +kernel
theorem dX6_follow_102 : decode cX6_follow 102 = .ok (.aload_n 0, 1) := by decide +kernel
theorem dX6_follow_103 : decode cX6_follow 103 = .ok (.getfield 18, 3) := by decide +kernel
theorem dX6_follow_106 : decode cX6_follow 106 = .ok (.iload 5, 2) := by decide +kernel
theorem dX6_follow_108 : decode cX6_follow 108 = .ok (.iaload, 1) := by decide +kernel
theorem dX6_follow_109 : decode cX6_follow 109 = .ok (.aload_n 0, 1) := by decide +kernel
theorem dX6_follow_110 : decode cX6_follow 110 = .ok (.getfield 47, 3) := by decide +kernel
theorem dX6_follow_113 : decode cX6_follow 113 = .ok (.if_icmp .lt 9, 3) := by decide +kernel
theorem dX6_follow_116 : decode cX6_follow 116 = .ok (.aload_n 0, 1) := by decide +kernel
theorem dX6_follow_117 : decode cX6_follow 117 = .ok (.iload 5, 2) := by decide +kernel
theorem dX6_follow_119 : decode cX6_follow 119 = .ok (.putfield 54, 3) := by decide +kernel
theorem dX6_follow_122 : decode cX6_follow 122 = .ok (.iinc 5 1, 3) := by decide +kernel
theorem dX6_follow_125 : decode cX6_follow 125 = .ok (.goto (-32), 3) := by decide +kernel
theorem dX6_follow_128 : decode cX6_follow 128 = .ok (.return_, 1) := by decide +kernel
set_option maxRecDepth 20000 in
theorem ggX6_bestToldLaw_X6_restUnder : GoodIn wsX6_bestToldLaw wsX6_restUnder := goodIn_r _ [8, 9, 10, 11, 12, 13, 14, 15, 16, 17, 18, 19, 20, 21, 22, 23, 24, 7, 25, 26, 2, 3, 27, 28, 29, 30, 31, 32, 33, 34, 35, 36, 37, 38, 39, 40, 41, 42, 43, 44, 45, 46, 47, 48, 49, 50, 51, 52, 53, 54, 55, 56, 57, 58, 59, 60, 61, 62, 63, 64, 65, 66, 67, 68, 69, 70, 71, 72, 73, 74, 75, 76, 77, 88, 89, 90, 91, 92, 93, 99, 100, 94, 95, 96, 97, 98, 101, 102, 103, 104, 105, 106, 107, 108, 109] (by decide +kernel) (by decide +kernel)
set_option maxRecDepth 20000 in
theorem gX6_bestToldLaw_X6_restUnder : GoodIn wsX6_bestToldLaw (wsV RX6 60 RX6 yX6_restUnder wsX6_restUnder) := goodIn_app (goodIn_of _ (by decide +kernel)) ggX6_bestToldLaw_X6_restUnder
set_option maxRecDepth 20000 in
theorem ggX6_bestToldLaw_X3_farFromBest : GoodIn wsX6_bestToldLaw wsX3_farFromBest := goodIn_r _ [82, 83, 84, 85, 86, 43, 87, 101, 102, 103, 104, 105, 106, 107, 108, 109] (by decide +kernel) (by decide +kernel)
set_option maxRecDepth 20000 in
theorem gX6_bestToldLaw_X3_farFromBest : GoodIn wsX6_bestToldLaw (wsV RX6 64 RX3 yX3_farFromBest wsX3_farFromBest) := goodIn_app (goodIn_of _ (by decide +kernel)) ggX6_bestToldLaw_X3_farFromBest
theorem dX6_bestToldLaw_0 : decode cX6_bestToldLaw 0 = .ok (.bipush (-6), 2) := by decide +kernel
theorem dX6_bestToldLaw_2 : decode cX6_bestToldLaw 2 = .ok (.istore_n 2, 1) := by decide +kernel
theorem dX6_bestToldLaw_3 : decode cX6_bestToldLaw 3 = .ok (.ldc 59, 2) := by decide +kernel
theorem dX6_bestToldLaw_5 : decode cX6_bestToldLaw 5 = .ok (.istore_n 3, 1) := by decide +kernel
theorem dX6_bestToldLaw_6 : decode cX6_bestToldLaw 6 = .ok (.iconst 0, 1) := by decide +kernel
theorem dX6_bestToldLaw_7 : decode cX6_bestToldLaw 7 = .ok (.istore 4, 2) := by decide +kernel
theorem dX6_bestToldLaw_9 : decode cX6_bestToldLaw 9 = .ok (.iload 4, 2) := by decide +kernel
theorem dX6_bestToldLaw_11 : decode cX6_bestToldLaw 11 = .ok (.bipush 24, 2) := by decide +kernel
theorem dX6_bestToldLaw_13 : decode cX6_bestToldLaw 13 = .ok (.if_icmp .ge 54, 3) := by decide +kernel
theorem dX6_bestToldLaw_16 : decode cX6_bestToldLaw 16 = .ok (.aload_n 0, 1) := by decide +kernel
theorem dX6_bestToldLaw_17 : decode cX6_bestToldLaw 17 = .ok (.iload 4, 2) := by decide +kernel
theorem dX6_bestToldLaw_19 : decode cX6_bestToldLaw 19 = .ok (.iload_n 1, 1) := by decide +kernel
theorem dX6_bestToldLaw_20 : decode cX6_bestToldLaw 20 = .ok (.invokevirtual 60, 3) := by decide +kernel
theorem dX6_bestToldLaw_23 : decode cX6_bestToldLaw 23 = .ok (.istore 5, 2) := by decide +kernel
theorem dX6_bestToldLaw_25 : decode cX6_bestToldLaw 25 = .ok (.iload 5, 2) := by decide +kernel
theorem dX6_bestToldLaw_27 : decode cX6_bestToldLaw 27 = .ok (.bipush (-6), 2) := by decide +kernel
theorem dX6_bestToldLaw_29 : decode cX6_bestToldLaw 29 = .ok (.if_icmp .ne 6, 3) := by decide +kernel
theorem dX6_bestToldLaw_32 : decode cX6_bestToldLaw 32 = .ok (.goto 29, 3) := by decide +kernel
theorem dX6_bestToldLaw_35 : decode cX6_bestToldLaw 35 = .ok (.aload_n 0, 1) := by decide +kernel
theorem dX6_bestToldLaw_36 : decode cX6_bestToldLaw 36 = .ok (.getfield 22, 3) := by decide +kernel
theorem dX6_bestToldLaw_39 : decode cX6_bestToldLaw 39 = .ok (.getfield 32, 3) := by decide +kernel
theorem dX6_bestToldLaw_42 : decode cX6_bestToldLaw 42 = .ok (.iload 5, 2) := by decide +kernel
theorem dX6_bestToldLaw_44 : decode cX6_bestToldLaw 44 = .ok (.invokevirtual 64, 3) := by decide +kernel
theorem dX6_bestToldLaw_47 : decode cX6_bestToldLaw 47 = .ok (.istore 6, 2) := by decide +kernel
theorem dX6_bestToldLaw_49 : decode cX6_bestToldLaw 49 = .ok (.iload 6, 2) := by decide +kernel
theorem dX6_bestToldLaw_51 : decode cX6_bestToldLaw 51 = .ok (.iload_n 3, 1) := by decide +kernel
theorem dX6_bestToldLaw_52 : decode cX6_bestToldLaw 52 = .ok (.if_icmp .ge 9, 3) := by decide +kernel
theorem dX6_bestToldLaw_55 : decode cX6_bestToldLaw 55 = .ok (.iload 6, 2) := by decide +kernel
theorem dX6_bestToldLaw_57 : decode cX6_bestToldLaw 57 = .ok (.istore_n 3, 1) := by decide +kernel
theorem dX6_bestToldLaw_58 : decode cX6_bestToldLaw 58 = .ok (.iload 4, 2) := by decide +kernel
theorem dX6_bestToldLaw_60 : decode cX6_bestToldLaw 60 = .ok (.istore_n 2, 1) := by decide +kernel
theorem dX6_bestToldLaw_61 : decode cX6_bestToldLaw 61 = .ok (.iinc 4 1, 3) := by decide +kernel
theorem dX6_bestToldLaw_64 : decode cX6_bestToldLaw 64 = .ok (.goto (-55), 3) := by decide +kernel
theorem dX6_bestToldLaw_67 : decode cX6_bestToldLaw 67 = .ok (.iload_n 2, 1) := by decide +kernel
theorem dX6_bestToldLaw_68 : decode cX6_bestToldLaw 68 = .ok (.ireturn, 1) := by decide +kernel
set_option maxRecDepth 20000 in
theorem ggX6_restUnder_X4_takeNumber : GoodIn wsX6_restUnder wsX4_takeNumber := goodIn_r _ [8, 9, 10, 11, 12, 7, 13, 79, 80] (by decide +kernel) (by decide +kernel)
set_option maxRecDepth 20000 in
theorem gX6_restUnder_X4_takeNumber : GoodIn wsX6_restUnder (wsV RX6 68 RX4 yX4_takeNumber wsX4_takeNumber) := goodIn_app (goodIn_of _ (by decide +kernel)) ggX6_restUnder_X4_takeNumber
set_option maxRecDepth 20000 in
theorem ggX6_restUnder_X6_follow : GoodIn wsX6_restUnder wsX6_follow := goodIn_r _ [18, 19, 20, 21, 22, 23, 2, 3, 24, 25, 26, 27, 28, 29, 30, 31, 32, 33, 34, 35, 36, 37, 38, 39, 40, 41, 42, 43, 44, 45, 46, 47, 48, 49, 50, 51, 52, 53, 54, 55, 56, 57, 58, 59, 60, 61, 62, 63, 64, 65, 66, 67, 68, 69, 70, 71, 72, 73, 74, 75, 76, 77, 78, 81, 82, 83, 84, 85, 86, 87, 88, 89, 90, 91, 92, 93, 94, 79, 80] (by decide +kernel) (by decide +kernel)
set_option maxRecDepth 20000 in
theorem gX6_restUnder_X6_follow : GoodIn wsX6_restUnder (wsV RX6 72 RX6 yX6_follow wsX6_follow) := goodIn_app (goodIn_of _ (by decide +kernel)) ggX6_restUnder_X6_follow
theorem dX6_restUnder_0 : decode cX6_restUnder 0 = .ok (.aload_n 0, 1) := by decide +kernel
theorem dX6_restUnder_1 : decode cX6_restUnder 1 = .ok (.getfield 12, 3) := by decide +kernel
theorem dX6_restUnder_4 : decode cX6_restUnder 4 = .ok (.iload_n 1, 1) := by decide +kernel
theorem dX6_restUnder_5 : decode cX6_restUnder 5 = .ok (.invokevirtual 68, 3) := by decide +kernel
theorem dX6_restUnder_8 : decode cX6_restUnder 8 = .ok (.aload_n 0, 1) := by decide +kernel
theorem dX6_restUnder_9 : decode cX6_restUnder 9 = .ok (.aload_n 0, 1) := by decide +kernel
theorem dX6_restUnder_10 : decode cX6_restUnder 10 = .ok (.getfield 12, 3) := by decide +kernel
theorem dX6_restUnder_13 : decode cX6_restUnder 13 = .ok (.iload_n 2, 1) := by decide +kernel
theorem dX6_restUnder_14 : decode cX6_restUnder 14 = .ok (.invokevirtual 72, 3) := by decide +kernel
theorem dX6_restUnder_17 : decode cX6_restUnder 17 = .ok (.aload_n 0, 1) := by decide +kernel
theorem dX6_restUnder_18 : decode cX6_restUnder 18 = .ok (.getfield 51, 3) := by decide +kernel
theorem dX6_restUnder_21 : decode cX6_restUnder 21 = .ok (.iconst 1, 1) := by decide +kernel
theorem dX6_restUnder_22 : decode cX6_restUnder 22 = .ok (.if_icmp .ne 10, 3) := by decide +kernel
theorem dX6_restUnder_25 : decode cX6_restUnder 25 = .ok (.aload_n 0, 1) := by decide +kernel
theorem dX6_restUnder_26 : decode cX6_restUnder 26 = .ok (.getfield 54, 3) := by decide +kernel
theorem dX6_restUnder_29 : decode cX6_restUnder 29 = .ok (.goto 5, 3) := by decide +kernel
theorem dX6_restUnder_32 : decode cX6_restUnder 32 = .ok (.bipush (-6), 2) := by decide +kernel
theorem dX6_restUnder_34 : decode cX6_restUnder 34 = .ok (.ireturn, 1) := by decide +kernel
set_option maxRecDepth 20000 in
theorem ggX7_init_X3_init : GoodIn wsX7_init wsX3_init := goodIn_r _ [31, 32, 2, 3, 33, 34, 35, 36, 37, 38, 39, 40, 41, 42, 43, 44, 45, 46, 47, 48, 49, 50, 51, 52, 53, 54, 93, 94, 95, 96, 97, 98, 99, 100, 101, 134, 135] (by decide +kernel) (by decide +kernel)
set_option maxRecDepth 20000 in
theorem gX7_init_X3_init : GoodIn wsX7_init (wsX3_init) := ggX7_init_X3_init
set_option maxRecDepth 20000 in
theorem ggX7_init_X0_init : GoodIn wsX7_init wsX0_init := goodIn_r _ [57, 58, 2, 3, 33, 59, 60, 61, 62, 102, 103, 104, 105, 106] (by decide +kernel) (by decide +kernel)
set_option maxRecDepth 20000 in
theorem gX7_init_X0_init : GoodIn wsX7_init (wsX0_init) := ggX7_init_X0_init
set_option maxRecDepth 20000 in
theorem ggX7_init_X5_init : GoodIn wsX7_init wsX5_init := goodIn_r _ [64, 65, 2, 3, 33, 66, 114, 115] (by decide +kernel) (by decide +kernel)
set_option maxRecDepth 20000 in
theorem gX7_init_X5_init_n27 : GoodIn wsX7_init (wsX5_init) := ggX7_init_X5_init
set_option maxRecDepth 20000 in
theorem ggX7_init_X6_init : GoodIn wsX7_init wsX6_init := goodIn_r _ [69, 70, 2, 3, 71, 38, 39, 72, 33, 73, 74, 75, 46, 47, 48, 49, 50, 134, 135, 116, 117, 118, 119, 120, 121] (by decide +kernel) (by decide +kernel)
set_option maxRecDepth 20000 in
theorem gX7_init_X6_init : GoodIn wsX7_init (wsX6_init) := ggX7_init_X6_init
set_option maxRecDepth 20000 in
theorem ggX7_init_X2_init : GoodIn wsX7_init wsX2_init := goodIn_r _ [78, 79, 2, 3, 80, 33, 81, 82, 83, 84, 122, 123, 124, 125] (by decide +kernel) (by decide +kernel)
set_option maxRecDepth 20000 in
theorem gX7_init_X2_init : GoodIn wsX7_init (wsX2_init) := ggX7_init_X2_init
set_option maxRecDepth 20000 in
theorem ggX7_init_X1_init : GoodIn wsX7_init wsX1_init := goodIn_r _ [87, 88, 2, 3, 89, 90, 91, 92, 126, 127, 128, 129, 130, 131, 132, 133] (by decide +kernel) (by decide +kernel)
set_option maxRecDepth 20000 in
theorem gX7_init_X1_init : GoodIn wsX7_init (wsX1_init) := ggX7_init_X1_init
theorem dX7_init_0 : decode cX7_init 0 = .ok (.aload_n 0, 1) := by decide +kernel
theorem dX7_init_1 : decode cX7_init 1 = .ok (.invokespecial 1, 3) := by decide +kernel
theorem dX7_init_4 : decode cX7_init 4 = .ok (.new 7, 3) := by decide +kernel
theorem dX7_init_7 : decode cX7_init 7 = .ok (.dup, 1) := by decide +kernel
theorem dX7_init_8 : decode cX7_init 8 = .ok (.invokespecial 9, 3) := by decide +kernel
theorem dX7_init_11 : decode cX7_init 11 = .ok (.astore_n 1, 1) := by decide +kernel
theorem dX7_init_12 : decode cX7_init 12 = .ok (.new 10, 3) := by decide +kernel
theorem dX7_init_15 : decode cX7_init 15 = .ok (.dup, 1) := by decide +kernel
theorem dX7_init_16 : decode cX7_init 16 = .ok (.aload_n 1, 1) := by decide +kernel
theorem dX7_init_17 : decode cX7_init 17 = .ok (.invokespecial 12, 3) := by decide +kernel
theorem dX7_init_20 : decode cX7_init 20 = .ok (.astore_n 2, 1) := by decide +kernel
theorem dX7_init_21 : decode cX7_init 21 = .ok (.aload_n 0, 1) := by decide +kernel
theorem dX7_init_22 : decode cX7_init 22 = .ok (.aload_n 1, 1) := by decide +kernel
theorem dX7_init_23 : decode cX7_init 23 = .ok (.putfield 15, 3) := by decide +kernel
theorem dX7_init_26 : decode cX7_init 26 = .ok (.aload_n 0, 1) := by decide +kernel
theorem dX7_init_27 : decode cX7_init 27 = .ok (.aload_n 2, 1) := by decide +kernel
theorem dX7_init_28 : decode cX7_init 28 = .ok (.putfield 21, 3) := by decide +kernel
theorem dX7_init_31 : decode cX7_init 31 = .ok (.aload_n 0, 1) := by decide +kernel
theorem dX7_init_32 : decode cX7_init 32 = .ok (.new 25, 3) := by decide +kernel
theorem dX7_init_35 : decode cX7_init 35 = .ok (.dup, 1) := by decide +kernel
theorem dX7_init_36 : decode cX7_init 36 = .ok (.invokespecial 27, 3) := by decide +kernel
theorem dX7_init_39 : decode cX7_init 39 = .ok (.putfield 28, 3) := by decide +kernel
theorem dX7_init_42 : decode cX7_init 42 = .ok (.aload_n 0, 1) := by decide +kernel
theorem dX7_init_43 : decode cX7_init 43 = .ok (.new 32, 3) := by decide +kernel
theorem dX7_init_46 : decode cX7_init 46 = .ok (.dup, 1) := by decide +kernel
theorem dX7_init_47 : decode cX7_init 47 = .ok (.aload_n 2, 1) := by decide +kernel
theorem dX7_init_48 : decode cX7_init 48 = .ok (.invokespecial 34, 3) := by decide +kernel
theorem dX7_init_51 : decode cX7_init 51 = .ok (.putfield 37, 3) := by decide +kernel
theorem dX7_init_54 : decode cX7_init 54 = .ok (.aload_n 0, 1) := by decide +kernel
theorem dX7_init_55 : decode cX7_init 55 = .ok (.new 41, 3) := by decide +kernel
theorem dX7_init_58 : decode cX7_init 58 = .ok (.dup, 1) := by decide +kernel
theorem dX7_init_59 : decode cX7_init 59 = .ok (.aload_n 2, 1) := by decide +kernel
theorem dX7_init_60 : decode cX7_init 60 = .ok (.invokespecial 43, 3) := by decide +kernel
theorem dX7_init_63 : decode cX7_init 63 = .ok (.putfield 44, 3) := by decide +kernel
theorem dX7_init_66 : decode cX7_init 66 = .ok (.aload_n 0, 1) := by decide +kernel
theorem dX7_init_67 : decode cX7_init 67 = .ok (.new 48, 3) := by decide +kernel
theorem dX7_init_70 : decode cX7_init 70 = .ok (.dup, 1) := by decide +kernel
theorem dX7_init_71 : decode cX7_init 71 = .ok (.aload_n 2, 1) := by decide +kernel
theorem dX7_init_72 : decode cX7_init 72 = .ok (.invokespecial 50, 3) := by decide +kernel
theorem dX7_init_75 : decode cX7_init 75 = .ok (.putfield 51, 3) := by decide +kernel
theorem dX7_init_78 : decode cX7_init 78 = .ok (.aload_n 0, 1) := by decide +kernel
theorem dX7_init_79 : decode cX7_init 79 = .ok (.iconst 2, 1) := by decide +kernel
theorem dX7_init_80 : decode cX7_init 80 = .ok (.anewarray 7, 3) := by decide +kernel
theorem dX7_init_83 : decode cX7_init 83 = .ok (.putfield 55, 3) := by decide +kernel
theorem dX7_init_86 : decode cX7_init 86 = .ok (.return_, 1) := by decide +kernel
set_option maxRecDepth 20000 in
theorem ggX7_members_X7_within : GoodIn wsX7_members wsX7_within := goodIn_r _ [6] (by decide +kernel) (by decide +kernel)
set_option maxRecDepth 20000 in
theorem gX7_members_X7_within : GoodIn wsX7_members (va_wsS RX7 59 yX7_within wsX7_within) := goodIn_app (goodIn_of _ (by decide +kernel)) ggX7_members_X7_within
set_option maxRecDepth 20000 in
theorem ggX7_members_X3_assemble : GoodIn wsX7_members wsX3_assemble := goodIn_r _ [11, 12, 13, 14, 15, 16, 17, 18, 19, 20, 28, 29, 30, 31, 32, 33, 34, 35, 36] (by decide +kernel) (by decide +kernel)
set_option maxRecDepth 20000 in
theorem gX7_members_X3_assemble : GoodIn wsX7_members (wsV RX7 67 RX3 yX3_assemble wsX3_assemble) := goodIn_app (goodIn_of _ (by decide +kernel)) ggX7_members_X3_assemble
theorem dX7_members_0 : decode cX7_members 0 = .ok (.iload_n 1, 1) := by decide +kernel
theorem dX7_members_1 : decode cX7_members 1 = .ok (.iconst 1, 1) := by decide +kernel
theorem dX7_members_2 : decode cX7_members 2 = .ok (.bipush 6, 2) := by decide +kernel
theorem dX7_members_4 : decode cX7_members 4 = .ok (.invokestatic 59, 3) := by decide +kernel
theorem dX7_members_7 : decode cX7_members 7 = .ok (.ifCond .ne 6, 3) := by decide +kernel
theorem dX7_members_10 : decode cX7_members 10 = .ok (.bipush (-2), 2) := by decide +kernel
theorem dX7_members_12 : decode cX7_members 12 = .ok (.ireturn, 1) := by decide +kernel
theorem dX7_members_13 : decode cX7_members 13 = .ok (.aload_n 0, 1) := by decide +kernel
theorem dX7_members_14 : decode cX7_members 14 = .ok (.getfield 15, 3) := by decide +kernel
theorem dX7_members_17 : decode cX7_members 17 = .ok (.getfield 63, 3) := by decide +kernel
theorem dX7_members_20 : decode cX7_members 20 = .ok (.istore_n 2, 1) := by decide +kernel
theorem dX7_members_21 : decode cX7_members 21 = .ok (.aload_n 0, 1) := by decide +kernel
theorem dX7_members_22 : decode cX7_members 22 = .ok (.getfield 15, 3) := by decide +kernel
theorem dX7_members_25 : decode cX7_members 25 = .ok (.iload_n 1, 1) := by decide +kernel
theorem dX7_members_26 : decode cX7_members 26 = .ok (.invokevirtual 67, 3) := by decide +kernel
theorem dX7_members_29 : decode cX7_members 29 = .ok (.iload_n 2, 1) := by decide +kernel
theorem dX7_members_30 : decode cX7_members 30 = .ok (.ireturn, 1) := by decide +kernel
set_option maxRecDepth 20000 in
theorem ggX7_member_X3_has : GoodIn wsX7_member wsX3_has := goodIn_r _ [6, 7, 26, 27, 28, 29, 30, 31, 32, 33, 34] (by decide +kernel) (by decide +kernel)
set_option maxRecDepth 20000 in
theorem gX7_member_X3_has : GoodIn wsX7_member (wsV RX7 71 RX3 yX3_has wsX3_has) := goodIn_app (goodIn_of _ (by decide +kernel)) ggX7_member_X3_has
set_option maxRecDepth 20000 in
theorem ggX7_member_X7_within : GoodIn wsX7_member wsX7_within := goodIn_r _ [11] (by decide +kernel) (by decide +kernel)
set_option maxRecDepth 20000 in
theorem gX7_member_X7_within : GoodIn wsX7_member (va_wsS RX7 59 yX7_within wsX7_within) := goodIn_app (goodIn_of _ (by decide +kernel)) ggX7_member_X7_within
set_option maxRecDepth 20000 in
theorem ggX7_member_X3_rowOf : GoodIn wsX7_member wsX3_rowOf := goodIn_r _ [15, 16, 17, 18, 26, 27, 28, 29, 30, 31, 32, 33, 34] (by decide +kernel) (by decide +kernel)
set_option maxRecDepth 20000 in
theorem gX7_member_X3_rowOf : GoodIn wsX7_member (wsV RX7 75 RX3 yX3_rowOf wsX3_rowOf) := goodIn_app (goodIn_of _ (by decide +kernel)) ggX7_member_X3_rowOf
theorem dX7_member_0 : decode cX7_member 0 = .ok (.aload_n 0, 1) := by decide +kernel
theorem dX7_member_1 : decode cX7_member 1 = .ok (.getfield 15, 3) := by decide +kernel
theorem dX7_member_4 : decode cX7_member 4 = .ok (.iload_n 1, 1) := by decide +kernel
theorem dX7_member_5 : decode cX7_member 5 = .ok (.invokevirtual 71, 3) := by decide +kernel
theorem dX7_member_8 : decode cX7_member 8 = .ok (.ifCond .ne 5, 3) := by decide +kernel
theorem dX7_member_11 : decode cX7_member 11 = .ok (.iconst (-1), 1) := by decide +kernel
theorem dX7_member_12 : decode cX7_member 12 = .ok (.ireturn, 1) := by decide +kernel
theorem dX7_member_13 : decode cX7_member 13 = .ok (.iload_n 2, 1) := by decide +kernel
theorem dX7_member_14 : decode cX7_member 14 = .ok (.iconst 0, 1) := by decide +kernel
theorem dX7_member_15 : decode cX7_member 15 = .ok (.iconst 2, 1) := by decide +kernel
theorem dX7_member_16 : decode cX7_member 16 = .ok (.invokestatic 59, 3) := by decide +kernel
theorem dX7_member_19 : decode cX7_member 19 = .ok (.ifCond .eq 22, 3) := by decide +kernel
theorem dX7_member_22 : decode cX7_member 22 = .ok (.iload_n 3, 1) := by decide +kernel
theorem dX7_member_23 : decode cX7_member 23 = .ok (.iconst 0, 1) := by decide +kernel
theorem dX7_member_24 : decode cX7_member 24 = .ok (.iload_n 2, 1) := by decide +kernel
theorem dX7_member_25 : decode cX7_member 25 = .ok (.iconst 1, 1) := by decide +kernel
theorem dX7_member_26 : decode cX7_member 26 = .ok (.if_icmp .ne 7, 3) := by decide +kernel
theorem dX7_member_29 : decode cX7_member 29 = .ok (.iconst 5, 1) := by decide +kernel
theorem dX7_member_30 : decode cX7_member 30 = .ok (.goto 5, 3) := by decide +kernel
theorem dX7_member_33 : decode cX7_member 33 = .ok (.bipush 23, 2) := by decide +kernel
theorem dX7_member_35 : decode cX7_member 35 = .ok (.invokestatic 59, 3) := by decide +kernel
theorem dX7_member_38 : decode cX7_member 38 = .ok (.ifCond .ne 6, 3) := by decide +kernel
theorem dX7_member_41 : decode cX7_member 41 = .ok (.bipush (-2), 2) := by decide +kernel
theorem dX7_member_43 : decode cX7_member 43 = .ok (.ireturn, 1) := by decide +kernel
theorem dX7_member_44 : decode cX7_member 44 = .ok (.aload_n 0, 1) := by decide +kernel
theorem dX7_member_45 : decode cX7_member 45 = .ok (.getfield 15, 3) := by decide +kernel
theorem dX7_member_48 : decode cX7_member 48 = .ok (.iload_n 2, 1) := by decide +kernel
theorem dX7_member_49 : decode cX7_member 49 = .ok (.invokevirtual 75, 3) := by decide +kernel
theorem dX7_member_52 : decode cX7_member 52 = .ok (.astore 4, 2) := by decide +kernel
theorem dX7_member_54 : decode cX7_member 54 = .ok (.aload 4, 2) := by decide +kernel
theorem dX7_member_56 : decode cX7_member 56 = .ok (.iload_n 1, 1) := by decide +kernel
theorem dX7_member_57 : decode cX7_member 57 = .ok (.iaload, 1) := by decide +kernel
theorem dX7_member_58 : decode cX7_member 58 = .ok (.istore 5, 2) := by decide +kernel
theorem dX7_member_60 : decode cX7_member 60 = .ok (.aload 4, 2) := by decide +kernel
theorem dX7_member_62 : decode cX7_member 62 = .ok (.iload_n 1, 1) := by decide +kernel
theorem dX7_member_63 : decode cX7_member 63 = .ok (.iload_n 3, 1) := by decide +kernel
theorem dX7_member_64 : decode cX7_member 64 = .ok (.iastore, 1) := by decide +kernel
theorem dX7_member_65 : decode cX7_member 65 = .ok (.iload 5, 2) := by decide +kernel
theorem dX7_member_67 : decode cX7_member 67 = .ok (.ireturn, 1) := by decide +kernel
set_option maxRecDepth 20000 in
theorem ggX7_fine_X7_within : GoodIn wsX7_fine wsX7_within := goodIn_r _ [6] (by decide +kernel) (by decide +kernel)
set_option maxRecDepth 20000 in
theorem gX7_fine_X7_within : GoodIn wsX7_fine (va_wsS RX7 59 yX7_within wsX7_within) := goodIn_app (goodIn_of _ (by decide +kernel)) ggX7_fine_X7_within
end
section
theorem dX7_fine_0 : decode cX7_fine 0 = .ok (.iload_n 1, 1) := by decide +kernel
theorem dX7_fine_1 : decode cX7_fine 1 = .ok (.iconst 0, 1) := by decide +kernel
theorem dX7_fine_2 : decode cX7_fine 2 = .ok (.bipush 9, 2) := by decide +kernel
theorem dX7_fine_4 : decode cX7_fine 4 = .ok (.invokestatic 59, 3) := by decide +kernel
theorem dX7_fine_7 : decode cX7_fine 7 = .ok (.ifCond .ne 6, 3) := by decide +kernel
theorem dX7_fine_10 : decode cX7_fine 10 = .ok (.bipush (-2), 2) := by decide +kernel
theorem dX7_fine_12 : decode cX7_fine 12 = .ok (.ireturn, 1) := by decide +kernel
theorem dX7_fine_13 : decode cX7_fine 13 = .ok (.aload_n 0, 1) := by decide +kernel
theorem dX7_fine_14 : decode cX7_fine 14 = .ok (.getfield 15, 3) := by decide +kernel
theorem dX7_fine_17 : decode cX7_fine 17 = .ok (.getfield 79, 3) := by decide +kernel
theorem dX7_fine_20 : decode cX7_fine 20 = .ok (.istore_n 2, 1) := by decide +kernel
theorem dX7_fine_21 : decode cX7_fine 21 = .ok (.aload_n 0, 1) := by decide +kernel
theorem dX7_fine_22 : decode cX7_fine 22 = .ok (.getfield 15, 3) := by decide +kernel
theorem dX7_fine_25 : decode cX7_fine 25 = .ok (.iload_n 1, 1) := by decide +kernel
theorem dX7_fine_26 : decode cX7_fine 26 = .ok (.putfield 79, 3) := by decide +kernel
theorem dX7_fine_29 : decode cX7_fine 29 = .ok (.iload_n 2, 1) := by decide +kernel
theorem dX7_fine_30 : decode cX7_fine 30 = .ok (.ireturn, 1) := by decide +kernel
set_option maxRecDepth 20000 in
theorem ggX7_say_X7_within : GoodIn wsX7_say wsX7_within := goodIn_r _ [6] (by decide +kernel) (by decide +kernel)
set_option maxRecDepth 20000 in
theorem gX7_say_X7_within : GoodIn wsX7_say (va_wsS RX7 59 yX7_within wsX7_within) := goodIn_app (goodIn_of _ (by decide +kernel)) ggX7_say_X7_within
set_option maxRecDepth 20000 in
theorem ggX7_say_X5_write : GoodIn wsX7_say wsX5_write := goodIn_r _ [11, 12, 13, 21, 22] (by decide +kernel) (by decide +kernel)
set_option maxRecDepth 20000 in
theorem gX7_say_X5_write : GoodIn wsX7_say (wsV RX7 83 RX5 yX5_write wsX5_write) := goodIn_app (goodIn_of _ (by decide +kernel)) ggX7_say_X5_write
theorem dX7_say_0 : decode cX7_say 0 = .ok (.iload_n 1, 1) := by decide +kernel
theorem dX7_say_1 : decode cX7_say 1 = .ok (.bipush 33, 2) := by decide +kernel
theorem dX7_say_3 : decode cX7_say 3 = .ok (.bipush 126, 2) := by decide +kernel
theorem dX7_say_5 : decode cX7_say 5 = .ok (.invokestatic 59, 3) := by decide +kernel
theorem dX7_say_8 : decode cX7_say 8 = .ok (.ifCond .ne 6, 3) := by decide +kernel
theorem dX7_say_11 : decode cX7_say 11 = .ok (.bipush (-2), 2) := by decide +kernel
theorem dX7_say_13 : decode cX7_say 13 = .ok (.ireturn, 1) := by decide +kernel
theorem dX7_say_14 : decode cX7_say 14 = .ok (.aload_n 0, 1) := by decide +kernel
theorem dX7_say_15 : decode cX7_say 15 = .ok (.getfield 28, 3) := by decide +kernel
theorem dX7_say_18 : decode cX7_say 18 = .ok (.getfield 82, 3) := by decide +kernel
theorem dX7_say_21 : decode cX7_say 21 = .ok (.bipush 48, 2) := by decide +kernel
theorem dX7_say_23 : decode cX7_say 23 = .ok (.if_icmp .lt 6, 3) := by decide +kernel
theorem dX7_say_26 : decode cX7_say 26 = .ok (.bipush (-4), 2) := by decide +kernel
theorem dX7_say_28 : decode cX7_say 28 = .ok (.ireturn, 1) := by decide +kernel
theorem dX7_say_29 : decode cX7_say 29 = .ok (.aload_n 0, 1) := by decide +kernel
theorem dX7_say_30 : decode cX7_say 30 = .ok (.getfield 28, 3) := by decide +kernel
theorem dX7_say_33 : decode cX7_say 33 = .ok (.iload_n 1, 1) := by decide +kernel
theorem dX7_say_34 : decode cX7_say 34 = .ok (.invokevirtual 83, 3) := by decide +kernel
theorem dX7_say_37 : decode cX7_say 37 = .ok (.ireturn, 1) := by decide +kernel
theorem dX7_wipe_0 : decode cX7_wipe 0 = .ok (.aload_n 0, 1) := by decide +kernel
theorem dX7_wipe_1 : decode cX7_wipe 1 = .ok (.getfield 28, 3) := by decide +kernel
theorem dX7_wipe_4 : decode cX7_wipe 4 = .ok (.getfield 82, 3) := by decide +kernel
theorem dX7_wipe_7 : decode cX7_wipe 7 = .ok (.istore_n 1, 1) := by decide +kernel
theorem dX7_wipe_8 : decode cX7_wipe 8 = .ok (.aload_n 0, 1) := by decide +kernel
theorem dX7_wipe_9 : decode cX7_wipe 9 = .ok (.getfield 28, 3) := by decide +kernel
theorem dX7_wipe_12 : decode cX7_wipe 12 = .ok (.iconst 0, 1) := by decide +kernel
theorem dX7_wipe_13 : decode cX7_wipe 13 = .ok (.putfield 82, 3) := by decide +kernel
theorem dX7_wipe_16 : decode cX7_wipe 16 = .ok (.iload_n 1, 1) := by decide +kernel
theorem dX7_wipe_17 : decode cX7_wipe 17 = .ok (.ireturn, 1) := by decide +kernel
set_option maxRecDepth 20000 in
theorem ggX7_fault_X5_firstFault : GoodIn wsX7_fault wsX5_firstFault := goodIn_r _ [6, 7, 8, 9, 10, 5, 11, 19, 20] (by decide +kernel) (by decide +kernel)
set_option maxRecDepth 20000 in
theorem gX7_fault_X5_firstFault : GoodIn wsX7_fault (wsV RX7 87 RX5 yX5_firstFault wsX5_firstFault) := goodIn_app (goodIn_of _ (by decide +kernel)) ggX7_fault_X5_firstFault
theorem dX7_fault_0 : decode cX7_fault 0 = .ok (.aload_n 0, 1) := by decide +kernel
theorem dX7_fault_1 : decode cX7_fault 1 = .ok (.getfield 28, 3) := by decide +kernel
theorem dX7_fault_4 : decode cX7_fault 4 = .ok (.invokevirtual 87, 3) := by decide +kernel
theorem dX7_fault_7 : decode cX7_fault 7 = .ok (.ireturn, 1) := by decide +kernel
set_option maxRecDepth 20000 in
theorem ggX7_enact_X5_firstFault : GoodIn wsX7_enact wsX5_firstFault := goodIn_r _ [11, 12, 13, 14, 15, 10, 16, 48, 49] (by decide +kernel) (by decide +kernel)
set_option maxRecDepth 20000 in
theorem gX7_enact_X5_firstFault : GoodIn wsX7_enact (wsV RX7 87 RX5 yX5_firstFault wsX5_firstFault) := goodIn_app (goodIn_of _ (by decide +kernel)) ggX7_enact_X5_firstFault
set_option maxRecDepth 20000 in
theorem ggX7_enact_X4_take : GoodIn wsX7_enact wsX4_take := goodIn_r _ [21, 22, 23, 24, 25, 26, 27, 28, 29, 30, 31, 50, 51] (by decide +kernel) (by decide +kernel)
set_option maxRecDepth 20000 in
theorem gX7_enact_X4_take : GoodIn wsX7_enact (wsV RX7 99 RX4 yX4_take wsX4_take) := goodIn_app (goodIn_of _ (by decide +kernel)) ggX7_enact_X4_take
theorem dX7_enact_0 : decode cX7_enact 0 = .ok (.aload_n 0, 1) := by decide +kernel
theorem dX7_enact_1 : decode cX7_enact 1 = .ok (.getfield 28, 3) := by decide +kernel
theorem dX7_enact_4 : decode cX7_enact 4 = .ok (.invokevirtual 87, 3) := by decide +kernel
theorem dX7_enact_7 : decode cX7_enact 7 = .ok (.bipush (-6), 2) := by decide +kernel
theorem dX7_enact_9 : decode cX7_enact 9 = .ok (.if_icmp .eq 6, 3) := by decide +kernel
theorem dX7_enact_12 : decode cX7_enact 12 = .ok (.bipush (-5), 2) := by decide +kernel
theorem dX7_enact_14 : decode cX7_enact 14 = .ok (.ireturn, 1) := by decide +kernel
theorem dX7_enact_15 : decode cX7_enact 15 = .ok (.aload_n 0, 1) := by decide +kernel
theorem dX7_enact_16 : decode cX7_enact 16 = .ok (.getfield 15, 3) := by decide +kernel
theorem dX7_enact_19 : decode cX7_enact 19 = .ok (.getfield 91, 3) := by decide +kernel
theorem dX7_enact_22 : decode cX7_enact 22 = .ok (.aload_n 0, 1) := by decide +kernel
theorem dX7_enact_23 : decode cX7_enact 23 = .ok (.getfield 28, 3) := by decide +kernel
theorem dX7_enact_26 : decode cX7_enact 26 = .ok (.getfield 95, 3) := by decide +kernel
theorem dX7_enact_29 : decode cX7_enact 29 = .ok (.aload_n 0, 1) := by decide +kernel
theorem dX7_enact_30 : decode cX7_enact 30 = .ok (.getfield 28, 3) := by decide +kernel
theorem dX7_enact_33 : decode cX7_enact 33 = .ok (.getfield 82, 3) := by decide +kernel
theorem dX7_enact_36 : decode cX7_enact 36 = .ok (.invokevirtual 99, 3) := by decide +kernel
theorem dX7_enact_39 : decode cX7_enact 39 = .ok (.aload_n 0, 1) := by decide +kernel
theorem dX7_enact_40 : decode cX7_enact 40 = .ok (.getfield 28, 3) := by decide +kernel
theorem dX7_enact_43 : decode cX7_enact 43 = .ok (.iconst 0, 1) := by decide +kernel
theorem dX7_enact_44 : decode cX7_enact 44 = .ok (.putfield 82, 3) := by decide +kernel
theorem dX7_enact_47 : decode cX7_enact 47 = .ok (.aload_n 0, 1) := by decide +kernel
theorem dX7_enact_48 : decode cX7_enact 48 = .ok (.getfield 15, 3) := by decide +kernel
theorem dX7_enact_51 : decode cX7_enact 51 = .ok (.getfield 91, 3) := by decide +kernel
theorem dX7_enact_54 : decode cX7_enact 54 = .ok (.getfield 105, 3) := by decide +kernel
theorem dX7_enact_57 : decode cX7_enact 57 = .ok (.ireturn, 1) := by decide +kernel
set_option maxRecDepth 20000 in
theorem ggX7_hour_X7_isHour : GoodIn wsX7_hour wsX7_isHour := goodIn_r _ [7] (by decide +kernel) (by decide +kernel)
set_option maxRecDepth 20000 in
theorem gX7_hour_X7_isHour : GoodIn wsX7_hour (va_wsS RX7 108 yX7_isHour wsX7_isHour) := goodIn_app (goodIn_of _ (by decide +kernel)) ggX7_hour_X7_isHour
set_option maxRecDepth 20000 in
theorem ggX7_hour_X7_within : GoodIn wsX7_hour wsX7_within := goodIn_r _ [10] (by decide +kernel) (by decide +kernel)
set_option maxRecDepth 20000 in
theorem gX7_hour_X7_within : GoodIn wsX7_hour (va_wsS RX7 59 yX7_within wsX7_within) := goodIn_app (goodIn_of _ (by decide +kernel)) ggX7_hour_X7_within
set_option maxRecDepth 20000 in
theorem ggX7_hour_X0_hourAfter : GoodIn wsX7_hour wsX0_hourAfter := goodIn_r _ [15, 16, 17, 18, 19, 20, 14, 21, 22, 23, 24, 25, 26, 27, 28, 29, 30, 31, 6, 32, 33, 34, 35, 36, 37, 38, 39, 40, 41, 42, 43, 44, 45, 46, 47, 48, 49, 50, 51, 52, 53, 54, 55, 56, 57, 58, 59, 76, 77, 78, 79, 80, 67, 68, 69, 70, 71, 72, 73, 74, 75, 81, 82] (by decide +kernel) (by decide +kernel)
set_option maxRecDepth 20000 in
theorem gX7_hour_X0_hourAfter : GoodIn wsX7_hour (wsV RX7 114 RX0 yX0_hourAfter wsX0_hourAfter) := goodIn_app (goodIn_of _ (by decide +kernel)) ggX7_hour_X0_hourAfter
theorem dX7_hour_0 : decode cX7_hour 0 = .ok (.iload_n 1, 1) := by decide +kernel
theorem dX7_hour_1 : decode cX7_hour 1 = .ok (.invokestatic 108, 3) := by decide +kernel
theorem dX7_hour_4 : decode cX7_hour 4 = .ok (.ifCond .eq 13, 3) := by decide +kernel
theorem dX7_hour_7 : decode cX7_hour 7 = .ok (.iload_n 2, 1) := by decide +kernel
theorem dX7_hour_8 : decode cX7_hour 8 = .ok (.iconst 0, 1) := by decide +kernel
theorem dX7_hour_9 : decode cX7_hour 9 = .ok (.bipush 99, 2) := by decide +kernel
theorem dX7_hour_11 : decode cX7_hour 11 = .ok (.invokestatic 59, 3) := by decide +kernel
theorem dX7_hour_14 : decode cX7_hour 14 = .ok (.ifCond .ne 6, 3) := by decide +kernel
theorem dX7_hour_17 : decode cX7_hour 17 = .ok (.bipush (-2), 2) := by decide +kernel
theorem dX7_hour_19 : decode cX7_hour 19 = .ok (.ireturn, 1) := by decide +kernel
theorem dX7_hour_20 : decode cX7_hour 20 = .ok (.aload_n 0, 1) := by decide +kernel
theorem dX7_hour_21 : decode cX7_hour 21 = .ok (.getfield 21, 3) := by decide +kernel
theorem dX7_hour_24 : decode cX7_hour 24 = .ok (.iload_n 1, 1) := by decide +kernel
theorem dX7_hour_25 : decode cX7_hour 25 = .ok (.iload_n 2, 1) := by decide +kernel
theorem dX7_hour_26 : decode cX7_hour 26 = .ok (.aload_n 0, 1) := by decide +kernel
theorem dX7_hour_27 : decode cX7_hour 27 = .ok (.getfield 15, 3) := by decide +kernel
theorem dX7_hour_30 : decode cX7_hour 30 = .ok (.getfield 111, 3) := by decide +kernel
theorem dX7_hour_33 : decode cX7_hour 33 = .ok (.invokevirtual 114, 3) := by decide +kernel
theorem dX7_hour_36 : decode cX7_hour 36 = .ok (.ireturn, 1) := by decide +kernel
set_option maxRecDepth 20000 in
theorem ggX7_comes_X3_has : GoodIn wsX7_comes wsX3_has := goodIn_r _ [9, 10, 75, 76, 77, 78, 79, 80, 81, 82, 83] (by decide +kernel) (by decide +kernel)
set_option maxRecDepth 20000 in
theorem gX7_comes_X3_has : GoodIn wsX7_comes (wsV RX7 71 RX3 yX3_has wsX3_has) := goodIn_app (goodIn_of _ (by decide +kernel)) ggX7_comes_X3_has
set_option maxRecDepth 20000 in
theorem ggX7_comes_X7_isHour : GoodIn wsX7_comes wsX7_isHour := goodIn_r _ [14] (by decide +kernel) (by decide +kernel)
set_option maxRecDepth 20000 in
theorem gX7_comes_X7_isHour : GoodIn wsX7_comes (va_wsS RX7 108 yX7_isHour wsX7_isHour) := goodIn_app (goodIn_of _ (by decide +kernel)) ggX7_comes_X7_isHour
set_option maxRecDepth 20000 in
theorem ggX7_comes_X7_within : GoodIn wsX7_comes wsX7_within := goodIn_r _ [17] (by decide +kernel) (by decide +kernel)
set_option maxRecDepth 20000 in
theorem gX7_comes_X7_within : GoodIn wsX7_comes (va_wsS RX7 59 yX7_within wsX7_within) := goodIn_app (goodIn_of _ (by decide +kernel)) ggX7_comes_X7_within
set_option maxRecDepth 20000 in
theorem ggX7_comes_X0_hourAfter : GoodIn wsX7_comes wsX0_hourAfter := goodIn_r _ [22, 23, 24, 25, 26, 27, 21, 28, 29, 30, 31, 32, 33, 34, 35, 36, 37, 38, 13, 39, 40, 41, 42, 43, 44, 45, 46, 47, 48, 49, 50, 51, 52, 53, 54, 55, 56, 57, 58, 59, 60, 61, 62, 63, 64, 65, 66, 84, 85, 86, 87, 88, 75, 76, 77, 78, 79, 80, 81, 82, 83, 89, 90] (by decide +kernel) (by decide +kernel)
set_option maxRecDepth 20000 in
theorem gX7_comes_X0_hourAfter : GoodIn wsX7_comes (wsV RX7 114 RX0 yX0_hourAfter wsX0_hourAfter) := goodIn_app (goodIn_of _ (by decide +kernel)) ggX7_comes_X0_hourAfter
set_option maxRecDepth 20000 in
theorem ggX7_comes_X7_comingAt : GoodIn wsX7_comes wsX7_comingAt := goodIn_r _ [39, 40, 36, 33, 37, 41, 32, 34] (by decide +kernel) (by decide +kernel)
set_option maxRecDepth 20000 in
theorem gX7_comes_X7_comingAt : GoodIn wsX7_comes (va_wsS RX7 121 yX7_comingAt wsX7_comingAt) := goodIn_app (goodIn_of _ (by decide +kernel)) ggX7_comes_X7_comingAt
theorem dX7_comes_0 : decode cX7_comes 0 = .ok (.aload_n 0, 1) := by decide +kernel
theorem dX7_comes_1 : decode cX7_comes 1 = .ok (.getfield 15, 3) := by decide +kernel
theorem dX7_comes_4 : decode cX7_comes 4 = .ok (.iload_n 1, 1) := by decide +kernel
theorem dX7_comes_5 : decode cX7_comes 5 = .ok (.invokevirtual 71, 3) := by decide +kernel
theorem dX7_comes_8 : decode cX7_comes 8 = .ok (.ifCond .ne 5, 3) := by decide +kernel
theorem dX7_comes_11 : decode cX7_comes 11 = .ok (.iconst (-1), 1) := by decide +kernel
theorem dX7_comes_12 : decode cX7_comes 12 = .ok (.ireturn, 1) := by decide +kernel
theorem dX7_comes_13 : decode cX7_comes 13 = .ok (.iload_n 2, 1) := by decide +kernel
theorem dX7_comes_14 : decode cX7_comes 14 = .ok (.invokestatic 108, 3) := by decide +kernel
theorem dX7_comes_17 : decode cX7_comes 17 = .ok (.ifCond .eq 13, 3) := by decide +kernel
theorem dX7_comes_20 : decode cX7_comes 20 = .ok (.iload_n 3, 1) := by decide +kernel
theorem dX7_comes_21 : decode cX7_comes 21 = .ok (.iconst 0, 1) := by decide +kernel
theorem dX7_comes_22 : decode cX7_comes 22 = .ok (.bipush 99, 2) := by decide +kernel
theorem dX7_comes_24 : decode cX7_comes 24 = .ok (.invokestatic 59, 3) := by decide +kernel
theorem dX7_comes_27 : decode cX7_comes 27 = .ok (.ifCond .ne 6, 3) := by decide +kernel
theorem dX7_comes_30 : decode cX7_comes 30 = .ok (.bipush (-2), 2) := by decide +kernel
theorem dX7_comes_32 : decode cX7_comes 32 = .ok (.ireturn, 1) := by decide +kernel
theorem dX7_comes_33 : decode cX7_comes 33 = .ok (.aload_n 0, 1) := by decide +kernel
theorem dX7_comes_34 : decode cX7_comes 34 = .ok (.getfield 21, 3) := by decide +kernel
theorem dX7_comes_37 : decode cX7_comes 37 = .ok (.iload_n 2, 1) := by decide +kernel
theorem dX7_comes_38 : decode cX7_comes 38 = .ok (.iload_n 3, 1) := by decide +kernel
theorem dX7_comes_39 : decode cX7_comes 39 = .ok (.aload_n 0, 1) := by decide +kernel
theorem dX7_comes_40 : decode cX7_comes 40 = .ok (.getfield 15, 3) := by decide +kernel
theorem dX7_comes_43 : decode cX7_comes 43 = .ok (.getfield 111, 3) := by decide +kernel
theorem dX7_comes_46 : decode cX7_comes 46 = .ok (.invokevirtual 114, 3) := by decide +kernel
theorem dX7_comes_49 : decode cX7_comes 49 = .ok (.istore 4, 2) := by decide +kernel
theorem dX7_comes_51 : decode cX7_comes 51 = .ok (.iload 4, 2) := by decide +kernel
theorem dX7_comes_53 : decode cX7_comes 53 = .ok (.aload_n 0, 1) := by decide +kernel
theorem dX7_comes_54 : decode cX7_comes 54 = .ok (.getfield 15, 3) := by decide +kernel
theorem dX7_comes_57 : decode cX7_comes 57 = .ok (.getfield 118, 3) := by decide +kernel
theorem dX7_comes_60 : decode cX7_comes 60 = .ok (.iload_n 1, 1) := by decide +kernel
theorem dX7_comes_61 : decode cX7_comes 61 = .ok (.iaload, 1) := by decide +kernel
theorem dX7_comes_62 : decode cX7_comes 62 = .ok (.aload_n 0, 1) := by decide +kernel
theorem dX7_comes_63 : decode cX7_comes 63 = .ok (.getfield 15, 3) := by decide +kernel
theorem dX7_comes_66 : decode cX7_comes 66 = .ok (.getfield 111, 3) := by decide +kernel
theorem dX7_comes_69 : decode cX7_comes 69 = .ok (.iload_n 1, 1) := by decide +kernel
theorem dX7_comes_70 : decode cX7_comes 70 = .ok (.iaload, 1) := by decide +kernel
theorem dX7_comes_71 : decode cX7_comes 71 = .ok (.invokestatic 121, 3) := by decide +kernel
theorem dX7_comes_74 : decode cX7_comes 74 = .ok (.ireturn, 1) := by decide +kernel
set_option maxRecDepth 20000 in
theorem ggX7_tends_X7_isHour : GoodIn wsX7_tends wsX7_isHour := goodIn_r _ [10] (by decide +kernel) (by decide +kernel)
set_option maxRecDepth 20000 in
theorem gX7_tends_X7_isHour : GoodIn wsX7_tends (va_wsS RX7 108 yX7_isHour wsX7_isHour) := goodIn_app (goodIn_of _ (by decide +kernel)) ggX7_tends_X7_isHour
set_option maxRecDepth 20000 in
theorem ggX7_tends_X7_within : GoodIn wsX7_tends wsX7_within := goodIn_r _ [13] (by decide +kernel) (by decide +kernel)
set_option maxRecDepth 20000 in
theorem gX7_tends_X7_within : GoodIn wsX7_tends (va_wsS RX7 59 yX7_within wsX7_within) := goodIn_app (goodIn_of _ (by decide +kernel)) ggX7_tends_X7_within
set_option maxRecDepth 20000 in
theorem ggX7_tends_X6_follow : GoodIn wsX7_tends wsX6_follow := goodIn_r _ [18, 19, 20, 21, 22, 23, 24, 25, 26, 27, 28, 29, 30, 31, 32, 33, 34, 35, 36, 37, 38, 39, 40, 41, 42, 43, 44, 45, 9, 46, 47, 48, 49, 50, 51, 52, 53, 54, 55, 56, 57, 58, 59, 60, 61, 62, 63, 64, 65, 66, 67, 68, 69, 70, 71, 72, 73, 90, 91, 92, 93, 94, 95, 96, 97, 98, 99, 100, 81, 82, 83, 84, 85, 86, 87, 88, 89, 101, 102] (by decide +kernel) (by decide +kernel)
set_option maxRecDepth 20000 in
theorem gX7_tends_X6_follow : GoodIn wsX7_tends (wsV RX7 125 RX6 yX6_follow wsX6_follow) := goodIn_app (goodIn_of _ (by decide +kernel)) ggX7_tends_X6_follow
theorem dX7_tends_0 : decode cX7_tends 0 = .ok (.iload_n 1, 1) := by decide +kernel
theorem dX7_tends_1 : decode cX7_tends 1 = .ok (.invokestatic 108, 3) := by decide +kernel
theorem dX7_tends_4 : decode cX7_tends 4 = .ok (.ifCond .eq 12, 3) := by decide +kernel
theorem dX7_tends_7 : decode cX7_tends 7 = .ok (.iload_n 2, 1) := by decide +kernel
theorem dX7_tends_8 : decode cX7_tends 8 = .ok (.iconst 0, 1) := by decide +kernel
theorem dX7_tends_9 : decode cX7_tends 9 = .ok (.iconst 2, 1) := by decide +kernel
theorem dX7_tends_10 : decode cX7_tends 10 = .ok (.invokestatic 59, 3) := by decide +kernel
theorem dX7_tends_13 : decode cX7_tends 13 = .ok (.ifCond .ne 6, 3) := by decide +kernel
theorem dX7_tends_16 : decode cX7_tends 16 = .ok (.bipush (-2), 2) := by decide +kernel
theorem dX7_tends_18 : decode cX7_tends 18 = .ok (.ireturn, 1) := by decide +kernel
theorem dX7_tends_19 : decode cX7_tends 19 = .ok (.aload_n 0, 1) := by decide +kernel
theorem dX7_tends_20 : decode cX7_tends 20 = .ok (.getfield 37, 3) := by decide +kernel
theorem dX7_tends_23 : decode cX7_tends 23 = .ok (.aload_n 0, 1) := by decide +kernel
theorem dX7_tends_24 : decode cX7_tends 24 = .ok (.getfield 15, 3) := by decide +kernel
theorem dX7_tends_27 : decode cX7_tends 27 = .ok (.getfield 91, 3) := by decide +kernel
theorem dX7_tends_30 : decode cX7_tends 30 = .ok (.iload_n 1, 1) := by decide +kernel
theorem dX7_tends_31 : decode cX7_tends 31 = .ok (.invokevirtual 125, 3) := by decide +kernel
theorem dX7_tends_34 : decode cX7_tends 34 = .ok (.iload_n 2, 1) := by decide +kernel
theorem dX7_tends_35 : decode cX7_tends 35 = .ok (.ifCond .ne 11, 3) := by decide +kernel
theorem dX7_tends_38 : decode cX7_tends 38 = .ok (.aload_n 0, 1) := by decide +kernel
theorem dX7_tends_39 : decode cX7_tends 39 = .ok (.getfield 37, 3) := by decide +kernel
theorem dX7_tends_42 : decode cX7_tends 42 = .ok (.getfield 129, 3) := by decide +kernel
theorem dX7_tends_45 : decode cX7_tends 45 = .ok (.ireturn, 1) := by decide +kernel
theorem dX7_tends_46 : decode cX7_tends 46 = .ok (.iload_n 2, 1) := by decide +kernel
theorem dX7_tends_47 : decode cX7_tends 47 = .ok (.iconst 1, 1) := by decide +kernel
theorem dX7_tends_48 : decode cX7_tends 48 = .ok (.if_icmp .ne 13, 3) := by decide +kernel
theorem dX7_tends_51 : decode cX7_tends 51 = .ok (.aload_n 0, 1) := by decide +kernel
theorem dX7_tends_52 : decode cX7_tends 52 = .ok (.getfield 37, 3) := by decide +kernel
theorem dX7_tends_55 : decode cX7_tends 55 = .ok (.getfield 132, 3) := by decide +kernel
theorem dX7_tends_58 : decode cX7_tends 58 = .ok (.goto 10, 3) := by decide +kernel
theorem dX7_tends_61 : decode cX7_tends 61 = .ok (.aload_n 0, 1) := by decide +kernel
theorem dX7_tends_62 : decode cX7_tends 62 = .ok (.getfield 37, 3) := by decide +kernel
theorem dX7_tends_65 : decode cX7_tends 65 = .ok (.getfield 133, 3) := by decide +kernel
theorem dX7_tends_68 : decode cX7_tends 68 = .ok (.ireturn, 1) := by decide +kernel
set_option maxRecDepth 20000 in
theorem ggX7_paid_X3_has : GoodIn wsX7_paid wsX3_has := goodIn_r _ [8, 9, 21, 22, 23, 24, 25, 26, 27, 28, 29] (by decide +kernel) (by decide +kernel)
set_option maxRecDepth 20000 in
theorem gX7_paid_X3_has : GoodIn wsX7_paid (wsV RX7 71 RX3 yX3_has wsX3_has) := goodIn_app (goodIn_of _ (by decide +kernel)) ggX7_paid_X3_has
set_option maxRecDepth 20000 in
theorem ggX7_paid_X7_within : GoodIn wsX7_paid wsX7_within := goodIn_r _ [13] (by decide +kernel) (by decide +kernel)
set_option maxRecDepth 20000 in
theorem gX7_paid_X7_within : GoodIn wsX7_paid (va_wsS RX7 59 yX7_within wsX7_within) := goodIn_app (goodIn_of _ (by decide +kernel)) ggX7_paid_X7_within
theorem dX7_paid_0 : decode cX7_paid 0 = .ok (.aload_n 0, 1) := by decide +kernel
theorem dX7_paid_1 : decode cX7_paid 1 = .ok (.getfield 15, 3) := by decide +kernel
theorem dX7_paid_4 : decode cX7_paid 4 = .ok (.iload_n 1, 1) := by decide +kernel
theorem dX7_paid_5 : decode cX7_paid 5 = .ok (.invokevirtual 71, 3) := by decide +kernel
theorem dX7_paid_8 : decode cX7_paid 8 = .ok (.ifCond .ne 5, 3) := by decide +kernel
theorem dX7_paid_11 : decode cX7_paid 11 = .ok (.iconst (-1), 1) := by decide +kernel
theorem dX7_paid_12 : decode cX7_paid 12 = .ok (.ireturn, 1) := by decide +kernel
theorem dX7_paid_13 : decode cX7_paid 13 = .ok (.iload_n 2, 1) := by decide +kernel
theorem dX7_paid_14 : decode cX7_paid 14 = .ok (.iconst 0, 1) := by decide +kernel
theorem dX7_paid_15 : decode cX7_paid 15 = .ok (.bipush 99, 2) := by decide +kernel
theorem dX7_paid_17 : decode cX7_paid 17 = .ok (.invokestatic 59, 3) := by decide +kernel
theorem dX7_paid_20 : decode cX7_paid 20 = .ok (.ifCond .ne 6, 3) := by decide +kernel
theorem dX7_paid_23 : decode cX7_paid 23 = .ok (.bipush (-2), 2) := by decide +kernel
theorem dX7_paid_25 : decode cX7_paid 25 = .ok (.ireturn, 1) := by decide +kernel
theorem dX7_paid_26 : decode cX7_paid 26 = .ok (.aload_n 0, 1) := by decide +kernel
theorem dX7_paid_27 : decode cX7_paid 27 = .ok (.getfield 15, 3) := by decide +kernel
theorem dX7_paid_30 : decode cX7_paid 30 = .ok (.getfield 79, 3) := by decide +kernel
theorem dX7_paid_33 : decode cX7_paid 33 = .ok (.aload_n 0, 1) := by decide +kernel
theorem dX7_paid_34 : decode cX7_paid 34 = .ok (.getfield 15, 3) := by decide +kernel
theorem dX7_paid_37 : decode cX7_paid 37 = .ok (.getfield 111, 3) := by decide +kernel
theorem dX7_paid_40 : decode cX7_paid 40 = .ok (.iload_n 1, 1) := by decide +kernel
theorem dX7_paid_41 : decode cX7_paid 41 = .ok (.iaload, 1) := by decide +kernel
theorem dX7_paid_42 : decode cX7_paid 42 = .ok (.imul, 1) := by decide +kernel
theorem dX7_paid_43 : decode cX7_paid 43 = .ok (.iload_n 2, 1) := by decide +kernel
theorem dX7_paid_44 : decode cX7_paid 44 = .ok (.imul, 1) := by decide +kernel
theorem dX7_paid_45 : decode cX7_paid 45 = .ok (.ireturn, 1) := by decide +kernel
set_option maxRecDepth 20000 in
theorem ggX7_content_X7_isHour : GoodIn wsX7_content wsX7_isHour := goodIn_r _ [5] (by decide +kernel) (by decide +kernel)
set_option maxRecDepth 20000 in
theorem gX7_content_X7_isHour : GoodIn wsX7_content (va_wsS RX7 108 yX7_isHour wsX7_isHour) := goodIn_app (goodIn_of _ (by decide +kernel)) ggX7_content_X7_isHour
set_option maxRecDepth 20000 in
theorem ggX7_content_X3_farFromBest : GoodIn wsX7_content wsX3_farFromBest := goodIn_r _ [10, 11, 12, 13, 14, 15, 16, 24, 25, 26, 27, 28, 29, 30, 31, 32] (by decide +kernel) (by decide +kernel)
set_option maxRecDepth 20000 in
theorem gX7_content_X3_farFromBest : GoodIn wsX7_content (wsV RX7 136 RX3 yX3_farFromBest wsX3_farFromBest) := goodIn_app (goodIn_of _ (by decide +kernel)) ggX7_content_X3_farFromBest
theorem dX7_content_0 : decode cX7_content 0 = .ok (.iload_n 1, 1) := by decide +kernel
theorem dX7_content_1 : decode cX7_content 1 = .ok (.invokestatic 108, 3) := by decide +kernel
theorem dX7_content_4 : decode cX7_content 4 = .ok (.ifCond .eq 14, 3) := by decide +kernel
theorem dX7_content_7 : decode cX7_content 7 = .ok (.aload_n 0, 1) := by decide +kernel
theorem dX7_content_8 : decode cX7_content 8 = .ok (.getfield 15, 3) := by decide +kernel
theorem dX7_content_11 : decode cX7_content 11 = .ok (.iload_n 1, 1) := by decide +kernel
theorem dX7_content_12 : decode cX7_content 12 = .ok (.invokevirtual 136, 3) := by decide +kernel
theorem dX7_content_15 : decode cX7_content 15 = .ok (.goto 5, 3) := by decide +kernel
theorem dX7_content_18 : decode cX7_content 18 = .ok (.bipush (-2), 2) := by decide +kernel
theorem dX7_content_20 : decode cX7_content 20 = .ok (.ireturn, 1) := by decide +kernel
set_option maxRecDepth 20000 in
theorem ggX7_choice_X3_has : GoodIn wsX7_choice wsX3_has := goodIn_r _ [7, 8, 118, 119, 120, 121, 122, 123, 124, 125, 126] (by decide +kernel) (by decide +kernel)
set_option maxRecDepth 20000 in
theorem gX7_choice_X3_has : GoodIn wsX7_choice (wsV RX7 71 RX3 yX3_has wsX3_has) := goodIn_app (goodIn_of _ (by decide +kernel)) ggX7_choice_X3_has
set_option maxRecDepth 20000 in
theorem ggX7_choice_X7_isHour : GoodIn wsX7_choice wsX7_isHour := goodIn_r _ [12] (by decide +kernel) (by decide +kernel)
set_option maxRecDepth 20000 in
theorem gX7_choice_X7_isHour : GoodIn wsX7_choice (va_wsS RX7 108 yX7_isHour wsX7_isHour) := goodIn_app (goodIn_of _ (by decide +kernel)) ggX7_choice_X7_isHour
set_option maxRecDepth 20000 in
theorem ggX7_choice_X7_within : GoodIn wsX7_choice wsX7_within := goodIn_r _ [15] (by decide +kernel) (by decide +kernel)
set_option maxRecDepth 20000 in
theorem gX7_choice_X7_within : GoodIn wsX7_choice (va_wsS RX7 59 yX7_within wsX7_within) := goodIn_app (goodIn_of _ (by decide +kernel)) ggX7_choice_X7_within
set_option maxRecDepth 20000 in
theorem ggX7_choice_X2_weigh : GoodIn wsX7_choice wsX2_weigh := goodIn_r _ [20, 21, 22, 23, 24, 25, 26, 27, 28, 29, 30, 31, 32, 33, 34, 35, 36, 37, 38, 39, 40, 41, 19, 42, 43, 44, 45, 46, 47, 48, 49, 50, 51, 52, 53, 54, 55, 56, 57, 58, 59, 60, 61, 62, 63, 64, 65, 11, 66, 67, 68, 69, 70, 71, 72, 73, 74, 75, 76, 77, 78, 79, 80, 81, 82, 83, 84, 85, 86, 87, 88, 89, 90, 91, 92, 93, 94, 95, 96, 97, 98, 99, 100, 101, 102, 127, 128, 129, 130, 131, 132, 133, 134, 135, 118, 119, 120, 121, 122, 123, 124, 125, 126, 136, 137] (by decide +kernel) (by decide +kernel)
set_option maxRecDepth 20000 in
theorem gX7_choice_X2_weigh : GoodIn wsX7_choice (wsV RX7 139 RX2 yX2_weigh wsX2_weigh) := goodIn_app (goodIn_of _ (by decide +kernel)) ggX7_choice_X2_weigh
set_option maxRecDepth 20000 in
theorem ggX7_choice_X2_leastCost : GoodIn wsX7_choice wsX2_leastCost := goodIn_r _ [106, 22, 127, 128, 129, 130] (by decide +kernel) (by decide +kernel)
set_option maxRecDepth 20000 in
theorem gX7_choice_X2_leastCost : GoodIn wsX7_choice (wsV RX7 143 RX2 yX2_leastCost wsX2_leastCost) := goodIn_app (goodIn_of _ (by decide +kernel)) ggX7_choice_X2_leastCost
set_option maxRecDepth 20000 in
theorem ggX7_choice_X2_lateInWeek : GoodIn wsX7_choice wsX2_lateInWeek := goodIn_r _ [110, 44, 45, 46, 47, 19, 48, 21, 49, 50, 51, 52, 53, 54, 26, 55, 28, 56, 57, 58, 59, 60, 61, 62, 63, 64, 65, 11, 66, 67, 68, 69, 70, 71, 72, 73, 74, 75, 76, 77, 78, 79, 80, 81, 82, 83, 84, 85, 86, 87, 88, 89, 90, 91, 92, 93, 127, 128, 129, 130, 131, 132, 133, 134, 135, 118, 119, 120, 121, 122, 123, 124, 125, 126, 136, 137] (by decide +kernel) (by decide +kernel)
set_option maxRecDepth 20000 in
theorem gX7_choice_X2_lateInWeek : GoodIn wsX7_choice (wsV RX7 146 RX2 yX2_lateInWeek wsX2_lateInWeek) := goodIn_app (goodIn_of _ (by decide +kernel)) ggX7_choice_X2_lateInWeek
theorem dX7_choice_0 : decode cX7_choice 0 = .ok (.aload_n 0, 1) := by decide +kernel
theorem dX7_choice_1 : decode cX7_choice 1 = .ok (.getfield 15, 3) := by decide +kernel
theorem dX7_choice_4 : decode cX7_choice 4 = .ok (.iload_n 1, 1) := by decide +kernel
theorem dX7_choice_5 : decode cX7_choice 5 = .ok (.invokevirtual 71, 3) := by decide +kernel
theorem dX7_choice_8 : decode cX7_choice 8 = .ok (.ifCond .ne 5, 3) := by decide +kernel
theorem dX7_choice_11 : decode cX7_choice 11 = .ok (.iconst (-1), 1) := by decide +kernel
theorem dX7_choice_12 : decode cX7_choice 12 = .ok (.ireturn, 1) := by decide +kernel
theorem dX7_choice_13 : decode cX7_choice 13 = .ok (.iload_n 2, 1) := by decide +kernel
theorem dX7_choice_14 : decode cX7_choice 14 = .ok (.invokestatic 108, 3) := by decide +kernel
theorem dX7_choice_17 : decode cX7_choice 17 = .ok (.ifCond .eq 24, 3) := by decide +kernel
theorem dX7_choice_20 : decode cX7_choice 20 = .ok (.iload_n 3, 1) := by decide +kernel
theorem dX7_choice_21 : decode cX7_choice 21 = .ok (.iconst 1, 1) := by decide +kernel
theorem dX7_choice_22 : decode cX7_choice 22 = .ok (.iconst 4, 1) := by decide +kernel
theorem dX7_choice_23 : decode cX7_choice 23 = .ok (.invokestatic 59, 3) := by decide +kernel
theorem dX7_choice_26 : decode cX7_choice 26 = .ok (.ifCond .eq 15, 3) := by decide +kernel
theorem dX7_choice_29 : decode cX7_choice 29 = .ok (.iload 4, 2) := by decide +kernel
theorem dX7_choice_31 : decode cX7_choice 31 = .ok (.iconst (-1), 1) := by decide +kernel
theorem dX7_choice_32 : decode cX7_choice 32 = .ok (.iload_n 3, 1) := by decide +kernel
theorem dX7_choice_33 : decode cX7_choice 33 = .ok (.iconst 1, 1) := by decide +kernel
theorem dX7_choice_34 : decode cX7_choice 34 = .ok (.isub, 1) := by decide +kernel
theorem dX7_choice_35 : decode cX7_choice 35 = .ok (.invokestatic 59, 3) := by decide +kernel
theorem dX7_choice_38 : decode cX7_choice 38 = .ok (.ifCond .ne 6, 3) := by decide +kernel
theorem dX7_choice_41 : decode cX7_choice 41 = .ok (.bipush (-2), 2) := by decide +kernel
theorem dX7_choice_43 : decode cX7_choice 43 = .ok (.ireturn, 1) := by decide +kernel
theorem dX7_choice_44 : decode cX7_choice 44 = .ok (.aload_n 0, 1) := by decide +kernel
theorem dX7_choice_45 : decode cX7_choice 45 = .ok (.getfield 44, 3) := by decide +kernel
theorem dX7_choice_48 : decode cX7_choice 48 = .ok (.iload_n 1, 1) := by decide +kernel
theorem dX7_choice_49 : decode cX7_choice 49 = .ok (.iload_n 3, 1) := by decide +kernel
theorem dX7_choice_50 : decode cX7_choice 50 = .ok (.invokevirtual 139, 3) := by decide +kernel
theorem dX7_choice_53 : decode cX7_choice 53 = .ok (.iload 4, 2) := by decide +kernel
theorem dX7_choice_55 : decode cX7_choice 55 = .ok (.ifCond .ge 14, 3) := by decide +kernel
theorem dX7_choice_58 : decode cX7_choice 58 = .ok (.aload_n 0, 1) := by decide +kernel
theorem dX7_choice_59 : decode cX7_choice 59 = .ok (.getfield 44, 3) := by decide +kernel
theorem dX7_choice_62 : decode cX7_choice 62 = .ok (.iload_n 2, 1) := by decide +kernel
theorem dX7_choice_63 : decode cX7_choice 63 = .ok (.invokevirtual 143, 3) := by decide +kernel
theorem dX7_choice_66 : decode cX7_choice 66 = .ok (.goto 14, 3) := by decide +kernel
theorem dX7_choice_69 : decode cX7_choice 69 = .ok (.aload_n 0, 1) := by decide +kernel
theorem dX7_choice_70 : decode cX7_choice 70 = .ok (.getfield 44, 3) := by decide +kernel
theorem dX7_choice_73 : decode cX7_choice 73 = .ok (.iload_n 1, 1) := by decide +kernel
theorem dX7_choice_74 : decode cX7_choice 74 = .ok (.iload_n 2, 1) := by decide +kernel
theorem dX7_choice_75 : decode cX7_choice 75 = .ok (.iload 4, 2) := by decide +kernel
theorem dX7_choice_77 : decode cX7_choice 77 = .ok (.invokevirtual 146, 3) := by decide +kernel
theorem dX7_choice_80 : decode cX7_choice 80 = .ok (.ireturn, 1) := by decide +kernel
set_option maxRecDepth 20000 in
theorem ggX7_rests_X7_isHour : GoodIn wsX7_rests wsX7_isHour := goodIn_r _ [5] (by decide +kernel) (by decide +kernel)
set_option maxRecDepth 20000 in
theorem gX7_rests_X7_isHour : GoodIn wsX7_rests (va_wsS RX7 108 yX7_isHour wsX7_isHour) := goodIn_app (goodIn_of _ (by decide +kernel)) ggX7_rests_X7_isHour
set_option maxRecDepth 20000 in
theorem ggX7_rests_X2_tabulate : GoodIn wsX7_rests wsX2_tabulate := goodIn_r _ [10, 11, 12, 13, 14, 15, 16, 17, 18, 19, 9, 20, 21, 22, 23, 24, 25, 26, 27, 28, 29, 30, 31, 32, 33, 34, 35, 36, 37, 38, 39, 40, 41, 42, 43, 44, 45, 4, 46, 47, 48, 49, 50, 51, 52, 53, 54, 55, 56, 57, 58, 59, 60, 61, 62, 63, 64, 65, 66, 67, 68, 69, 70, 71, 72, 73, 106, 107, 108, 109, 110, 111, 112, 113, 114, 115, 116, 117, 118, 119, 120, 121, 122, 123, 124, 125] (by decide +kernel) (by decide +kernel)
set_option maxRecDepth 20000 in
theorem gX7_rests_X2_tabulate : GoodIn wsX7_rests (wsV RX7 149 RX2 yX2_tabulate wsX2_tabulate) := goodIn_app (goodIn_of _ (by decide +kernel)) ggX7_rests_X2_tabulate
set_option maxRecDepth 20000 in
theorem ggX7_rests_X2_restCount : GoodIn wsX7_rests wsX2_restCount := goodIn_r _ [77, 17, 18, 19, 9, 20, 11, 12, 13, 21, 22, 23, 24, 78, 79, 80, 81, 15, 25, 26, 27, 28, 29, 30, 31, 32, 82, 83, 84, 85, 86, 87, 88, 89, 90, 106, 107, 108, 109, 110, 111, 112, 113, 114, 115, 116, 117, 118, 119, 120, 121, 122, 123] (by decide +kernel) (by decide +kernel)
set_option maxRecDepth 20000 in
theorem gX7_rests_X2_restCount : GoodIn wsX7_rests (wsV RX7 152 RX2 yX2_restCount wsX2_restCount) := goodIn_app (goodIn_of _ (by decide +kernel)) ggX7_rests_X2_restCount
set_option maxRecDepth 20000 in
theorem ggX7_rests_X2_restAt : GoodIn wsX7_rests wsX2_restAt := goodIn_r _ [94, 17, 18, 19, 9, 20, 11, 12, 13, 21, 22, 23, 24, 78, 79, 80, 81, 15, 25, 26, 27, 28, 29, 30, 31, 32, 82, 83, 84, 85, 86, 87, 88, 89, 90, 95, 96, 97, 98, 106, 107, 108, 109, 110, 111, 112, 113, 114, 115, 116, 117, 118, 119, 120, 121, 122, 123] (by decide +kernel) (by decide +kernel)
set_option maxRecDepth 20000 in
theorem gX7_rests_X2_restAt : GoodIn wsX7_rests (wsV RX7 155 RX2 yX2_restAt wsX2_restAt) := goodIn_app (goodIn_of _ (by decide +kernel)) ggX7_rests_X2_restAt
theorem dX7_rests_0 : decode cX7_rests 0 = .ok (.iload_n 1, 1) := by decide +kernel
theorem dX7_rests_1 : decode cX7_rests 1 = .ok (.invokestatic 108, 3) := by decide +kernel
theorem dX7_rests_4 : decode cX7_rests 4 = .ok (.ifCond .ne 6, 3) := by decide +kernel
theorem dX7_rests_7 : decode cX7_rests 7 = .ok (.bipush (-2), 2) := by decide +kernel
theorem dX7_rests_9 : decode cX7_rests 9 = .ok (.ireturn, 1) := by decide +kernel
theorem dX7_rests_10 : decode cX7_rests 10 = .ok (.iload_n 2, 1) := by decide +kernel
theorem dX7_rests_11 : decode cX7_rests 11 = .ok (.iconst (-1), 1) := by decide +kernel
theorem dX7_rests_12 : decode cX7_rests 12 = .ok (.if_icmp .ge 6, 3) := by decide +kernel
theorem dX7_rests_15 : decode cX7_rests 15 = .ok (.bipush (-6), 2) := by decide +kernel
theorem dX7_rests_17 : decode cX7_rests 17 = .ok (.ireturn, 1) := by decide +kernel
theorem dX7_rests_18 : decode cX7_rests 18 = .ok (.aload_n 0, 1) := by decide +kernel
theorem dX7_rests_19 : decode cX7_rests 19 = .ok (.getfield 44, 3) := by decide +kernel
theorem dX7_rests_22 : decode cX7_rests 22 = .ok (.iload_n 1, 1) := by decide +kernel
theorem dX7_rests_23 : decode cX7_rests 23 = .ok (.invokevirtual 149, 3) := by decide +kernel
theorem dX7_rests_26 : decode cX7_rests 26 = .ok (.iload_n 2, 1) := by decide +kernel
theorem dX7_rests_27 : decode cX7_rests 27 = .ok (.ifCond .ge 13, 3) := by decide +kernel
theorem dX7_rests_30 : decode cX7_rests 30 = .ok (.aload_n 0, 1) := by decide +kernel
theorem dX7_rests_31 : decode cX7_rests 31 = .ok (.getfield 44, 3) := by decide +kernel
theorem dX7_rests_34 : decode cX7_rests 34 = .ok (.invokevirtual 152, 3) := by decide +kernel
theorem dX7_rests_37 : decode cX7_rests 37 = .ok (.goto 11, 3) := by decide +kernel
theorem dX7_rests_40 : decode cX7_rests 40 = .ok (.aload_n 0, 1) := by decide +kernel
theorem dX7_rests_41 : decode cX7_rests 41 = .ok (.getfield 44, 3) := by decide +kernel
theorem dX7_rests_44 : decode cX7_rests 44 = .ok (.iload_n 2, 1) := by decide +kernel
theorem dX7_rests_45 : decode cX7_rests 45 = .ok (.invokevirtual 155, 3) := by decide +kernel
theorem dX7_rests_48 : decode cX7_rests 48 = .ok (.ireturn, 1) := by decide +kernel
set_option maxRecDepth 20000 in
theorem ggX7_laws_X7_isHour : GoodIn wsX7_laws wsX7_isHour := goodIn_r _ [5] (by decide +kernel) (by decide +kernel)
set_option maxRecDepth 20000 in
theorem gX7_laws_X7_isHour : GoodIn wsX7_laws (va_wsS RX7 108 yX7_isHour wsX7_isHour) := goodIn_app (goodIn_of _ (by decide +kernel)) ggX7_laws_X7_isHour
set_option maxRecDepth 20000 in
theorem ggX7_laws_X7_within : GoodIn wsX7_laws wsX7_within := goodIn_r _ [8] (by decide +kernel) (by decide +kernel)
set_option maxRecDepth 20000 in
theorem gX7_laws_X7_within : GoodIn wsX7_laws (va_wsS RX7 59 yX7_within wsX7_within) := goodIn_app (goodIn_of _ (by decide +kernel)) ggX7_laws_X7_within
set_option maxRecDepth 20000 in
theorem ggX7_laws_X6_bestToldLaw : GoodIn wsX7_laws wsX6_bestToldLaw := goodIn_r _ [13, 14, 15, 16, 17, 18, 19, 12, 20, 21, 22, 23, 24, 25, 26, 27, 28, 29, 30, 31, 32, 33, 34, 35, 36, 37, 38, 39, 40, 41, 42, 43, 44, 45, 46, 47, 48, 49, 50, 51, 52, 53, 54, 55, 56, 57, 58, 59, 60, 4, 61, 62, 63, 64, 65, 66, 67, 68, 69, 70, 71, 72, 73, 74, 75, 76, 77, 78, 79, 80, 81, 82, 83, 84, 85, 86, 87, 88, 89, 90, 91, 92, 93, 94, 95, 96, 97, 98, 107, 108, 109, 110, 111, 112, 113, 114, 115, 116, 117, 118, 119, 120, 121, 122, 123, 124, 125, 126, 127, 128] (by decide +kernel) (by decide +kernel)
set_option maxRecDepth 20000 in
theorem gX7_laws_X6_bestToldLaw : GoodIn wsX7_laws (wsV RX7 158 RX6 yX6_bestToldLaw wsX6_bestToldLaw) := goodIn_app (goodIn_of _ (by decide +kernel)) ggX7_laws_X6_bestToldLaw
set_option maxRecDepth 20000 in
theorem ggX7_laws_X6_restUnder : GoodIn wsX7_laws wsX6_restUnder := goodIn_r _ [20, 21, 22, 23, 24, 25, 26, 27, 28, 29, 30, 31, 32, 33, 34, 35, 36, 12, 37, 38, 15, 16, 39, 40, 41, 42, 43, 44, 45, 46, 47, 48, 49, 50, 51, 52, 53, 54, 55, 56, 57, 58, 59, 60, 4, 61, 62, 63, 64, 65, 66, 67, 68, 69, 70, 71, 72, 73, 74, 75, 76, 77, 78, 79, 80, 81, 82, 83, 84, 85, 86, 87, 88, 107, 108, 109, 110, 111, 112, 118, 119, 113, 114, 115, 116, 117, 120, 121, 122, 123, 124, 125, 126, 127, 128] (by decide +kernel) (by decide +kernel)
set_option maxRecDepth 20000 in
theorem gX7_laws_X6_restUnder : GoodIn wsX7_laws (wsV RX7 161 RX6 yX6_restUnder wsX6_restUnder) := goodIn_app (goodIn_of _ (by decide +kernel)) ggX7_laws_X6_restUnder
theorem dX7_laws_0 : decode cX7_laws 0 = .ok (.iload_n 1, 1) := by decide +kernel
theorem dX7_laws_1 : decode cX7_laws 1 = .ok (.invokestatic 108, 3) := by decide +kernel
theorem dX7_laws_4 : decode cX7_laws 4 = .ok (.ifCond .eq 12, 3) := by decide +kernel
theorem dX7_laws_7 : decode cX7_laws 7 = .ok (.iload_n 2, 1) := by decide +kernel
theorem dX7_laws_8 : decode cX7_laws 8 = .ok (.iconst 0, 1) := by decide +kernel
theorem dX7_laws_9 : decode cX7_laws 9 = .ok (.iconst 1, 1) := by decide +kernel
theorem dX7_laws_10 : decode cX7_laws 10 = .ok (.invokestatic 59, 3) := by decide +kernel
theorem dX7_laws_13 : decode cX7_laws 13 = .ok (.ifCond .ne 6, 3) := by decide +kernel
theorem dX7_laws_16 : decode cX7_laws 16 = .ok (.bipush (-2), 2) := by decide +kernel
theorem dX7_laws_18 : decode cX7_laws 18 = .ok (.ireturn, 1) := by decide +kernel
theorem dX7_laws_19 : decode cX7_laws 19 = .ok (.aload_n 0, 1) := by decide +kernel
theorem dX7_laws_20 : decode cX7_laws 20 = .ok (.getfield 37, 3) := by decide +kernel
theorem dX7_laws_23 : decode cX7_laws 23 = .ok (.iload_n 1, 1) := by decide +kernel
theorem dX7_laws_24 : decode cX7_laws 24 = .ok (.invokevirtual 158, 3) := by decide +kernel
theorem dX7_laws_27 : decode cX7_laws 27 = .ok (.istore_n 3, 1) := by decide +kernel
theorem dX7_laws_28 : decode cX7_laws 28 = .ok (.iload_n 3, 1) := by decide +kernel
theorem dX7_laws_29 : decode cX7_laws 29 = .ok (.bipush (-6), 2) := by decide +kernel
theorem dX7_laws_31 : decode cX7_laws 31 = .ok (.if_icmp .eq 7, 3) := by decide +kernel
theorem dX7_laws_34 : decode cX7_laws 34 = .ok (.iload_n 2, 1) := by decide +kernel
theorem dX7_laws_35 : decode cX7_laws 35 = .ok (.ifCond .ne 5, 3) := by decide +kernel
theorem dX7_laws_38 : decode cX7_laws 38 = .ok (.iload_n 3, 1) := by decide +kernel
theorem dX7_laws_39 : decode cX7_laws 39 = .ok (.ireturn, 1) := by decide +kernel
theorem dX7_laws_40 : decode cX7_laws 40 = .ok (.aload_n 0, 1) := by decide +kernel
theorem dX7_laws_41 : decode cX7_laws 41 = .ok (.getfield 37, 3) := by decide +kernel
theorem dX7_laws_44 : decode cX7_laws 44 = .ok (.iload_n 3, 1) := by decide +kernel
theorem dX7_laws_45 : decode cX7_laws 45 = .ok (.iload_n 1, 1) := by decide +kernel
theorem dX7_laws_46 : decode cX7_laws 46 = .ok (.invokevirtual 161, 3) := by decide +kernel
theorem dX7_laws_49 : decode cX7_laws 49 = .ok (.ireturn, 1) := by decide +kernel
set_option maxRecDepth 20000 in
theorem ggX7_move_X7_isHour : GoodIn wsX7_move wsX7_isHour := goodIn_r _ [5] (by decide +kernel) (by decide +kernel)
set_option maxRecDepth 20000 in
theorem gX7_move_X7_isHour : GoodIn wsX7_move (va_wsS RX7 108 yX7_isHour wsX7_isHour) := goodIn_app (goodIn_of _ (by decide +kernel)) ggX7_move_X7_isHour
set_option maxRecDepth 20000 in
theorem ggX7_move_X7_within : GoodIn wsX7_move wsX7_within := goodIn_r _ [8] (by decide +kernel) (by decide +kernel)
set_option maxRecDepth 20000 in
theorem gX7_move_X7_within : GoodIn wsX7_move (va_wsS RX7 59 yX7_within wsX7_within) := goodIn_app (goodIn_of _ (by decide +kernel)) ggX7_move_X7_within
set_option maxRecDepth 20000 in
theorem ggX7_move_X2_leastMovers : GoodIn wsX7_move wsX2_leastMovers := goodIn_r _ [13, 14, 15, 16, 17, 18, 19, 20, 21, 22, 23, 24, 25, 26, 12, 27, 28, 29, 30, 31, 32, 33, 34, 35, 36, 37, 38, 39, 40, 41, 42, 43, 44, 45, 46, 47, 48, 49, 50, 51, 52, 53, 54, 55, 56, 57, 58, 59, 60, 61, 62, 63, 64, 4, 65, 66, 67, 68, 69, 70, 71, 72, 73, 74, 75, 76, 77, 78, 79, 80, 81, 82, 83, 84, 85, 86, 87, 88, 89, 90, 91, 92, 100, 101, 102, 103, 104, 105, 106, 107, 108, 109, 110, 111, 112, 113, 114, 115, 116, 117, 118, 119] (by decide +kernel) (by decide +kernel)
set_option maxRecDepth 20000 in
theorem gX7_move_X2_leastMovers : GoodIn wsX7_move (wsV RX7 165 RX2 yX2_leastMovers wsX2_leastMovers) := goodIn_app (goodIn_of _ (by decide +kernel)) ggX7_move_X2_leastMovers
theorem dX7_move_0 : decode cX7_move 0 = .ok (.iload_n 1, 1) := by decide +kernel
theorem dX7_move_1 : decode cX7_move 1 = .ok (.invokestatic 108, 3) := by decide +kernel
theorem dX7_move_4 : decode cX7_move 4 = .ok (.ifCond .eq 20, 3) := by decide +kernel
theorem dX7_move_7 : decode cX7_move 7 = .ok (.iload_n 3, 1) := by decide +kernel
theorem dX7_move_8 : decode cX7_move 8 = .ok (.invokestatic 108, 3) := by decide +kernel
theorem dX7_move_11 : decode cX7_move 11 = .ok (.ifCond .eq 13, 3) := by decide +kernel
theorem dX7_move_14 : decode cX7_move 14 = .ok (.iload_n 2, 1) := by decide +kernel
theorem dX7_move_15 : decode cX7_move 15 = .ok (.iconst 1, 1) := by decide +kernel
theorem dX7_move_16 : decode cX7_move 16 = .ok (.bipush 9, 2) := by decide +kernel
theorem dX7_move_18 : decode cX7_move 18 = .ok (.invokestatic 59, 3) := by decide +kernel
theorem dX7_move_21 : decode cX7_move 21 = .ok (.ifCond .ne 6, 3) := by decide +kernel
theorem dX7_move_24 : decode cX7_move 24 = .ok (.bipush (-2), 2) := by decide +kernel
theorem dX7_move_26 : decode cX7_move 26 = .ok (.ireturn, 1) := by decide +kernel
theorem dX7_move_27 : decode cX7_move 27 = .ok (.aload_n 0, 1) := by decide +kernel
theorem dX7_move_28 : decode cX7_move 28 = .ok (.getfield 44, 3) := by decide +kernel
theorem dX7_move_31 : decode cX7_move 31 = .ok (.iload_n 1, 1) := by decide +kernel
theorem dX7_move_32 : decode cX7_move 32 = .ok (.iload_n 2, 1) := by decide +kernel
theorem dX7_move_33 : decode cX7_move 33 = .ok (.iload_n 3, 1) := by decide +kernel
theorem dX7_move_34 : decode cX7_move 34 = .ok (.invokevirtual 165, 3) := by decide +kernel
theorem dX7_move_37 : decode cX7_move 37 = .ok (.ireturn, 1) := by decide +kernel
set_option maxRecDepth 20000 in
theorem ggX7_seen_X7_within : GoodIn wsX7_seen wsX7_within := goodIn_r _ [6] (by decide +kernel) (by decide +kernel)
set_option maxRecDepth 20000 in
theorem gX7_seen_X7_within : GoodIn wsX7_seen (va_wsS RX7 59 yX7_within wsX7_within) := goodIn_app (goodIn_of _ (by decide +kernel)) ggX7_seen_X7_within
set_option maxRecDepth 20000 in
theorem ggX7_seen_X7_isHour : GoodIn wsX7_seen wsX7_isHour := goodIn_r _ [9] (by decide +kernel) (by decide +kernel)
set_option maxRecDepth 20000 in
theorem gX7_seen_X7_isHour : GoodIn wsX7_seen (va_wsS RX7 108 yX7_isHour wsX7_isHour) := goodIn_app (goodIn_of _ (by decide +kernel)) ggX7_seen_X7_isHour
set_option maxRecDepth 20000 in
theorem ggX7_seen_X3_addSight : GoodIn wsX7_seen wsX3_addSight := goodIn_r _ [14, 15, 16, 17, 25, 26, 27, 28, 29, 30, 31, 32, 33] (by decide +kernel) (by decide +kernel)
set_option maxRecDepth 20000 in
theorem gX7_seen_X3_addSight : GoodIn wsX7_seen (wsV RX7 171 RX3 yX3_addSight wsX3_addSight) := goodIn_app (goodIn_of _ (by decide +kernel)) ggX7_seen_X3_addSight
theorem dX7_seen_0 : decode cX7_seen 0 = .ok (.iload_n 1, 1) := by decide +kernel
theorem dX7_seen_1 : decode cX7_seen 1 = .ok (.iconst 0, 1) := by decide +kernel
theorem dX7_seen_2 : decode cX7_seen 2 = .ok (.bipush 30, 2) := by decide +kernel
theorem dX7_seen_4 : decode cX7_seen 4 = .ok (.invokestatic 59, 3) := by decide +kernel
theorem dX7_seen_7 : decode cX7_seen 7 = .ok (.ifCond .eq 10, 3) := by decide +kernel
theorem dX7_seen_10 : decode cX7_seen 10 = .ok (.iload_n 2, 1) := by decide +kernel
theorem dX7_seen_11 : decode cX7_seen 11 = .ok (.invokestatic 108, 3) := by decide +kernel
theorem dX7_seen_14 : decode cX7_seen 14 = .ok (.ifCond .ne 6, 3) := by decide +kernel
theorem dX7_seen_17 : decode cX7_seen 17 = .ok (.bipush (-2), 2) := by decide +kernel
theorem dX7_seen_19 : decode cX7_seen 19 = .ok (.ireturn, 1) := by decide +kernel
theorem dX7_seen_20 : decode cX7_seen 20 = .ok (.aload_n 0, 1) := by decide +kernel
theorem dX7_seen_21 : decode cX7_seen 21 = .ok (.getfield 15, 3) := by decide +kernel
theorem dX7_seen_24 : decode cX7_seen 24 = .ok (.getfield 168, 3) := by decide +kernel
theorem dX7_seen_27 : decode cX7_seen 27 = .ok (.bipush 6, 2) := by decide +kernel
theorem dX7_seen_29 : decode cX7_seen 29 = .ok (.if_icmp .lt 6, 3) := by decide +kernel
theorem dX7_seen_32 : decode cX7_seen 32 = .ok (.bipush (-4), 2) := by decide +kernel
theorem dX7_seen_34 : decode cX7_seen 34 = .ok (.ireturn, 1) := by decide +kernel
theorem dX7_seen_35 : decode cX7_seen 35 = .ok (.aload_n 0, 1) := by decide +kernel
theorem dX7_seen_36 : decode cX7_seen 36 = .ok (.getfield 15, 3) := by decide +kernel
theorem dX7_seen_39 : decode cX7_seen 39 = .ok (.iload_n 1, 1) := by decide +kernel
theorem dX7_seen_40 : decode cX7_seen 40 = .ok (.iload_n 2, 1) := by decide +kernel
theorem dX7_seen_41 : decode cX7_seen 41 = .ok (.invokevirtual 171, 3) := by decide +kernel
theorem dX7_seen_44 : decode cX7_seen 44 = .ok (.ireturn, 1) := by decide +kernel
theorem dX7_forget_0 : decode cX7_forget 0 = .ok (.aload_n 0, 1) := by decide +kernel
theorem dX7_forget_1 : decode cX7_forget 1 = .ok (.getfield 15, 3) := by decide +kernel
theorem dX7_forget_4 : decode cX7_forget 4 = .ok (.getfield 168, 3) := by decide +kernel
theorem dX7_forget_7 : decode cX7_forget 7 = .ok (.istore_n 1, 1) := by decide +kernel
theorem dX7_forget_8 : decode cX7_forget 8 = .ok (.aload_n 0, 1) := by decide +kernel
theorem dX7_forget_9 : decode cX7_forget 9 = .ok (.getfield 15, 3) := by decide +kernel
theorem dX7_forget_12 : decode cX7_forget 12 = .ok (.iconst 0, 1) := by decide +kernel
theorem dX7_forget_13 : decode cX7_forget 13 = .ok (.putfield 168, 3) := by decide +kernel
theorem dX7_forget_16 : decode cX7_forget 16 = .ok (.iload_n 1, 1) := by decide +kernel
theorem dX7_forget_17 : decode cX7_forget 17 = .ok (.ireturn, 1) := by decide +kernel
set_option maxRecDepth 20000 in
theorem ggX7_could_X3_has : GoodIn wsX7_could wsX3_has := goodIn_r _ [7, 8, 90, 91, 92, 93, 94, 95, 96, 97, 98] (by decide +kernel) (by decide +kernel)
set_option maxRecDepth 20000 in
theorem gX7_could_X3_has : GoodIn wsX7_could (wsV RX7 71 RX3 yX3_has wsX3_has) := goodIn_app (goodIn_of _ (by decide +kernel)) ggX7_could_X3_has
set_option maxRecDepth 20000 in
theorem ggX7_could_X7_isHour : GoodIn wsX7_could wsX7_isHour := goodIn_r _ [12] (by decide +kernel) (by decide +kernel)
set_option maxRecDepth 20000 in
theorem gX7_could_X7_isHour : GoodIn wsX7_could (va_wsS RX7 108 yX7_isHour wsX7_isHour) := goodIn_app (goodIn_of _ (by decide +kernel)) ggX7_could_X7_isHour
set_option maxRecDepth 20000 in
theorem ggX7_could_X0_latesThatFit : GoodIn wsX7_could wsX0_latesThatFit := goodIn_r _ [17, 18, 19, 20, 21, 16, 22, 23, 24, 25, 26, 27, 28, 29, 30, 31, 32, 33, 34, 35, 36, 37, 38, 39, 40, 41, 42, 43, 44, 45, 46, 47, 48, 49, 50, 51, 52, 53, 54, 11, 55, 56, 57, 58, 59, 60, 61, 62, 63, 64, 65, 66, 67, 68, 69, 70, 71, 72, 73, 74, 75, 76, 77, 78, 79, 80, 81, 82, 99, 100, 101, 102, 103, 90, 91, 92, 93, 94, 95, 96, 97, 98, 104, 105] (by decide +kernel) (by decide +kernel)
set_option maxRecDepth 20000 in
theorem gX7_could_X0_latesThatFit : GoodIn wsX7_could (wsV RX7 174 RX0 yX0_latesThatFit wsX0_latesThatFit) := goodIn_app (goodIn_of _ (by decide +kernel)) ggX7_could_X0_latesThatFit
theorem dX7_could_0 : decode cX7_could 0 = .ok (.aload_n 0, 1) := by decide +kernel
theorem dX7_could_1 : decode cX7_could 1 = .ok (.getfield 15, 3) := by decide +kernel
theorem dX7_could_4 : decode cX7_could 4 = .ok (.iload_n 1, 1) := by decide +kernel
theorem dX7_could_5 : decode cX7_could 5 = .ok (.invokevirtual 71, 3) := by decide +kernel
theorem dX7_could_8 : decode cX7_could 8 = .ok (.ifCond .ne 5, 3) := by decide +kernel
theorem dX7_could_11 : decode cX7_could 11 = .ok (.iconst (-1), 1) := by decide +kernel
theorem dX7_could_12 : decode cX7_could 12 = .ok (.ireturn, 1) := by decide +kernel
theorem dX7_could_13 : decode cX7_could 13 = .ok (.iload_n 2, 1) := by decide +kernel
theorem dX7_could_14 : decode cX7_could 14 = .ok (.invokestatic 108, 3) := by decide +kernel
theorem dX7_could_17 : decode cX7_could 17 = .ok (.ifCond .eq 15, 3) := by decide +kernel
theorem dX7_could_20 : decode cX7_could 20 = .ok (.aload_n 0, 1) := by decide +kernel
theorem dX7_could_21 : decode cX7_could 21 = .ok (.getfield 21, 3) := by decide +kernel
theorem dX7_could_24 : decode cX7_could 24 = .ok (.iload_n 1, 1) := by decide +kernel
theorem dX7_could_25 : decode cX7_could 25 = .ok (.iload_n 2, 1) := by decide +kernel
theorem dX7_could_26 : decode cX7_could 26 = .ok (.invokevirtual 174, 3) := by decide +kernel
theorem dX7_could_29 : decode cX7_could 29 = .ok (.goto 5, 3) := by decide +kernel
theorem dX7_could_32 : decode cX7_could 32 = .ok (.bipush (-2), 2) := by decide +kernel
theorem dX7_could_34 : decode cX7_could 34 = .ok (.ireturn, 1) := by decide +kernel
set_option maxRecDepth 20000 in
theorem ggX7_rain_X7_isHour : GoodIn wsX7_rain wsX7_isHour := goodIn_r _ [8] (by decide +kernel) (by decide +kernel)
set_option maxRecDepth 20000 in
theorem gX7_rain_X7_isHour : GoodIn wsX7_rain (va_wsS RX7 108 yX7_isHour wsX7_isHour) := goodIn_app (goodIn_of _ (by decide +kernel)) ggX7_rain_X7_isHour
set_option maxRecDepth 20000 in
theorem ggX7_rain_X7_within : GoodIn wsX7_rain wsX7_within := goodIn_r _ [11] (by decide +kernel) (by decide +kernel)
set_option maxRecDepth 20000 in
theorem gX7_rain_X7_within : GoodIn wsX7_rain (va_wsS RX7 59 yX7_within wsX7_within) := goodIn_app (goodIn_of _ (by decide +kernel)) ggX7_rain_X7_within
set_option maxRecDepth 20000 in
theorem ggX7_rain_X1_rainOn : GoodIn wsX7_rain wsX1_rainOn := goodIn_r _ [16, 17, 18, 19, 20, 21, 22, 23, 24, 25, 26, 27, 28, 29, 15, 30, 31, 32, 33, 34, 35, 36, 37, 38, 39, 40, 41, 42, 43, 44, 45, 46, 47, 48, 49, 50, 51, 52, 53, 54, 55, 7, 56, 57, 58, 59, 60, 61, 62, 63, 64, 65, 66, 67, 68, 69, 70, 71, 72, 73, 74, 75, 76, 77, 78, 79, 80, 81, 82, 83, 84, 85, 86, 87, 95, 96, 97, 98, 99, 100, 101, 102, 103, 104, 105, 106, 107, 108, 109, 110, 111, 112, 113, 114, 115, 116, 117, 118] (by decide +kernel) (by decide +kernel)
set_option maxRecDepth 20000 in
theorem gX7_rain_X1_rainOn : GoodIn wsX7_rain (wsV RX7 179 RX1 yX1_rainOn wsX1_rainOn) := goodIn_app (goodIn_of _ (by decide +kernel)) ggX7_rain_X1_rainOn
theorem dX7_rain_0 : decode cX7_rain 0 = .ok (.iload_n 1, 1) := by decide +kernel
theorem dX7_rain_1 : decode cX7_rain 1 = .ok (.invokestatic 108, 3) := by decide +kernel
theorem dX7_rain_4 : decode cX7_rain 4 = .ok (.ifCond .eq 44, 3) := by decide +kernel
theorem dX7_rain_7 : decode cX7_rain 7 = .ok (.iload_n 2, 1) := by decide +kernel
theorem dX7_rain_8 : decode cX7_rain 8 = .ok (.iconst 0, 1) := by decide +kernel
theorem dX7_rain_9 : decode cX7_rain 9 = .ok (.bipush 8, 2) := by decide +kernel
theorem dX7_rain_11 : decode cX7_rain 11 = .ok (.invokestatic 59, 3) := by decide +kernel
theorem dX7_rain_14 : decode cX7_rain 14 = .ok (.ifCond .eq 34, 3) := by decide +kernel
theorem dX7_rain_17 : decode cX7_rain 17 = .ok (.iload_n 3, 1) := by decide +kernel
theorem dX7_rain_18 : decode cX7_rain 18 = .ok (.iconst 0, 1) := by decide +kernel
theorem dX7_rain_19 : decode cX7_rain 19 = .ok (.bipush 10, 2) := by decide +kernel
theorem dX7_rain_21 : decode cX7_rain 21 = .ok (.invokestatic 59, 3) := by decide +kernel
theorem dX7_rain_24 : decode cX7_rain 24 = .ok (.ifCond .eq 24, 3) := by decide +kernel
theorem dX7_rain_27 : decode cX7_rain 27 = .ok (.iload 4, 2) := by decide +kernel
theorem dX7_rain_29 : decode cX7_rain 29 = .ok (.iconst 0, 1) := by decide +kernel
theorem dX7_rain_30 : decode cX7_rain 30 = .ok (.bipush 9, 2) := by decide +kernel
theorem dX7_rain_32 : decode cX7_rain 32 = .ok (.invokestatic 59, 3) := by decide +kernel
theorem dX7_rain_35 : decode cX7_rain 35 = .ok (.ifCond .eq 13, 3) := by decide +kernel
theorem dX7_rain_38 : decode cX7_rain 38 = .ok (.iload 5, 2) := by decide +kernel
theorem dX7_rain_40 : decode cX7_rain 40 = .ok (.iconst 0, 1) := by decide +kernel
theorem dX7_rain_41 : decode cX7_rain 41 = .ok (.iconst 1, 1) := by decide +kernel
theorem dX7_rain_42 : decode cX7_rain 42 = .ok (.invokestatic 59, 3) := by decide +kernel
theorem dX7_rain_45 : decode cX7_rain 45 = .ok (.ifCond .ne 7, 3) := by decide +kernel
theorem dX7_rain_48 : decode cX7_rain 48 = .ok (.ldc2_w 177, 3) := by decide +kernel
theorem dX7_rain_51 : decode cX7_rain 51 = .ok (.lreturn, 1) := by decide +kernel
theorem dX7_rain_52 : decode cX7_rain 52 = .ok (.aload_n 0, 1) := by decide +kernel
theorem dX7_rain_53 : decode cX7_rain 53 = .ok (.getfield 51, 3) := by decide +kernel
theorem dX7_rain_56 : decode cX7_rain 56 = .ok (.iload_n 1, 1) := by decide +kernel
theorem dX7_rain_57 : decode cX7_rain 57 = .ok (.iload_n 2, 1) := by decide +kernel
theorem dX7_rain_58 : decode cX7_rain 58 = .ok (.iload_n 3, 1) := by decide +kernel
theorem dX7_rain_59 : decode cX7_rain 59 = .ok (.iload 4, 2) := by decide +kernel
theorem dX7_rain_61 : decode cX7_rain 61 = .ok (.invokevirtual 179, 3) := by decide +kernel
theorem dX7_rain_64 : decode cX7_rain 64 = .ok (.iload 5, 2) := by decide +kernel
theorem dX7_rain_66 : decode cX7_rain 66 = .ok (.ifCond .ne 13, 3) := by decide +kernel
theorem dX7_rain_69 : decode cX7_rain 69 = .ok (.aload_n 0, 1) := by decide +kernel
theorem dX7_rain_70 : decode cX7_rain 70 = .ok (.getfield 51, 3) := by decide +kernel
theorem dX7_rain_73 : decode cX7_rain 73 = .ok (.getfield 183, 3) := by decide +kernel
theorem dX7_rain_76 : decode cX7_rain 76 = .ok (.goto 10, 3) := by decide +kernel
theorem dX7_rain_79 : decode cX7_rain 79 = .ok (.aload_n 0, 1) := by decide +kernel
theorem dX7_rain_80 : decode cX7_rain 80 = .ok (.getfield 51, 3) := by decide +kernel
theorem dX7_rain_83 : decode cX7_rain 83 = .ok (.getfield 187, 3) := by decide +kernel
theorem dX7_rain_86 : decode cX7_rain 86 = .ok (.lreturn, 1) := by decide +kernel
set_option maxRecDepth 20000 in
theorem ggX7_year_X7_within : GoodIn wsX7_year wsX7_within := goodIn_r _ [8] (by decide +kernel) (by decide +kernel)
set_option maxRecDepth 20000 in
theorem gX7_year_X7_within : GoodIn wsX7_year (va_wsS RX7 59 yX7_within wsX7_within) := goodIn_app (goodIn_of _ (by decide +kernel)) ggX7_year_X7_within
set_option maxRecDepth 20000 in
theorem ggX7_year_X7_isHour : GoodIn wsX7_year wsX7_isHour := goodIn_r _ [11] (by decide +kernel) (by decide +kernel)
set_option maxRecDepth 20000 in
theorem gX7_year_X7_isHour : GoodIn wsX7_year (va_wsS RX7 108 yX7_isHour wsX7_isHour) := goodIn_app (goodIn_of _ (by decide +kernel)) ggX7_year_X7_isHour
set_option maxRecDepth 20000 in
theorem ggX7_year_X1_drawYear : GoodIn wsX7_year wsX1_drawYear := goodIn_r _ [16, 17, 18, 19, 20, 21, 22, 23, 24, 25, 26, 27, 28, 29, 30, 31, 32, 33, 34, 35, 36, 37, 38, 39, 40, 41, 42, 43, 44, 7, 45, 46, 47, 48, 49, 50, 51, 52, 53, 54, 55, 56, 57, 58, 59, 60, 61, 62, 63, 64, 65, 66, 67, 68, 69, 70, 71, 72, 80, 81, 82, 83, 84, 85, 86, 87, 88, 89, 90, 91, 92, 93, 94, 95, 96, 97, 98, 99, 100, 101, 102, 103] (by decide +kernel) (by decide +kernel)
set_option maxRecDepth 20000 in
theorem gX7_year_X1_drawYear : GoodIn wsX7_year (wsV RX7 190 RX1 yX1_drawYear wsX1_drawYear) := goodIn_app (goodIn_of _ (by decide +kernel)) ggX7_year_X1_drawYear
theorem dX7_year_0 : decode cX7_year 0 = .ok (.iload_n 1, 1) := by decide +kernel
theorem dX7_year_1 : decode cX7_year 1 = .ok (.iconst 0, 1) := by decide +kernel
theorem dX7_year_2 : decode cX7_year 2 = .ok (.sipush 9999, 3) := by decide +kernel
theorem dX7_year_5 : decode cX7_year 5 = .ok (.invokestatic 59, 3) := by decide +kernel
theorem dX7_year_8 : decode cX7_year 8 = .ok (.ifCond .eq 30, 3) := by decide +kernel
theorem dX7_year_11 : decode cX7_year 11 = .ok (.iload_n 2, 1) := by decide +kernel
theorem dX7_year_12 : decode cX7_year 12 = .ok (.iconst 1, 1) := by decide +kernel
theorem dX7_year_13 : decode cX7_year 13 = .ok (.bipush 99, 2) := by decide +kernel
theorem dX7_year_15 : decode cX7_year 15 = .ok (.invokestatic 59, 3) := by decide +kernel
theorem dX7_year_18 : decode cX7_year 18 = .ok (.ifCond .eq 20, 3) := by decide +kernel
theorem dX7_year_21 : decode cX7_year 21 = .ok (.iload_n 3, 1) := by decide +kernel
theorem dX7_year_22 : decode cX7_year 22 = .ok (.invokestatic 108, 3) := by decide +kernel
theorem dX7_year_25 : decode cX7_year 25 = .ok (.ifCond .eq 13, 3) := by decide +kernel
theorem dX7_year_28 : decode cX7_year 28 = .ok (.iload 4, 2) := by decide +kernel
theorem dX7_year_30 : decode cX7_year 30 = .ok (.iconst 0, 1) := by decide +kernel
theorem dX7_year_31 : decode cX7_year 31 = .ok (.iconst 2, 1) := by decide +kernel
theorem dX7_year_32 : decode cX7_year 32 = .ok (.invokestatic 59, 3) := by decide +kernel
theorem dX7_year_35 : decode cX7_year 35 = .ok (.ifCond .ne 6, 3) := by decide +kernel
theorem dX7_year_38 : decode cX7_year 38 = .ok (.bipush (-2), 2) := by decide +kernel
theorem dX7_year_40 : decode cX7_year 40 = .ok (.ireturn, 1) := by decide +kernel
theorem dX7_year_41 : decode cX7_year 41 = .ok (.aload_n 0, 1) := by decide +kernel
theorem dX7_year_42 : decode cX7_year 42 = .ok (.getfield 51, 3) := by decide +kernel
theorem dX7_year_45 : decode cX7_year 45 = .ok (.iload_n 1, 1) := by decide +kernel
theorem dX7_year_46 : decode cX7_year 46 = .ok (.iload_n 2, 1) := by decide +kernel
theorem dX7_year_47 : decode cX7_year 47 = .ok (.iload_n 3, 1) := by decide +kernel
theorem dX7_year_48 : decode cX7_year 48 = .ok (.invokevirtual 190, 3) := by decide +kernel
theorem dX7_year_51 : decode cX7_year 51 = .ok (.iload 4, 2) := by decide +kernel
theorem dX7_year_53 : decode cX7_year 53 = .ok (.ifCond .ne 11, 3) := by decide +kernel
theorem dX7_year_56 : decode cX7_year 56 = .ok (.aload_n 0, 1) := by decide +kernel
theorem dX7_year_57 : decode cX7_year 57 = .ok (.getfield 51, 3) := by decide +kernel
theorem dX7_year_60 : decode cX7_year 60 = .ok (.getfield 194, 3) := by decide +kernel
theorem dX7_year_63 : decode cX7_year 63 = .ok (.ireturn, 1) := by decide +kernel
theorem dX7_year_64 : decode cX7_year 64 = .ok (.iload 4, 2) := by decide +kernel
theorem dX7_year_66 : decode cX7_year 66 = .ok (.iconst 1, 1) := by decide +kernel
theorem dX7_year_67 : decode cX7_year 67 = .ok (.if_icmp .ne 13, 3) := by decide +kernel
theorem dX7_year_70 : decode cX7_year 70 = .ok (.aload_n 0, 1) := by decide +kernel
theorem dX7_year_71 : decode cX7_year 71 = .ok (.getfield 51, 3) := by decide +kernel
theorem dX7_year_74 : decode cX7_year 74 = .ok (.getfield 197, 3) := by decide +kernel
theorem dX7_year_77 : decode cX7_year 77 = .ok (.goto 10, 3) := by decide +kernel
theorem dX7_year_80 : decode cX7_year 80 = .ok (.aload_n 0, 1) := by decide +kernel
theorem dX7_year_81 : decode cX7_year 81 = .ok (.getfield 51, 3) := by decide +kernel
theorem dX7_year_84 : decode cX7_year 84 = .ok (.getfield 200, 3) := by decide +kernel
theorem dX7_year_87 : decode cX7_year 87 = .ok (.ireturn, 1) := by decide +kernel
set_option maxRecDepth 20000 in
theorem ggX7_image_X7_within : GoodIn wsX7_image wsX7_within := goodIn_r _ [9] (by decide +kernel) (by decide +kernel)
set_option maxRecDepth 20000 in
theorem gX7_image_X7_within : GoodIn wsX7_image (va_wsS RX7 59 yX7_within wsX7_within) := goodIn_app (goodIn_of _ (by decide +kernel)) ggX7_image_X7_within
set_option maxRecDepth 20000 in
theorem ggX7_image_X3_init : GoodIn wsX7_image wsX3_init := goodIn_r _ [12, 13, 14, 15, 16, 17, 18, 19, 20, 21, 22, 23, 24, 25, 26, 27, 28, 29, 30, 31, 32, 33, 34, 35, 36, 37, 65, 66, 67, 68, 69, 70, 71, 72, 73, 74, 75] (by decide +kernel) (by decide +kernel)
set_option maxRecDepth 20000 in
theorem gX7_image_X3_init : GoodIn wsX7_image (wsX3_init) := ggX7_image_X3_init
set_option maxRecDepth 20000 in
theorem ggX7_image_X3_become : GoodIn wsX7_image wsX3_become := goodIn_r _ [41, 27, 26, 42, 23, 43, 44, 17, 45, 46, 47, 48, 18, 19, 24, 25, 49, 50, 51, 22, 52, 53, 54, 55, 56, 33, 32, 57, 65, 66, 67, 68, 69, 70, 71, 72, 73, 74, 75] (by decide +kernel) (by decide +kernel)
set_option maxRecDepth 20000 in
theorem gX7_image_X3_become : GoodIn wsX7_image (wsV RX7 203 RX3 yX3_become wsX3_become) := goodIn_app (goodIn_of _ (by decide +kernel)) ggX7_image_X3_become
theorem dX7_image_0 : decode cX7_image 0 = .ok (.iload_n 1, 1) := by decide +kernel
theorem dX7_image_1 : decode cX7_image 1 = .ok (.iconst 0, 1) := by decide +kernel
theorem dX7_image_2 : decode cX7_image 2 = .ok (.iconst 1, 1) := by decide +kernel
theorem dX7_image_3 : decode cX7_image 3 = .ok (.invokestatic 59, 3) := by decide +kernel
theorem dX7_image_6 : decode cX7_image 6 = .ok (.ifCond .ne 6, 3) := by decide +kernel
theorem dX7_image_9 : decode cX7_image 9 = .ok (.bipush (-2), 2) := by decide +kernel
theorem dX7_image_11 : decode cX7_image 11 = .ok (.ireturn, 1) := by decide +kernel
theorem dX7_image_12 : decode cX7_image 12 = .ok (.aload_n 0, 1) := by decide +kernel
theorem dX7_image_13 : decode cX7_image 13 = .ok (.getfield 55, 3) := by decide +kernel
theorem dX7_image_16 : decode cX7_image 16 = .ok (.iload_n 1, 1) := by decide +kernel
theorem dX7_image_17 : decode cX7_image 17 = .ok (.aaload, 1) := by decide +kernel
theorem dX7_image_18 : decode cX7_image 18 = .ok (.astore_n 2, 1) := by decide +kernel
theorem dX7_image_19 : decode cX7_image 19 = .ok (.aload_n 2, 1) := by decide +kernel
theorem dX7_image_20 : decode cX7_image 20 = .ok (.ifnonnull 18, 3) := by decide +kernel
theorem dX7_image_23 : decode cX7_image 23 = .ok (.new 7, 3) := by decide +kernel
theorem dX7_image_26 : decode cX7_image 26 = .ok (.dup, 1) := by decide +kernel
theorem dX7_image_27 : decode cX7_image 27 = .ok (.invokespecial 9, 3) := by decide +kernel
theorem dX7_image_30 : decode cX7_image 30 = .ok (.astore_n 2, 1) := by decide +kernel
theorem dX7_image_31 : decode cX7_image 31 = .ok (.aload_n 0, 1) := by decide +kernel
theorem dX7_image_32 : decode cX7_image 32 = .ok (.getfield 55, 3) := by decide +kernel
theorem dX7_image_35 : decode cX7_image 35 = .ok (.iload_n 1, 1) := by decide +kernel
theorem dX7_image_36 : decode cX7_image 36 = .ok (.aload_n 2, 1) := by decide +kernel
theorem dX7_image_37 : decode cX7_image 37 = .ok (.aastore, 1) := by decide +kernel
theorem dX7_image_38 : decode cX7_image 38 = .ok (.aload_n 2, 1) := by decide +kernel
theorem dX7_image_39 : decode cX7_image 39 = .ok (.aload_n 0, 1) := by decide +kernel
theorem dX7_image_40 : decode cX7_image 40 = .ok (.getfield 15, 3) := by decide +kernel
theorem dX7_image_43 : decode cX7_image 43 = .ok (.invokevirtual 203, 3) := by decide +kernel
theorem dX7_image_46 : decode cX7_image 46 = .ok (.iconst 1, 1) := by decide +kernel
theorem dX7_image_47 : decode cX7_image 47 = .ok (.ireturn, 1) := by decide +kernel
set_option maxRecDepth 20000 in
theorem ggX7_restore_X7_within : GoodIn wsX7_restore wsX7_within := goodIn_r _ [6] (by decide +kernel) (by decide +kernel)
set_option maxRecDepth 20000 in
theorem gX7_restore_X7_within : GoodIn wsX7_restore (va_wsS RX7 59 yX7_within wsX7_within) := goodIn_app (goodIn_of _ (by decide +kernel)) ggX7_restore_X7_within
set_option maxRecDepth 20000 in
theorem ggX7_restore_X3_become : GoodIn wsX7_restore wsX3_become := goodIn_r _ [11, 12, 13, 14, 15, 16, 17, 18, 19, 20, 21, 22, 23, 24, 25, 26, 27, 28, 29, 30, 31, 32, 33, 34, 35, 36, 37, 38, 46, 47, 48, 49, 50, 51, 52, 53, 54, 55, 56] (by decide +kernel) (by decide +kernel)
set_option maxRecDepth 20000 in
theorem gX7_restore_X3_become : GoodIn wsX7_restore (wsV RX7 203 RX3 yX3_become wsX3_become) := goodIn_app (goodIn_of _ (by decide +kernel)) ggX7_restore_X3_become
theorem dX7_restore_0 : decode cX7_restore 0 = .ok (.iload_n 1, 1) := by decide +kernel
theorem dX7_restore_1 : decode cX7_restore 1 = .ok (.iconst 0, 1) := by decide +kernel
theorem dX7_restore_2 : decode cX7_restore 2 = .ok (.iconst 1, 1) := by decide +kernel
theorem dX7_restore_3 : decode cX7_restore 3 = .ok (.invokestatic 59, 3) := by decide +kernel
theorem dX7_restore_6 : decode cX7_restore 6 = .ok (.ifCond .ne 6, 3) := by decide +kernel
theorem dX7_restore_9 : decode cX7_restore 9 = .ok (.bipush (-2), 2) := by decide +kernel
theorem dX7_restore_11 : decode cX7_restore 11 = .ok (.ireturn, 1) := by decide +kernel
theorem dX7_restore_12 : decode cX7_restore 12 = .ok (.aload_n 0, 1) := by decide +kernel
theorem dX7_restore_13 : decode cX7_restore 13 = .ok (.getfield 55, 3) := by decide +kernel
theorem dX7_restore_16 : decode cX7_restore 16 = .ok (.iload_n 1, 1) := by decide +kernel
theorem dX7_restore_17 : decode cX7_restore 17 = .ok (.aaload, 1) := by decide +kernel
theorem dX7_restore_18 : decode cX7_restore 18 = .ok (.astore_n 2, 1) := by decide +kernel
theorem dX7_restore_19 : decode cX7_restore 19 = .ok (.aload_n 2, 1) := by decide +kernel
theorem dX7_restore_20 : decode cX7_restore 20 = .ok (.ifnonnull 6, 3) := by decide +kernel
theorem dX7_restore_23 : decode cX7_restore 23 = .ok (.bipush (-3), 2) := by decide +kernel
theorem dX7_restore_25 : decode cX7_restore 25 = .ok (.ireturn, 1) := by decide +kernel
theorem dX7_restore_26 : decode cX7_restore 26 = .ok (.aload_n 0, 1) := by decide +kernel
theorem dX7_restore_27 : decode cX7_restore 27 = .ok (.getfield 15, 3) := by decide +kernel
theorem dX7_restore_30 : decode cX7_restore 30 = .ok (.aload_n 2, 1) := by decide +kernel
theorem dX7_restore_31 : decode cX7_restore 31 = .ok (.invokevirtual 203, 3) := by decide +kernel
theorem dX7_restore_34 : decode cX7_restore 34 = .ok (.iconst 1, 1) := by decide +kernel
theorem dX7_restore_35 : decode cX7_restore 35 = .ok (.ireturn, 1) := by decide +kernel
set_option maxRecDepth 20000 in
theorem ggX7_told_X7_toldOfRows : GoodIn wsX7_told wsX7_toldOfRows := goodIn_r _ [13, 3, 6, 7, 14, 15, 16, 12, 17, 18, 19, 20, 21, 22, 23, 24, 25, 26, 27, 28, 29, 30, 31, 32, 33, 34, 35, 36, 37, 38, 39, 40, 41, 44, 45, 46, 47, 48, 49, 50, 51, 52, 53, 54] (by decide +kernel) (by decide +kernel)
set_option maxRecDepth 20000 in
theorem gX7_told_X7_toldOfRows : GoodIn wsX7_told (wsV RX7 206 RX7 yX7_toldOfRows wsX7_toldOfRows) := goodIn_app (goodIn_of _ (by decide +kernel)) ggX7_told_X7_toldOfRows
theorem dX7_told_0 : decode cX7_told 0 = .ok (.iload_n 1, 1) := by decide +kernel
theorem dX7_told_1 : decode cX7_told 1 = .ok (.tableswitch 78 0 4 #[35, 43, 51, 59, 70], 35) := by decide +kernel
theorem dX7_told_36 : decode cX7_told 36 = .ok (.aload_n 0, 1) := by decide +kernel
theorem dX7_told_37 : decode cX7_told 37 = .ok (.getfield 28, 3) := by decide +kernel
theorem dX7_told_40 : decode cX7_told 40 = .ok (.getfield 82, 3) := by decide +kernel
theorem dX7_told_43 : decode cX7_told 43 = .ok (.ireturn, 1) := by decide +kernel
theorem dX7_told_44 : decode cX7_told 44 = .ok (.aload_n 0, 1) := by decide +kernel
theorem dX7_told_45 : decode cX7_told 45 = .ok (.getfield 15, 3) := by decide +kernel
theorem dX7_told_48 : decode cX7_told 48 = .ok (.getfield 63, 3) := by decide +kernel
theorem dX7_told_51 : decode cX7_told 51 = .ok (.ireturn, 1) := by decide +kernel
theorem dX7_told_52 : decode cX7_told 52 = .ok (.aload_n 0, 1) := by decide +kernel
theorem dX7_told_53 : decode cX7_told 53 = .ok (.getfield 15, 3) := by decide +kernel
theorem dX7_told_56 : decode cX7_told 56 = .ok (.getfield 79, 3) := by decide +kernel
theorem dX7_told_59 : decode cX7_told 59 = .ok (.ireturn, 1) := by decide +kernel
theorem dX7_told_60 : decode cX7_told 60 = .ok (.aload_n 0, 1) := by decide +kernel
theorem dX7_told_61 : decode cX7_told 61 = .ok (.getfield 15, 3) := by decide +kernel
theorem dX7_told_64 : decode cX7_told 64 = .ok (.getfield 91, 3) := by decide +kernel
theorem dX7_told_67 : decode cX7_told 67 = .ok (.getfield 105, 3) := by decide +kernel
theorem dX7_told_70 : decode cX7_told 70 = .ok (.ireturn, 1) := by decide +kernel
theorem dX7_told_71 : decode cX7_told 71 = .ok (.aload_n 0, 1) := by decide +kernel
theorem dX7_told_72 : decode cX7_told 72 = .ok (.getfield 15, 3) := by decide +kernel
theorem dX7_told_75 : decode cX7_told 75 = .ok (.getfield 168, 3) := by decide +kernel
theorem dX7_told_78 : decode cX7_told 78 = .ok (.ireturn, 1) := by decide +kernel
theorem dX7_told_79 : decode cX7_told 79 = .ok (.aload_n 0, 1) := by decide +kernel
theorem dX7_told_80 : decode cX7_told 80 = .ok (.iload_n 1, 1) := by decide +kernel
theorem dX7_told_81 : decode cX7_told 81 = .ok (.invokevirtual 206, 3) := by decide +kernel
theorem dX7_told_84 : decode cX7_told 84 = .ok (.ireturn, 1) := by decide +kernel
set_option maxRecDepth 20000 in
theorem ggX7_toldOfRows_X7_within : GoodIn wsX7_toldOfRows wsX7_within := goodIn_r _ [8] (by decide +kernel) (by decide +kernel)
set_option maxRecDepth 20000 in
theorem gX7_toldOfRows_X7_within : GoodIn wsX7_toldOfRows (va_wsS RX7 59 yX7_within wsX7_within) := goodIn_app (goodIn_of _ (by decide +kernel)) ggX7_toldOfRows_X7_within
set_option maxRecDepth 20000 in
theorem ggX7_toldOfRows_X3_toldOfMember : GoodIn wsX7_toldOfRows wsX3_toldOfMember := goodIn_r _ [13, 14, 15, 16, 12, 17, 18, 19, 20, 21, 22, 23, 24, 25, 33, 34, 35, 36, 37, 38, 39, 40, 41] (by decide +kernel) (by decide +kernel)
set_option maxRecDepth 20000 in
theorem gX7_toldOfRows_X3_toldOfMember : GoodIn wsX7_toldOfRows (wsV RX7 209 RX3 yX3_toldOfMember wsX3_toldOfMember) := goodIn_app (goodIn_of _ (by decide +kernel)) ggX7_toldOfRows_X3_toldOfMember
theorem dX7_toldOfRows_0 : decode cX7_toldOfRows 0 = .ok (.iload_n 1, 1) := by decide +kernel
theorem dX7_toldOfRows_1 : decode cX7_toldOfRows 1 = .ok (.bipush 10, 2) := by decide +kernel
theorem dX7_toldOfRows_3 : decode cX7_toldOfRows 3 = .ok (.bipush 39, 2) := by decide +kernel
theorem dX7_toldOfRows_5 : decode cX7_toldOfRows 5 = .ok (.invokestatic 59, 3) := by decide +kernel
theorem dX7_toldOfRows_8 : decode cX7_toldOfRows 8 = .ok (.ifCond .eq 21, 3) := by decide +kernel
theorem dX7_toldOfRows_11 : decode cX7_toldOfRows 11 = .ok (.aload_n 0, 1) := by decide +kernel
theorem dX7_toldOfRows_12 : decode cX7_toldOfRows 12 = .ok (.getfield 15, 3) := by decide +kernel
theorem dX7_toldOfRows_15 : decode cX7_toldOfRows 15 = .ok (.iload_n 1, 1) := by decide +kernel
theorem dX7_toldOfRows_16 : decode cX7_toldOfRows 16 = .ok (.bipush 10, 2) := by decide +kernel
theorem dX7_toldOfRows_18 : decode cX7_toldOfRows 18 = .ok (.idiv, 1) := by decide +kernel
theorem dX7_toldOfRows_19 : decode cX7_toldOfRows 19 = .ok (.iconst 1, 1) := by decide +kernel
theorem dX7_toldOfRows_20 : decode cX7_toldOfRows 20 = .ok (.isub, 1) := by decide +kernel
theorem dX7_toldOfRows_21 : decode cX7_toldOfRows 21 = .ok (.iload_n 1, 1) := by decide +kernel
theorem dX7_toldOfRows_22 : decode cX7_toldOfRows 22 = .ok (.bipush 10, 2) := by decide +kernel
theorem dX7_toldOfRows_24 : decode cX7_toldOfRows 24 = .ok (.irem, 1) := by decide +kernel
theorem dX7_toldOfRows_25 : decode cX7_toldOfRows 25 = .ok (.invokevirtual 209, 3) := by decide +kernel
theorem dX7_toldOfRows_28 : decode cX7_toldOfRows 28 = .ok (.ireturn, 1) := by decide +kernel
theorem dX7_toldOfRows_29 : decode cX7_toldOfRows 29 = .ok (.iload_n 1, 1) := by decide +kernel
theorem dX7_toldOfRows_30 : decode cX7_toldOfRows 30 = .ok (.bipush 40, 2) := by decide +kernel
theorem dX7_toldOfRows_32 : decode cX7_toldOfRows 32 = .ok (.if_icmp .lt 36, 3) := by decide +kernel
theorem dX7_toldOfRows_35 : decode cX7_toldOfRows 35 = .ok (.iload_n 1, 1) := by decide +kernel
theorem dX7_toldOfRows_36 : decode cX7_toldOfRows 36 = .ok (.bipush 40, 2) := by decide +kernel
theorem dX7_toldOfRows_38 : decode cX7_toldOfRows 38 = .ok (.isub, 1) := by decide +kernel
theorem dX7_toldOfRows_39 : decode cX7_toldOfRows 39 = .ok (.aload_n 0, 1) := by decide +kernel
theorem dX7_toldOfRows_40 : decode cX7_toldOfRows 40 = .ok (.getfield 15, 3) := by decide +kernel
theorem dX7_toldOfRows_43 : decode cX7_toldOfRows 43 = .ok (.getfield 91, 3) := by decide +kernel
theorem dX7_toldOfRows_46 : decode cX7_toldOfRows 46 = .ok (.getfield 105, 3) := by decide +kernel
theorem dX7_toldOfRows_49 : decode cX7_toldOfRows 49 = .ok (.if_icmp .ge 19, 3) := by decide +kernel
theorem dX7_toldOfRows_52 : decode cX7_toldOfRows 52 = .ok (.aload_n 0, 1) := by decide +kernel
theorem dX7_toldOfRows_53 : decode cX7_toldOfRows 53 = .ok (.getfield 15, 3) := by decide +kernel
theorem dX7_toldOfRows_56 : decode cX7_toldOfRows 56 = .ok (.getfield 91, 3) := by decide +kernel
theorem dX7_toldOfRows_59 : decode cX7_toldOfRows 59 = .ok (.getfield 212, 3) := by decide +kernel
theorem dX7_toldOfRows_62 : decode cX7_toldOfRows 62 = .ok (.iload_n 1, 1) := by decide +kernel
theorem dX7_toldOfRows_63 : decode cX7_toldOfRows 63 = .ok (.bipush 40, 2) := by decide +kernel
theorem dX7_toldOfRows_65 : decode cX7_toldOfRows 65 = .ok (.isub, 1) := by decide +kernel
theorem dX7_toldOfRows_66 : decode cX7_toldOfRows 66 = .ok (.iaload, 1) := by decide +kernel
theorem dX7_toldOfRows_67 : decode cX7_toldOfRows 67 = .ok (.ireturn, 1) := by decide +kernel
theorem dX7_toldOfRows_68 : decode cX7_toldOfRows 68 = .ok (.bipush (-2), 2) := by decide +kernel
theorem dX7_toldOfRows_70 : decode cX7_toldOfRows 70 = .ok (.ireturn, 1) := by decide +kernel
theorem dX7_within_0 : decode cX7_within 0 = .ok (.iload_n 0, 1) := by decide +kernel
theorem dX7_within_1 : decode cX7_within 1 = .ok (.iload_n 1, 1) := by decide +kernel
theorem dX7_within_2 : decode cX7_within 2 = .ok (.if_icmp .lt 12, 3) := by decide +kernel
theorem dX7_within_5 : decode cX7_within 5 = .ok (.iload_n 0, 1) := by decide +kernel
theorem dX7_within_6 : decode cX7_within 6 = .ok (.iload_n 2, 1) := by decide +kernel
theorem dX7_within_7 : decode cX7_within 7 = .ok (.if_icmp .gt 7, 3) := by decide +kernel
theorem dX7_within_10 : decode cX7_within 10 = .ok (.iconst 1, 1) := by decide +kernel
theorem dX7_within_11 : decode cX7_within 11 = .ok (.goto 4, 3) := by decide +kernel
theorem dX7_within_14 : decode cX7_within 14 = .ok (.iconst 0, 1) := by decide +kernel
theorem dX7_within_15 : decode cX7_within 15 = .ok (.ireturn, 1) := by decide +kernel
theorem dX7_isHour_0 : decode cX7_isHour 0 = .ok (.iload_n 0, 1) := by decide +kernel
theorem dX7_isHour_1 : decode cX7_isHour 1 = .ok (.ifCond .lt 13, 3) := by decide +kernel
theorem dX7_isHour_4 : decode cX7_isHour 4 = .ok (.iload_n 0, 1) := by decide +kernel
theorem dX7_isHour_5 : decode cX7_isHour 5 = .ok (.bipush 23, 2) := by decide +kernel
theorem dX7_isHour_7 : decode cX7_isHour 7 = .ok (.if_icmp .gt 7, 3) := by decide +kernel
theorem dX7_isHour_10 : decode cX7_isHour 10 = .ok (.iconst 1, 1) := by decide +kernel
theorem dX7_isHour_11 : decode cX7_isHour 11 = .ok (.goto 4, 3) := by decide +kernel
theorem dX7_isHour_14 : decode cX7_isHour 14 = .ok (.iconst 0, 1) := by decide +kernel
theorem dX7_isHour_15 : decode cX7_isHour 15 = .ok (.ireturn, 1) := by decide +kernel
theorem dX7_comingAt_0 : decode cX7_comingAt 0 = .ok (.bipush 23, 2) := by decide +kernel
theorem dX7_comingAt_2 : decode cX7_comingAt 2 = .ok (.iload_n 0, 1) := by decide +kernel
theorem dX7_comingAt_3 : decode cX7_comingAt 3 = .ok (.iload_n 1, 1) := by decide +kernel
theorem dX7_comingAt_4 : decode cX7_comingAt 4 = .ok (.invokestatic 213, 3) := by decide +kernel
theorem dX7_comingAt_7 : decode cX7_comingAt 7 = .ok (.iload_n 2, 1) := by decide +kernel
theorem dX7_comingAt_8 : decode cX7_comingAt 8 = .ok (.iadd, 1) := by decide +kernel
theorem dX7_comingAt_9 : decode cX7_comingAt 9 = .ok (.invokestatic 218, 3) := by decide +kernel
theorem dX7_comingAt_12 : decode cX7_comingAt 12 = .ok (.ireturn, 1) := by decide +kernel
set_option maxRecDepth 20000 in
theorem ggX8_init_X8_plain : GoodIn wsX8_init wsX8_plain := goodIn_r _ [27, 6, 7, 8, 28, 29, 30, 31, 32, 33, 34, 35, 36, 37, 38, 39, 40, 41, 42, 43, 44, 45, 46, 47, 48, 49, 50, 51] (by decide +kernel) (by decide +kernel)
set_option maxRecDepth 20000 in
theorem gX8_init_X8_plain : GoodIn wsX8_init (wsV RX8 63 RX8 yX8_plain wsX8_plain) := goodIn_app (goodIn_of _ (by decide +kernel)) ggX8_init_X8_plain
theorem dX8_init_0 : decode cX8_init 0 = .ok (.aload_n 0, 1) := by decide +kernel
theorem dX8_init_1 : decode cX8_init 1 = .ok (.invokespecial 1, 3) := by decide +kernel
theorem dX8_init_4 : decode cX8_init 4 = .ok (.aload_n 0, 1) := by decide +kernel
theorem dX8_init_5 : decode cX8_init 5 = .ok (.iconst 4, 1) := by decide +kernel
theorem dX8_init_6 : decode cX8_init 6 = .ok (.putfield 7, 3) := by decide +kernel
theorem dX8_init_9 : decode cX8_init 9 = .ok (.aload_n 0, 1) := by decide +kernel
theorem dX8_init_10 : decode cX8_init 10 = .ok (.bipush 6, 2) := by decide +kernel
theorem dX8_init_12 : decode cX8_init 12 = .ok (.newarray .int, 2) := by decide +kernel
theorem dX8_init_14 : decode cX8_init 14 = .ok (.putfield 13, 3) := by decide +kernel
theorem dX8_init_17 : decode cX8_init 17 = .ok (.aload_n 0, 1) := by decide +kernel
theorem dX8_init_18 : decode cX8_init 18 = .ok (.bipush 6, 2) := by decide +kernel
theorem dX8_init_20 : decode cX8_init 20 = .ok (.newarray .int, 2) := by decide +kernel
theorem dX8_init_22 : decode cX8_init 22 = .ok (.putfield 17, 3) := by decide +kernel
theorem dX8_init_25 : decode cX8_init 25 = .ok (.aload_n 0, 1) := by decide +kernel
theorem dX8_init_26 : decode cX8_init 26 = .ok (.bipush 6, 2) := by decide +kernel
theorem dX8_init_28 : decode cX8_init 28 = .ok (.newarray .int, 2) := by decide +kernel
theorem dX8_init_30 : decode cX8_init 30 = .ok (.putfield 20, 3) := by decide +kernel
theorem dX8_init_33 : decode cX8_init 33 = .ok (.aload_n 0, 1) := by decide +kernel
theorem dX8_init_34 : decode cX8_init 34 = .ok (.iconst 1, 1) := by decide +kernel
theorem dX8_init_35 : decode cX8_init 35 = .ok (.putfield 23, 3) := by decide +kernel
theorem dX8_init_38 : decode cX8_init 38 = .ok (.aload_n 0, 1) := by decide +kernel
theorem dX8_init_39 : decode cX8_init 39 = .ok (.iconst 1, 1) := by decide +kernel
theorem dX8_init_40 : decode cX8_init 40 = .ok (.putfield 26, 3) := by decide +kernel
theorem dX8_init_43 : decode cX8_init 43 = .ok (.aload_n 0, 1) := by decide +kernel
theorem dX8_init_44 : decode cX8_init 44 = .ok (.bipush 20, 2) := by decide +kernel
theorem dX8_init_46 : decode cX8_init 46 = .ok (.newarray .int, 2) := by decide +kernel
theorem dX8_init_48 : decode cX8_init 48 = .ok (.putfield 29, 3) := by decide +kernel
theorem dX8_init_51 : decode cX8_init 51 = .ok (.aload_n 0, 1) := by decide +kernel
theorem dX8_init_52 : decode cX8_init 52 = .ok (.bipush 12, 2) := by decide +kernel
theorem dX8_init_54 : decode cX8_init 54 = .ok (.newarray .int, 2) := by decide +kernel
theorem dX8_init_56 : decode cX8_init 56 = .ok (.putfield 32, 3) := by decide +kernel
theorem dX8_init_59 : decode cX8_init 59 = .ok (.aload_n 0, 1) := by decide +kernel
theorem dX8_init_60 : decode cX8_init 60 = .ok (.bipush 48, 2) := by decide +kernel
theorem dX8_init_62 : decode cX8_init 62 = .ok (.newarray .int, 2) := by decide +kernel
theorem dX8_init_64 : decode cX8_init 64 = .ok (.putfield 35, 3) := by decide +kernel
theorem dX8_init_67 : decode cX8_init 67 = .ok (.aload_n 0, 1) := by decide +kernel
theorem dX8_init_68 : decode cX8_init 68 = .ok (.bipush 6, 2) := by decide +kernel
theorem dX8_init_70 : decode cX8_init 70 = .ok (.newarray .int, 2) := by decide +kernel
theorem dX8_init_72 : decode cX8_init 72 = .ok (.putfield 38, 3) := by decide +kernel
theorem dX8_init_75 : decode cX8_init 75 = .ok (.aload_n 0, 1) := by decide +kernel
theorem dX8_init_76 : decode cX8_init 76 = .ok (.bipush 6, 2) := by decide +kernel
theorem dX8_init_78 : decode cX8_init 78 = .ok (.newarray .int, 2) := by decide +kernel
theorem dX8_init_80 : decode cX8_init 80 = .ok (.putfield 41, 3) := by decide +kernel
theorem dX8_init_83 : decode cX8_init 83 = .ok (.aload_n 0, 1) := by decide +kernel
theorem dX8_init_84 : decode cX8_init 84 = .ok (.bipush 24, 2) := by decide +kernel
theorem dX8_init_86 : decode cX8_init 86 = .ok (.newarray .int, 2) := by decide +kernel
theorem dX8_init_88 : decode cX8_init 88 = .ok (.putfield 44, 3) := by decide +kernel
theorem dX8_init_91 : decode cX8_init 91 = .ok (.aload_n 0, 1) := by decide +kernel
theorem dX8_init_92 : decode cX8_init 92 = .ok (.bipush 24, 2) := by decide +kernel
theorem dX8_init_94 : decode cX8_init 94 = .ok (.newarray .int, 2) := by decide +kernel
theorem dX8_init_96 : decode cX8_init 96 = .ok (.putfield 47, 3) := by decide +kernel
theorem dX8_init_99 : decode cX8_init 99 = .ok (.aload_n 0, 1) := by decide +kernel
theorem dX8_init_100 : decode cX8_init 100 = .ok (.sipush 4096, 3) := by decide +kernel
theorem dX8_init_103 : decode cX8_init 103 = .ok (.newarray .int, 2) := by decide +kernel
theorem dX8_init_105 : decode cX8_init 105 = .ok (.putfield 50, 3) := by decide +kernel
theorem dX8_init_108 : decode cX8_init 108 = .ok (.aload_n 0, 1) := by decide +kernel
theorem dX8_init_109 : decode cX8_init 109 = .ok (.bipush 20, 2) := by decide +kernel
theorem dX8_init_111 : decode cX8_init 111 = .ok (.newarray .int, 2) := by decide +kernel
theorem dX8_init_113 : decode cX8_init 113 = .ok (.putfield 53, 3) := by decide +kernel
theorem dX8_init_116 : decode cX8_init 116 = .ok (.aload_n 0, 1) := by decide +kernel
theorem dX8_init_117 : decode cX8_init 117 = .ok (.bipush 112, 2) := by decide +kernel
theorem dX8_init_119 : decode cX8_init 119 = .ok (.newarray .int, 2) := by decide +kernel
theorem dX8_init_121 : decode cX8_init 121 = .ok (.putfield 56, 3) := by decide +kernel
theorem dX8_init_124 : decode cX8_init 124 = .ok (.aload_n 0, 1) := by decide +kernel
theorem dX8_init_125 : decode cX8_init 125 = .ok (.iconst 2, 1) := by decide +kernel
theorem dX8_init_126 : decode cX8_init 126 = .ok (.newarray .boolean, 2) := by decide +kernel
theorem dX8_init_128 : decode cX8_init 128 = .ok (.putfield 59, 3) := by decide +kernel
theorem dX8_init_131 : decode cX8_init 131 = .ok (.aload_n 0, 1) := by decide +kernel
theorem dX8_init_132 : decode cX8_init 132 = .ok (.getfield 29, 3) := by decide +kernel
theorem dX8_init_135 : decode cX8_init 135 = .ok (.iconst 0, 1) := by decide +kernel
theorem dX8_init_136 : decode cX8_init 136 = .ok (.bipush 108, 2) := by decide +kernel
theorem dX8_init_138 : decode cX8_init 138 = .ok (.iastore, 1) := by decide +kernel
theorem dX8_init_139 : decode cX8_init 139 = .ok (.aload_n 0, 1) := by decide +kernel
theorem dX8_init_140 : decode cX8_init 140 = .ok (.invokevirtual 63, 3) := by decide +kernel
theorem dX8_init_143 : decode cX8_init 143 = .ok (.return_, 1) := by decide +kernel
theorem dX8_plain_0 : decode cX8_plain 0 = .ok (.iconst 0, 1) := by decide +kernel
theorem dX8_plain_1 : decode cX8_plain 1 = .ok (.istore_n 1, 1) := by decide +kernel
theorem dX8_plain_2 : decode cX8_plain 2 = .ok (.iload_n 1, 1) := by decide +kernel
theorem dX8_plain_3 : decode cX8_plain 3 = .ok (.bipush 6, 2) := by decide +kernel
theorem dX8_plain_5 : decode cX8_plain 5 = .ok (.if_icmp .ge 31, 3) := by decide +kernel
theorem dX8_plain_8 : decode cX8_plain 8 = .ok (.aload_n 0, 1) := by decide +kernel
theorem dX8_plain_9 : decode cX8_plain 9 = .ok (.getfield 13, 3) := by decide +kernel
theorem dX8_plain_12 : decode cX8_plain 12 = .ok (.iload_n 1, 1) := by decide +kernel
theorem dX8_plain_13 : decode cX8_plain 13 = .ok (.iconst 0, 1) := by decide +kernel
theorem dX8_plain_14 : decode cX8_plain 14 = .ok (.iastore, 1) := by decide +kernel
theorem dX8_plain_15 : decode cX8_plain 15 = .ok (.aload_n 0, 1) := by decide +kernel
theorem dX8_plain_16 : decode cX8_plain 16 = .ok (.getfield 17, 3) := by decide +kernel
theorem dX8_plain_19 : decode cX8_plain 19 = .ok (.iload_n 1, 1) := by decide +kernel
theorem dX8_plain_20 : decode cX8_plain 20 = .ok (.iconst 0, 1) := by decide +kernel
theorem dX8_plain_21 : decode cX8_plain 21 = .ok (.iastore, 1) := by decide +kernel
theorem dX8_plain_22 : decode cX8_plain 22 = .ok (.aload_n 0, 1) := by decide +kernel
theorem dX8_plain_23 : decode cX8_plain 23 = .ok (.getfield 20, 3) := by decide +kernel
theorem dX8_plain_26 : decode cX8_plain 26 = .ok (.iload_n 1, 1) := by decide +kernel
theorem dX8_plain_27 : decode cX8_plain 27 = .ok (.bipush 12, 2) := by decide +kernel
theorem dX8_plain_29 : decode cX8_plain 29 = .ok (.iastore, 1) := by decide +kernel
theorem dX8_plain_30 : decode cX8_plain 30 = .ok (.iinc 1 1, 3) := by decide +kernel
theorem dX8_plain_33 : decode cX8_plain 33 = .ok (.goto (-31), 3) := by decide +kernel
theorem dX8_plain_36 : decode cX8_plain 36 = .ok (.aload_n 0, 1) := by decide +kernel
theorem dX8_plain_37 : decode cX8_plain 37 = .ok (.iconst 0, 1) := by decide +kernel
theorem dX8_plain_38 : decode cX8_plain 38 = .ok (.putfield 66, 3) := by decide +kernel
theorem dX8_plain_41 : decode cX8_plain 41 = .ok (.return_, 1) := by decide +kernel
theorem dX8_in_0 : decode cX8_in 0 = .ok (.iload_n 0, 1) := by decide +kernel
theorem dX8_in_1 : decode cX8_in 1 = .ok (.iload_n 1, 1) := by decide +kernel
theorem dX8_in_2 : decode cX8_in 2 = .ok (.if_icmp .lt 12, 3) := by decide +kernel
theorem dX8_in_5 : decode cX8_in 5 = .ok (.iload_n 0, 1) := by decide +kernel
theorem dX8_in_6 : decode cX8_in 6 = .ok (.iload_n 2, 1) := by decide +kernel
theorem dX8_in_7 : decode cX8_in 7 = .ok (.if_icmp .gt 7, 3) := by decide +kernel
theorem dX8_in_10 : decode cX8_in 10 = .ok (.iconst 1, 1) := by decide +kernel
theorem dX8_in_11 : decode cX8_in 11 = .ok (.goto 4, 3) := by decide +kernel
theorem dX8_in_14 : decode cX8_in 14 = .ok (.iconst 0, 1) := by decide +kernel
theorem dX8_in_15 : decode cX8_in 15 = .ok (.ireturn, 1) := by decide +kernel
theorem dX8_has_0 : decode cX8_has 0 = .ok (.iload_n 0, 1) := by decide +kernel
theorem dX8_has_1 : decode cX8_has 1 = .ok (.iload_n 1, 1) := by decide +kernel
theorem dX8_has_2 : decode cX8_has 2 = .ok (.ishr, 1) := by decide +kernel
theorem dX8_has_3 : decode cX8_has 3 = .ok (.iconst 1, 1) := by decide +kernel
theorem dX8_has_4 : decode cX8_has 4 = .ok (.iand, 1) := by decide +kernel
theorem dX8_has_5 : decode cX8_has 5 = .ok (.iconst 1, 1) := by decide +kernel
theorem dX8_has_6 : decode cX8_has 6 = .ok (.if_icmp .ne 7, 3) := by decide +kernel
theorem dX8_has_9 : decode cX8_has 9 = .ok (.iconst 1, 1) := by decide +kernel
theorem dX8_has_10 : decode cX8_has 10 = .ok (.goto 4, 3) := by decide +kernel
theorem dX8_has_13 : decode cX8_has 13 = .ok (.iconst 0, 1) := by decide +kernel
theorem dX8_has_14 : decode cX8_has 14 = .ok (.ireturn, 1) := by decide +kernel
set_option maxRecDepth 20000 in
theorem ggX8_isHour_X8_in : GoodIn wsX8_isHour wsX8_in := goodIn_r _ [4] (by decide +kernel) (by decide +kernel)
set_option maxRecDepth 20000 in
theorem gX8_isHour_X8_in : GoodIn wsX8_isHour (va_wsS RX8 69 yX8_in wsX8_in) := goodIn_app (goodIn_of _ (by decide +kernel)) ggX8_isHour_X8_in
theorem dX8_isHour_0 : decode cX8_isHour 0 = .ok (.iload_n 0, 1) := by decide +kernel
theorem dX8_isHour_1 : decode cX8_isHour 1 = .ok (.iconst 0, 1) := by decide +kernel
theorem dX8_isHour_2 : decode cX8_isHour 2 = .ok (.bipush 23, 2) := by decide +kernel
theorem dX8_isHour_4 : decode cX8_isHour 4 = .ok (.invokestatic 69, 3) := by decide +kernel
theorem dX8_isHour_7 : decode cX8_isHour 7 = .ok (.ireturn, 1) := by decide +kernel
set_option maxRecDepth 20000 in
theorem ggX8_isMember_X8_in : GoodIn wsX8_isMember wsX8_in := goodIn_r _ [5] (by decide +kernel) (by decide +kernel)
set_option maxRecDepth 20000 in
theorem gX8_isMember_X8_in : GoodIn wsX8_isMember (va_wsS RX8 69 yX8_in wsX8_in) := goodIn_app (goodIn_of _ (by decide +kernel)) ggX8_isMember_X8_in
theorem dX8_isMember_0 : decode cX8_isMember 0 = .ok (.iload_n 1, 1) := by decide +kernel
theorem dX8_isMember_1 : decode cX8_isMember 1 = .ok (.iconst 0, 1) := by decide +kernel
theorem dX8_isMember_2 : decode cX8_isMember 2 = .ok (.aload_n 0, 1) := by decide +kernel
theorem dX8_isMember_3 : decode cX8_isMember 3 = .ok (.getfield 7, 3) := by decide +kernel
theorem dX8_isMember_6 : decode cX8_isMember 6 = .ok (.iconst 1, 1) := by decide +kernel
theorem dX8_isMember_7 : decode cX8_isMember 7 = .ok (.isub, 1) := by decide +kernel
theorem dX8_isMember_8 : decode cX8_isMember 8 = .ok (.invokestatic 69, 3) := by decide +kernel
theorem dX8_isMember_11 : decode cX8_isMember 11 = .ok (.ireturn, 1) := by decide +kernel
set_option maxRecDepth 20000 in
theorem ggX8_members_X8_in : GoodIn wsX8_members wsX8_in := goodIn_r _ [5] (by decide +kernel) (by decide +kernel)
set_option maxRecDepth 20000 in
theorem gX8_members_X8_in : GoodIn wsX8_members (va_wsS RX8 69 yX8_in wsX8_in) := goodIn_app (goodIn_of _ (by decide +kernel)) ggX8_members_X8_in
set_option maxRecDepth 20000 in
theorem ggX8_members_X8_plain : GoodIn wsX8_members wsX8_plain := goodIn_r _ [9, 10, 11, 12, 13, 14, 15, 16, 17, 18, 19, 20, 21, 22, 23, 24, 25, 26, 27, 28, 29, 30, 31, 32, 33, 34, 35, 36] (by decide +kernel) (by decide +kernel)
set_option maxRecDepth 20000 in
theorem gX8_members_X8_plain : GoodIn wsX8_members (wsV RX8 63 RX8 yX8_plain wsX8_plain) := goodIn_app (goodIn_of _ (by decide +kernel)) ggX8_members_X8_plain
theorem dX8_members_0 : decode cX8_members 0 = .ok (.iload_n 1, 1) := by decide +kernel
theorem dX8_members_1 : decode cX8_members 1 = .ok (.iconst 1, 1) := by decide +kernel
theorem dX8_members_2 : decode cX8_members 2 = .ok (.bipush 6, 2) := by decide +kernel
theorem dX8_members_4 : decode cX8_members 4 = .ok (.invokestatic 69, 3) := by decide +kernel
theorem dX8_members_7 : decode cX8_members 7 = .ok (.ifCond .ne 6, 3) := by decide +kernel
theorem dX8_members_10 : decode cX8_members 10 = .ok (.bipush (-2), 2) := by decide +kernel
theorem dX8_members_12 : decode cX8_members 12 = .ok (.ireturn, 1) := by decide +kernel
theorem dX8_members_13 : decode cX8_members 13 = .ok (.aload_n 0, 1) := by decide +kernel
theorem dX8_members_14 : decode cX8_members 14 = .ok (.getfield 7, 3) := by decide +kernel
theorem dX8_members_17 : decode cX8_members 17 = .ok (.istore_n 2, 1) := by decide +kernel
theorem dX8_members_18 : decode cX8_members 18 = .ok (.aload_n 0, 1) := by decide +kernel
theorem dX8_members_19 : decode cX8_members 19 = .ok (.iload_n 1, 1) := by decide +kernel
theorem dX8_members_20 : decode cX8_members 20 = .ok (.putfield 7, 3) := by decide +kernel
theorem dX8_members_23 : decode cX8_members 23 = .ok (.aload_n 0, 1) := by decide +kernel
theorem dX8_members_24 : decode cX8_members 24 = .ok (.invokevirtual 63, 3) := by decide +kernel
theorem dX8_members_27 : decode cX8_members 27 = .ok (.iload_n 2, 1) := by decide +kernel
theorem dX8_members_28 : decode cX8_members 28 = .ok (.ireturn, 1) := by decide +kernel
set_option maxRecDepth 20000 in
theorem ggX8_member_X8_isMember : GoodIn wsX8_member wsX8_isMember := goodIn_r _ [8, 9, 10, 11, 7, 12, 13, 14, 15, 16, 17, 18, 19, 20, 21, 22, 23, 24, 25, 26, 27, 28, 29, 30, 31, 32, 33, 34, 35] (by decide +kernel) (by decide +kernel)
set_option maxRecDepth 20000 in
theorem gX8_member_X8_isMember : GoodIn wsX8_member (wsV RX8 73 RX8 yX8_isMember wsX8_isMember) := goodIn_app (goodIn_of _ (by decide +kernel)) ggX8_member_X8_isMember
set_option maxRecDepth 20000 in
theorem ggX8_member_X8_in : GoodIn wsX8_member wsX8_in := goodIn_r _ [12] (by decide +kernel) (by decide +kernel)
set_option maxRecDepth 20000 in
theorem gX8_member_X8_in : GoodIn wsX8_member (va_wsS RX8 69 yX8_in wsX8_in) := goodIn_app (goodIn_of _ (by decide +kernel)) ggX8_member_X8_in
theorem dX8_member_0 : decode cX8_member 0 = .ok (.aload_n 0, 1) := by decide +kernel
theorem dX8_member_1 : decode cX8_member 1 = .ok (.iload_n 1, 1) := by decide +kernel
theorem dX8_member_2 : decode cX8_member 2 = .ok (.invokevirtual 73, 3) := by decide +kernel
theorem dX8_member_5 : decode cX8_member 5 = .ok (.ifCond .ne 5, 3) := by decide +kernel
theorem dX8_member_8 : decode cX8_member 8 = .ok (.iconst (-1), 1) := by decide +kernel
theorem dX8_member_9 : decode cX8_member 9 = .ok (.ireturn, 1) := by decide +kernel
theorem dX8_member_10 : decode cX8_member 10 = .ok (.iload_n 2, 1) := by decide +kernel
theorem dX8_member_11 : decode cX8_member 11 = .ok (.iconst 0, 1) := by decide +kernel
theorem dX8_member_12 : decode cX8_member 12 = .ok (.iconst 2, 1) := by decide +kernel
theorem dX8_member_13 : decode cX8_member 13 = .ok (.invokestatic 69, 3) := by decide +kernel
theorem dX8_member_16 : decode cX8_member 16 = .ok (.ifCond .eq 22, 3) := by decide +kernel
theorem dX8_member_19 : decode cX8_member 19 = .ok (.iload_n 3, 1) := by decide +kernel
theorem dX8_member_20 : decode cX8_member 20 = .ok (.iconst 0, 1) := by decide +kernel
theorem dX8_member_21 : decode cX8_member 21 = .ok (.iload_n 2, 1) := by decide +kernel
theorem dX8_member_22 : decode cX8_member 22 = .ok (.iconst 1, 1) := by decide +kernel
theorem dX8_member_23 : decode cX8_member 23 = .ok (.if_icmp .ne 7, 3) := by decide +kernel
theorem dX8_member_26 : decode cX8_member 26 = .ok (.iconst 5, 1) := by decide +kernel
theorem dX8_member_27 : decode cX8_member 27 = .ok (.goto 5, 3) := by decide +kernel
theorem dX8_member_30 : decode cX8_member 30 = .ok (.bipush 23, 2) := by decide +kernel
theorem dX8_member_32 : decode cX8_member 32 = .ok (.invokestatic 69, 3) := by decide +kernel
theorem dX8_member_35 : decode cX8_member 35 = .ok (.ifCond .ne 6, 3) := by decide +kernel
theorem dX8_member_38 : decode cX8_member 38 = .ok (.bipush (-2), 2) := by decide +kernel
theorem dX8_member_40 : decode cX8_member 40 = .ok (.ireturn, 1) := by decide +kernel
theorem dX8_member_41 : decode cX8_member 41 = .ok (.iload_n 2, 1) := by decide +kernel
theorem dX8_member_42 : decode cX8_member 42 = .ok (.ifCond .ne 12, 3) := by decide +kernel
theorem dX8_member_45 : decode cX8_member 45 = .ok (.aload_n 0, 1) := by decide +kernel
theorem dX8_member_46 : decode cX8_member 46 = .ok (.getfield 13, 3) := by decide +kernel
theorem dX8_member_49 : decode cX8_member 49 = .ok (.iload_n 1, 1) := by decide +kernel
theorem dX8_member_50 : decode cX8_member 50 = .ok (.iaload, 1) := by decide +kernel
theorem dX8_member_51 : decode cX8_member 51 = .ok (.goto 23, 3) := by decide +kernel
theorem dX8_member_54 : decode cX8_member 54 = .ok (.iload_n 2, 1) := by decide +kernel
theorem dX8_member_55 : decode cX8_member 55 = .ok (.iconst 1, 1) := by decide +kernel
theorem dX8_member_56 : decode cX8_member 56 = .ok (.if_icmp .ne 12, 3) := by decide +kernel
theorem dX8_member_59 : decode cX8_member 59 = .ok (.aload_n 0, 1) := by decide +kernel
theorem dX8_member_60 : decode cX8_member 60 = .ok (.getfield 17, 3) := by decide +kernel
theorem dX8_member_63 : decode cX8_member 63 = .ok (.iload_n 1, 1) := by decide +kernel
theorem dX8_member_64 : decode cX8_member 64 = .ok (.iaload, 1) := by decide +kernel
theorem dX8_member_65 : decode cX8_member 65 = .ok (.goto 9, 3) := by decide +kernel
theorem dX8_member_68 : decode cX8_member 68 = .ok (.aload_n 0, 1) := by decide +kernel
theorem dX8_member_69 : decode cX8_member 69 = .ok (.getfield 20, 3) := by decide +kernel
theorem dX8_member_72 : decode cX8_member 72 = .ok (.iload_n 1, 1) := by decide +kernel
theorem dX8_member_73 : decode cX8_member 73 = .ok (.iaload, 1) := by decide +kernel
theorem dX8_member_74 : decode cX8_member 74 = .ok (.istore 4, 2) := by decide +kernel
theorem dX8_member_76 : decode cX8_member 76 = .ok (.aload_n 0, 1) := by decide +kernel
theorem dX8_member_77 : decode cX8_member 77 = .ok (.getfield 13, 3) := by decide +kernel
theorem dX8_member_80 : decode cX8_member 80 = .ok (.iload_n 1, 1) := by decide +kernel
theorem dX8_member_81 : decode cX8_member 81 = .ok (.iload_n 2, 1) := by decide +kernel
theorem dX8_member_82 : decode cX8_member 82 = .ok (.ifCond .ne 7, 3) := by decide +kernel
theorem dX8_member_85 : decode cX8_member 85 = .ok (.iload_n 3, 1) := by decide +kernel
theorem dX8_member_86 : decode cX8_member 86 = .ok (.goto 9, 3) := by decide +kernel
theorem dX8_member_89 : decode cX8_member 89 = .ok (.aload_n 0, 1) := by decide +kernel
theorem dX8_member_90 : decode cX8_member 90 = .ok (.getfield 13, 3) := by decide +kernel
theorem dX8_member_93 : decode cX8_member 93 = .ok (.iload_n 1, 1) := by decide +kernel
theorem dX8_member_94 : decode cX8_member 94 = .ok (.iaload, 1) := by decide +kernel
theorem dX8_member_95 : decode cX8_member 95 = .ok (.iastore, 1) := by decide +kernel
theorem dX8_member_96 : decode cX8_member 96 = .ok (.aload_n 0, 1) := by decide +kernel
theorem dX8_member_97 : decode cX8_member 97 = .ok (.getfield 17, 3) := by decide +kernel
theorem dX8_member_100 : decode cX8_member 100 = .ok (.iload_n 1, 1) := by decide +kernel
theorem dX8_member_101 : decode cX8_member 101 = .ok (.iload_n 2, 1) := by decide +kernel
theorem dX8_member_102 : decode cX8_member 102 = .ok (.iconst 1, 1) := by decide +kernel
theorem dX8_member_103 : decode cX8_member 103 = .ok (.if_icmp .ne 7, 3) := by decide +kernel
theorem dX8_member_106 : decode cX8_member 106 = .ok (.iload_n 3, 1) := by decide +kernel
theorem dX8_member_107 : decode cX8_member 107 = .ok (.goto 9, 3) := by decide +kernel
theorem dX8_member_110 : decode cX8_member 110 = .ok (.aload_n 0, 1) := by decide +kernel
theorem dX8_member_111 : decode cX8_member 111 = .ok (.getfield 17, 3) := by decide +kernel
theorem dX8_member_114 : decode cX8_member 114 = .ok (.iload_n 1, 1) := by decide +kernel
theorem dX8_member_115 : decode cX8_member 115 = .ok (.iaload, 1) := by decide +kernel
theorem dX8_member_116 : decode cX8_member 116 = .ok (.iastore, 1) := by decide +kernel
theorem dX8_member_117 : decode cX8_member 117 = .ok (.aload_n 0, 1) := by decide +kernel
theorem dX8_member_118 : decode cX8_member 118 = .ok (.getfield 20, 3) := by decide +kernel
theorem dX8_member_121 : decode cX8_member 121 = .ok (.iload_n 1, 1) := by decide +kernel
theorem dX8_member_122 : decode cX8_member 122 = .ok (.iload_n 2, 1) := by decide +kernel
theorem dX8_member_123 : decode cX8_member 123 = .ok (.iconst 2, 1) := by decide +kernel
theorem dX8_member_124 : decode cX8_member 124 = .ok (.if_icmp .ne 7, 3) := by decide +kernel
theorem dX8_member_127 : decode cX8_member 127 = .ok (.iload_n 3, 1) := by decide +kernel
theorem dX8_member_128 : decode cX8_member 128 = .ok (.goto 9, 3) := by decide +kernel
theorem dX8_member_131 : decode cX8_member 131 = .ok (.aload_n 0, 1) := by decide +kernel
theorem dX8_member_132 : decode cX8_member 132 = .ok (.getfield 20, 3) := by decide +kernel
theorem dX8_member_135 : decode cX8_member 135 = .ok (.iload_n 1, 1) := by decide +kernel
theorem dX8_member_136 : decode cX8_member 136 = .ok (.iaload, 1) := by decide +kernel
theorem dX8_member_137 : decode cX8_member 137 = .ok (.iastore, 1) := by decide +kernel
theorem dX8_member_138 : decode cX8_member 138 = .ok (.iload 4, 2) := by decide +kernel
theorem dX8_member_140 : decode cX8_member 140 = .ok (.ireturn, 1) := by decide +kernel
set_option maxRecDepth 20000 in
theorem ggX8_fine_X8_in : GoodIn wsX8_fine wsX8_in := goodIn_r _ [5] (by decide +kernel) (by decide +kernel)
set_option maxRecDepth 20000 in
theorem gX8_fine_X8_in : GoodIn wsX8_fine (va_wsS RX8 69 yX8_in wsX8_in) := goodIn_app (goodIn_of _ (by decide +kernel)) ggX8_fine_X8_in
theorem dX8_fine_0 : decode cX8_fine 0 = .ok (.iload_n 1, 1) := by decide +kernel
theorem dX8_fine_1 : decode cX8_fine 1 = .ok (.iconst 0, 1) := by decide +kernel
theorem dX8_fine_2 : decode cX8_fine 2 = .ok (.bipush 9, 2) := by decide +kernel
theorem dX8_fine_4 : decode cX8_fine 4 = .ok (.invokestatic 69, 3) := by decide +kernel
theorem dX8_fine_7 : decode cX8_fine 7 = .ok (.ifCond .ne 6, 3) := by decide +kernel
theorem dX8_fine_10 : decode cX8_fine 10 = .ok (.bipush (-2), 2) := by decide +kernel
theorem dX8_fine_12 : decode cX8_fine 12 = .ok (.ireturn, 1) := by decide +kernel
theorem dX8_fine_13 : decode cX8_fine 13 = .ok (.aload_n 0, 1) := by decide +kernel
theorem dX8_fine_14 : decode cX8_fine 14 = .ok (.getfield 23, 3) := by decide +kernel
theorem dX8_fine_17 : decode cX8_fine 17 = .ok (.istore_n 2, 1) := by decide +kernel
theorem dX8_fine_18 : decode cX8_fine 18 = .ok (.aload_n 0, 1) := by decide +kernel
theorem dX8_fine_19 : decode cX8_fine 19 = .ok (.iload_n 1, 1) := by decide +kernel
theorem dX8_fine_20 : decode cX8_fine 20 = .ok (.putfield 23, 3) := by decide +kernel
theorem dX8_fine_23 : decode cX8_fine 23 = .ok (.iload_n 2, 1) := by decide +kernel
theorem dX8_fine_24 : decode cX8_fine 24 = .ok (.ireturn, 1) := by decide +kernel
set_option maxRecDepth 20000 in
theorem ggX8_say_X8_in : GoodIn wsX8_say wsX8_in := goodIn_r _ [6] (by decide +kernel) (by decide +kernel)
set_option maxRecDepth 20000 in
theorem gX8_say_X8_in : GoodIn wsX8_say (va_wsS RX8 69 yX8_in wsX8_in) := goodIn_app (goodIn_of _ (by decide +kernel)) ggX8_say_X8_in
theorem dX8_say_0 : decode cX8_say 0 = .ok (.iload_n 1, 1) := by decide +kernel
theorem dX8_say_1 : decode cX8_say 1 = .ok (.bipush 33, 2) := by decide +kernel
theorem dX8_say_3 : decode cX8_say 3 = .ok (.bipush 126, 2) := by decide +kernel
theorem dX8_say_5 : decode cX8_say 5 = .ok (.invokestatic 69, 3) := by decide +kernel
theorem dX8_say_8 : decode cX8_say 8 = .ok (.ifCond .ne 6, 3) := by decide +kernel
theorem dX8_say_11 : decode cX8_say 11 = .ok (.bipush (-2), 2) := by decide +kernel
theorem dX8_say_13 : decode cX8_say 13 = .ok (.ireturn, 1) := by decide +kernel
theorem dX8_say_14 : decode cX8_say 14 = .ok (.aload_n 0, 1) := by decide +kernel
theorem dX8_say_15 : decode cX8_say 15 = .ok (.getfield 77, 3) := by decide +kernel
theorem dX8_say_18 : decode cX8_say 18 = .ok (.bipush 48, 2) := by decide +kernel
theorem dX8_say_20 : decode cX8_say 20 = .ok (.if_icmp .ne 6, 3) := by decide +kernel
theorem dX8_say_23 : decode cX8_say 23 = .ok (.bipush (-4), 2) := by decide +kernel
theorem dX8_say_25 : decode cX8_say 25 = .ok (.ireturn, 1) := by decide +kernel
theorem dX8_say_26 : decode cX8_say 26 = .ok (.aload_n 0, 1) := by decide +kernel
theorem dX8_say_27 : decode cX8_say 27 = .ok (.getfield 35, 3) := by decide +kernel
theorem dX8_say_30 : decode cX8_say 30 = .ok (.aload_n 0, 1) := by decide +kernel
theorem dX8_say_31 : decode cX8_say 31 = .ok (.getfield 77, 3) := by decide +kernel
theorem dX8_say_34 : decode cX8_say 34 = .ok (.iload_n 1, 1) := by decide +kernel
theorem dX8_say_35 : decode cX8_say 35 = .ok (.iastore, 1) := by decide +kernel
theorem dX8_say_36 : decode cX8_say 36 = .ok (.aload_n 0, 1) := by decide +kernel
theorem dX8_say_37 : decode cX8_say 37 = .ok (.dup, 1) := by decide +kernel
theorem dX8_say_38 : decode cX8_say 38 = .ok (.getfield 77, 3) := by decide +kernel
theorem dX8_say_41 : decode cX8_say 41 = .ok (.iconst 1, 1) := by decide +kernel
theorem dX8_say_42 : decode cX8_say 42 = .ok (.iadd, 1) := by decide +kernel
theorem dX8_say_43 : decode cX8_say 43 = .ok (.putfield 77, 3) := by decide +kernel
theorem dX8_say_46 : decode cX8_say 46 = .ok (.aload_n 0, 1) := by decide +kernel
theorem dX8_say_47 : decode cX8_say 47 = .ok (.getfield 77, 3) := by decide +kernel
theorem dX8_say_50 : decode cX8_say 50 = .ok (.ireturn, 1) := by decide +kernel
theorem dX8_wipe_0 : decode cX8_wipe 0 = .ok (.aload_n 0, 1) := by decide +kernel
theorem dX8_wipe_1 : decode cX8_wipe 1 = .ok (.getfield 77, 3) := by decide +kernel
theorem dX8_wipe_4 : decode cX8_wipe 4 = .ok (.istore_n 1, 1) := by decide +kernel
theorem dX8_wipe_5 : decode cX8_wipe 5 = .ok (.aload_n 0, 1) := by decide +kernel
theorem dX8_wipe_6 : decode cX8_wipe 6 = .ok (.iconst 0, 1) := by decide +kernel
theorem dX8_wipe_7 : decode cX8_wipe 7 = .ok (.putfield 77, 3) := by decide +kernel
theorem dX8_wipe_10 : decode cX8_wipe 10 = .ok (.iload_n 1, 1) := by decide +kernel
theorem dX8_wipe_11 : decode cX8_wipe 11 = .ok (.ireturn, 1) := by decide +kernel
theorem dX8_isLeaf_0 : decode cX8_isLeaf 0 = .ok (.iload_n 0, 1) := by decide +kernel
theorem dX8_isLeaf_1 : decode cX8_isLeaf 1 = .ok (.bipush 108, 2) := by decide +kernel
theorem dX8_isLeaf_3 : decode cX8_isLeaf 3 = .ok (.if_icmp .eq 27, 3) := by decide +kernel
theorem dX8_isLeaf_6 : decode cX8_isLeaf 6 = .ok (.iload_n 0, 1) := by decide +kernel
theorem dX8_isLeaf_7 : decode cX8_isLeaf 7 = .ok (.bipush 102, 2) := by decide +kernel
theorem dX8_isLeaf_9 : decode cX8_isLeaf 9 = .ok (.if_icmp .eq 21, 3) := by decide +kernel
theorem dX8_isLeaf_12 : decode cX8_isLeaf 12 = .ok (.iload_n 0, 1) := by decide +kernel
theorem dX8_isLeaf_13 : decode cX8_isLeaf 13 = .ok (.bipush 109, 2) := by decide +kernel
theorem dX8_isLeaf_15 : decode cX8_isLeaf 15 = .ok (.if_icmp .eq 15, 3) := by decide +kernel
theorem dX8_isLeaf_18 : decode cX8_isLeaf 18 = .ok (.iload_n 0, 1) := by decide +kernel
theorem dX8_isLeaf_19 : decode cX8_isLeaf 19 = .ok (.bipush 112, 2) := by decide +kernel
theorem dX8_isLeaf_21 : decode cX8_isLeaf 21 = .ok (.if_icmp .eq 9, 3) := by decide +kernel
theorem dX8_isLeaf_24 : decode cX8_isLeaf 24 = .ok (.iload_n 0, 1) := by decide +kernel
theorem dX8_isLeaf_25 : decode cX8_isLeaf 25 = .ok (.bipush 104, 2) := by decide +kernel
theorem dX8_isLeaf_27 : decode cX8_isLeaf 27 = .ok (.if_icmp .ne 7, 3) := by decide +kernel
theorem dX8_isLeaf_30 : decode cX8_isLeaf 30 = .ok (.iconst 1, 1) := by decide +kernel
theorem dX8_isLeaf_31 : decode cX8_isLeaf 31 = .ok (.goto 4, 3) := by decide +kernel
theorem dX8_isLeaf_34 : decode cX8_isLeaf 34 = .ok (.iconst 0, 1) := by decide +kernel
theorem dX8_isLeaf_35 : decode cX8_isLeaf 35 = .ok (.ireturn, 1) := by decide +kernel
theorem dX8_isPair_0 : decode cX8_isPair 0 = .ok (.iload_n 0, 1) := by decide +kernel
theorem dX8_isPair_1 : decode cX8_isPair 1 = .ok (.bipush 60, 2) := by decide +kernel
theorem dX8_isPair_3 : decode cX8_isPair 3 = .ok (.if_icmp .eq 15, 3) := by decide +kernel
theorem dX8_isPair_6 : decode cX8_isPair 6 = .ok (.iload_n 0, 1) := by decide +kernel
theorem dX8_isPair_7 : decode cX8_isPair 7 = .ok (.bipush 62, 2) := by decide +kernel
theorem dX8_isPair_9 : decode cX8_isPair 9 = .ok (.if_icmp .eq 9, 3) := by decide +kernel
theorem dX8_isPair_12 : decode cX8_isPair 12 = .ok (.iload_n 0, 1) := by decide +kernel
theorem dX8_isPair_13 : decode cX8_isPair 13 = .ok (.bipush 47, 2) := by decide +kernel
theorem dX8_isPair_15 : decode cX8_isPair 15 = .ok (.if_icmp .ne 7, 3) := by decide +kernel
theorem dX8_isPair_18 : decode cX8_isPair 18 = .ok (.iconst 1, 1) := by decide +kernel
theorem dX8_isPair_19 : decode cX8_isPair 19 = .ok (.goto 4, 3) := by decide +kernel
theorem dX8_isPair_22 : decode cX8_isPair 22 = .ok (.iconst 0, 1) := by decide +kernel
theorem dX8_isPair_23 : decode cX8_isPair 23 = .ok (.ireturn, 1) := by decide +kernel
theorem dX8_isShift_0 : decode cX8_isShift 0 = .ok (.iload_n 0, 1) := by decide +kernel
theorem dX8_isShift_1 : decode cX8_isShift 1 = .ok (.bipush 45, 2) := by decide +kernel
theorem dX8_isShift_3 : decode cX8_isShift 3 = .ok (.if_icmp .eq 9, 3) := by decide +kernel
theorem dX8_isShift_6 : decode cX8_isShift 6 = .ok (.iload_n 0, 1) := by decide +kernel
theorem dX8_isShift_7 : decode cX8_isShift 7 = .ok (.bipush 43, 2) := by decide +kernel
theorem dX8_isShift_9 : decode cX8_isShift 9 = .ok (.if_icmp .ne 7, 3) := by decide +kernel
theorem dX8_isShift_12 : decode cX8_isShift 12 = .ok (.iconst 1, 1) := by decide +kernel
theorem dX8_isShift_13 : decode cX8_isShift 13 = .ok (.goto 4, 3) := by decide +kernel
theorem dX8_isShift_16 : decode cX8_isShift 16 = .ok (.iconst 0, 1) := by decide +kernel
theorem dX8_isShift_17 : decode cX8_isShift 17 = .ok (.ireturn, 1) := by decide +kernel
set_option maxRecDepth 20000 in
theorem ggX8_faultOf_X8_in : GoodIn wsX8_faultOf wsX8_in := goodIn_r _ [6] (by decide +kernel) (by decide +kernel)
set_option maxRecDepth 20000 in
theorem gX8_faultOf_X8_in : GoodIn wsX8_faultOf (va_wsS RX8 69 yX8_in wsX8_in) := goodIn_app (goodIn_of _ (by decide +kernel)) ggX8_faultOf_X8_in
set_option maxRecDepth 20000 in
theorem ggX8_faultOf_X8_isLeaf : GoodIn wsX8_faultOf wsX8_isLeaf := goodIn_r _ [9] (by decide +kernel) (by decide +kernel)
set_option maxRecDepth 20000 in
theorem gX8_faultOf_X8_isLeaf : GoodIn wsX8_faultOf (va_wsS RX8 80 yX8_isLeaf wsX8_isLeaf) := goodIn_app (goodIn_of _ (by decide +kernel)) ggX8_faultOf_X8_isLeaf
set_option maxRecDepth 20000 in
theorem ggX8_faultOf_X8_isPair : GoodIn wsX8_faultOf wsX8_isPair := goodIn_r _ [12] (by decide +kernel) (by decide +kernel)
set_option maxRecDepth 20000 in
theorem gX8_faultOf_X8_isPair : GoodIn wsX8_faultOf (va_wsS RX8 83 yX8_isPair wsX8_isPair) := goodIn_app (goodIn_of _ (by decide +kernel)) ggX8_faultOf_X8_isPair
set_option maxRecDepth 20000 in
theorem ggX8_faultOf_X8_isShift : GoodIn wsX8_faultOf wsX8_isShift := goodIn_r _ [15] (by decide +kernel) (by decide +kernel)
set_option maxRecDepth 20000 in
theorem gX8_faultOf_X8_isShift : GoodIn wsX8_faultOf (va_wsS RX8 86 yX8_isShift wsX8_isShift) := goodIn_app (goodIn_of _ (by decide +kernel)) ggX8_faultOf_X8_isShift
theorem dX8_faultOf_0 : decode cX8_faultOf 0 = .ok (.iconst 1, 1) := by decide +kernel
theorem dX8_faultOf_1 : decode cX8_faultOf 1 = .ok (.istore_n 1, 1) := by decide +kernel
theorem dX8_faultOf_2 : decode cX8_faultOf 2 = .ok (.iconst 0, 1) := by decide +kernel
theorem dX8_faultOf_3 : decode cX8_faultOf 3 = .ok (.istore_n 2, 1) := by decide +kernel
theorem dX8_faultOf_4 : decode cX8_faultOf 4 = .ok (.iconst 0, 1) := by decide +kernel
theorem dX8_faultOf_5 : decode cX8_faultOf 5 = .ok (.istore_n 3, 1) := by decide +kernel
theorem dX8_faultOf_6 : decode cX8_faultOf 6 = .ok (.iload_n 3, 1) := by decide +kernel
theorem dX8_faultOf_7 : decode cX8_faultOf 7 = .ok (.aload_n 0, 1) := by decide +kernel
theorem dX8_faultOf_8 : decode cX8_faultOf 8 = .ok (.getfield 77, 3) := by decide +kernel
theorem dX8_faultOf_11 : decode cX8_faultOf 11 = .ok (.if_icmp .ge 142, 3) := by decide +kernel
theorem dX8_faultOf_14 : decode cX8_faultOf 14 = .ok (.aload_n 0, 1) := by decide +kernel
theorem dX8_faultOf_15 : decode cX8_faultOf 15 = .ok (.getfield 35, 3) := by decide +kernel
theorem dX8_faultOf_18 : decode cX8_faultOf 18 = .ok (.iload_n 3, 1) := by decide +kernel
theorem dX8_faultOf_19 : decode cX8_faultOf 19 = .ok (.iaload, 1) := by decide +kernel
theorem dX8_faultOf_20 : decode cX8_faultOf 20 = .ok (.istore 4, 2) := by decide +kernel
theorem dX8_faultOf_22 : decode cX8_faultOf 22 = .ok (.iload_n 2, 1) := by decide +kernel
theorem dX8_faultOf_23 : decode cX8_faultOf 23 = .ok (.ifCond .eq 15, 3) := by decide +kernel
theorem dX8_faultOf_26 : decode cX8_faultOf 26 = .ok (.iload 4, 2) := by decide +kernel
theorem dX8_faultOf_28 : decode cX8_faultOf 28 = .ok (.bipush 48, 2) := by decide +kernel
theorem dX8_faultOf_30 : decode cX8_faultOf 30 = .ok (.bipush 57, 2) := by decide +kernel
theorem dX8_faultOf_32 : decode cX8_faultOf 32 = .ok (.invokestatic 69, 3) := by decide +kernel
theorem dX8_faultOf_35 : decode cX8_faultOf 35 = .ok (.goto 43, 3) := by decide +kernel
theorem dX8_faultOf_38 : decode cX8_faultOf 38 = .ok (.iload_n 1, 1) := by decide +kernel
theorem dX8_faultOf_39 : decode cX8_faultOf 39 = .ok (.ifCond .le 38, 3) := by decide +kernel
theorem dX8_faultOf_42 : decode cX8_faultOf 42 = .ok (.iload 4, 2) := by decide +kernel
theorem dX8_faultOf_44 : decode cX8_faultOf 44 = .ok (.invokestatic 80, 3) := by decide +kernel
theorem dX8_faultOf_47 : decode cX8_faultOf 47 = .ok (.ifCond .ne 26, 3) := by decide +kernel
theorem dX8_faultOf_50 : decode cX8_faultOf 50 = .ok (.iload 4, 2) := by decide +kernel
theorem dX8_faultOf_52 : decode cX8_faultOf 52 = .ok (.invokestatic 83, 3) := by decide +kernel
theorem dX8_faultOf_55 : decode cX8_faultOf 55 = .ok (.ifCond .ne 18, 3) := by decide +kernel
theorem dX8_faultOf_58 : decode cX8_faultOf 58 = .ok (.iload 4, 2) := by decide +kernel
theorem dX8_faultOf_60 : decode cX8_faultOf 60 = .ok (.invokestatic 86, 3) := by decide +kernel
theorem dX8_faultOf_63 : decode cX8_faultOf 63 = .ok (.ifCond .ne 10, 3) := by decide +kernel
theorem dX8_faultOf_66 : decode cX8_faultOf 66 = .ok (.iload 4, 2) := by decide +kernel
theorem dX8_faultOf_68 : decode cX8_faultOf 68 = .ok (.bipush 126, 2) := by decide +kernel
theorem dX8_faultOf_70 : decode cX8_faultOf 70 = .ok (.if_icmp .ne 7, 3) := by decide +kernel
theorem dX8_faultOf_73 : decode cX8_faultOf 73 = .ok (.iconst 1, 1) := by decide +kernel
theorem dX8_faultOf_74 : decode cX8_faultOf 74 = .ok (.goto 4, 3) := by decide +kernel
theorem dX8_faultOf_77 : decode cX8_faultOf 77 = .ok (.iconst 0, 1) := by decide +kernel
theorem dX8_faultOf_78 : decode cX8_faultOf 78 = .ok (.istore 5, 2) := by decide +kernel
theorem dX8_faultOf_80 : decode cX8_faultOf 80 = .ok (.iload 5, 2) := by decide +kernel
theorem dX8_faultOf_82 : decode cX8_faultOf 82 = .ok (.ifCond .eq 9, 3) := by decide +kernel
theorem dX8_faultOf_85 : decode cX8_faultOf 85 = .ok (.iload_n 3, 1) := by decide +kernel
theorem dX8_faultOf_86 : decode cX8_faultOf 86 = .ok (.bipush 20, 2) := by decide +kernel
theorem dX8_faultOf_88 : decode cX8_faultOf 88 = .ok (.if_icmp .ne 5, 3) := by decide +kernel
theorem dX8_faultOf_91 : decode cX8_faultOf 91 = .ok (.iload_n 3, 1) := by decide +kernel
theorem dX8_faultOf_92 : decode cX8_faultOf 92 = .ok (.ireturn, 1) := by decide +kernel
theorem dX8_faultOf_93 : decode cX8_faultOf 93 = .ok (.iload_n 1, 1) := by decide +kernel
theorem dX8_faultOf_94 : decode cX8_faultOf 94 = .ok (.iload_n 2, 1) := by decide +kernel
theorem dX8_faultOf_95 : decode cX8_faultOf 95 = .ok (.ifCond .eq 7, 3) := by decide +kernel
theorem dX8_faultOf_98 : decode cX8_faultOf 98 = .ok (.iconst 0, 1) := by decide +kernel
theorem dX8_faultOf_99 : decode cX8_faultOf 99 = .ok (.goto 28, 3) := by decide +kernel
theorem dX8_faultOf_102 : decode cX8_faultOf 102 = .ok (.iload 4, 2) := by decide +kernel
theorem dX8_faultOf_104 : decode cX8_faultOf 104 = .ok (.invokestatic 80, 3) := by decide +kernel
theorem dX8_faultOf_107 : decode cX8_faultOf 107 = .ok (.ifCond .eq 7, 3) := by decide +kernel
theorem dX8_faultOf_110 : decode cX8_faultOf 110 = .ok (.iconst (-1), 1) := by decide +kernel
theorem dX8_faultOf_111 : decode cX8_faultOf 111 = .ok (.goto 16, 3) := by decide +kernel
theorem dX8_faultOf_114 : decode cX8_faultOf 114 = .ok (.iload 4, 2) := by decide +kernel
theorem dX8_faultOf_116 : decode cX8_faultOf 116 = .ok (.invokestatic 83, 3) := by decide +kernel
theorem dX8_faultOf_119 : decode cX8_faultOf 119 = .ok (.ifCond .eq 7, 3) := by decide +kernel
theorem dX8_faultOf_122 : decode cX8_faultOf 122 = .ok (.iconst 1, 1) := by decide +kernel
theorem dX8_faultOf_123 : decode cX8_faultOf 123 = .ok (.goto 4, 3) := by decide +kernel
theorem dX8_faultOf_126 : decode cX8_faultOf 126 = .ok (.iconst 0, 1) := by decide +kernel
theorem dX8_faultOf_127 : decode cX8_faultOf 127 = .ok (.iadd, 1) := by decide +kernel
theorem dX8_faultOf_128 : decode cX8_faultOf 128 = .ok (.istore_n 1, 1) := by decide +kernel
theorem dX8_faultOf_129 : decode cX8_faultOf 129 = .ok (.iload_n 2, 1) := by decide +kernel
theorem dX8_faultOf_130 : decode cX8_faultOf 130 = .ok (.ifCond .ne 15, 3) := by decide +kernel
theorem dX8_faultOf_133 : decode cX8_faultOf 133 = .ok (.iload 4, 2) := by decide +kernel
theorem dX8_faultOf_135 : decode cX8_faultOf 135 = .ok (.invokestatic 86, 3) := by decide +kernel
theorem dX8_faultOf_138 : decode cX8_faultOf 138 = .ok (.ifCond .eq 7, 3) := by decide +kernel
theorem dX8_faultOf_141 : decode cX8_faultOf 141 = .ok (.iconst 1, 1) := by decide +kernel
theorem dX8_faultOf_142 : decode cX8_faultOf 142 = .ok (.goto 4, 3) := by decide +kernel
theorem dX8_faultOf_145 : decode cX8_faultOf 145 = .ok (.iconst 0, 1) := by decide +kernel
theorem dX8_faultOf_146 : decode cX8_faultOf 146 = .ok (.istore_n 2, 1) := by decide +kernel
theorem dX8_faultOf_147 : decode cX8_faultOf 147 = .ok (.iinc 3 1, 3) := by decide +kernel
theorem dX8_faultOf_150 : decode cX8_faultOf 150 = .ok (.goto (-144), 3) := by decide +kernel
theorem dX8_faultOf_153 : decode cX8_faultOf 153 = .ok (.iload_n 1, 1) := by decide +kernel
theorem dX8_faultOf_154 : decode cX8_faultOf 154 = .ok (.ifCond .ne 12, 3) := by decide +kernel
theorem dX8_faultOf_157 : decode cX8_faultOf 157 = .ok (.iload_n 2, 1) := by decide +kernel
theorem dX8_faultOf_158 : decode cX8_faultOf 158 = .ok (.ifCond .ne 8, 3) := by decide +kernel
theorem dX8_faultOf_161 : decode cX8_faultOf 161 = .ok (.bipush (-6), 2) := by decide +kernel
theorem dX8_faultOf_163 : decode cX8_faultOf 163 = .ok (.goto 7, 3) := by decide +kernel
theorem dX8_faultOf_166 : decode cX8_faultOf 166 = .ok (.aload_n 0, 1) := by decide +kernel
theorem dX8_faultOf_167 : decode cX8_faultOf 167 = .ok (.getfield 77, 3) := by decide +kernel
theorem dX8_faultOf_170 : decode cX8_faultOf 170 = .ok (.ireturn, 1) := by decide +kernel
set_option maxRecDepth 20000 in
theorem ggX8_fault_X8_faultOf : GoodIn wsX8_fault wsX8_faultOf := goodIn_r _ [5, 6, 7, 8, 9, 4, 10, 11, 12, 13, 14, 15, 16, 17, 18, 19, 20, 21, 22, 23, 24, 25, 26, 27, 28, 29, 30, 31, 32, 33, 34, 35, 36, 37, 38, 39, 40, 41, 42] (by decide +kernel) (by decide +kernel)
set_option maxRecDepth 20000 in
theorem gX8_fault_X8_faultOf : GoodIn wsX8_fault (wsV RX8 89 RX8 yX8_faultOf wsX8_faultOf) := goodIn_app (goodIn_of _ (by decide +kernel)) ggX8_fault_X8_faultOf
theorem dX8_fault_0 : decode cX8_fault 0 = .ok (.aload_n 0, 1) := by decide +kernel
theorem dX8_fault_1 : decode cX8_fault 1 = .ok (.invokevirtual 89, 3) := by decide +kernel
theorem dX8_fault_4 : decode cX8_fault 4 = .ok (.ireturn, 1) := by decide +kernel
set_option maxRecDepth 20000 in
theorem ggX8_enact_X8_faultOf : GoodIn wsX8_enact wsX8_faultOf := goodIn_r _ [9, 1, 4, 10, 11, 8, 12, 13, 14, 15, 16, 17, 18, 19, 20, 21, 22, 23, 24, 25, 26, 27, 28, 29, 30, 31, 32, 33, 34, 35, 36, 37, 38, 39, 40, 41, 42, 43, 44] (by decide +kernel) (by decide +kernel)
set_option maxRecDepth 20000 in
theorem gX8_enact_X8_faultOf : GoodIn wsX8_enact (wsV RX8 89 RX8 yX8_faultOf wsX8_faultOf) := goodIn_app (goodIn_of _ (by decide +kernel)) ggX8_enact_X8_faultOf
theorem dX8_enact_0 : decode cX8_enact 0 = .ok (.aload_n 0, 1) := by decide +kernel
theorem dX8_enact_1 : decode cX8_enact 1 = .ok (.invokevirtual 89, 3) := by decide +kernel
theorem dX8_enact_4 : decode cX8_enact 4 = .ok (.ifCond .lt 6, 3) := by decide +kernel
theorem dX8_enact_7 : decode cX8_enact 7 = .ok (.bipush (-5), 2) := by decide +kernel
theorem dX8_enact_9 : decode cX8_enact 9 = .ok (.ireturn, 1) := by decide +kernel
theorem dX8_enact_10 : decode cX8_enact 10 = .ok (.aload_n 0, 1) := by decide +kernel
theorem dX8_enact_11 : decode cX8_enact 11 = .ok (.aload_n 0, 1) := by decide +kernel
theorem dX8_enact_12 : decode cX8_enact 12 = .ok (.getfield 77, 3) := by decide +kernel
theorem dX8_enact_15 : decode cX8_enact 15 = .ok (.putfield 26, 3) := by decide +kernel
theorem dX8_enact_18 : decode cX8_enact 18 = .ok (.iconst 0, 1) := by decide +kernel
theorem dX8_enact_19 : decode cX8_enact 19 = .ok (.istore_n 1, 1) := by decide +kernel
theorem dX8_enact_20 : decode cX8_enact 20 = .ok (.iload_n 1, 1) := by decide +kernel
theorem dX8_enact_21 : decode cX8_enact 21 = .ok (.aload_n 0, 1) := by decide +kernel
theorem dX8_enact_22 : decode cX8_enact 22 = .ok (.getfield 77, 3) := by decide +kernel
theorem dX8_enact_25 : decode cX8_enact 25 = .ok (.if_icmp .ge 21, 3) := by decide +kernel
theorem dX8_enact_28 : decode cX8_enact 28 = .ok (.aload_n 0, 1) := by decide +kernel
theorem dX8_enact_29 : decode cX8_enact 29 = .ok (.getfield 29, 3) := by decide +kernel
theorem dX8_enact_32 : decode cX8_enact 32 = .ok (.iload_n 1, 1) := by decide +kernel
theorem dX8_enact_33 : decode cX8_enact 33 = .ok (.aload_n 0, 1) := by decide +kernel
theorem dX8_enact_34 : decode cX8_enact 34 = .ok (.getfield 35, 3) := by decide +kernel
theorem dX8_enact_37 : decode cX8_enact 37 = .ok (.iload_n 1, 1) := by decide +kernel
theorem dX8_enact_38 : decode cX8_enact 38 = .ok (.iaload, 1) := by decide +kernel
theorem dX8_enact_39 : decode cX8_enact 39 = .ok (.iastore, 1) := by decide +kernel
theorem dX8_enact_40 : decode cX8_enact 40 = .ok (.iinc 1 1, 3) := by decide +kernel
theorem dX8_enact_43 : decode cX8_enact 43 = .ok (.goto (-23), 3) := by decide +kernel
theorem dX8_enact_46 : decode cX8_enact 46 = .ok (.aload_n 0, 1) := by decide +kernel
theorem dX8_enact_47 : decode cX8_enact 47 = .ok (.iconst 0, 1) := by decide +kernel
theorem dX8_enact_48 : decode cX8_enact 48 = .ok (.putfield 77, 3) := by decide +kernel
theorem dX8_enact_51 : decode cX8_enact 51 = .ok (.aload_n 0, 1) := by decide +kernel
theorem dX8_enact_52 : decode cX8_enact 52 = .ok (.getfield 26, 3) := by decide +kernel
theorem dX8_enact_55 : decode cX8_enact 55 = .ok (.ireturn, 1) := by decide +kernel
theorem dX8_comesAt_0 : decode cX8_comesAt 0 = .ok (.aload_n 0, 1) := by decide +kernel
theorem dX8_comesAt_1 : decode cX8_comesAt 1 = .ok (.getfield 13, 3) := by decide +kernel
theorem dX8_comesAt_4 : decode cX8_comesAt 4 = .ok (.iload_n 1, 1) := by decide +kernel
theorem dX8_comesAt_5 : decode cX8_comesAt 5 = .ok (.iaload, 1) := by decide +kernel
theorem dX8_comesAt_6 : decode cX8_comesAt 6 = .ok (.aload_n 0, 1) := by decide +kernel
theorem dX8_comesAt_7 : decode cX8_comesAt 7 = .ok (.getfield 93, 3) := by decide +kernel
theorem dX8_comesAt_10 : decode cX8_comesAt 10 = .ok (.iadd, 1) := by decide +kernel
theorem dX8_comesAt_11 : decode cX8_comesAt 11 = .ok (.bipush 23, 2) := by decide +kernel
theorem dX8_comesAt_13 : decode cX8_comesAt 13 = .ok (.if_icmp .le 8, 3) := by decide +kernel
theorem dX8_comesAt_16 : decode cX8_comesAt 16 = .ok (.bipush 23, 2) := by decide +kernel
theorem dX8_comesAt_18 : decode cX8_comesAt 18 = .ok (.goto 14, 3) := by decide +kernel
theorem dX8_comesAt_21 : decode cX8_comesAt 21 = .ok (.aload_n 0, 1) := by decide +kernel
theorem dX8_comesAt_22 : decode cX8_comesAt 22 = .ok (.getfield 13, 3) := by decide +kernel
theorem dX8_comesAt_25 : decode cX8_comesAt 25 = .ok (.iload_n 1, 1) := by decide +kernel
theorem dX8_comesAt_26 : decode cX8_comesAt 26 = .ok (.iaload, 1) := by decide +kernel
theorem dX8_comesAt_27 : decode cX8_comesAt 27 = .ok (.aload_n 0, 1) := by decide +kernel
theorem dX8_comesAt_28 : decode cX8_comesAt 28 = .ok (.getfield 93, 3) := by decide +kernel
theorem dX8_comesAt_31 : decode cX8_comesAt 31 = .ok (.iadd, 1) := by decide +kernel
theorem dX8_comesAt_32 : decode cX8_comesAt 32 = .ok (.istore_n 3, 1) := by decide +kernel
theorem dX8_comesAt_33 : decode cX8_comesAt 33 = .ok (.iload_n 2, 1) := by decide +kernel
theorem dX8_comesAt_34 : decode cX8_comesAt 34 = .ok (.iload_n 3, 1) := by decide +kernel
theorem dX8_comesAt_35 : decode cX8_comesAt 35 = .ok (.if_icmp .le 7, 3) := by decide +kernel
theorem dX8_comesAt_38 : decode cX8_comesAt 38 = .ok (.iload_n 2, 1) := by decide +kernel
theorem dX8_comesAt_39 : decode cX8_comesAt 39 = .ok (.goto 4, 3) := by decide +kernel
theorem dX8_comesAt_42 : decode cX8_comesAt 42 = .ok (.iload_n 3, 1) := by decide +kernel
theorem dX8_comesAt_43 : decode cX8_comesAt 43 = .ok (.aload_n 0, 1) := by decide +kernel
theorem dX8_comesAt_44 : decode cX8_comesAt 44 = .ok (.getfield 38, 3) := by decide +kernel
theorem dX8_comesAt_47 : decode cX8_comesAt 47 = .ok (.iload_n 1, 1) := by decide +kernel
theorem dX8_comesAt_48 : decode cX8_comesAt 48 = .ok (.iaload, 1) := by decide +kernel
theorem dX8_comesAt_49 : decode cX8_comesAt 49 = .ok (.iadd, 1) := by decide +kernel
theorem dX8_comesAt_50 : decode cX8_comesAt 50 = .ok (.istore 4, 2) := by decide +kernel
theorem dX8_comesAt_52 : decode cX8_comesAt 52 = .ok (.iload 4, 2) := by decide +kernel
theorem dX8_comesAt_54 : decode cX8_comesAt 54 = .ok (.bipush 23, 2) := by decide +kernel
theorem dX8_comesAt_56 : decode cX8_comesAt 56 = .ok (.if_icmp .le 8, 3) := by decide +kernel
theorem dX8_comesAt_59 : decode cX8_comesAt 59 = .ok (.bipush 23, 2) := by decide +kernel
theorem dX8_comesAt_61 : decode cX8_comesAt 61 = .ok (.goto 5, 3) := by decide +kernel
theorem dX8_comesAt_64 : decode cX8_comesAt 64 = .ok (.iload 4, 2) := by decide +kernel
theorem dX8_comesAt_66 : decode cX8_comesAt 66 = .ok (.ireturn, 1) := by decide +kernel
set_option maxRecDepth 20000 in
theorem ggX8_layCame_X8_comesAt : GoodIn wsX8_layCame wsX8_comesAt := goodIn_r _ [7, 8, 9, 10, 11, 12, 13, 14, 15, 16, 17, 18, 19, 20, 21, 22, 23, 24, 25, 26, 27, 28, 29, 30, 31, 32, 33] (by decide +kernel) (by decide +kernel)
set_option maxRecDepth 20000 in
theorem gX8_layCame_X8_comesAt : GoodIn wsX8_layCame (wsV RX8 96 RX8 yX8_comesAt wsX8_comesAt) := goodIn_app (goodIn_of _ (by decide +kernel)) ggX8_layCame_X8_comesAt
theorem dX8_layCame_0 : decode cX8_layCame 0 = .ok (.iconst 0, 1) := by decide +kernel
theorem dX8_layCame_1 : decode cX8_layCame 1 = .ok (.istore_n 2, 1) := by decide +kernel
theorem dX8_layCame_2 : decode cX8_layCame 2 = .ok (.iload_n 2, 1) := by decide +kernel
theorem dX8_layCame_3 : decode cX8_layCame 3 = .ok (.aload_n 0, 1) := by decide +kernel
theorem dX8_layCame_4 : decode cX8_layCame 4 = .ok (.getfield 7, 3) := by decide +kernel
theorem dX8_layCame_7 : decode cX8_layCame 7 = .ok (.if_icmp .ge 67, 3) := by decide +kernel
theorem dX8_layCame_10 : decode cX8_layCame 10 = .ok (.aload_n 0, 1) := by decide +kernel
theorem dX8_layCame_11 : decode cX8_layCame 11 = .ok (.iload_n 2, 1) := by decide +kernel
theorem dX8_layCame_12 : decode cX8_layCame 12 = .ok (.iload_n 1, 1) := by decide +kernel
theorem dX8_layCame_13 : decode cX8_layCame 13 = .ok (.invokevirtual 96, 3) := by decide +kernel
theorem dX8_layCame_16 : decode cX8_layCame 16 = .ok (.istore_n 3, 1) := by decide +kernel
theorem dX8_layCame_17 : decode cX8_layCame 17 = .ok (.iload_n 2, 1) := by decide +kernel
theorem dX8_layCame_18 : decode cX8_layCame 18 = .ok (.istore 4, 2) := by decide +kernel
theorem dX8_layCame_20 : decode cX8_layCame 20 = .ok (.iload 4, 2) := by decide +kernel
theorem dX8_layCame_22 : decode cX8_layCame 22 = .ok (.ifCond .le 38, 3) := by decide +kernel
theorem dX8_layCame_25 : decode cX8_layCame 25 = .ok (.aload_n 0, 1) := by decide +kernel
theorem dX8_layCame_26 : decode cX8_layCame 26 = .ok (.getfield 41, 3) := by decide +kernel
theorem dX8_layCame_29 : decode cX8_layCame 29 = .ok (.iload 4, 2) := by decide +kernel
theorem dX8_layCame_31 : decode cX8_layCame 31 = .ok (.iconst 1, 1) := by decide +kernel
theorem dX8_layCame_32 : decode cX8_layCame 32 = .ok (.isub, 1) := by decide +kernel
theorem dX8_layCame_33 : decode cX8_layCame 33 = .ok (.iaload, 1) := by decide +kernel
theorem dX8_layCame_34 : decode cX8_layCame 34 = .ok (.iload_n 3, 1) := by decide +kernel
theorem dX8_layCame_35 : decode cX8_layCame 35 = .ok (.if_icmp .le 25, 3) := by decide +kernel
theorem dX8_layCame_38 : decode cX8_layCame 38 = .ok (.aload_n 0, 1) := by decide +kernel
theorem dX8_layCame_39 : decode cX8_layCame 39 = .ok (.getfield 41, 3) := by decide +kernel
theorem dX8_layCame_42 : decode cX8_layCame 42 = .ok (.iload 4, 2) := by decide +kernel
theorem dX8_layCame_44 : decode cX8_layCame 44 = .ok (.aload_n 0, 1) := by decide +kernel
theorem dX8_layCame_45 : decode cX8_layCame 45 = .ok (.getfield 41, 3) := by decide +kernel
theorem dX8_layCame_48 : decode cX8_layCame 48 = .ok (.iload 4, 2) := by decide +kernel
theorem dX8_layCame_50 : decode cX8_layCame 50 = .ok (.iconst 1, 1) := by decide +kernel
theorem dX8_layCame_51 : decode cX8_layCame 51 = .ok (.isub, 1) := by decide +kernel
theorem dX8_layCame_52 : decode cX8_layCame 52 = .ok (.iaload, 1) := by decide +kernel
theorem dX8_layCame_53 : decode cX8_layCame 53 = .ok (.iastore, 1) := by decide +kernel
theorem dX8_layCame_54 : decode cX8_layCame 54 = .ok (.iinc 4 (-1), 3) := by decide +kernel
theorem dX8_layCame_57 : decode cX8_layCame 57 = .ok (.goto (-37), 3) := by decide +kernel
theorem dX8_layCame_60 : decode cX8_layCame 60 = .ok (.aload_n 0, 1) := by decide +kernel
theorem dX8_layCame_61 : decode cX8_layCame 61 = .ok (.getfield 41, 3) := by decide +kernel
theorem dX8_layCame_64 : decode cX8_layCame 64 = .ok (.iload 4, 2) := by decide +kernel
theorem dX8_layCame_66 : decode cX8_layCame 66 = .ok (.iload_n 3, 1) := by decide +kernel
theorem dX8_layCame_67 : decode cX8_layCame 67 = .ok (.iastore, 1) := by decide +kernel
theorem dX8_layCame_68 : decode cX8_layCame 68 = .ok (.iinc 2 1, 3) := by decide +kernel
theorem dX8_layCame_71 : decode cX8_layCame 71 = .ok (.goto (-69), 3) := by decide +kernel
theorem dX8_layCame_74 : decode cX8_layCame 74 = .ok (.return_, 1) := by decide +kernel
theorem dX8_leafOf_0 : decode cX8_leafOf 0 = .ok (.iload_n 1, 1) := by decide +kernel
theorem dX8_leafOf_1 : decode cX8_leafOf 1 = .ok (.lookupswitch 100 #[(102, 55), (108, 43), (109, 62), (112, 76)], 43) := by decide +kernel
theorem dX8_leafOf_44 : decode cX8_leafOf 44 = .ok (.aload_n 0, 1) := by decide +kernel
theorem dX8_leafOf_45 : decode cX8_leafOf 45 = .ok (.getfield 41, 3) := by decide +kernel
theorem dX8_leafOf_48 : decode cX8_leafOf 48 = .ok (.aload_n 0, 1) := by decide +kernel
theorem dX8_leafOf_49 : decode cX8_leafOf 49 = .ok (.getfield 7, 3) := by decide +kernel
theorem dX8_leafOf_52 : decode cX8_leafOf 52 = .ok (.iconst 1, 1) := by decide +kernel
theorem dX8_leafOf_53 : decode cX8_leafOf 53 = .ok (.isub, 1) := by decide +kernel
theorem dX8_leafOf_54 : decode cX8_leafOf 54 = .ok (.iaload, 1) := by decide +kernel
theorem dX8_leafOf_55 : decode cX8_leafOf 55 = .ok (.ireturn, 1) := by decide +kernel
theorem dX8_leafOf_56 : decode cX8_leafOf 56 = .ok (.aload_n 0, 1) := by decide +kernel
theorem dX8_leafOf_57 : decode cX8_leafOf 57 = .ok (.getfield 41, 3) := by decide +kernel
theorem dX8_leafOf_60 : decode cX8_leafOf 60 = .ok (.iconst 0, 1) := by decide +kernel
theorem dX8_leafOf_61 : decode cX8_leafOf 61 = .ok (.iaload, 1) := by decide +kernel
theorem dX8_leafOf_62 : decode cX8_leafOf 62 = .ok (.ireturn, 1) := by decide +kernel
theorem dX8_leafOf_63 : decode cX8_leafOf 63 = .ok (.aload_n 0, 1) := by decide +kernel
theorem dX8_leafOf_64 : decode cX8_leafOf 64 = .ok (.getfield 41, 3) := by decide +kernel
theorem dX8_leafOf_67 : decode cX8_leafOf 67 = .ok (.aload_n 0, 1) := by decide +kernel
theorem dX8_leafOf_68 : decode cX8_leafOf 68 = .ok (.getfield 7, 3) := by decide +kernel
theorem dX8_leafOf_71 : decode cX8_leafOf 71 = .ok (.iconst 1, 1) := by decide +kernel
theorem dX8_leafOf_72 : decode cX8_leafOf 72 = .ok (.isub, 1) := by decide +kernel
theorem dX8_leafOf_73 : decode cX8_leafOf 73 = .ok (.iconst 2, 1) := by decide +kernel
theorem dX8_leafOf_74 : decode cX8_leafOf 74 = .ok (.idiv, 1) := by decide +kernel
theorem dX8_leafOf_75 : decode cX8_leafOf 75 = .ok (.iaload, 1) := by decide +kernel
theorem dX8_leafOf_76 : decode cX8_leafOf 76 = .ok (.ireturn, 1) := by decide +kernel
theorem dX8_leafOf_77 : decode cX8_leafOf 77 = .ok (.aload_n 0, 1) := by decide +kernel
theorem dX8_leafOf_78 : decode cX8_leafOf 78 = .ok (.getfield 41, 3) := by decide +kernel
theorem dX8_leafOf_81 : decode cX8_leafOf 81 = .ok (.aload_n 0, 1) := by decide +kernel
theorem dX8_leafOf_82 : decode cX8_leafOf 82 = .ok (.getfield 7, 3) := by decide +kernel
theorem dX8_leafOf_85 : decode cX8_leafOf 85 = .ok (.iconst 1, 1) := by decide +kernel
theorem dX8_leafOf_86 : decode cX8_leafOf 86 = .ok (.if_icmp .ne 7, 3) := by decide +kernel
theorem dX8_leafOf_89 : decode cX8_leafOf 89 = .ok (.iconst 0, 1) := by decide +kernel
theorem dX8_leafOf_90 : decode cX8_leafOf 90 = .ok (.goto 9, 3) := by decide +kernel
theorem dX8_leafOf_93 : decode cX8_leafOf 93 = .ok (.aload_n 0, 1) := by decide +kernel
theorem dX8_leafOf_94 : decode cX8_leafOf 94 = .ok (.getfield 7, 3) := by decide +kernel
theorem dX8_leafOf_97 : decode cX8_leafOf 97 = .ok (.iconst 2, 1) := by decide +kernel
theorem dX8_leafOf_98 : decode cX8_leafOf 98 = .ok (.isub, 1) := by decide +kernel
theorem dX8_leafOf_99 : decode cX8_leafOf 99 = .ok (.iaload, 1) := by decide +kernel
theorem dX8_leafOf_100 : decode cX8_leafOf 100 = .ok (.ireturn, 1) := by decide +kernel
theorem dX8_leafOf_101 : decode cX8_leafOf 101 = .ok (.iload_n 2, 1) := by decide +kernel
theorem dX8_leafOf_102 : decode cX8_leafOf 102 = .ok (.ireturn, 1) := by decide +kernel
theorem dX8_cut_0 : decode cX8_cut 0 = .ok (.iload_n 0, 1) := by decide +kernel
theorem dX8_cut_1 : decode cX8_cut 1 = .ok (.ifCond .ge 7, 3) := by decide +kernel
theorem dX8_cut_4 : decode cX8_cut 4 = .ok (.iconst 0, 1) := by decide +kernel
theorem dX8_cut_5 : decode cX8_cut 5 = .ok (.goto 15, 3) := by decide +kernel
theorem dX8_cut_8 : decode cX8_cut 8 = .ok (.iload_n 0, 1) := by decide +kernel
theorem dX8_cut_9 : decode cX8_cut 9 = .ok (.bipush 23, 2) := by decide +kernel
theorem dX8_cut_11 : decode cX8_cut 11 = .ok (.if_icmp .le 8, 3) := by decide +kernel
theorem dX8_cut_14 : decode cX8_cut 14 = .ok (.bipush 23, 2) := by decide +kernel
theorem dX8_cut_16 : decode cX8_cut 16 = .ok (.goto 4, 3) := by decide +kernel
theorem dX8_cut_19 : decode cX8_cut 19 = .ok (.iload_n 0, 1) := by decide +kernel
theorem dX8_cut_20 : decode cX8_cut 20 = .ok (.ireturn, 1) := by decide +kernel
set_option maxRecDepth 20000 in
theorem ggX8_nextOf_X8_layCame : GoodIn wsX8_nextOf wsX8_layCame := goodIn_r _ [8, 9, 10, 11, 12, 13, 7, 14, 15, 16, 17, 34, 35, 36, 37, 38, 39, 40, 41, 42, 43, 44, 45, 46, 47, 48, 49, 50, 51, 52, 53, 54, 55, 56] (by decide +kernel) (by decide +kernel)
set_option maxRecDepth 20000 in
theorem gX8_nextOf_X8_layCame : GoodIn wsX8_nextOf (wsV RX8 100 RX8 yX8_layCame wsX8_layCame) := goodIn_app (goodIn_of _ (by decide +kernel)) ggX8_nextOf_X8_layCame
set_option maxRecDepth 20000 in
theorem ggX8_nextOf_X8_isShift : GoodIn wsX8_nextOf wsX8_isShift := goodIn_r _ [20] (by decide +kernel) (by decide +kernel)
set_option maxRecDepth 20000 in
theorem gX8_nextOf_X8_isShift : GoodIn wsX8_nextOf (va_wsS RX8 86 yX8_isShift wsX8_isShift) := goodIn_app (goodIn_of _ (by decide +kernel)) ggX8_nextOf_X8_isShift
set_option maxRecDepth 20000 in
theorem ggX8_nextOf_X8_in : GoodIn wsX8_nextOf wsX8_in := goodIn_r _ [23] (by decide +kernel) (by decide +kernel)
set_option maxRecDepth 20000 in
theorem gX8_nextOf_X8_in : GoodIn wsX8_nextOf (va_wsS RX8 69 yX8_in wsX8_in) := goodIn_app (goodIn_of _ (by decide +kernel)) ggX8_nextOf_X8_in
set_option maxRecDepth 20000 in
theorem ggX8_nextOf_X8_isLeaf : GoodIn wsX8_nextOf wsX8_isLeaf := goodIn_r _ [26] (by decide +kernel) (by decide +kernel)
set_option maxRecDepth 20000 in
theorem gX8_nextOf_X8_isLeaf : GoodIn wsX8_nextOf (va_wsS RX8 80 yX8_isLeaf wsX8_isLeaf) := goodIn_app (goodIn_of _ (by decide +kernel)) ggX8_nextOf_X8_isLeaf
set_option maxRecDepth 20000 in
theorem ggX8_nextOf_X8_leafOf : GoodIn wsX8_nextOf wsX8_leafOf := goodIn_r _ [30, 10, 9, 34, 35, 36, 37, 38, 39, 40, 41, 42, 43, 44, 45, 46, 47, 48, 49, 50, 51, 52, 53, 54, 55, 56] (by decide +kernel) (by decide +kernel)
set_option maxRecDepth 20000 in
theorem gX8_nextOf_X8_leafOf : GoodIn wsX8_nextOf (wsV RX8 104 RX8 yX8_leafOf wsX8_leafOf) := goodIn_app (goodIn_of _ (by decide +kernel)) ggX8_nextOf_X8_leafOf
set_option maxRecDepth 20000 in
theorem ggX8_nextOf_X8_cut : GoodIn wsX8_nextOf wsX8_cut := goodIn_r _ [33] (by decide +kernel) (by decide +kernel)
set_option maxRecDepth 20000 in
theorem gX8_nextOf_X8_cut : GoodIn wsX8_nextOf (va_wsS RX8 107 yX8_cut wsX8_cut) := goodIn_app (goodIn_of _ (by decide +kernel)) ggX8_nextOf_X8_cut
theorem dX8_nextOf_0 : decode cX8_nextOf 0 = .ok (.aload_n 0, 1) := by decide +kernel
theorem dX8_nextOf_1 : decode cX8_nextOf 1 = .ok (.iload_n 1, 1) := by decide +kernel
theorem dX8_nextOf_2 : decode cX8_nextOf 2 = .ok (.invokevirtual 100, 3) := by decide +kernel
theorem dX8_nextOf_5 : decode cX8_nextOf 5 = .ok (.iconst 0, 1) := by decide +kernel
theorem dX8_nextOf_6 : decode cX8_nextOf 6 = .ok (.istore_n 2, 1) := by decide +kernel
theorem dX8_nextOf_7 : decode cX8_nextOf 7 = .ok (.aload_n 0, 1) := by decide +kernel
theorem dX8_nextOf_8 : decode cX8_nextOf 8 = .ok (.getfield 26, 3) := by decide +kernel
theorem dX8_nextOf_11 : decode cX8_nextOf 11 = .ok (.iconst 1, 1) := by decide +kernel
theorem dX8_nextOf_12 : decode cX8_nextOf 12 = .ok (.isub, 1) := by decide +kernel
theorem dX8_nextOf_13 : decode cX8_nextOf 13 = .ok (.istore_n 3, 1) := by decide +kernel
theorem dX8_nextOf_14 : decode cX8_nextOf 14 = .ok (.iload_n 3, 1) := by decide +kernel
theorem dX8_nextOf_15 : decode cX8_nextOf 15 = .ok (.ifCond .lt 251, 3) := by decide +kernel
theorem dX8_nextOf_18 : decode cX8_nextOf 18 = .ok (.aload_n 0, 1) := by decide +kernel
theorem dX8_nextOf_19 : decode cX8_nextOf 19 = .ok (.getfield 29, 3) := by decide +kernel
theorem dX8_nextOf_22 : decode cX8_nextOf 22 = .ok (.iload_n 3, 1) := by decide +kernel
theorem dX8_nextOf_23 : decode cX8_nextOf 23 = .ok (.iaload, 1) := by decide +kernel
theorem dX8_nextOf_24 : decode cX8_nextOf 24 = .ok (.istore 4, 2) := by decide +kernel
theorem dX8_nextOf_26 : decode cX8_nextOf 26 = .ok (.iload_n 3, 1) := by decide +kernel
theorem dX8_nextOf_27 : decode cX8_nextOf 27 = .ok (.ifCond .le 33, 3) := by decide +kernel
theorem dX8_nextOf_30 : decode cX8_nextOf 30 = .ok (.aload_n 0, 1) := by decide +kernel
theorem dX8_nextOf_31 : decode cX8_nextOf 31 = .ok (.getfield 29, 3) := by decide +kernel
theorem dX8_nextOf_34 : decode cX8_nextOf 34 = .ok (.iload_n 3, 1) := by decide +kernel
theorem dX8_nextOf_35 : decode cX8_nextOf 35 = .ok (.iconst 1, 1) := by decide +kernel
theorem dX8_nextOf_36 : decode cX8_nextOf 36 = .ok (.isub, 1) := by decide +kernel
theorem dX8_nextOf_37 : decode cX8_nextOf 37 = .ok (.iaload, 1) := by decide +kernel
theorem dX8_nextOf_38 : decode cX8_nextOf 38 = .ok (.invokestatic 86, 3) := by decide +kernel
theorem dX8_nextOf_41 : decode cX8_nextOf 41 = .ok (.ifCond .eq 19, 3) := by decide +kernel
theorem dX8_nextOf_44 : decode cX8_nextOf 44 = .ok (.iload 4, 2) := by decide +kernel
theorem dX8_nextOf_46 : decode cX8_nextOf 46 = .ok (.bipush 48, 2) := by decide +kernel
theorem dX8_nextOf_48 : decode cX8_nextOf 48 = .ok (.bipush 57, 2) := by decide +kernel
theorem dX8_nextOf_50 : decode cX8_nextOf 50 = .ok (.invokestatic 69, 3) := by decide +kernel
theorem dX8_nextOf_53 : decode cX8_nextOf 53 = .ok (.ifCond .eq 7, 3) := by decide +kernel
theorem dX8_nextOf_56 : decode cX8_nextOf 56 = .ok (.iconst 1, 1) := by decide +kernel
theorem dX8_nextOf_57 : decode cX8_nextOf 57 = .ok (.goto 4, 3) := by decide +kernel
theorem dX8_nextOf_60 : decode cX8_nextOf 60 = .ok (.iconst 0, 1) := by decide +kernel
theorem dX8_nextOf_61 : decode cX8_nextOf 61 = .ok (.istore 5, 2) := by decide +kernel
theorem dX8_nextOf_63 : decode cX8_nextOf 63 = .ok (.iload 5, 2) := by decide +kernel
theorem dX8_nextOf_65 : decode cX8_nextOf 65 = .ok (.ifCond .ne 195, 3) := by decide +kernel
theorem dX8_nextOf_68 : decode cX8_nextOf 68 = .ok (.iload 4, 2) := by decide +kernel
theorem dX8_nextOf_70 : decode cX8_nextOf 70 = .ok (.invokestatic 80, 3) := by decide +kernel
theorem dX8_nextOf_73 : decode cX8_nextOf 73 = .ok (.ifCond .eq 22, 3) := by decide +kernel
theorem dX8_nextOf_76 : decode cX8_nextOf 76 = .ok (.aload_n 0, 1) := by decide +kernel
theorem dX8_nextOf_77 : decode cX8_nextOf 77 = .ok (.getfield 44, 3) := by decide +kernel
theorem dX8_nextOf_80 : decode cX8_nextOf 80 = .ok (.iload_n 2, 1) := by decide +kernel
theorem dX8_nextOf_81 : decode cX8_nextOf 81 = .ok (.aload_n 0, 1) := by decide +kernel
theorem dX8_nextOf_82 : decode cX8_nextOf 82 = .ok (.iload 4, 2) := by decide +kernel
theorem dX8_nextOf_84 : decode cX8_nextOf 84 = .ok (.iload_n 1, 1) := by decide +kernel
theorem dX8_nextOf_85 : decode cX8_nextOf 85 = .ok (.invokevirtual 104, 3) := by decide +kernel
theorem dX8_nextOf_88 : decode cX8_nextOf 88 = .ok (.iastore, 1) := by decide +kernel
theorem dX8_nextOf_89 : decode cX8_nextOf 89 = .ok (.iinc 2 1, 3) := by decide +kernel
theorem dX8_nextOf_92 : decode cX8_nextOf 92 = .ok (.goto 168, 3) := by decide +kernel
theorem dX8_nextOf_95 : decode cX8_nextOf 95 = .ok (.iload 4, 2) := by decide +kernel
theorem dX8_nextOf_97 : decode cX8_nextOf 97 = .ok (.bipush 126, 2) := by decide +kernel
theorem dX8_nextOf_99 : decode cX8_nextOf 99 = .ok (.if_icmp .ne 25, 3) := by decide +kernel
theorem dX8_nextOf_102 : decode cX8_nextOf 102 = .ok (.aload_n 0, 1) := by decide +kernel
theorem dX8_nextOf_103 : decode cX8_nextOf 103 = .ok (.getfield 44, 3) := by decide +kernel
theorem dX8_nextOf_106 : decode cX8_nextOf 106 = .ok (.iload_n 2, 1) := by decide +kernel
theorem dX8_nextOf_107 : decode cX8_nextOf 107 = .ok (.iconst 1, 1) := by decide +kernel
theorem dX8_nextOf_108 : decode cX8_nextOf 108 = .ok (.isub, 1) := by decide +kernel
theorem dX8_nextOf_109 : decode cX8_nextOf 109 = .ok (.bipush 23, 2) := by decide +kernel
theorem dX8_nextOf_111 : decode cX8_nextOf 111 = .ok (.aload_n 0, 1) := by decide +kernel
theorem dX8_nextOf_112 : decode cX8_nextOf 112 = .ok (.getfield 44, 3) := by decide +kernel
theorem dX8_nextOf_115 : decode cX8_nextOf 115 = .ok (.iload_n 2, 1) := by decide +kernel
theorem dX8_nextOf_116 : decode cX8_nextOf 116 = .ok (.iconst 1, 1) := by decide +kernel
theorem dX8_nextOf_117 : decode cX8_nextOf 117 = .ok (.isub, 1) := by decide +kernel
theorem dX8_nextOf_118 : decode cX8_nextOf 118 = .ok (.iaload, 1) := by decide +kernel
theorem dX8_nextOf_119 : decode cX8_nextOf 119 = .ok (.isub, 1) := by decide +kernel
theorem dX8_nextOf_120 : decode cX8_nextOf 120 = .ok (.iastore, 1) := by decide +kernel
theorem dX8_nextOf_121 : decode cX8_nextOf 121 = .ok (.goto 139, 3) := by decide +kernel
theorem dX8_nextOf_124 : decode cX8_nextOf 124 = .ok (.iload 4, 2) := by decide +kernel
theorem dX8_nextOf_126 : decode cX8_nextOf 126 = .ok (.invokestatic 86, 3) := by decide +kernel
theorem dX8_nextOf_129 : decode cX8_nextOf 129 = .ok (.ifCond .eq 45, 3) := by decide +kernel
theorem dX8_nextOf_132 : decode cX8_nextOf 132 = .ok (.aload_n 0, 1) := by decide +kernel
theorem dX8_nextOf_133 : decode cX8_nextOf 133 = .ok (.getfield 29, 3) := by decide +kernel
theorem dX8_nextOf_136 : decode cX8_nextOf 136 = .ok (.iload_n 3, 1) := by decide +kernel
theorem dX8_nextOf_137 : decode cX8_nextOf 137 = .ok (.iconst 1, 1) := by decide +kernel
theorem dX8_nextOf_138 : decode cX8_nextOf 138 = .ok (.iadd, 1) := by decide +kernel
theorem dX8_nextOf_139 : decode cX8_nextOf 139 = .ok (.iaload, 1) := by decide +kernel
theorem dX8_nextOf_140 : decode cX8_nextOf 140 = .ok (.bipush 48, 2) := by decide +kernel
theorem dX8_nextOf_142 : decode cX8_nextOf 142 = .ok (.isub, 1) := by decide +kernel
theorem dX8_nextOf_143 : decode cX8_nextOf 143 = .ok (.istore 6, 2) := by decide +kernel
theorem dX8_nextOf_145 : decode cX8_nextOf 145 = .ok (.aload_n 0, 1) := by decide +kernel
theorem dX8_nextOf_146 : decode cX8_nextOf 146 = .ok (.getfield 44, 3) := by decide +kernel
theorem dX8_nextOf_149 : decode cX8_nextOf 149 = .ok (.iload_n 2, 1) := by decide +kernel
theorem dX8_nextOf_150 : decode cX8_nextOf 150 = .ok (.iconst 1, 1) := by decide +kernel
theorem dX8_nextOf_151 : decode cX8_nextOf 151 = .ok (.isub, 1) := by decide +kernel
theorem dX8_nextOf_152 : decode cX8_nextOf 152 = .ok (.dup2, 1) := by decide +kernel
theorem dX8_nextOf_153 : decode cX8_nextOf 153 = .ok (.iaload, 1) := by decide +kernel
theorem dX8_nextOf_154 : decode cX8_nextOf 154 = .ok (.iload 4, 2) := by decide +kernel
theorem dX8_nextOf_156 : decode cX8_nextOf 156 = .ok (.bipush 45, 2) := by decide +kernel
theorem dX8_nextOf_158 : decode cX8_nextOf 158 = .ok (.if_icmp .ne 9, 3) := by decide +kernel
theorem dX8_nextOf_161 : decode cX8_nextOf 161 = .ok (.iload 6, 2) := by decide +kernel
theorem dX8_nextOf_163 : decode cX8_nextOf 163 = .ok (.ineg, 1) := by decide +kernel
theorem dX8_nextOf_164 : decode cX8_nextOf 164 = .ok (.goto 5, 3) := by decide +kernel
theorem dX8_nextOf_167 : decode cX8_nextOf 167 = .ok (.iload 6, 2) := by decide +kernel
theorem dX8_nextOf_169 : decode cX8_nextOf 169 = .ok (.iadd, 1) := by decide +kernel
theorem dX8_nextOf_170 : decode cX8_nextOf 170 = .ok (.iastore, 1) := by decide +kernel
theorem dX8_nextOf_171 : decode cX8_nextOf 171 = .ok (.goto 89, 3) := by decide +kernel
theorem dX8_nextOf_174 : decode cX8_nextOf 174 = .ok (.aload_n 0, 1) := by decide +kernel
theorem dX8_nextOf_175 : decode cX8_nextOf 175 = .ok (.getfield 44, 3) := by decide +kernel
theorem dX8_nextOf_178 : decode cX8_nextOf 178 = .ok (.iload_n 2, 1) := by decide +kernel
theorem dX8_nextOf_179 : decode cX8_nextOf 179 = .ok (.iconst 1, 1) := by decide +kernel
theorem dX8_nextOf_180 : decode cX8_nextOf 180 = .ok (.isub, 1) := by decide +kernel
theorem dX8_nextOf_181 : decode cX8_nextOf 181 = .ok (.iaload, 1) := by decide +kernel
theorem dX8_nextOf_182 : decode cX8_nextOf 182 = .ok (.istore 6, 2) := by decide +kernel
theorem dX8_nextOf_184 : decode cX8_nextOf 184 = .ok (.aload_n 0, 1) := by decide +kernel
theorem dX8_nextOf_185 : decode cX8_nextOf 185 = .ok (.getfield 44, 3) := by decide +kernel
theorem dX8_nextOf_188 : decode cX8_nextOf 188 = .ok (.iload_n 2, 1) := by decide +kernel
theorem dX8_nextOf_189 : decode cX8_nextOf 189 = .ok (.iconst 2, 1) := by decide +kernel
theorem dX8_nextOf_190 : decode cX8_nextOf 190 = .ok (.isub, 1) := by decide +kernel
theorem dX8_nextOf_191 : decode cX8_nextOf 191 = .ok (.iaload, 1) := by decide +kernel
theorem dX8_nextOf_192 : decode cX8_nextOf 192 = .ok (.istore 7, 2) := by decide +kernel
theorem dX8_nextOf_194 : decode cX8_nextOf 194 = .ok (.iinc 2 (-1), 3) := by decide +kernel
theorem dX8_nextOf_197 : decode cX8_nextOf 197 = .ok (.aload_n 0, 1) := by decide +kernel
theorem dX8_nextOf_198 : decode cX8_nextOf 198 = .ok (.getfield 44, 3) := by decide +kernel
theorem dX8_nextOf_201 : decode cX8_nextOf 201 = .ok (.iload_n 2, 1) := by decide +kernel
theorem dX8_nextOf_202 : decode cX8_nextOf 202 = .ok (.iconst 1, 1) := by decide +kernel
theorem dX8_nextOf_203 : decode cX8_nextOf 203 = .ok (.isub, 1) := by decide +kernel
theorem dX8_nextOf_204 : decode cX8_nextOf 204 = .ok (.iload 4, 2) := by decide +kernel
theorem dX8_nextOf_206 : decode cX8_nextOf 206 = .ok (.bipush 60, 2) := by decide +kernel
theorem dX8_nextOf_208 : decode cX8_nextOf 208 = .ok (.if_icmp .ne 20, 3) := by decide +kernel
theorem dX8_nextOf_211 : decode cX8_nextOf 211 = .ok (.iload 6, 2) := by decide +kernel
theorem dX8_nextOf_213 : decode cX8_nextOf 213 = .ok (.iload 7, 2) := by decide +kernel
theorem dX8_nextOf_215 : decode cX8_nextOf 215 = .ok (.if_icmp .ge 8, 3) := by decide +kernel
theorem dX8_nextOf_218 : decode cX8_nextOf 218 = .ok (.iload 6, 2) := by decide +kernel
theorem dX8_nextOf_220 : decode cX8_nextOf 220 = .ok (.goto 39, 3) := by decide +kernel
theorem dX8_nextOf_223 : decode cX8_nextOf 223 = .ok (.iload 7, 2) := by decide +kernel
theorem dX8_nextOf_225 : decode cX8_nextOf 225 = .ok (.goto 34, 3) := by decide +kernel
theorem dX8_nextOf_228 : decode cX8_nextOf 228 = .ok (.iload 4, 2) := by decide +kernel
theorem dX8_nextOf_230 : decode cX8_nextOf 230 = .ok (.bipush 62, 2) := by decide +kernel
theorem dX8_nextOf_232 : decode cX8_nextOf 232 = .ok (.if_icmp .ne 20, 3) := by decide +kernel
theorem dX8_nextOf_235 : decode cX8_nextOf 235 = .ok (.iload 6, 2) := by decide +kernel
theorem dX8_nextOf_237 : decode cX8_nextOf 237 = .ok (.iload 7, 2) := by decide +kernel
theorem dX8_nextOf_239 : decode cX8_nextOf 239 = .ok (.if_icmp .le 8, 3) := by decide +kernel
theorem dX8_nextOf_242 : decode cX8_nextOf 242 = .ok (.iload 6, 2) := by decide +kernel
theorem dX8_nextOf_244 : decode cX8_nextOf 244 = .ok (.goto 15, 3) := by decide +kernel
theorem dX8_nextOf_247 : decode cX8_nextOf 247 = .ok (.iload 7, 2) := by decide +kernel
theorem dX8_nextOf_249 : decode cX8_nextOf 249 = .ok (.goto 10, 3) := by decide +kernel
theorem dX8_nextOf_252 : decode cX8_nextOf 252 = .ok (.iload 6, 2) := by decide +kernel
theorem dX8_nextOf_254 : decode cX8_nextOf 254 = .ok (.iload 7, 2) := by decide +kernel
theorem dX8_nextOf_256 : decode cX8_nextOf 256 = .ok (.iadd, 1) := by decide +kernel
theorem dX8_nextOf_257 : decode cX8_nextOf 257 = .ok (.iconst 2, 1) := by decide +kernel
theorem dX8_nextOf_258 : decode cX8_nextOf 258 = .ok (.idiv, 1) := by decide +kernel
theorem dX8_nextOf_259 : decode cX8_nextOf 259 = .ok (.iastore, 1) := by decide +kernel
theorem dX8_nextOf_260 : decode cX8_nextOf 260 = .ok (.iinc 3 (-1), 3) := by decide +kernel
theorem dX8_nextOf_263 : decode cX8_nextOf 263 = .ok (.goto (-249), 3) := by decide +kernel
theorem dX8_nextOf_266 : decode cX8_nextOf 266 = .ok (.aload_n 0, 1) := by decide +kernel
theorem dX8_nextOf_267 : decode cX8_nextOf 267 = .ok (.getfield 44, 3) := by decide +kernel
theorem dX8_nextOf_270 : decode cX8_nextOf 270 = .ok (.iconst 0, 1) := by decide +kernel
theorem dX8_nextOf_271 : decode cX8_nextOf 271 = .ok (.iaload, 1) := by decide +kernel
theorem dX8_nextOf_272 : decode cX8_nextOf 272 = .ok (.invokestatic 107, 3) := by decide +kernel
theorem dX8_nextOf_275 : decode cX8_nextOf 275 = .ok (.ireturn, 1) := by decide +kernel
theorem dX8_asTold_0 : decode cX8_asTold 0 = .ok (.aload_n 0, 1) := by decide +kernel
theorem dX8_asTold_1 : decode cX8_asTold 1 = .ok (.iconst 0, 1) := by decide +kernel
theorem dX8_asTold_2 : decode cX8_asTold 2 = .ok (.putfield 93, 3) := by decide +kernel
theorem dX8_asTold_5 : decode cX8_asTold 5 = .ok (.iconst 0, 1) := by decide +kernel
theorem dX8_asTold_6 : decode cX8_asTold 6 = .ok (.istore_n 1, 1) := by decide +kernel
theorem dX8_asTold_7 : decode cX8_asTold 7 = .ok (.iload_n 1, 1) := by decide +kernel
theorem dX8_asTold_8 : decode cX8_asTold 8 = .ok (.bipush 6, 2) := by decide +kernel
theorem dX8_asTold_10 : decode cX8_asTold 10 = .ok (.if_icmp .ge 21, 3) := by decide +kernel
theorem dX8_asTold_13 : decode cX8_asTold 13 = .ok (.aload_n 0, 1) := by decide +kernel
theorem dX8_asTold_14 : decode cX8_asTold 14 = .ok (.getfield 38, 3) := by decide +kernel
theorem dX8_asTold_17 : decode cX8_asTold 17 = .ok (.iload_n 1, 1) := by decide +kernel
theorem dX8_asTold_18 : decode cX8_asTold 18 = .ok (.aload_n 0, 1) := by decide +kernel
theorem dX8_asTold_19 : decode cX8_asTold 19 = .ok (.getfield 17, 3) := by decide +kernel
theorem dX8_asTold_22 : decode cX8_asTold 22 = .ok (.iload_n 1, 1) := by decide +kernel
theorem dX8_asTold_23 : decode cX8_asTold 23 = .ok (.iaload, 1) := by decide +kernel
theorem dX8_asTold_24 : decode cX8_asTold 24 = .ok (.iastore, 1) := by decide +kernel
theorem dX8_asTold_25 : decode cX8_asTold 25 = .ok (.iinc 1 1, 3) := by decide +kernel
theorem dX8_asTold_28 : decode cX8_asTold 28 = .ok (.goto (-21), 3) := by decide +kernel
theorem dX8_asTold_31 : decode cX8_asTold 31 = .ok (.return_, 1) := by decide +kernel
set_option maxRecDepth 20000 in
theorem ggX8_hourOf_X8_nextOf : GoodIn wsX8_hourOf wsX8_nextOf := goodIn_r _ [5, 6, 7, 8, 9, 10, 11, 4, 12, 13, 14, 15, 16, 17, 18, 19, 20, 21, 22, 23, 24, 25, 26, 27, 28, 29, 30, 31, 32, 33, 34, 35, 36, 37, 38, 39, 40, 41, 42, 43, 44, 45, 46, 47, 48, 49, 50, 51, 52, 53, 54, 55, 56, 57, 58, 59, 60] (by decide +kernel) (by decide +kernel)
set_option maxRecDepth 20000 in
theorem gX8_hourOf_X8_nextOf : GoodIn wsX8_hourOf (wsV RX8 111 RX8 yX8_nextOf wsX8_nextOf) := goodIn_app (goodIn_of _ (by decide +kernel)) ggX8_hourOf_X8_nextOf
theorem dX8_hourOf_0 : decode cX8_hourOf 0 = .ok (.iload_n 1, 1) := by decide +kernel
theorem dX8_hourOf_1 : decode cX8_hourOf 1 = .ok (.istore_n 3, 1) := by decide +kernel
theorem dX8_hourOf_2 : decode cX8_hourOf 2 = .ok (.iconst 0, 1) := by decide +kernel
theorem dX8_hourOf_3 : decode cX8_hourOf 3 = .ok (.istore 4, 2) := by decide +kernel
theorem dX8_hourOf_5 : decode cX8_hourOf 5 = .ok (.iload 4, 2) := by decide +kernel
theorem dX8_hourOf_7 : decode cX8_hourOf 7 = .ok (.iload_n 2, 1) := by decide +kernel
theorem dX8_hourOf_8 : decode cX8_hourOf 8 = .ok (.if_icmp .ge 15, 3) := by decide +kernel
theorem dX8_hourOf_11 : decode cX8_hourOf 11 = .ok (.aload_n 0, 1) := by decide +kernel
theorem dX8_hourOf_12 : decode cX8_hourOf 12 = .ok (.iload_n 3, 1) := by decide +kernel
theorem dX8_hourOf_13 : decode cX8_hourOf 13 = .ok (.invokevirtual 111, 3) := by decide +kernel
theorem dX8_hourOf_16 : decode cX8_hourOf 16 = .ok (.istore_n 3, 1) := by decide +kernel
theorem dX8_hourOf_17 : decode cX8_hourOf 17 = .ok (.iinc 4 1, 3) := by decide +kernel
theorem dX8_hourOf_20 : decode cX8_hourOf 20 = .ok (.goto (-15), 3) := by decide +kernel
theorem dX8_hourOf_23 : decode cX8_hourOf 23 = .ok (.iload_n 3, 1) := by decide +kernel
theorem dX8_hourOf_24 : decode cX8_hourOf 24 = .ok (.ireturn, 1) := by decide +kernel
set_option maxRecDepth 20000 in
theorem ggX8_hour_X8_isHour : GoodIn wsX8_hour wsX8_isHour := goodIn_r _ [4, 5, 6, 3, 7] (by decide +kernel) (by decide +kernel)
set_option maxRecDepth 20000 in
theorem gX8_hour_X8_isHour : GoodIn wsX8_hour (va_wsS RX8 114 yX8_isHour wsX8_isHour) := goodIn_app (goodIn_of _ (by decide +kernel)) ggX8_hour_X8_isHour
set_option maxRecDepth 20000 in
theorem ggX8_hour_X8_in : GoodIn wsX8_hour wsX8_in := goodIn_r _ [7] (by decide +kernel) (by decide +kernel)
set_option maxRecDepth 20000 in
theorem gX8_hour_X8_in : GoodIn wsX8_hour (va_wsS RX8 69 yX8_in wsX8_in) := goodIn_app (goodIn_of _ (by decide +kernel)) ggX8_hour_X8_in
set_option maxRecDepth 20000 in
theorem ggX8_hour_X8_asTold : GoodIn wsX8_hour wsX8_asTold := goodIn_r _ [11, 12, 13, 14, 50, 51, 52, 53, 54, 55, 56, 57, 58, 59, 60, 61, 62, 63, 64, 65, 66, 67, 68, 69, 70, 71, 72] (by decide +kernel) (by decide +kernel)
set_option maxRecDepth 20000 in
theorem gX8_hour_X8_asTold : GoodIn wsX8_hour (wsV RX8 117 RX8 yX8_asTold wsX8_asTold) := goodIn_app (goodIn_of _ (by decide +kernel)) ggX8_hour_X8_asTold
set_option maxRecDepth 20000 in
theorem ggX8_hour_X8_hourOf : GoodIn wsX8_hour wsX8_hourOf := goodIn_r _ [18, 19, 20, 21, 3, 22, 23, 24, 25, 26, 27, 28, 29, 30, 31, 32, 33, 34, 35, 36, 12, 13, 37, 38, 39, 5, 6, 7, 40, 41, 42, 43, 44, 45, 46, 47, 48, 49, 50, 51, 52, 53, 54, 55, 56, 57, 58, 59, 60, 61, 62, 63, 64, 65, 66, 67, 68, 69, 70, 71, 72] (by decide +kernel) (by decide +kernel)
set_option maxRecDepth 20000 in
theorem gX8_hour_X8_hourOf : GoodIn wsX8_hour (wsV RX8 120 RX8 yX8_hourOf wsX8_hourOf) := goodIn_app (goodIn_of _ (by decide +kernel)) ggX8_hour_X8_hourOf
theorem dX8_hour_0 : decode cX8_hour 0 = .ok (.iload_n 1, 1) := by decide +kernel
theorem dX8_hour_1 : decode cX8_hour 1 = .ok (.invokestatic 114, 3) := by decide +kernel
theorem dX8_hour_4 : decode cX8_hour 4 = .ok (.ifCond .eq 13, 3) := by decide +kernel
theorem dX8_hour_7 : decode cX8_hour 7 = .ok (.iload_n 2, 1) := by decide +kernel
theorem dX8_hour_8 : decode cX8_hour 8 = .ok (.iconst 0, 1) := by decide +kernel
theorem dX8_hour_9 : decode cX8_hour 9 = .ok (.bipush 99, 2) := by decide +kernel
theorem dX8_hour_11 : decode cX8_hour 11 = .ok (.invokestatic 69, 3) := by decide +kernel
theorem dX8_hour_14 : decode cX8_hour 14 = .ok (.ifCond .ne 6, 3) := by decide +kernel
theorem dX8_hour_17 : decode cX8_hour 17 = .ok (.bipush (-2), 2) := by decide +kernel
theorem dX8_hour_19 : decode cX8_hour 19 = .ok (.ireturn, 1) := by decide +kernel
theorem dX8_hour_20 : decode cX8_hour 20 = .ok (.aload_n 0, 1) := by decide +kernel
theorem dX8_hour_21 : decode cX8_hour 21 = .ok (.invokevirtual 117, 3) := by decide +kernel
theorem dX8_hour_24 : decode cX8_hour 24 = .ok (.aload_n 0, 1) := by decide +kernel
theorem dX8_hour_25 : decode cX8_hour 25 = .ok (.iload_n 1, 1) := by decide +kernel
theorem dX8_hour_26 : decode cX8_hour 26 = .ok (.iload_n 2, 1) := by decide +kernel
theorem dX8_hour_27 : decode cX8_hour 27 = .ok (.invokevirtual 120, 3) := by decide +kernel
theorem dX8_hour_30 : decode cX8_hour 30 = .ok (.ireturn, 1) := by decide +kernel
set_option maxRecDepth 20000 in
theorem ggX8_comes_X8_isMember : GoodIn wsX8_comes wsX8_isMember := goodIn_r _ [5, 6, 7, 8, 4, 9, 54, 55, 56, 57, 58, 59, 60, 61, 62, 63, 64, 65, 66, 67, 68, 69, 70, 71, 72, 73, 74, 75, 76] (by decide +kernel) (by decide +kernel)
set_option maxRecDepth 20000 in
theorem gX8_comes_X8_isMember : GoodIn wsX8_comes (wsV RX8 73 RX8 yX8_isMember wsX8_isMember) := goodIn_app (goodIn_of _ (by decide +kernel)) ggX8_comes_X8_isMember
set_option maxRecDepth 20000 in
theorem ggX8_comes_X8_isHour : GoodIn wsX8_comes wsX8_isHour := goodIn_r _ [12, 7, 8, 4, 9] (by decide +kernel) (by decide +kernel)
set_option maxRecDepth 20000 in
theorem gX8_comes_X8_isHour : GoodIn wsX8_comes (va_wsS RX8 114 yX8_isHour wsX8_isHour) := goodIn_app (goodIn_of _ (by decide +kernel)) ggX8_comes_X8_isHour
set_option maxRecDepth 20000 in
theorem ggX8_comes_X8_in : GoodIn wsX8_comes wsX8_in := goodIn_r _ [9] (by decide +kernel) (by decide +kernel)
set_option maxRecDepth 20000 in
theorem gX8_comes_X8_in : GoodIn wsX8_comes (va_wsS RX8 69 yX8_in wsX8_in) := goodIn_app (goodIn_of _ (by decide +kernel)) ggX8_comes_X8_in
set_option maxRecDepth 20000 in
theorem ggX8_comes_X8_asTold : GoodIn wsX8_comes wsX8_asTold := goodIn_r _ [16, 17, 18, 19, 54, 55, 56, 57, 58, 59, 60, 61, 62, 63, 64, 65, 66, 67, 68, 69, 70, 71, 72, 73, 74, 75, 76] (by decide +kernel) (by decide +kernel)
set_option maxRecDepth 20000 in
theorem gX8_comes_X8_asTold : GoodIn wsX8_comes (wsV RX8 117 RX8 yX8_asTold wsX8_asTold) := goodIn_app (goodIn_of _ (by decide +kernel)) ggX8_comes_X8_asTold
set_option maxRecDepth 20000 in
theorem ggX8_comes_X8_hourOf : GoodIn wsX8_comes wsX8_hourOf := goodIn_r _ [23, 24, 25, 26, 4, 27, 28, 29, 30, 31, 32, 33, 34, 6, 35, 36, 37, 38, 39, 40, 17, 18, 41, 42, 43, 7, 8, 9, 44, 45, 46, 47, 48, 49, 50, 51, 52, 53, 54, 55, 56, 57, 58, 59, 60, 61, 62, 63, 64, 65, 66, 67, 68, 69, 70, 71, 72, 73, 74, 75, 76] (by decide +kernel) (by decide +kernel)
set_option maxRecDepth 20000 in
theorem gX8_comes_X8_hourOf : GoodIn wsX8_comes (wsV RX8 120 RX8 yX8_hourOf wsX8_hourOf) := goodIn_app (goodIn_of _ (by decide +kernel)) ggX8_comes_X8_hourOf
set_option maxRecDepth 20000 in
theorem ggX8_comes_X8_comesAt : GoodIn wsX8_comes wsX8_comesAt := goodIn_r _ [39, 40, 17, 18, 54, 55, 56, 57, 58, 59, 60, 61, 62, 63, 64, 65, 66, 67, 68, 69, 70, 71, 72, 73, 74, 75, 76] (by decide +kernel) (by decide +kernel)
set_option maxRecDepth 20000 in
theorem gX8_comes_X8_comesAt : GoodIn wsX8_comes (wsV RX8 96 RX8 yX8_comesAt wsX8_comesAt) := goodIn_app (goodIn_of _ (by decide +kernel)) ggX8_comes_X8_comesAt
theorem dX8_comes_0 : decode cX8_comes 0 = .ok (.aload_n 0, 1) := by decide +kernel
theorem dX8_comes_1 : decode cX8_comes 1 = .ok (.iload_n 1, 1) := by decide +kernel
theorem dX8_comes_2 : decode cX8_comes 2 = .ok (.invokevirtual 73, 3) := by decide +kernel
theorem dX8_comes_5 : decode cX8_comes 5 = .ok (.ifCond .ne 5, 3) := by decide +kernel
theorem dX8_comes_8 : decode cX8_comes 8 = .ok (.iconst (-1), 1) := by decide +kernel
theorem dX8_comes_9 : decode cX8_comes 9 = .ok (.ireturn, 1) := by decide +kernel
theorem dX8_comes_10 : decode cX8_comes 10 = .ok (.iload_n 2, 1) := by decide +kernel
theorem dX8_comes_11 : decode cX8_comes 11 = .ok (.invokestatic 114, 3) := by decide +kernel
theorem dX8_comes_14 : decode cX8_comes 14 = .ok (.ifCond .eq 13, 3) := by decide +kernel
theorem dX8_comes_17 : decode cX8_comes 17 = .ok (.iload_n 3, 1) := by decide +kernel
theorem dX8_comes_18 : decode cX8_comes 18 = .ok (.iconst 0, 1) := by decide +kernel
theorem dX8_comes_19 : decode cX8_comes 19 = .ok (.bipush 99, 2) := by decide +kernel
theorem dX8_comes_21 : decode cX8_comes 21 = .ok (.invokestatic 69, 3) := by decide +kernel
theorem dX8_comes_24 : decode cX8_comes 24 = .ok (.ifCond .ne 6, 3) := by decide +kernel
theorem dX8_comes_27 : decode cX8_comes 27 = .ok (.bipush (-2), 2) := by decide +kernel
theorem dX8_comes_29 : decode cX8_comes 29 = .ok (.ireturn, 1) := by decide +kernel
theorem dX8_comes_30 : decode cX8_comes 30 = .ok (.aload_n 0, 1) := by decide +kernel
theorem dX8_comes_31 : decode cX8_comes 31 = .ok (.invokevirtual 117, 3) := by decide +kernel
theorem dX8_comes_34 : decode cX8_comes 34 = .ok (.aload_n 0, 1) := by decide +kernel
theorem dX8_comes_35 : decode cX8_comes 35 = .ok (.iload_n 1, 1) := by decide +kernel
theorem dX8_comes_36 : decode cX8_comes 36 = .ok (.aload_n 0, 1) := by decide +kernel
theorem dX8_comes_37 : decode cX8_comes 37 = .ok (.iload_n 2, 1) := by decide +kernel
theorem dX8_comes_38 : decode cX8_comes 38 = .ok (.iload_n 3, 1) := by decide +kernel
theorem dX8_comes_39 : decode cX8_comes 39 = .ok (.invokevirtual 120, 3) := by decide +kernel
theorem dX8_comes_42 : decode cX8_comes 42 = .ok (.invokevirtual 96, 3) := by decide +kernel
theorem dX8_comes_45 : decode cX8_comes 45 = .ok (.ireturn, 1) := by decide +kernel
set_option maxRecDepth 20000 in
theorem ggX8_layTends_X8_nextOf : GoodIn wsX8_layTends wsX8_nextOf := goodIn_r _ [9, 10, 11, 12, 13, 14, 15, 8, 16, 17, 18, 19, 20, 21, 22, 23, 24, 25, 26, 27, 28, 29, 30, 31, 32, 33, 34, 35, 36, 37, 38, 39, 40, 41, 42, 43, 44, 45, 46, 47, 48, 49, 50, 51, 52, 53, 54, 55, 56, 57, 58, 59, 60, 61, 62, 63, 64] (by decide +kernel) (by decide +kernel)
set_option maxRecDepth 20000 in
theorem gX8_layTends_X8_nextOf : GoodIn wsX8_layTends (wsV RX8 111 RX8 yX8_nextOf wsX8_nextOf) := goodIn_app (goodIn_of _ (by decide +kernel)) ggX8_layTends_X8_nextOf
theorem dX8_layTends_0 : decode cX8_layTends 0 = .ok (.iconst 0, 1) := by decide +kernel
theorem dX8_layTends_1 : decode cX8_layTends 1 = .ok (.istore_n 2, 1) := by decide +kernel
end
section
theorem dX8_layTends_2 : decode cX8_layTends 2 = .ok (.iload_n 2, 1) := by decide +kernel
theorem dX8_layTends_3 : decode cX8_layTends 3 = .ok (.bipush 24, 2) := by decide +kernel
theorem dX8_layTends_5 : decode cX8_layTends 5 = .ok (.if_icmp .ge 17, 3) := by decide +kernel
theorem dX8_layTends_8 : decode cX8_layTends 8 = .ok (.aload_n 0, 1) := by decide +kernel
theorem dX8_layTends_9 : decode cX8_layTends 9 = .ok (.getfield 47, 3) := by decide +kernel
theorem dX8_layTends_12 : decode cX8_layTends 12 = .ok (.iload_n 2, 1) := by decide +kernel
theorem dX8_layTends_13 : decode cX8_layTends 13 = .ok (.bipush (-6), 2) := by decide +kernel
theorem dX8_layTends_15 : decode cX8_layTends 15 = .ok (.iastore, 1) := by decide +kernel
theorem dX8_layTends_16 : decode cX8_layTends 16 = .ok (.iinc 2 1, 3) := by decide +kernel
theorem dX8_layTends_19 : decode cX8_layTends 19 = .ok (.goto (-17), 3) := by decide +kernel
theorem dX8_layTends_22 : decode cX8_layTends 22 = .ok (.iload_n 1, 1) := by decide +kernel
theorem dX8_layTends_23 : decode cX8_layTends 23 = .ok (.istore_n 2, 1) := by decide +kernel
theorem dX8_layTends_24 : decode cX8_layTends 24 = .ok (.iconst 0, 1) := by decide +kernel
theorem dX8_layTends_25 : decode cX8_layTends 25 = .ok (.istore_n 3, 1) := by decide +kernel
theorem dX8_layTends_26 : decode cX8_layTends 26 = .ok (.aload_n 0, 1) := by decide +kernel
theorem dX8_layTends_27 : decode cX8_layTends 27 = .ok (.getfield 47, 3) := by decide +kernel
theorem dX8_layTends_30 : decode cX8_layTends 30 = .ok (.iload_n 2, 1) := by decide +kernel
theorem dX8_layTends_31 : decode cX8_layTends 31 = .ok (.iaload, 1) := by decide +kernel
theorem dX8_layTends_32 : decode cX8_layTends 32 = .ok (.ifCond .ge 22, 3) := by decide +kernel
theorem dX8_layTends_35 : decode cX8_layTends 35 = .ok (.aload_n 0, 1) := by decide +kernel
theorem dX8_layTends_36 : decode cX8_layTends 36 = .ok (.getfield 47, 3) := by decide +kernel
theorem dX8_layTends_39 : decode cX8_layTends 39 = .ok (.iload_n 2, 1) := by decide +kernel
theorem dX8_layTends_40 : decode cX8_layTends 40 = .ok (.iload_n 3, 1) := by decide +kernel
theorem dX8_layTends_41 : decode cX8_layTends 41 = .ok (.iastore, 1) := by decide +kernel
theorem dX8_layTends_42 : decode cX8_layTends 42 = .ok (.aload_n 0, 1) := by decide +kernel
theorem dX8_layTends_43 : decode cX8_layTends 43 = .ok (.iload_n 2, 1) := by decide +kernel
theorem dX8_layTends_44 : decode cX8_layTends 44 = .ok (.invokevirtual 111, 3) := by decide +kernel
theorem dX8_layTends_47 : decode cX8_layTends 47 = .ok (.istore_n 2, 1) := by decide +kernel
theorem dX8_layTends_48 : decode cX8_layTends 48 = .ok (.iinc 3 1, 3) := by decide +kernel
theorem dX8_layTends_51 : decode cX8_layTends 51 = .ok (.goto (-25), 3) := by decide +kernel
theorem dX8_layTends_54 : decode cX8_layTends 54 = .ok (.aload_n 0, 1) := by decide +kernel
theorem dX8_layTends_55 : decode cX8_layTends 55 = .ok (.aload_n 0, 1) := by decide +kernel
theorem dX8_layTends_56 : decode cX8_layTends 56 = .ok (.getfield 47, 3) := by decide +kernel
theorem dX8_layTends_59 : decode cX8_layTends 59 = .ok (.iload_n 2, 1) := by decide +kernel
theorem dX8_layTends_60 : decode cX8_layTends 60 = .ok (.iaload, 1) := by decide +kernel
theorem dX8_layTends_61 : decode cX8_layTends 61 = .ok (.putfield 123, 3) := by decide +kernel
theorem dX8_layTends_64 : decode cX8_layTends 64 = .ok (.aload_n 0, 1) := by decide +kernel
theorem dX8_layTends_65 : decode cX8_layTends 65 = .ok (.iload_n 3, 1) := by decide +kernel
theorem dX8_layTends_66 : decode cX8_layTends 66 = .ok (.aload_n 0, 1) := by decide +kernel
theorem dX8_layTends_67 : decode cX8_layTends 67 = .ok (.getfield 123, 3) := by decide +kernel
theorem dX8_layTends_70 : decode cX8_layTends 70 = .ok (.isub, 1) := by decide +kernel
theorem dX8_layTends_71 : decode cX8_layTends 71 = .ok (.putfield 126, 3) := by decide +kernel
theorem dX8_layTends_74 : decode cX8_layTends 74 = .ok (.aload_n 0, 1) := by decide +kernel
theorem dX8_layTends_75 : decode cX8_layTends 75 = .ok (.iload_n 2, 1) := by decide +kernel
theorem dX8_layTends_76 : decode cX8_layTends 76 = .ok (.putfield 129, 3) := by decide +kernel
theorem dX8_layTends_79 : decode cX8_layTends 79 = .ok (.iconst 0, 1) := by decide +kernel
theorem dX8_layTends_80 : decode cX8_layTends 80 = .ok (.istore 4, 2) := by decide +kernel
theorem dX8_layTends_82 : decode cX8_layTends 82 = .ok (.iload 4, 2) := by decide +kernel
theorem dX8_layTends_84 : decode cX8_layTends 84 = .ok (.aload_n 0, 1) := by decide +kernel
theorem dX8_layTends_85 : decode cX8_layTends 85 = .ok (.getfield 126, 3) := by decide +kernel
theorem dX8_layTends_88 : decode cX8_layTends 88 = .ok (.if_icmp .ge 35, 3) := by decide +kernel
theorem dX8_layTends_91 : decode cX8_layTends 91 = .ok (.aload_n 0, 1) := by decide +kernel
theorem dX8_layTends_92 : decode cX8_layTends 92 = .ok (.iload_n 2, 1) := by decide +kernel
theorem dX8_layTends_93 : decode cX8_layTends 93 = .ok (.aload_n 0, 1) := by decide +kernel
theorem dX8_layTends_94 : decode cX8_layTends 94 = .ok (.getfield 129, 3) := by decide +kernel
theorem dX8_layTends_97 : decode cX8_layTends 97 = .ok (.if_icmp .ge 7, 3) := by decide +kernel
theorem dX8_layTends_100 : decode cX8_layTends 100 = .ok (.iload_n 2, 1) := by decide +kernel
theorem dX8_layTends_101 : decode cX8_layTends 101 = .ok (.goto 7, 3) := by decide +kernel
theorem dX8_layTends_104 : decode cX8_layTends 104 = .ok (.aload_n 0, 1) := by decide +kernel
theorem dX8_layTends_105 : decode cX8_layTends 105 = .ok (.getfield 129, 3) := by decide +kernel
theorem dX8_layTends_108 : decode cX8_layTends 108 = .ok (.putfield 129, 3) := by decide +kernel
theorem dX8_layTends_111 : decode cX8_layTends 111 = .ok (.aload_n 0, 1) := by decide +kernel
theorem dX8_layTends_112 : decode cX8_layTends 112 = .ok (.iload_n 2, 1) := by decide +kernel
theorem dX8_layTends_113 : decode cX8_layTends 113 = .ok (.invokevirtual 111, 3) := by decide +kernel
theorem dX8_layTends_116 : decode cX8_layTends 116 = .ok (.istore_n 2, 1) := by decide +kernel
theorem dX8_layTends_117 : decode cX8_layTends 117 = .ok (.iinc 4 1, 3) := by decide +kernel
theorem dX8_layTends_120 : decode cX8_layTends 120 = .ok (.goto (-38), 3) := by decide +kernel
theorem dX8_layTends_123 : decode cX8_layTends 123 = .ok (.return_, 1) := by decide +kernel
set_option maxRecDepth 20000 in
theorem ggX8_tends_X8_isHour : GoodIn wsX8_tends wsX8_isHour := goodIn_r _ [7, 8, 9, 6, 10] (by decide +kernel) (by decide +kernel)
set_option maxRecDepth 20000 in
theorem gX8_tends_X8_isHour : GoodIn wsX8_tends (va_wsS RX8 114 yX8_isHour wsX8_isHour) := goodIn_app (goodIn_of _ (by decide +kernel)) ggX8_tends_X8_isHour
set_option maxRecDepth 20000 in
theorem ggX8_tends_X8_in : GoodIn wsX8_tends wsX8_in := goodIn_r _ [10] (by decide +kernel) (by decide +kernel)
set_option maxRecDepth 20000 in
theorem gX8_tends_X8_in : GoodIn wsX8_tends (va_wsS RX8 69 yX8_in wsX8_in) := goodIn_app (goodIn_of _ (by decide +kernel)) ggX8_tends_X8_in
set_option maxRecDepth 20000 in
theorem ggX8_tends_X8_asTold : GoodIn wsX8_tends wsX8_asTold := goodIn_r _ [14, 15, 16, 17, 54, 55, 56, 57, 58, 59, 60, 61, 62, 63, 64, 65, 66, 67, 68, 69, 70, 71, 72, 73, 74, 75, 76] (by decide +kernel) (by decide +kernel)
set_option maxRecDepth 20000 in
theorem gX8_tends_X8_asTold : GoodIn wsX8_tends (wsV RX8 117 RX8 yX8_asTold wsX8_asTold) := goodIn_app (goodIn_of _ (by decide +kernel)) ggX8_tends_X8_asTold
set_option maxRecDepth 20000 in
theorem ggX8_tends_X8_layTends : GoodIn wsX8_tends wsX8_layTends := goodIn_r _ [21, 22, 1, 2, 3, 23, 24, 25, 6, 26, 27, 28, 29, 30, 31, 32, 33, 34, 35, 36, 37, 38, 39, 40, 15, 16, 41, 42, 43, 8, 9, 10, 44, 45, 46, 47, 48, 49, 50, 51, 52, 53, 54, 55, 56, 57, 58, 59, 60, 61, 62, 63, 64, 65, 66, 67, 68, 69, 70, 71, 72, 73, 74, 75, 76] (by decide +kernel) (by decide +kernel)
set_option maxRecDepth 20000 in
theorem gX8_tends_X8_layTends : GoodIn wsX8_tends (wsV RX8 132 RX8 yX8_layTends wsX8_layTends) := goodIn_app (goodIn_of _ (by decide +kernel)) ggX8_tends_X8_layTends
theorem dX8_tends_0 : decode cX8_tends 0 = .ok (.iload_n 1, 1) := by decide +kernel
theorem dX8_tends_1 : decode cX8_tends 1 = .ok (.invokestatic 114, 3) := by decide +kernel
theorem dX8_tends_4 : decode cX8_tends 4 = .ok (.ifCond .eq 12, 3) := by decide +kernel
theorem dX8_tends_7 : decode cX8_tends 7 = .ok (.iload_n 2, 1) := by decide +kernel
theorem dX8_tends_8 : decode cX8_tends 8 = .ok (.iconst 0, 1) := by decide +kernel
theorem dX8_tends_9 : decode cX8_tends 9 = .ok (.iconst 2, 1) := by decide +kernel
theorem dX8_tends_10 : decode cX8_tends 10 = .ok (.invokestatic 69, 3) := by decide +kernel
theorem dX8_tends_13 : decode cX8_tends 13 = .ok (.ifCond .ne 6, 3) := by decide +kernel
theorem dX8_tends_16 : decode cX8_tends 16 = .ok (.bipush (-2), 2) := by decide +kernel
theorem dX8_tends_18 : decode cX8_tends 18 = .ok (.ireturn, 1) := by decide +kernel
theorem dX8_tends_19 : decode cX8_tends 19 = .ok (.aload_n 0, 1) := by decide +kernel
theorem dX8_tends_20 : decode cX8_tends 20 = .ok (.invokevirtual 117, 3) := by decide +kernel
theorem dX8_tends_23 : decode cX8_tends 23 = .ok (.aload_n 0, 1) := by decide +kernel
theorem dX8_tends_24 : decode cX8_tends 24 = .ok (.iload_n 1, 1) := by decide +kernel
theorem dX8_tends_25 : decode cX8_tends 25 = .ok (.invokevirtual 132, 3) := by decide +kernel
theorem dX8_tends_28 : decode cX8_tends 28 = .ok (.iload_n 2, 1) := by decide +kernel
theorem dX8_tends_29 : decode cX8_tends 29 = .ok (.ifCond .ne 10, 3) := by decide +kernel
theorem dX8_tends_32 : decode cX8_tends 32 = .ok (.aload_n 0, 1) := by decide +kernel
theorem dX8_tends_33 : decode cX8_tends 33 = .ok (.getfield 123, 3) := by decide +kernel
theorem dX8_tends_36 : decode cX8_tends 36 = .ok (.goto 19, 3) := by decide +kernel
theorem dX8_tends_39 : decode cX8_tends 39 = .ok (.iload_n 2, 1) := by decide +kernel
theorem dX8_tends_40 : decode cX8_tends 40 = .ok (.iconst 1, 1) := by decide +kernel
theorem dX8_tends_41 : decode cX8_tends 41 = .ok (.if_icmp .ne 10, 3) := by decide +kernel
theorem dX8_tends_44 : decode cX8_tends 44 = .ok (.aload_n 0, 1) := by decide +kernel
theorem dX8_tends_45 : decode cX8_tends 45 = .ok (.getfield 126, 3) := by decide +kernel
theorem dX8_tends_48 : decode cX8_tends 48 = .ok (.goto 7, 3) := by decide +kernel
theorem dX8_tends_51 : decode cX8_tends 51 = .ok (.aload_n 0, 1) := by decide +kernel
theorem dX8_tends_52 : decode cX8_tends 52 = .ok (.getfield 129, 3) := by decide +kernel
theorem dX8_tends_55 : decode cX8_tends 55 = .ok (.ireturn, 1) := by decide +kernel
set_option maxRecDepth 20000 in
theorem ggX8_paid_X8_isMember : GoodIn wsX8_paid wsX8_isMember := goodIn_r _ [7, 8, 9, 10, 6, 11, 12, 13, 14, 15, 16, 17, 18, 19, 20, 21, 22, 23, 24, 25, 26, 27, 28, 29, 30, 31, 32, 33, 34] (by decide +kernel) (by decide +kernel)
set_option maxRecDepth 20000 in
theorem gX8_paid_X8_isMember : GoodIn wsX8_paid (wsV RX8 73 RX8 yX8_isMember wsX8_isMember) := goodIn_app (goodIn_of _ (by decide +kernel)) ggX8_paid_X8_isMember
set_option maxRecDepth 20000 in
theorem ggX8_paid_X8_in : GoodIn wsX8_paid wsX8_in := goodIn_r _ [11] (by decide +kernel) (by decide +kernel)
set_option maxRecDepth 20000 in
theorem gX8_paid_X8_in : GoodIn wsX8_paid (va_wsS RX8 69 yX8_in wsX8_in) := goodIn_app (goodIn_of _ (by decide +kernel)) ggX8_paid_X8_in
theorem dX8_paid_0 : decode cX8_paid 0 = .ok (.aload_n 0, 1) := by decide +kernel
theorem dX8_paid_1 : decode cX8_paid 1 = .ok (.iload_n 1, 1) := by decide +kernel
theorem dX8_paid_2 : decode cX8_paid 2 = .ok (.invokevirtual 73, 3) := by decide +kernel
theorem dX8_paid_5 : decode cX8_paid 5 = .ok (.ifCond .ne 5, 3) := by decide +kernel
theorem dX8_paid_8 : decode cX8_paid 8 = .ok (.iconst (-1), 1) := by decide +kernel
theorem dX8_paid_9 : decode cX8_paid 9 = .ok (.ireturn, 1) := by decide +kernel
theorem dX8_paid_10 : decode cX8_paid 10 = .ok (.iload_n 2, 1) := by decide +kernel
theorem dX8_paid_11 : decode cX8_paid 11 = .ok (.iconst 0, 1) := by decide +kernel
theorem dX8_paid_12 : decode cX8_paid 12 = .ok (.bipush 99, 2) := by decide +kernel
theorem dX8_paid_14 : decode cX8_paid 14 = .ok (.invokestatic 69, 3) := by decide +kernel
theorem dX8_paid_17 : decode cX8_paid 17 = .ok (.ifCond .eq 19, 3) := by decide +kernel
theorem dX8_paid_20 : decode cX8_paid 20 = .ok (.aload_n 0, 1) := by decide +kernel
theorem dX8_paid_21 : decode cX8_paid 21 = .ok (.getfield 23, 3) := by decide +kernel
theorem dX8_paid_24 : decode cX8_paid 24 = .ok (.aload_n 0, 1) := by decide +kernel
theorem dX8_paid_25 : decode cX8_paid 25 = .ok (.getfield 17, 3) := by decide +kernel
theorem dX8_paid_28 : decode cX8_paid 28 = .ok (.iload_n 1, 1) := by decide +kernel
theorem dX8_paid_29 : decode cX8_paid 29 = .ok (.iaload, 1) := by decide +kernel
theorem dX8_paid_30 : decode cX8_paid 30 = .ok (.imul, 1) := by decide +kernel
theorem dX8_paid_31 : decode cX8_paid 31 = .ok (.iload_n 2, 1) := by decide +kernel
theorem dX8_paid_32 : decode cX8_paid 32 = .ok (.imul, 1) := by decide +kernel
theorem dX8_paid_33 : decode cX8_paid 33 = .ok (.goto 5, 3) := by decide +kernel
theorem dX8_paid_36 : decode cX8_paid 36 = .ok (.bipush (-2), 2) := by decide +kernel
theorem dX8_paid_38 : decode cX8_paid 38 = .ok (.ireturn, 1) := by decide +kernel
theorem dX8_apart_0 : decode cX8_apart 0 = .ok (.iload_n 0, 1) := by decide +kernel
theorem dX8_apart_1 : decode cX8_apart 1 = .ok (.iload_n 1, 1) := by decide +kernel
theorem dX8_apart_2 : decode cX8_apart 2 = .ok (.if_icmp .le 9, 3) := by decide +kernel
theorem dX8_apart_5 : decode cX8_apart 5 = .ok (.iload_n 0, 1) := by decide +kernel
theorem dX8_apart_6 : decode cX8_apart 6 = .ok (.iload_n 1, 1) := by decide +kernel
theorem dX8_apart_7 : decode cX8_apart 7 = .ok (.isub, 1) := by decide +kernel
theorem dX8_apart_8 : decode cX8_apart 8 = .ok (.goto 6, 3) := by decide +kernel
theorem dX8_apart_11 : decode cX8_apart 11 = .ok (.iload_n 1, 1) := by decide +kernel
theorem dX8_apart_12 : decode cX8_apart 12 = .ok (.iload_n 0, 1) := by decide +kernel
theorem dX8_apart_13 : decode cX8_apart 13 = .ok (.isub, 1) := by decide +kernel
theorem dX8_apart_14 : decode cX8_apart 14 = .ok (.ireturn, 1) := by decide +kernel
set_option maxRecDepth 20000 in
theorem ggX8_contentOf_X8_apart : GoodIn wsX8_contentOf wsX8_apart := goodIn_r _ [6] (by decide +kernel) (by decide +kernel)
set_option maxRecDepth 20000 in
theorem gX8_contentOf_X8_apart : GoodIn wsX8_contentOf (va_wsS RX8 135 yX8_apart wsX8_apart) := goodIn_app (goodIn_of _ (by decide +kernel)) ggX8_contentOf_X8_apart
theorem dX8_contentOf_0 : decode cX8_contentOf 0 = .ok (.iconst 0, 1) := by decide +kernel
theorem dX8_contentOf_1 : decode cX8_contentOf 1 = .ok (.istore_n 2, 1) := by decide +kernel
theorem dX8_contentOf_2 : decode cX8_contentOf 2 = .ok (.iconst 0, 1) := by decide +kernel
theorem dX8_contentOf_3 : decode cX8_contentOf 3 = .ok (.istore_n 3, 1) := by decide +kernel
theorem dX8_contentOf_4 : decode cX8_contentOf 4 = .ok (.iload_n 3, 1) := by decide +kernel
theorem dX8_contentOf_5 : decode cX8_contentOf 5 = .ok (.aload_n 0, 1) := by decide +kernel
theorem dX8_contentOf_6 : decode cX8_contentOf 6 = .ok (.getfield 7, 3) := by decide +kernel
theorem dX8_contentOf_9 : decode cX8_contentOf 9 = .ok (.if_icmp .ge 22, 3) := by decide +kernel
theorem dX8_contentOf_12 : decode cX8_contentOf 12 = .ok (.iload_n 2, 1) := by decide +kernel
theorem dX8_contentOf_13 : decode cX8_contentOf 13 = .ok (.iload_n 1, 1) := by decide +kernel
theorem dX8_contentOf_14 : decode cX8_contentOf 14 = .ok (.aload_n 0, 1) := by decide +kernel
theorem dX8_contentOf_15 : decode cX8_contentOf 15 = .ok (.getfield 20, 3) := by decide +kernel
theorem dX8_contentOf_18 : decode cX8_contentOf 18 = .ok (.iload_n 3, 1) := by decide +kernel
theorem dX8_contentOf_19 : decode cX8_contentOf 19 = .ok (.iaload, 1) := by decide +kernel
theorem dX8_contentOf_20 : decode cX8_contentOf 20 = .ok (.invokestatic 135, 3) := by decide +kernel
theorem dX8_contentOf_23 : decode cX8_contentOf 23 = .ok (.iadd, 1) := by decide +kernel
theorem dX8_contentOf_24 : decode cX8_contentOf 24 = .ok (.istore_n 2, 1) := by decide +kernel
theorem dX8_contentOf_25 : decode cX8_contentOf 25 = .ok (.iinc 3 1, 3) := by decide +kernel
theorem dX8_contentOf_28 : decode cX8_contentOf 28 = .ok (.goto (-24), 3) := by decide +kernel
theorem dX8_contentOf_31 : decode cX8_contentOf 31 = .ok (.iload_n 2, 1) := by decide +kernel
theorem dX8_contentOf_32 : decode cX8_contentOf 32 = .ok (.ireturn, 1) := by decide +kernel
set_option maxRecDepth 20000 in
theorem ggX8_content_X8_isHour : GoodIn wsX8_content wsX8_isHour := goodIn_r _ [4, 5, 6, 3, 7] (by decide +kernel) (by decide +kernel)
set_option maxRecDepth 20000 in
theorem gX8_content_X8_isHour : GoodIn wsX8_content (va_wsS RX8 114 yX8_isHour wsX8_isHour) := goodIn_app (goodIn_of _ (by decide +kernel)) ggX8_content_X8_isHour
set_option maxRecDepth 20000 in
theorem ggX8_content_X8_contentOf : GoodIn wsX8_content wsX8_contentOf := goodIn_r _ [11, 12, 13, 14, 15, 3, 16, 17, 18, 19, 20, 21, 22, 23, 24, 25, 26, 27, 28, 29, 30, 31, 32, 33, 34, 35, 36, 37, 38, 39] (by decide +kernel) (by decide +kernel)
set_option maxRecDepth 20000 in
theorem gX8_content_X8_contentOf : GoodIn wsX8_content (wsV RX8 138 RX8 yX8_contentOf wsX8_contentOf) := goodIn_app (goodIn_of _ (by decide +kernel)) ggX8_content_X8_contentOf
theorem dX8_content_0 : decode cX8_content 0 = .ok (.iload_n 1, 1) := by decide +kernel
theorem dX8_content_1 : decode cX8_content 1 = .ok (.invokestatic 114, 3) := by decide +kernel
theorem dX8_content_4 : decode cX8_content 4 = .ok (.ifCond .eq 11, 3) := by decide +kernel
theorem dX8_content_7 : decode cX8_content 7 = .ok (.aload_n 0, 1) := by decide +kernel
theorem dX8_content_8 : decode cX8_content 8 = .ok (.iload_n 1, 1) := by decide +kernel
theorem dX8_content_9 : decode cX8_content 9 = .ok (.invokevirtual 138, 3) := by decide +kernel
theorem dX8_content_12 : decode cX8_content 12 = .ok (.goto 5, 3) := by decide +kernel
theorem dX8_content_15 : decode cX8_content 15 = .ok (.bipush (-2), 2) := by decide +kernel
theorem dX8_content_17 : decode cX8_content 17 = .ok (.ireturn, 1) := by decide +kernel
set_option maxRecDepth 20000 in
theorem ggX8_choice_X8_isMember : GoodIn wsX8_choice wsX8_isMember := goodIn_r _ [9, 10, 11, 12, 8, 13, 56, 57, 58, 59, 60, 61, 62, 63, 64, 65, 66, 67, 68, 69, 70, 71, 72, 73, 74, 75, 76, 77, 78] (by decide +kernel) (by decide +kernel)
set_option maxRecDepth 20000 in
theorem gX8_choice_X8_isMember : GoodIn wsX8_choice (wsV RX8 73 RX8 yX8_isMember wsX8_isMember) := goodIn_app (goodIn_of _ (by decide +kernel)) ggX8_choice_X8_isMember
set_option maxRecDepth 20000 in
theorem ggX8_choice_X8_isHour : GoodIn wsX8_choice wsX8_isHour := goodIn_r _ [16, 11, 12, 8, 13] (by decide +kernel) (by decide +kernel)
set_option maxRecDepth 20000 in
theorem gX8_choice_X8_isHour : GoodIn wsX8_choice (va_wsS RX8 114 yX8_isHour wsX8_isHour) := goodIn_app (goodIn_of _ (by decide +kernel)) ggX8_choice_X8_isHour
set_option maxRecDepth 20000 in
theorem ggX8_choice_X8_in : GoodIn wsX8_choice wsX8_in := goodIn_r _ [13] (by decide +kernel) (by decide +kernel)
set_option maxRecDepth 20000 in
theorem gX8_choice_X8_in : GoodIn wsX8_choice (va_wsS RX8 69 yX8_in wsX8_in) := goodIn_app (goodIn_of _ (by decide +kernel)) ggX8_choice_X8_in
set_option maxRecDepth 20000 in
theorem ggX8_choice_X8_asTold : GoodIn wsX8_choice wsX8_asTold := goodIn_r _ [20, 21, 2, 22, 56, 57, 58, 59, 60, 61, 62, 63, 64, 65, 66, 67, 68, 69, 70, 71, 72, 73, 74, 75, 76, 77, 78] (by decide +kernel) (by decide +kernel)
set_option maxRecDepth 20000 in
theorem gX8_choice_X8_asTold : GoodIn wsX8_choice (wsV RX8 117 RX8 yX8_asTold wsX8_asTold) := goodIn_app (goodIn_of _ (by decide +kernel)) ggX8_choice_X8_asTold
set_option maxRecDepth 20000 in
theorem ggX8_choice_X8_nextOf : GoodIn wsX8_choice wsX8_nextOf := goodIn_r _ [26, 27, 28, 29, 30, 31, 32, 8, 33, 10, 34, 35, 36, 37, 38, 39, 21, 2, 40, 41, 42, 11, 12, 13, 43, 44, 45, 46, 47, 48, 49, 50, 51, 52, 56, 57, 58, 59, 60, 61, 62, 63, 64, 65, 66, 67, 68, 69, 70, 71, 72, 73, 74, 75, 76, 77, 78] (by decide +kernel) (by decide +kernel)
set_option maxRecDepth 20000 in
theorem gX8_choice_X8_nextOf : GoodIn wsX8_choice (wsV RX8 111 RX8 yX8_nextOf wsX8_nextOf) := goodIn_app (goodIn_of _ (by decide +kernel)) ggX8_choice_X8_nextOf
set_option maxRecDepth 20000 in
theorem ggX8_choice_X8_apart : GoodIn wsX8_choice wsX8_apart := goodIn_r _ [55] (by decide +kernel) (by decide +kernel)
set_option maxRecDepth 20000 in
theorem gX8_choice_X8_apart : GoodIn wsX8_choice (va_wsS RX8 135 yX8_apart wsX8_apart) := goodIn_app (goodIn_of _ (by decide +kernel)) ggX8_choice_X8_apart
theorem dX8_choice_0 : decode cX8_choice 0 = .ok (.aload_n 0, 1) := by decide +kernel
theorem dX8_choice_1 : decode cX8_choice 1 = .ok (.iload_n 1, 1) := by decide +kernel
theorem dX8_choice_2 : decode cX8_choice 2 = .ok (.invokevirtual 73, 3) := by decide +kernel
theorem dX8_choice_5 : decode cX8_choice 5 = .ok (.ifCond .ne 5, 3) := by decide +kernel
theorem dX8_choice_8 : decode cX8_choice 8 = .ok (.iconst (-1), 1) := by decide +kernel
theorem dX8_choice_9 : decode cX8_choice 9 = .ok (.ireturn, 1) := by decide +kernel
theorem dX8_choice_10 : decode cX8_choice 10 = .ok (.iload_n 2, 1) := by decide +kernel
theorem dX8_choice_11 : decode cX8_choice 11 = .ok (.invokestatic 114, 3) := by decide +kernel
theorem dX8_choice_14 : decode cX8_choice 14 = .ok (.ifCond .eq 24, 3) := by decide +kernel
theorem dX8_choice_17 : decode cX8_choice 17 = .ok (.iload_n 3, 1) := by decide +kernel
theorem dX8_choice_18 : decode cX8_choice 18 = .ok (.iconst 1, 1) := by decide +kernel
theorem dX8_choice_19 : decode cX8_choice 19 = .ok (.iconst 4, 1) := by decide +kernel
theorem dX8_choice_20 : decode cX8_choice 20 = .ok (.invokestatic 69, 3) := by decide +kernel
theorem dX8_choice_23 : decode cX8_choice 23 = .ok (.ifCond .eq 15, 3) := by decide +kernel
theorem dX8_choice_26 : decode cX8_choice 26 = .ok (.iload 4, 2) := by decide +kernel
theorem dX8_choice_28 : decode cX8_choice 28 = .ok (.iconst (-1), 1) := by decide +kernel
theorem dX8_choice_29 : decode cX8_choice 29 = .ok (.iload_n 3, 1) := by decide +kernel
theorem dX8_choice_30 : decode cX8_choice 30 = .ok (.iconst 1, 1) := by decide +kernel
theorem dX8_choice_31 : decode cX8_choice 31 = .ok (.isub, 1) := by decide +kernel
theorem dX8_choice_32 : decode cX8_choice 32 = .ok (.invokestatic 69, 3) := by decide +kernel
theorem dX8_choice_35 : decode cX8_choice 35 = .ok (.ifCond .ne 6, 3) := by decide +kernel
theorem dX8_choice_38 : decode cX8_choice 38 = .ok (.bipush (-2), 2) := by decide +kernel
theorem dX8_choice_40 : decode cX8_choice 40 = .ok (.ireturn, 1) := by decide +kernel
theorem dX8_choice_41 : decode cX8_choice 41 = .ok (.aload_n 0, 1) := by decide +kernel
theorem dX8_choice_42 : decode cX8_choice 42 = .ok (.invokevirtual 117, 3) := by decide +kernel
theorem dX8_choice_45 : decode cX8_choice 45 = .ok (.iload_n 3, 1) := by decide +kernel
theorem dX8_choice_46 : decode cX8_choice 46 = .ok (.iconst 1, 1) := by decide +kernel
theorem dX8_choice_47 : decode cX8_choice 47 = .ok (.if_icmp .ne 8, 3) := by decide +kernel
theorem dX8_choice_50 : decode cX8_choice 50 = .ok (.bipush 6, 2) := by decide +kernel
theorem dX8_choice_52 : decode cX8_choice 52 = .ok (.goto 27, 3) := by decide +kernel
theorem dX8_choice_55 : decode cX8_choice 55 = .ok (.iload_n 3, 1) := by decide +kernel
theorem dX8_choice_56 : decode cX8_choice 56 = .ok (.iconst 2, 1) := by decide +kernel
theorem dX8_choice_57 : decode cX8_choice 57 = .ok (.if_icmp .ne 8, 3) := by decide +kernel
theorem dX8_choice_60 : decode cX8_choice 60 = .ok (.bipush 36, 2) := by decide +kernel
theorem dX8_choice_62 : decode cX8_choice 62 = .ok (.goto 17, 3) := by decide +kernel
theorem dX8_choice_65 : decode cX8_choice 65 = .ok (.iload_n 3, 1) := by decide +kernel
theorem dX8_choice_66 : decode cX8_choice 66 = .ok (.iconst 3, 1) := by decide +kernel
theorem dX8_choice_67 : decode cX8_choice 67 = .ok (.if_icmp .ne 9, 3) := by decide +kernel
theorem dX8_choice_70 : decode cX8_choice 70 = .ok (.sipush 216, 3) := by decide +kernel
theorem dX8_choice_73 : decode cX8_choice 73 = .ok (.goto 6, 3) := by decide +kernel
theorem dX8_choice_76 : decode cX8_choice 76 = .ok (.sipush 1296, 3) := by decide +kernel
theorem dX8_choice_79 : decode cX8_choice 79 = .ok (.istore 5, 2) := by decide +kernel
theorem dX8_choice_81 : decode cX8_choice 81 = .ok (.ldc 141, 2) := by decide +kernel
theorem dX8_choice_83 : decode cX8_choice 83 = .ok (.istore 6, 2) := by decide +kernel
theorem dX8_choice_85 : decode cX8_choice 85 = .ok (.iconst 0, 1) := by decide +kernel
theorem dX8_choice_86 : decode cX8_choice 86 = .ok (.istore 7, 2) := by decide +kernel
theorem dX8_choice_88 : decode cX8_choice 88 = .ok (.iconst 0, 1) := by decide +kernel
theorem dX8_choice_89 : decode cX8_choice 89 = .ok (.istore 8, 2) := by decide +kernel
theorem dX8_choice_91 : decode cX8_choice 91 = .ok (.iload 8, 2) := by decide +kernel
theorem dX8_choice_93 : decode cX8_choice 93 = .ok (.iload 5, 2) := by decide +kernel
theorem dX8_choice_95 : decode cX8_choice 95 = .ok (.if_icmp .ge 123, 3) := by decide +kernel
theorem dX8_choice_98 : decode cX8_choice 98 = .ok (.iload_n 2, 1) := by decide +kernel
theorem dX8_choice_99 : decode cX8_choice 99 = .ok (.istore 9, 2) := by decide +kernel
theorem dX8_choice_101 : decode cX8_choice 101 = .ok (.iconst 0, 1) := by decide +kernel
theorem dX8_choice_102 : decode cX8_choice 102 = .ok (.istore 10, 2) := by decide +kernel
theorem dX8_choice_104 : decode cX8_choice 104 = .ok (.iload 5, 2) := by decide +kernel
theorem dX8_choice_106 : decode cX8_choice 106 = .ok (.istore 11, 2) := by decide +kernel
theorem dX8_choice_108 : decode cX8_choice 108 = .ok (.iconst 0, 1) := by decide +kernel
theorem dX8_choice_109 : decode cX8_choice 109 = .ok (.istore 12, 2) := by decide +kernel
theorem dX8_choice_111 : decode cX8_choice 111 = .ok (.iload 12, 2) := by decide +kernel
theorem dX8_choice_113 : decode cX8_choice 113 = .ok (.iload_n 3, 1) := by decide +kernel
theorem dX8_choice_114 : decode cX8_choice 114 = .ok (.if_icmp .ge 66, 3) := by decide +kernel
theorem dX8_choice_117 : decode cX8_choice 117 = .ok (.iload 11, 2) := by decide +kernel
theorem dX8_choice_119 : decode cX8_choice 119 = .ok (.bipush 6, 2) := by decide +kernel
theorem dX8_choice_121 : decode cX8_choice 121 = .ok (.idiv, 1) := by decide +kernel
theorem dX8_choice_122 : decode cX8_choice 122 = .ok (.istore 11, 2) := by decide +kernel
theorem dX8_choice_124 : decode cX8_choice 124 = .ok (.aload_n 0, 1) := by decide +kernel
theorem dX8_choice_125 : decode cX8_choice 125 = .ok (.getfield 38, 3) := by decide +kernel
theorem dX8_choice_128 : decode cX8_choice 128 = .ok (.iload_n 1, 1) := by decide +kernel
theorem dX8_choice_129 : decode cX8_choice 129 = .ok (.iload 8, 2) := by decide +kernel
theorem dX8_choice_131 : decode cX8_choice 131 = .ok (.iload 11, 2) := by decide +kernel
theorem dX8_choice_133 : decode cX8_choice 133 = .ok (.idiv, 1) := by decide +kernel
theorem dX8_choice_134 : decode cX8_choice 134 = .ok (.bipush 6, 2) := by decide +kernel
theorem dX8_choice_136 : decode cX8_choice 136 = .ok (.irem, 1) := by decide +kernel
theorem dX8_choice_137 : decode cX8_choice 137 = .ok (.iastore, 1) := by decide +kernel
theorem dX8_choice_138 : decode cX8_choice 138 = .ok (.aload_n 0, 1) := by decide +kernel
theorem dX8_choice_139 : decode cX8_choice 139 = .ok (.iload 9, 2) := by decide +kernel
theorem dX8_choice_141 : decode cX8_choice 141 = .ok (.invokevirtual 111, 3) := by decide +kernel
theorem dX8_choice_144 : decode cX8_choice 144 = .ok (.istore 9, 2) := by decide +kernel
theorem dX8_choice_146 : decode cX8_choice 146 = .ok (.iload 10, 2) := by decide +kernel
theorem dX8_choice_148 : decode cX8_choice 148 = .ok (.iload 9, 2) := by decide +kernel
theorem dX8_choice_150 : decode cX8_choice 150 = .ok (.aload_n 0, 1) := by decide +kernel
theorem dX8_choice_151 : decode cX8_choice 151 = .ok (.getfield 20, 3) := by decide +kernel
theorem dX8_choice_154 : decode cX8_choice 154 = .ok (.iload_n 1, 1) := by decide +kernel
theorem dX8_choice_155 : decode cX8_choice 155 = .ok (.iaload, 1) := by decide +kernel
theorem dX8_choice_156 : decode cX8_choice 156 = .ok (.invokestatic 135, 3) := by decide +kernel
theorem dX8_choice_159 : decode cX8_choice 159 = .ok (.aload_n 0, 1) := by decide +kernel
theorem dX8_choice_160 : decode cX8_choice 160 = .ok (.getfield 23, 3) := by decide +kernel
theorem dX8_choice_163 : decode cX8_choice 163 = .ok (.aload_n 0, 1) := by decide +kernel
theorem dX8_choice_164 : decode cX8_choice 164 = .ok (.getfield 38, 3) := by decide +kernel
theorem dX8_choice_167 : decode cX8_choice 167 = .ok (.iload_n 1, 1) := by decide +kernel
theorem dX8_choice_168 : decode cX8_choice 168 = .ok (.iaload, 1) := by decide +kernel
theorem dX8_choice_169 : decode cX8_choice 169 = .ok (.imul, 1) := by decide +kernel
theorem dX8_choice_170 : decode cX8_choice 170 = .ok (.iadd, 1) := by decide +kernel
theorem dX8_choice_171 : decode cX8_choice 171 = .ok (.iadd, 1) := by decide +kernel
theorem dX8_choice_172 : decode cX8_choice 172 = .ok (.istore 10, 2) := by decide +kernel
theorem dX8_choice_174 : decode cX8_choice 174 = .ok (.iinc 12 1, 3) := by decide +kernel
theorem dX8_choice_177 : decode cX8_choice 177 = .ok (.goto (-66), 3) := by decide +kernel
theorem dX8_choice_180 : decode cX8_choice 180 = .ok (.iload 10, 2) := by decide +kernel
theorem dX8_choice_182 : decode cX8_choice 182 = .ok (.iload 6, 2) := by decide +kernel
theorem dX8_choice_184 : decode cX8_choice 184 = .ok (.if_icmp .ge 8, 3) := by decide +kernel
theorem dX8_choice_187 : decode cX8_choice 187 = .ok (.iload 8, 2) := by decide +kernel
theorem dX8_choice_189 : decode cX8_choice 189 = .ok (.goto 5, 3) := by decide +kernel
theorem dX8_choice_192 : decode cX8_choice 192 = .ok (.iload 7, 2) := by decide +kernel
theorem dX8_choice_194 : decode cX8_choice 194 = .ok (.istore 7, 2) := by decide +kernel
theorem dX8_choice_196 : decode cX8_choice 196 = .ok (.iload 10, 2) := by decide +kernel
theorem dX8_choice_198 : decode cX8_choice 198 = .ok (.iload 6, 2) := by decide +kernel
theorem dX8_choice_200 : decode cX8_choice 200 = .ok (.if_icmp .ge 8, 3) := by decide +kernel
theorem dX8_choice_203 : decode cX8_choice 203 = .ok (.iload 10, 2) := by decide +kernel
theorem dX8_choice_205 : decode cX8_choice 205 = .ok (.goto 5, 3) := by decide +kernel
theorem dX8_choice_208 : decode cX8_choice 208 = .ok (.iload 6, 2) := by decide +kernel
theorem dX8_choice_210 : decode cX8_choice 210 = .ok (.istore 6, 2) := by decide +kernel
theorem dX8_choice_212 : decode cX8_choice 212 = .ok (.iinc 8 1, 3) := by decide +kernel
theorem dX8_choice_215 : decode cX8_choice 215 = .ok (.goto (-124), 3) := by decide +kernel
theorem dX8_choice_218 : decode cX8_choice 218 = .ok (.iload 4, 2) := by decide +kernel
theorem dX8_choice_220 : decode cX8_choice 220 = .ok (.iconst (-1), 1) := by decide +kernel
theorem dX8_choice_221 : decode cX8_choice 221 = .ok (.if_icmp .ne 6, 3) := by decide +kernel
theorem dX8_choice_224 : decode cX8_choice 224 = .ok (.iload 6, 2) := by decide +kernel
theorem dX8_choice_226 : decode cX8_choice 226 = .ok (.ireturn, 1) := by decide +kernel
theorem dX8_choice_227 : decode cX8_choice 227 = .ok (.iload 7, 2) := by decide +kernel
theorem dX8_choice_229 : decode cX8_choice 229 = .ok (.istore 8, 2) := by decide +kernel
theorem dX8_choice_231 : decode cX8_choice 231 = .ok (.iload_n 3, 1) := by decide +kernel
theorem dX8_choice_232 : decode cX8_choice 232 = .ok (.iconst 1, 1) := by decide +kernel
theorem dX8_choice_233 : decode cX8_choice 233 = .ok (.isub, 1) := by decide +kernel
theorem dX8_choice_234 : decode cX8_choice 234 = .ok (.istore 9, 2) := by decide +kernel
theorem dX8_choice_236 : decode cX8_choice 236 = .ok (.iload 9, 2) := by decide +kernel
theorem dX8_choice_238 : decode cX8_choice 238 = .ok (.iload 4, 2) := by decide +kernel
theorem dX8_choice_240 : decode cX8_choice 240 = .ok (.if_icmp .le 16, 3) := by decide +kernel
theorem dX8_choice_243 : decode cX8_choice 243 = .ok (.iload 8, 2) := by decide +kernel
theorem dX8_choice_245 : decode cX8_choice 245 = .ok (.bipush 6, 2) := by decide +kernel
theorem dX8_choice_247 : decode cX8_choice 247 = .ok (.idiv, 1) := by decide +kernel
theorem dX8_choice_248 : decode cX8_choice 248 = .ok (.istore 8, 2) := by decide +kernel
theorem dX8_choice_250 : decode cX8_choice 250 = .ok (.iinc 9 (-1), 3) := by decide +kernel
theorem dX8_choice_253 : decode cX8_choice 253 = .ok (.goto (-17), 3) := by decide +kernel
theorem dX8_choice_256 : decode cX8_choice 256 = .ok (.iload 8, 2) := by decide +kernel
theorem dX8_choice_258 : decode cX8_choice 258 = .ok (.bipush 6, 2) := by decide +kernel
theorem dX8_choice_260 : decode cX8_choice 260 = .ok (.irem, 1) := by decide +kernel
theorem dX8_choice_261 : decode cX8_choice 261 = .ok (.ireturn, 1) := by decide +kernel
theorem dX8_powerOf_0 : decode cX8_powerOf 0 = .ok (.iconst 1, 1) := by decide +kernel
theorem dX8_powerOf_1 : decode cX8_powerOf 1 = .ok (.istore_n 3, 1) := by decide +kernel
theorem dX8_powerOf_2 : decode cX8_powerOf 2 = .ok (.iconst 0, 1) := by decide +kernel
theorem dX8_powerOf_3 : decode cX8_powerOf 3 = .ok (.istore 4, 2) := by decide +kernel
theorem dX8_powerOf_5 : decode cX8_powerOf 5 = .ok (.iload 4, 2) := by decide +kernel
theorem dX8_powerOf_7 : decode cX8_powerOf 7 = .ok (.iload_n 2, 1) := by decide +kernel
theorem dX8_powerOf_8 : decode cX8_powerOf 8 = .ok (.if_icmp .ge 13, 3) := by decide +kernel
theorem dX8_powerOf_11 : decode cX8_powerOf 11 = .ok (.iload_n 3, 1) := by decide +kernel
theorem dX8_powerOf_12 : decode cX8_powerOf 12 = .ok (.iload_n 1, 1) := by decide +kernel
theorem dX8_powerOf_13 : decode cX8_powerOf 13 = .ok (.imul, 1) := by decide +kernel
theorem dX8_powerOf_14 : decode cX8_powerOf 14 = .ok (.istore_n 3, 1) := by decide +kernel
theorem dX8_powerOf_15 : decode cX8_powerOf 15 = .ok (.iinc 4 1, 3) := by decide +kernel
theorem dX8_powerOf_18 : decode cX8_powerOf 18 = .ok (.goto (-13), 3) := by decide +kernel
theorem dX8_powerOf_21 : decode cX8_powerOf 21 = .ok (.iload_n 3, 1) := by decide +kernel
theorem dX8_powerOf_22 : decode cX8_powerOf 22 = .ok (.ireturn, 1) := by decide +kernel
theorem dX8_layBy_0 : decode cX8_layBy 0 = .ok (.iload_n 1, 1) := by decide +kernel
theorem dX8_layBy_1 : decode cX8_layBy 1 = .ok (.istore_n 3, 1) := by decide +kernel
theorem dX8_layBy_2 : decode cX8_layBy 2 = .ok (.aload_n 0, 1) := by decide +kernel
theorem dX8_layBy_3 : decode cX8_layBy 3 = .ok (.getfield 7, 3) := by decide +kernel
theorem dX8_layBy_6 : decode cX8_layBy 6 = .ok (.iconst 1, 1) := by decide +kernel
theorem dX8_layBy_7 : decode cX8_layBy 7 = .ok (.isub, 1) := by decide +kernel
theorem dX8_layBy_8 : decode cX8_layBy 8 = .ok (.istore 4, 2) := by decide +kernel
theorem dX8_layBy_10 : decode cX8_layBy 10 = .ok (.iload 4, 2) := by decide +kernel
theorem dX8_layBy_12 : decode cX8_layBy 12 = .ok (.ifCond .lt 23, 3) := by decide +kernel
theorem dX8_layBy_15 : decode cX8_layBy 15 = .ok (.aload_n 0, 1) := by decide +kernel
theorem dX8_layBy_16 : decode cX8_layBy 16 = .ok (.getfield 38, 3) := by decide +kernel
theorem dX8_layBy_19 : decode cX8_layBy 19 = .ok (.iload 4, 2) := by decide +kernel
theorem dX8_layBy_21 : decode cX8_layBy 21 = .ok (.iload_n 3, 1) := by decide +kernel
theorem dX8_layBy_22 : decode cX8_layBy 22 = .ok (.iload_n 2, 1) := by decide +kernel
theorem dX8_layBy_23 : decode cX8_layBy 23 = .ok (.irem, 1) := by decide +kernel
theorem dX8_layBy_24 : decode cX8_layBy 24 = .ok (.iastore, 1) := by decide +kernel
theorem dX8_layBy_25 : decode cX8_layBy 25 = .ok (.iload_n 3, 1) := by decide +kernel
theorem dX8_layBy_26 : decode cX8_layBy 26 = .ok (.iload_n 2, 1) := by decide +kernel
theorem dX8_layBy_27 : decode cX8_layBy 27 = .ok (.idiv, 1) := by decide +kernel
theorem dX8_layBy_28 : decode cX8_layBy 28 = .ok (.istore_n 3, 1) := by decide +kernel
theorem dX8_layBy_29 : decode cX8_layBy 29 = .ok (.iinc 4 (-1), 3) := by decide +kernel
theorem dX8_layBy_32 : decode cX8_layBy 32 = .ok (.goto (-22), 3) := by decide +kernel
theorem dX8_layBy_35 : decode cX8_layBy 35 = .ok (.return_, 1) := by decide +kernel
set_option maxRecDepth 20000 in
theorem ggX8_rest_X8_powerOf : GoodIn wsX8_rest wsX8_powerOf := goodIn_r _ [9] (by decide +kernel) (by decide +kernel)
set_option maxRecDepth 20000 in
theorem gX8_rest_X8_powerOf : GoodIn wsX8_rest (wsV RX8 142 RX8 yX8_powerOf wsX8_powerOf) := goodIn_app (goodIn_of _ (by decide +kernel)) ggX8_rest_X8_powerOf
set_option maxRecDepth 20000 in
theorem ggX8_rest_X8_apart : GoodIn wsX8_rest wsX8_apart := goodIn_r _ [12] (by decide +kernel) (by decide +kernel)
set_option maxRecDepth 20000 in
theorem gX8_rest_X8_apart : GoodIn wsX8_rest (va_wsS RX8 135 yX8_apart wsX8_apart) := goodIn_app (goodIn_of _ (by decide +kernel)) ggX8_rest_X8_apart
theorem dX8_rest_0 : decode cX8_rest 0 = .ok (.iconst 1, 1) := by decide +kernel
theorem dX8_rest_1 : decode cX8_rest 1 = .ok (.istore_n 2, 1) := by decide +kernel
theorem dX8_rest_2 : decode cX8_rest 2 = .ok (.iconst 0, 1) := by decide +kernel
theorem dX8_rest_3 : decode cX8_rest 3 = .ok (.istore_n 3, 1) := by decide +kernel
theorem dX8_rest_4 : decode cX8_rest 4 = .ok (.iload_n 3, 1) := by decide +kernel
theorem dX8_rest_5 : decode cX8_rest 5 = .ok (.aload_n 0, 1) := by decide +kernel
theorem dX8_rest_6 : decode cX8_rest 6 = .ok (.getfield 7, 3) := by decide +kernel
theorem dX8_rest_9 : decode cX8_rest 9 = .ok (.if_icmp .ge 123, 3) := by decide +kernel
theorem dX8_rest_12 : decode cX8_rest 12 = .ok (.aload_n 0, 1) := by decide +kernel
theorem dX8_rest_13 : decode cX8_rest 13 = .ok (.iconst 4, 1) := by decide +kernel
theorem dX8_rest_14 : decode cX8_rest 14 = .ok (.aload_n 0, 1) := by decide +kernel
theorem dX8_rest_15 : decode cX8_rest 15 = .ok (.getfield 7, 3) := by decide +kernel
theorem dX8_rest_18 : decode cX8_rest 18 = .ok (.iconst 1, 1) := by decide +kernel
theorem dX8_rest_19 : decode cX8_rest 19 = .ok (.isub, 1) := by decide +kernel
theorem dX8_rest_20 : decode cX8_rest 20 = .ok (.iload_n 3, 1) := by decide +kernel
theorem dX8_rest_21 : decode cX8_rest 21 = .ok (.isub, 1) := by decide +kernel
theorem dX8_rest_22 : decode cX8_rest 22 = .ok (.invokevirtual 142, 3) := by decide +kernel
theorem dX8_rest_25 : decode cX8_rest 25 = .ok (.istore 4, 2) := by decide +kernel
theorem dX8_rest_27 : decode cX8_rest 27 = .ok (.iload_n 1, 1) := by decide +kernel
theorem dX8_rest_28 : decode cX8_rest 28 = .ok (.iload 4, 2) := by decide +kernel
theorem dX8_rest_30 : decode cX8_rest 30 = .ok (.idiv, 1) := by decide +kernel
theorem dX8_rest_31 : decode cX8_rest 31 = .ok (.iconst 4, 1) := by decide +kernel
theorem dX8_rest_32 : decode cX8_rest 32 = .ok (.irem, 1) := by decide +kernel
theorem dX8_rest_33 : decode cX8_rest 33 = .ok (.istore 5, 2) := by decide +kernel
theorem dX8_rest_35 : decode cX8_rest 35 = .ok (.aload_n 0, 1) := by decide +kernel
theorem dX8_rest_36 : decode cX8_rest 36 = .ok (.getfield 50, 3) := by decide +kernel
theorem dX8_rest_39 : decode cX8_rest 39 = .ok (.iload_n 1, 1) := by decide +kernel
theorem dX8_rest_40 : decode cX8_rest 40 = .ok (.iaload, 1) := by decide +kernel
theorem dX8_rest_41 : decode cX8_rest 41 = .ok (.aload_n 0, 1) := by decide +kernel
theorem dX8_rest_42 : decode cX8_rest 42 = .ok (.getfield 20, 3) := by decide +kernel
theorem dX8_rest_45 : decode cX8_rest 45 = .ok (.iload_n 3, 1) := by decide +kernel
theorem dX8_rest_46 : decode cX8_rest 46 = .ok (.iaload, 1) := by decide +kernel
theorem dX8_rest_47 : decode cX8_rest 47 = .ok (.invokestatic 135, 3) := by decide +kernel
theorem dX8_rest_50 : decode cX8_rest 50 = .ok (.aload_n 0, 1) := by decide +kernel
theorem dX8_rest_51 : decode cX8_rest 51 = .ok (.getfield 23, 3) := by decide +kernel
theorem dX8_rest_54 : decode cX8_rest 54 = .ok (.iload 5, 2) := by decide +kernel
theorem dX8_rest_56 : decode cX8_rest 56 = .ok (.imul, 1) := by decide +kernel
theorem dX8_rest_57 : decode cX8_rest 57 = .ok (.iadd, 1) := by decide +kernel
theorem dX8_rest_58 : decode cX8_rest 58 = .ok (.istore 6, 2) := by decide +kernel
theorem dX8_rest_60 : decode cX8_rest 60 = .ok (.iconst 0, 1) := by decide +kernel
theorem dX8_rest_61 : decode cX8_rest 61 = .ok (.istore 7, 2) := by decide +kernel
theorem dX8_rest_63 : decode cX8_rest 63 = .ok (.iload 7, 2) := by decide +kernel
theorem dX8_rest_65 : decode cX8_rest 65 = .ok (.iconst 4, 1) := by decide +kernel
theorem dX8_rest_66 : decode cX8_rest 66 = .ok (.if_icmp .ge 60, 3) := by decide +kernel
theorem dX8_rest_69 : decode cX8_rest 69 = .ok (.iload_n 1, 1) := by decide +kernel
theorem dX8_rest_70 : decode cX8_rest 70 = .ok (.iload 7, 2) := by decide +kernel
theorem dX8_rest_72 : decode cX8_rest 72 = .ok (.iload 5, 2) := by decide +kernel
theorem dX8_rest_74 : decode cX8_rest 74 = .ok (.isub, 1) := by decide +kernel
theorem dX8_rest_75 : decode cX8_rest 75 = .ok (.iload 4, 2) := by decide +kernel
theorem dX8_rest_77 : decode cX8_rest 77 = .ok (.imul, 1) := by decide +kernel
theorem dX8_rest_78 : decode cX8_rest 78 = .ok (.iadd, 1) := by decide +kernel
theorem dX8_rest_79 : decode cX8_rest 79 = .ok (.istore 8, 2) := by decide +kernel
theorem dX8_rest_81 : decode cX8_rest 81 = .ok (.iload_n 2, 1) := by decide +kernel
theorem dX8_rest_82 : decode cX8_rest 82 = .ok (.ifCond .eq 36, 3) := by decide +kernel
theorem dX8_rest_85 : decode cX8_rest 85 = .ok (.aload_n 0, 1) := by decide +kernel
theorem dX8_rest_86 : decode cX8_rest 86 = .ok (.getfield 50, 3) := by decide +kernel
theorem dX8_rest_89 : decode cX8_rest 89 = .ok (.iload 8, 2) := by decide +kernel
theorem dX8_rest_91 : decode cX8_rest 91 = .ok (.iaload, 1) := by decide +kernel
theorem dX8_rest_92 : decode cX8_rest 92 = .ok (.aload_n 0, 1) := by decide +kernel
theorem dX8_rest_93 : decode cX8_rest 93 = .ok (.getfield 20, 3) := by decide +kernel
theorem dX8_rest_96 : decode cX8_rest 96 = .ok (.iload_n 3, 1) := by decide +kernel
theorem dX8_rest_97 : decode cX8_rest 97 = .ok (.iaload, 1) := by decide +kernel
theorem dX8_rest_98 : decode cX8_rest 98 = .ok (.invokestatic 135, 3) := by decide +kernel
theorem dX8_rest_101 : decode cX8_rest 101 = .ok (.aload_n 0, 1) := by decide +kernel
theorem dX8_rest_102 : decode cX8_rest 102 = .ok (.getfield 23, 3) := by decide +kernel
theorem dX8_rest_105 : decode cX8_rest 105 = .ok (.iload 7, 2) := by decide +kernel
theorem dX8_rest_107 : decode cX8_rest 107 = .ok (.imul, 1) := by decide +kernel
theorem dX8_rest_108 : decode cX8_rest 108 = .ok (.iadd, 1) := by decide +kernel
theorem dX8_rest_109 : decode cX8_rest 109 = .ok (.iload 6, 2) := by decide +kernel
theorem dX8_rest_111 : decode cX8_rest 111 = .ok (.if_icmp .lt 7, 3) := by decide +kernel
theorem dX8_rest_114 : decode cX8_rest 114 = .ok (.iconst 1, 1) := by decide +kernel
theorem dX8_rest_115 : decode cX8_rest 115 = .ok (.goto 4, 3) := by decide +kernel
theorem dX8_rest_118 : decode cX8_rest 118 = .ok (.iconst 0, 1) := by decide +kernel
theorem dX8_rest_119 : decode cX8_rest 119 = .ok (.istore_n 2, 1) := by decide +kernel
theorem dX8_rest_120 : decode cX8_rest 120 = .ok (.iinc 7 1, 3) := by decide +kernel
theorem dX8_rest_123 : decode cX8_rest 123 = .ok (.goto (-60), 3) := by decide +kernel
theorem dX8_rest_126 : decode cX8_rest 126 = .ok (.iinc 3 1, 3) := by decide +kernel
theorem dX8_rest_129 : decode cX8_rest 129 = .ok (.goto (-125), 3) := by decide +kernel
theorem dX8_rest_132 : decode cX8_rest 132 = .ok (.iload_n 2, 1) := by decide +kernel
theorem dX8_rest_133 : decode cX8_rest 133 = .ok (.ireturn, 1) := by decide +kernel
set_option maxRecDepth 20000 in
theorem ggX8_rests_X8_isHour : GoodIn wsX8_rests wsX8_isHour := goodIn_r _ [7, 8, 9, 6, 10] (by decide +kernel) (by decide +kernel)
set_option maxRecDepth 20000 in
theorem gX8_rests_X8_isHour : GoodIn wsX8_rests (va_wsS RX8 114 yX8_isHour wsX8_isHour) := goodIn_app (goodIn_of _ (by decide +kernel)) ggX8_rests_X8_isHour
set_option maxRecDepth 20000 in
theorem ggX8_rests_X8_asTold : GoodIn wsX8_rests wsX8_asTold := goodIn_r _ [14, 15, 3, 16, 64, 65, 66, 67, 68, 69, 70, 71, 72, 73, 74, 75, 76, 77, 78, 79, 80, 81, 82, 83, 84, 85, 86] (by decide +kernel) (by decide +kernel)
set_option maxRecDepth 20000 in
theorem gX8_rests_X8_asTold : GoodIn wsX8_rests (wsV RX8 117 RX8 yX8_asTold wsX8_asTold) := goodIn_app (goodIn_of _ (by decide +kernel)) ggX8_rests_X8_asTold
set_option maxRecDepth 20000 in
theorem ggX8_rests_X8_powerOf : GoodIn wsX8_rests wsX8_powerOf := goodIn_r _ [20] (by decide +kernel) (by decide +kernel)
set_option maxRecDepth 20000 in
theorem gX8_rests_X8_powerOf : GoodIn wsX8_rests (wsV RX8 142 RX8 yX8_powerOf wsX8_powerOf) := goodIn_app (goodIn_of _ (by decide +kernel)) ggX8_rests_X8_powerOf
set_option maxRecDepth 20000 in
theorem ggX8_rests_X8_layBy : GoodIn wsX8_rests wsX8_layBy := goodIn_r _ [24, 1, 3, 64, 65, 66, 67, 68, 69, 70, 71, 72, 73, 74, 75, 76, 77, 78, 79, 80, 81, 82, 83, 84, 85, 86] (by decide +kernel) (by decide +kernel)
set_option maxRecDepth 20000 in
theorem gX8_rests_X8_layBy : GoodIn wsX8_rests (wsV RX8 145 RX8 yX8_layBy wsX8_layBy) := goodIn_app (goodIn_of _ (by decide +kernel)) ggX8_rests_X8_layBy
set_option maxRecDepth 20000 in
theorem ggX8_rests_X8_nextOf : GoodIn wsX8_rests wsX8_nextOf := goodIn_r _ [28, 29, 30, 31, 32, 33, 34, 6, 35, 1, 36, 37, 38, 39, 40, 41, 15, 3, 42, 43, 44, 8, 9, 10, 45, 46, 47, 48, 49, 50, 51, 52, 53, 54, 64, 65, 66, 67, 68, 69, 70, 71, 72, 73, 74, 75, 76, 77, 78, 79, 80, 81, 82, 83, 84, 85, 86] (by decide +kernel) (by decide +kernel)
set_option maxRecDepth 20000 in
theorem gX8_rests_X8_nextOf : GoodIn wsX8_rests (wsV RX8 111 RX8 yX8_nextOf wsX8_nextOf) := goodIn_app (goodIn_of _ (by decide +kernel)) ggX8_rests_X8_nextOf
set_option maxRecDepth 20000 in
theorem ggX8_rests_X8_rest : GoodIn wsX8_rests wsX8_rest := goodIn_r _ [58, 1, 2, 59, 60, 17, 18, 19, 6, 20, 61, 62, 63, 64, 65, 66, 67, 68, 69, 70, 71, 72, 73, 74, 75, 76, 77, 78, 79, 80, 81, 82, 83, 84, 85, 86] (by decide +kernel) (by decide +kernel)
set_option maxRecDepth 20000 in
theorem gX8_rests_X8_rest : GoodIn wsX8_rests (wsV RX8 149 RX8 yX8_rest wsX8_rest) := goodIn_app (goodIn_of _ (by decide +kernel)) ggX8_rests_X8_rest
theorem dX8_rests_0 : decode cX8_rests 0 = .ok (.iload_n 1, 1) := by decide +kernel
theorem dX8_rests_1 : decode cX8_rests 1 = .ok (.invokestatic 114, 3) := by decide +kernel
theorem dX8_rests_4 : decode cX8_rests 4 = .ok (.ifCond .ne 6, 3) := by decide +kernel
theorem dX8_rests_7 : decode cX8_rests 7 = .ok (.bipush (-2), 2) := by decide +kernel
theorem dX8_rests_9 : decode cX8_rests 9 = .ok (.ireturn, 1) := by decide +kernel
theorem dX8_rests_10 : decode cX8_rests 10 = .ok (.aload_n 0, 1) := by decide +kernel
theorem dX8_rests_11 : decode cX8_rests 11 = .ok (.invokevirtual 117, 3) := by decide +kernel
theorem dX8_rests_14 : decode cX8_rests 14 = .ok (.aload_n 0, 1) := by decide +kernel
theorem dX8_rests_15 : decode cX8_rests 15 = .ok (.iconst 4, 1) := by decide +kernel
theorem dX8_rests_16 : decode cX8_rests 16 = .ok (.aload_n 0, 1) := by decide +kernel
theorem dX8_rests_17 : decode cX8_rests 17 = .ok (.getfield 7, 3) := by decide +kernel
theorem dX8_rests_20 : decode cX8_rests 20 = .ok (.invokevirtual 142, 3) := by decide +kernel
theorem dX8_rests_23 : decode cX8_rests 23 = .ok (.istore_n 3, 1) := by decide +kernel
theorem dX8_rests_24 : decode cX8_rests 24 = .ok (.iconst 0, 1) := by decide +kernel
theorem dX8_rests_25 : decode cX8_rests 25 = .ok (.istore 4, 2) := by decide +kernel
theorem dX8_rests_27 : decode cX8_rests 27 = .ok (.iload 4, 2) := by decide +kernel
theorem dX8_rests_29 : decode cX8_rests 29 = .ok (.iload_n 3, 1) := by decide +kernel
theorem dX8_rests_30 : decode cX8_rests 30 = .ok (.if_icmp .ge 28, 3) := by decide +kernel
theorem dX8_rests_33 : decode cX8_rests 33 = .ok (.aload_n 0, 1) := by decide +kernel
theorem dX8_rests_34 : decode cX8_rests 34 = .ok (.iload 4, 2) := by decide +kernel
theorem dX8_rests_36 : decode cX8_rests 36 = .ok (.iconst 4, 1) := by decide +kernel
theorem dX8_rests_37 : decode cX8_rests 37 = .ok (.invokevirtual 145, 3) := by decide +kernel
theorem dX8_rests_40 : decode cX8_rests 40 = .ok (.aload_n 0, 1) := by decide +kernel
theorem dX8_rests_41 : decode cX8_rests 41 = .ok (.getfield 50, 3) := by decide +kernel
theorem dX8_rests_44 : decode cX8_rests 44 = .ok (.iload 4, 2) := by decide +kernel
theorem dX8_rests_46 : decode cX8_rests 46 = .ok (.aload_n 0, 1) := by decide +kernel
theorem dX8_rests_47 : decode cX8_rests 47 = .ok (.iload_n 1, 1) := by decide +kernel
theorem dX8_rests_48 : decode cX8_rests 48 = .ok (.invokevirtual 111, 3) := by decide +kernel
theorem dX8_rests_51 : decode cX8_rests 51 = .ok (.iastore, 1) := by decide +kernel
theorem dX8_rests_52 : decode cX8_rests 52 = .ok (.iinc 4 1, 3) := by decide +kernel
theorem dX8_rests_55 : decode cX8_rests 55 = .ok (.goto (-28), 3) := by decide +kernel
theorem dX8_rests_58 : decode cX8_rests 58 = .ok (.iconst 0, 1) := by decide +kernel
theorem dX8_rests_59 : decode cX8_rests 59 = .ok (.istore 4, 2) := by decide +kernel
theorem dX8_rests_61 : decode cX8_rests 61 = .ok (.iconst 0, 1) := by decide +kernel
theorem dX8_rests_62 : decode cX8_rests 62 = .ok (.istore 5, 2) := by decide +kernel
theorem dX8_rests_64 : decode cX8_rests 64 = .ok (.iload 5, 2) := by decide +kernel
theorem dX8_rests_66 : decode cX8_rests 66 = .ok (.iload_n 3, 1) := by decide +kernel
theorem dX8_rests_67 : decode cX8_rests 67 = .ok (.if_icmp .ge 73, 3) := by decide +kernel
theorem dX8_rests_70 : decode cX8_rests 70 = .ok (.aload_n 0, 1) := by decide +kernel
theorem dX8_rests_71 : decode cX8_rests 71 = .ok (.iload 5, 2) := by decide +kernel
theorem dX8_rests_73 : decode cX8_rests 73 = .ok (.invokevirtual 149, 3) := by decide +kernel
theorem dX8_rests_76 : decode cX8_rests 76 = .ok (.ifCond .eq 58, 3) := by decide +kernel
theorem dX8_rests_79 : decode cX8_rests 79 = .ok (.iload 4, 2) := by decide +kernel
theorem dX8_rests_81 : decode cX8_rests 81 = .ok (.iload_n 2, 1) := by decide +kernel
theorem dX8_rests_82 : decode cX8_rests 82 = .ok (.if_icmp .ne 49, 3) := by decide +kernel
theorem dX8_rests_85 : decode cX8_rests 85 = .ok (.aload_n 0, 1) := by decide +kernel
theorem dX8_rests_86 : decode cX8_rests 86 = .ok (.iload 5, 2) := by decide +kernel
theorem dX8_rests_88 : decode cX8_rests 88 = .ok (.iconst 4, 1) := by decide +kernel
theorem dX8_rests_89 : decode cX8_rests 89 = .ok (.invokevirtual 145, 3) := by decide +kernel
theorem dX8_rests_92 : decode cX8_rests 92 = .ok (.iconst 0, 1) := by decide +kernel
theorem dX8_rests_93 : decode cX8_rests 93 = .ok (.istore 6, 2) := by decide +kernel
theorem dX8_rests_95 : decode cX8_rests 95 = .ok (.iconst 0, 1) := by decide +kernel
theorem dX8_rests_96 : decode cX8_rests 96 = .ok (.istore 7, 2) := by decide +kernel
theorem dX8_rests_98 : decode cX8_rests 98 = .ok (.iload 7, 2) := by decide +kernel
theorem dX8_rests_100 : decode cX8_rests 100 = .ok (.aload_n 0, 1) := by decide +kernel
theorem dX8_rests_101 : decode cX8_rests 101 = .ok (.getfield 7, 3) := by decide +kernel
theorem dX8_rests_104 : decode cX8_rests 104 = .ok (.if_icmp .ge 24, 3) := by decide +kernel
theorem dX8_rests_107 : decode cX8_rests 107 = .ok (.bipush 10, 2) := by decide +kernel
theorem dX8_rests_109 : decode cX8_rests 109 = .ok (.iload 6, 2) := by decide +kernel
theorem dX8_rests_111 : decode cX8_rests 111 = .ok (.imul, 1) := by decide +kernel
theorem dX8_rests_112 : decode cX8_rests 112 = .ok (.aload_n 0, 1) := by decide +kernel
theorem dX8_rests_113 : decode cX8_rests 113 = .ok (.getfield 38, 3) := by decide +kernel
theorem dX8_rests_116 : decode cX8_rests 116 = .ok (.iload 7, 2) := by decide +kernel
theorem dX8_rests_118 : decode cX8_rests 118 = .ok (.iaload, 1) := by decide +kernel
theorem dX8_rests_119 : decode cX8_rests 119 = .ok (.iadd, 1) := by decide +kernel
theorem dX8_rests_120 : decode cX8_rests 120 = .ok (.istore 6, 2) := by decide +kernel
theorem dX8_rests_122 : decode cX8_rests 122 = .ok (.iinc 7 1, 3) := by decide +kernel
theorem dX8_rests_125 : decode cX8_rests 125 = .ok (.goto (-27), 3) := by decide +kernel
theorem dX8_rests_128 : decode cX8_rests 128 = .ok (.iload 6, 2) := by decide +kernel
theorem dX8_rests_130 : decode cX8_rests 130 = .ok (.ireturn, 1) := by decide +kernel
theorem dX8_rests_131 : decode cX8_rests 131 = .ok (.iinc 4 1, 3) := by decide +kernel
theorem dX8_rests_134 : decode cX8_rests 134 = .ok (.iinc 5 1, 3) := by decide +kernel
theorem dX8_rests_137 : decode cX8_rests 137 = .ok (.goto (-73), 3) := by decide +kernel
theorem dX8_rests_140 : decode cX8_rests 140 = .ok (.iload_n 2, 1) := by decide +kernel
theorem dX8_rests_141 : decode cX8_rests 141 = .ok (.iconst (-1), 1) := by decide +kernel
theorem dX8_rests_142 : decode cX8_rests 142 = .ok (.if_icmp .ne 8, 3) := by decide +kernel
theorem dX8_rests_145 : decode cX8_rests 145 = .ok (.iload 4, 2) := by decide +kernel
theorem dX8_rests_147 : decode cX8_rests 147 = .ok (.goto 5, 3) := by decide +kernel
theorem dX8_rests_150 : decode cX8_rests 150 = .ok (.bipush (-6), 2) := by decide +kernel
theorem dX8_rests_152 : decode cX8_rests 152 = .ok (.ireturn, 1) := by decide +kernel
set_option maxRecDepth 20000 in
theorem ggX8_laws_X8_isHour : GoodIn wsX8_laws wsX8_isHour := goodIn_r _ [10, 11, 12, 9, 13] (by decide +kernel) (by decide +kernel)
set_option maxRecDepth 20000 in
theorem gX8_laws_X8_isHour : GoodIn wsX8_laws (va_wsS RX8 114 yX8_isHour wsX8_isHour) := goodIn_app (goodIn_of _ (by decide +kernel)) ggX8_laws_X8_isHour
set_option maxRecDepth 20000 in
theorem ggX8_laws_X8_in : GoodIn wsX8_laws wsX8_in := goodIn_r _ [13] (by decide +kernel) (by decide +kernel)
set_option maxRecDepth 20000 in
theorem gX8_laws_X8_in : GoodIn wsX8_laws (va_wsS RX8 69 yX8_in wsX8_in) := goodIn_app (goodIn_of _ (by decide +kernel)) ggX8_laws_X8_in
set_option maxRecDepth 20000 in
theorem ggX8_laws_X8_asTold : GoodIn wsX8_laws wsX8_asTold := goodIn_r _ [17, 18, 19, 20, 64, 65, 66, 67, 68, 69, 70, 71, 72, 73, 74, 75, 76, 77, 78, 79, 80, 81, 82, 83, 84, 85, 86] (by decide +kernel) (by decide +kernel)
set_option maxRecDepth 20000 in
theorem gX8_laws_X8_asTold : GoodIn wsX8_laws (wsV RX8 117 RX8 yX8_asTold wsX8_asTold) := goodIn_app (goodIn_of _ (by decide +kernel)) ggX8_laws_X8_asTold
set_option maxRecDepth 20000 in
theorem ggX8_laws_X8_layTends : GoodIn wsX8_laws wsX8_layTends := goodIn_r _ [24, 25, 26, 5, 6, 27, 28, 29, 9, 30, 1, 3, 31, 32, 33, 34, 35, 36, 37, 38, 39, 40, 41, 42, 18, 19, 43, 44, 45, 11, 12, 13, 46, 47, 48, 49, 50, 51, 52, 53, 54, 55, 64, 65, 66, 67, 68, 69, 70, 71, 72, 73, 74, 75, 76, 77, 78, 79, 80, 81, 82, 83, 84, 85, 86] (by decide +kernel) (by decide +kernel)
set_option maxRecDepth 20000 in
theorem gX8_laws_X8_layTends : GoodIn wsX8_laws (wsV RX8 132 RX8 yX8_layTends wsX8_layTends) := goodIn_app (goodIn_of _ (by decide +kernel)) ggX8_laws_X8_layTends
set_option maxRecDepth 20000 in
theorem ggX8_laws_X8_contentOf : GoodIn wsX8_laws wsX8_contentOf := goodIn_r _ [59, 36, 60, 61, 62, 9, 63, 64, 65, 66, 67, 68, 69, 70, 71, 72, 73, 74, 75, 76, 77, 78, 79, 80, 81, 82, 83, 84, 85, 86] (by decide +kernel) (by decide +kernel)
set_option maxRecDepth 20000 in
theorem gX8_laws_X8_contentOf : GoodIn wsX8_laws (wsV RX8 138 RX8 yX8_contentOf wsX8_contentOf) := goodIn_app (goodIn_of _ (by decide +kernel)) ggX8_laws_X8_contentOf
theorem dX8_laws_0 : decode cX8_laws 0 = .ok (.iload_n 1, 1) := by decide +kernel
theorem dX8_laws_1 : decode cX8_laws 1 = .ok (.invokestatic 114, 3) := by decide +kernel
theorem dX8_laws_4 : decode cX8_laws 4 = .ok (.ifCond .eq 12, 3) := by decide +kernel
theorem dX8_laws_7 : decode cX8_laws 7 = .ok (.iload_n 2, 1) := by decide +kernel
theorem dX8_laws_8 : decode cX8_laws 8 = .ok (.iconst 0, 1) := by decide +kernel
theorem dX8_laws_9 : decode cX8_laws 9 = .ok (.iconst 1, 1) := by decide +kernel
theorem dX8_laws_10 : decode cX8_laws 10 = .ok (.invokestatic 69, 3) := by decide +kernel
theorem dX8_laws_13 : decode cX8_laws 13 = .ok (.ifCond .ne 6, 3) := by decide +kernel
theorem dX8_laws_16 : decode cX8_laws 16 = .ok (.bipush (-2), 2) := by decide +kernel
theorem dX8_laws_18 : decode cX8_laws 18 = .ok (.ireturn, 1) := by decide +kernel
theorem dX8_laws_19 : decode cX8_laws 19 = .ok (.aload_n 0, 1) := by decide +kernel
theorem dX8_laws_20 : decode cX8_laws 20 = .ok (.invokevirtual 117, 3) := by decide +kernel
theorem dX8_laws_23 : decode cX8_laws 23 = .ok (.aload_n 0, 1) := by decide +kernel
theorem dX8_laws_24 : decode cX8_laws 24 = .ok (.getfield 26, 3) := by decide +kernel
theorem dX8_laws_27 : decode cX8_laws 27 = .ok (.istore_n 3, 1) := by decide +kernel
theorem dX8_laws_28 : decode cX8_laws 28 = .ok (.iconst 0, 1) := by decide +kernel
theorem dX8_laws_29 : decode cX8_laws 29 = .ok (.istore 4, 2) := by decide +kernel
theorem dX8_laws_31 : decode cX8_laws 31 = .ok (.iload 4, 2) := by decide +kernel
theorem dX8_laws_33 : decode cX8_laws 33 = .ok (.bipush 20, 2) := by decide +kernel
theorem dX8_laws_35 : decode cX8_laws 35 = .ok (.if_icmp .ge 23, 3) := by decide +kernel
theorem dX8_laws_38 : decode cX8_laws 38 = .ok (.aload_n 0, 1) := by decide +kernel
theorem dX8_laws_39 : decode cX8_laws 39 = .ok (.getfield 53, 3) := by decide +kernel
theorem dX8_laws_42 : decode cX8_laws 42 = .ok (.iload 4, 2) := by decide +kernel
theorem dX8_laws_44 : decode cX8_laws 44 = .ok (.aload_n 0, 1) := by decide +kernel
theorem dX8_laws_45 : decode cX8_laws 45 = .ok (.getfield 29, 3) := by decide +kernel
theorem dX8_laws_48 : decode cX8_laws 48 = .ok (.iload 4, 2) := by decide +kernel
theorem dX8_laws_50 : decode cX8_laws 50 = .ok (.iaload, 1) := by decide +kernel
theorem dX8_laws_51 : decode cX8_laws 51 = .ok (.iastore, 1) := by decide +kernel
theorem dX8_laws_52 : decode cX8_laws 52 = .ok (.iinc 4 1, 3) := by decide +kernel
theorem dX8_laws_55 : decode cX8_laws 55 = .ok (.goto (-24), 3) := by decide +kernel
theorem dX8_laws_58 : decode cX8_laws 58 = .ok (.bipush (-6), 2) := by decide +kernel
theorem dX8_laws_60 : decode cX8_laws 60 = .ok (.istore 4, 2) := by decide +kernel
theorem dX8_laws_62 : decode cX8_laws 62 = .ok (.bipush (-6), 2) := by decide +kernel
theorem dX8_laws_64 : decode cX8_laws 64 = .ok (.istore 5, 2) := by decide +kernel
theorem dX8_laws_66 : decode cX8_laws 66 = .ok (.ldc 141, 2) := by decide +kernel
theorem dX8_laws_68 : decode cX8_laws 68 = .ok (.istore 6, 2) := by decide +kernel
theorem dX8_laws_70 : decode cX8_laws 70 = .ok (.iconst 0, 1) := by decide +kernel
theorem dX8_laws_71 : decode cX8_laws 71 = .ok (.istore 7, 2) := by decide +kernel
theorem dX8_laws_73 : decode cX8_laws 73 = .ok (.iload 7, 2) := by decide +kernel
theorem dX8_laws_75 : decode cX8_laws 75 = .ok (.bipush 24, 2) := by decide +kernel
theorem dX8_laws_77 : decode cX8_laws 77 = .ok (.if_icmp .ge 129, 3) := by decide +kernel
theorem dX8_laws_80 : decode cX8_laws 80 = .ok (.iload 7, 2) := by decide +kernel
theorem dX8_laws_82 : decode cX8_laws 82 = .ok (.bipush 6, 2) := by decide +kernel
theorem dX8_laws_84 : decode cX8_laws 84 = .ok (.idiv, 1) := by decide +kernel
theorem dX8_laws_85 : decode cX8_laws 85 = .ok (.istore 8, 2) := by decide +kernel
theorem dX8_laws_87 : decode cX8_laws 87 = .ok (.aload_n 0, 1) := by decide +kernel
theorem dX8_laws_88 : decode cX8_laws 88 = .ok (.iconst 3, 1) := by decide +kernel
theorem dX8_laws_89 : decode cX8_laws 89 = .ok (.putfield 26, 3) := by decide +kernel
theorem dX8_laws_92 : decode cX8_laws 92 = .ok (.aload_n 0, 1) := by decide +kernel
theorem dX8_laws_93 : decode cX8_laws 93 = .ok (.getfield 29, 3) := by decide +kernel
theorem dX8_laws_96 : decode cX8_laws 96 = .ok (.iconst 0, 1) := by decide +kernel
theorem dX8_laws_97 : decode cX8_laws 97 = .ok (.bipush 45, 2) := by decide +kernel
theorem dX8_laws_99 : decode cX8_laws 99 = .ok (.iastore, 1) := by decide +kernel
theorem dX8_laws_100 : decode cX8_laws 100 = .ok (.aload_n 0, 1) := by decide +kernel
theorem dX8_laws_101 : decode cX8_laws 101 = .ok (.getfield 29, 3) := by decide +kernel
theorem dX8_laws_104 : decode cX8_laws 104 = .ok (.iconst 1, 1) := by decide +kernel
theorem dX8_laws_105 : decode cX8_laws 105 = .ok (.bipush 48, 2) := by decide +kernel
theorem dX8_laws_107 : decode cX8_laws 107 = .ok (.iload 7, 2) := by decide +kernel
theorem dX8_laws_109 : decode cX8_laws 109 = .ok (.bipush 6, 2) := by decide +kernel
theorem dX8_laws_111 : decode cX8_laws 111 = .ok (.irem, 1) := by decide +kernel
theorem dX8_laws_112 : decode cX8_laws 112 = .ok (.iadd, 1) := by decide +kernel
theorem dX8_laws_113 : decode cX8_laws 113 = .ok (.iastore, 1) := by decide +kernel
theorem dX8_laws_114 : decode cX8_laws 114 = .ok (.aload_n 0, 1) := by decide +kernel
theorem dX8_laws_115 : decode cX8_laws 115 = .ok (.getfield 29, 3) := by decide +kernel
theorem dX8_laws_118 : decode cX8_laws 118 = .ok (.iconst 2, 1) := by decide +kernel
theorem dX8_laws_119 : decode cX8_laws 119 = .ok (.iload 8, 2) := by decide +kernel
theorem dX8_laws_121 : decode cX8_laws 121 = .ok (.ifCond .ne 8, 3) := by decide +kernel
theorem dX8_laws_124 : decode cX8_laws 124 = .ok (.bipush 108, 2) := by decide +kernel
theorem dX8_laws_126 : decode cX8_laws 126 = .ok (.goto 27, 3) := by decide +kernel
theorem dX8_laws_129 : decode cX8_laws 129 = .ok (.iload 8, 2) := by decide +kernel
theorem dX8_laws_131 : decode cX8_laws 131 = .ok (.iconst 1, 1) := by decide +kernel
theorem dX8_laws_132 : decode cX8_laws 132 = .ok (.if_icmp .ne 8, 3) := by decide +kernel
theorem dX8_laws_135 : decode cX8_laws 135 = .ok (.bipush 109, 2) := by decide +kernel
theorem dX8_laws_137 : decode cX8_laws 137 = .ok (.goto 16, 3) := by decide +kernel
theorem dX8_laws_140 : decode cX8_laws 140 = .ok (.iload 8, 2) := by decide +kernel
theorem dX8_laws_142 : decode cX8_laws 142 = .ok (.iconst 2, 1) := by decide +kernel
theorem dX8_laws_143 : decode cX8_laws 143 = .ok (.if_icmp .ne 8, 3) := by decide +kernel
theorem dX8_laws_146 : decode cX8_laws 146 = .ok (.bipush 112, 2) := by decide +kernel
theorem dX8_laws_148 : decode cX8_laws 148 = .ok (.goto 5, 3) := by decide +kernel
theorem dX8_laws_151 : decode cX8_laws 151 = .ok (.bipush 102, 2) := by decide +kernel
theorem dX8_laws_153 : decode cX8_laws 153 = .ok (.iastore, 1) := by decide +kernel
theorem dX8_laws_154 : decode cX8_laws 154 = .ok (.aload_n 0, 1) := by decide +kernel
theorem dX8_laws_155 : decode cX8_laws 155 = .ok (.iload_n 1, 1) := by decide +kernel
theorem dX8_laws_156 : decode cX8_laws 156 = .ok (.invokevirtual 132, 3) := by decide +kernel
theorem dX8_laws_159 : decode cX8_laws 159 = .ok (.aload_n 0, 1) := by decide +kernel
theorem dX8_laws_160 : decode cX8_laws 160 = .ok (.getfield 126, 3) := by decide +kernel
theorem dX8_laws_163 : decode cX8_laws 163 = .ok (.iconst 1, 1) := by decide +kernel
theorem dX8_laws_164 : decode cX8_laws 164 = .ok (.if_icmp .ne 36, 3) := by decide +kernel
theorem dX8_laws_167 : decode cX8_laws 167 = .ok (.aload_n 0, 1) := by decide +kernel
theorem dX8_laws_168 : decode cX8_laws 168 = .ok (.aload_n 0, 1) := by decide +kernel
theorem dX8_laws_169 : decode cX8_laws 169 = .ok (.getfield 129, 3) := by decide +kernel
theorem dX8_laws_172 : decode cX8_laws 172 = .ok (.invokevirtual 138, 3) := by decide +kernel
theorem dX8_laws_175 : decode cX8_laws 175 = .ok (.iload 6, 2) := by decide +kernel
theorem dX8_laws_177 : decode cX8_laws 177 = .ok (.if_icmp .ge 23, 3) := by decide +kernel
theorem dX8_laws_180 : decode cX8_laws 180 = .ok (.aload_n 0, 1) := by decide +kernel
theorem dX8_laws_181 : decode cX8_laws 181 = .ok (.aload_n 0, 1) := by decide +kernel
theorem dX8_laws_182 : decode cX8_laws 182 = .ok (.getfield 129, 3) := by decide +kernel
theorem dX8_laws_185 : decode cX8_laws 185 = .ok (.invokevirtual 138, 3) := by decide +kernel
theorem dX8_laws_188 : decode cX8_laws 188 = .ok (.istore 6, 2) := by decide +kernel
theorem dX8_laws_190 : decode cX8_laws 190 = .ok (.iload 7, 2) := by decide +kernel
theorem dX8_laws_192 : decode cX8_laws 192 = .ok (.istore 4, 2) := by decide +kernel
theorem dX8_laws_194 : decode cX8_laws 194 = .ok (.aload_n 0, 1) := by decide +kernel
theorem dX8_laws_195 : decode cX8_laws 195 = .ok (.getfield 129, 3) := by decide +kernel
theorem dX8_laws_198 : decode cX8_laws 198 = .ok (.istore 5, 2) := by decide +kernel
theorem dX8_laws_200 : decode cX8_laws 200 = .ok (.iinc 7 1, 3) := by decide +kernel
theorem dX8_laws_203 : decode cX8_laws 203 = .ok (.goto (-130), 3) := by decide +kernel
theorem dX8_laws_206 : decode cX8_laws 206 = .ok (.aload_n 0, 1) := by decide +kernel
theorem dX8_laws_207 : decode cX8_laws 207 = .ok (.iload_n 3, 1) := by decide +kernel
theorem dX8_laws_208 : decode cX8_laws 208 = .ok (.putfield 26, 3) := by decide +kernel
theorem dX8_laws_211 : decode cX8_laws 211 = .ok (.iconst 0, 1) := by decide +kernel
theorem dX8_laws_212 : decode cX8_laws 212 = .ok (.istore 7, 2) := by decide +kernel
theorem dX8_laws_214 : decode cX8_laws 214 = .ok (.iload 7, 2) := by decide +kernel
theorem dX8_laws_216 : decode cX8_laws 216 = .ok (.bipush 20, 2) := by decide +kernel
theorem dX8_laws_218 : decode cX8_laws 218 = .ok (.if_icmp .ge 23, 3) := by decide +kernel
theorem dX8_laws_221 : decode cX8_laws 221 = .ok (.aload_n 0, 1) := by decide +kernel
theorem dX8_laws_222 : decode cX8_laws 222 = .ok (.getfield 29, 3) := by decide +kernel
theorem dX8_laws_225 : decode cX8_laws 225 = .ok (.iload 7, 2) := by decide +kernel
theorem dX8_laws_227 : decode cX8_laws 227 = .ok (.aload_n 0, 1) := by decide +kernel
theorem dX8_laws_228 : decode cX8_laws 228 = .ok (.getfield 53, 3) := by decide +kernel
theorem dX8_laws_231 : decode cX8_laws 231 = .ok (.iload 7, 2) := by decide +kernel
theorem dX8_laws_233 : decode cX8_laws 233 = .ok (.iaload, 1) := by decide +kernel
theorem dX8_laws_234 : decode cX8_laws 234 = .ok (.iastore, 1) := by decide +kernel
theorem dX8_laws_235 : decode cX8_laws 235 = .ok (.iinc 7 1, 3) := by decide +kernel
theorem dX8_laws_238 : decode cX8_laws 238 = .ok (.goto (-24), 3) := by decide +kernel
theorem dX8_laws_241 : decode cX8_laws 241 = .ok (.iload_n 2, 1) := by decide +kernel
theorem dX8_laws_242 : decode cX8_laws 242 = .ok (.ifCond .ne 8, 3) := by decide +kernel
theorem dX8_laws_245 : decode cX8_laws 245 = .ok (.iload 4, 2) := by decide +kernel
theorem dX8_laws_247 : decode cX8_laws 247 = .ok (.goto 5, 3) := by decide +kernel
theorem dX8_laws_250 : decode cX8_laws 250 = .ok (.iload 5, 2) := by decide +kernel
theorem dX8_laws_252 : decode cX8_laws 252 = .ok (.ireturn, 1) := by decide +kernel
theorem dX8_bits_0 : decode cX8_bits 0 = .ok (.iconst 0, 1) := by decide +kernel
theorem dX8_bits_1 : decode cX8_bits 1 = .ok (.istore_n 1, 1) := by decide +kernel
theorem dX8_bits_2 : decode cX8_bits 2 = .ok (.iconst 0, 1) := by decide +kernel
theorem dX8_bits_3 : decode cX8_bits 3 = .ok (.istore_n 2, 1) := by decide +kernel
theorem dX8_bits_4 : decode cX8_bits 4 = .ok (.iload_n 2, 1) := by decide +kernel
theorem dX8_bits_5 : decode cX8_bits 5 = .ok (.bipush 6, 2) := by decide +kernel
theorem dX8_bits_7 : decode cX8_bits 7 = .ok (.if_icmp .ge 17, 3) := by decide +kernel
theorem dX8_bits_10 : decode cX8_bits 10 = .ok (.iload_n 1, 1) := by decide +kernel
theorem dX8_bits_11 : decode cX8_bits 11 = .ok (.iload_n 0, 1) := by decide +kernel
theorem dX8_bits_12 : decode cX8_bits 12 = .ok (.iload_n 2, 1) := by decide +kernel
theorem dX8_bits_13 : decode cX8_bits 13 = .ok (.ishr, 1) := by decide +kernel
theorem dX8_bits_14 : decode cX8_bits 14 = .ok (.iconst 1, 1) := by decide +kernel
theorem dX8_bits_15 : decode cX8_bits 15 = .ok (.iand, 1) := by decide +kernel
theorem dX8_bits_16 : decode cX8_bits 16 = .ok (.iadd, 1) := by decide +kernel
theorem dX8_bits_17 : decode cX8_bits 17 = .ok (.istore_n 1, 1) := by decide +kernel
theorem dX8_bits_18 : decode cX8_bits 18 = .ok (.iinc 2 1, 3) := by decide +kernel
theorem dX8_bits_21 : decode cX8_bits 21 = .ok (.goto (-17), 3) := by decide +kernel
theorem dX8_bits_24 : decode cX8_bits 24 = .ok (.iload_n 1, 1) := by decide +kernel
theorem dX8_bits_25 : decode cX8_bits 25 = .ok (.ireturn, 1) := by decide +kernel
set_option maxRecDepth 20000 in
theorem ggX8_moves_X8_asTold : GoodIn wsX8_moves wsX8_asTold := goodIn_r _ [7, 8, 2, 9, 57, 58, 59, 60, 61, 62, 63, 64, 65, 66, 67, 68, 69, 70, 71, 72, 73, 74, 75, 76, 77, 78, 79] (by decide +kernel) (by decide +kernel)
set_option maxRecDepth 20000 in
theorem gX8_moves_X8_asTold : GoodIn wsX8_moves (wsV RX8 117 RX8 yX8_asTold wsX8_asTold) := goodIn_app (goodIn_of _ (by decide +kernel)) ggX8_moves_X8_asTold
set_option maxRecDepth 20000 in
theorem ggX8_moves_X8_bits : GoodIn wsX8_moves wsX8_bits := goodIn_r _ [12] (by decide +kernel) (by decide +kernel)
set_option maxRecDepth 20000 in
theorem gX8_moves_X8_bits : GoodIn wsX8_moves (va_wsS RX8 152 yX8_bits wsX8_bits) := goodIn_app (goodIn_of _ (by decide +kernel)) ggX8_moves_X8_bits
set_option maxRecDepth 20000 in
theorem ggX8_moves_X8_powerOf : GoodIn wsX8_moves wsX8_powerOf := goodIn_r _ [16] (by decide +kernel) (by decide +kernel)
set_option maxRecDepth 20000 in
theorem gX8_moves_X8_powerOf : GoodIn wsX8_moves (wsV RX8 142 RX8 yX8_powerOf wsX8_powerOf) := goodIn_app (goodIn_of _ (by decide +kernel)) ggX8_moves_X8_powerOf
set_option maxRecDepth 20000 in
theorem ggX8_moves_X8_has : GoodIn wsX8_moves wsX8_has := goodIn_r _ [19] (by decide +kernel) (by decide +kernel)
set_option maxRecDepth 20000 in
theorem gX8_moves_X8_has : GoodIn wsX8_moves (va_wsS RX8 155 yX8_has wsX8_has) := goodIn_app (goodIn_of _ (by decide +kernel)) ggX8_moves_X8_has
set_option maxRecDepth 20000 in
theorem ggX8_moves_X8_hourOf : GoodIn wsX8_moves wsX8_hourOf := goodIn_r _ [23, 24, 25, 26, 6, 27, 28, 29, 30, 31, 32, 33, 34, 1, 35, 36, 37, 38, 39, 40, 8, 2, 41, 42, 43, 44, 45, 46, 47, 48, 49, 50, 51, 52, 53, 54, 55, 56, 57, 58, 59, 60, 61, 62, 63, 64, 65, 66, 67, 68, 69, 70, 71, 72, 73, 74, 75, 76, 77, 78, 79] (by decide +kernel) (by decide +kernel)
set_option maxRecDepth 20000 in
theorem gX8_moves_X8_hourOf : GoodIn wsX8_moves (wsV RX8 120 RX8 yX8_hourOf wsX8_hourOf) := goodIn_app (goodIn_of _ (by decide +kernel)) ggX8_moves_X8_hourOf
theorem dX8_moves_0 : decode cX8_moves 0 = .ok (.aload_n 0, 1) := by decide +kernel
theorem dX8_moves_1 : decode cX8_moves 1 = .ok (.invokevirtual 117, 3) := by decide +kernel
theorem dX8_moves_4 : decode cX8_moves 4 = .ok (.aload_n 0, 1) := by decide +kernel
theorem dX8_moves_5 : decode cX8_moves 5 = .ok (.bipush 6, 2) := by decide +kernel
theorem dX8_moves_7 : decode cX8_moves 7 = .ok (.iload_n 1, 1) := by decide +kernel
theorem dX8_moves_8 : decode cX8_moves 8 = .ok (.invokestatic 152, 3) := by decide +kernel
theorem dX8_moves_11 : decode cX8_moves 11 = .ok (.invokevirtual 142, 3) := by decide +kernel
theorem dX8_moves_14 : decode cX8_moves 14 = .ok (.istore 5, 2) := by decide +kernel
theorem dX8_moves_16 : decode cX8_moves 16 = .ok (.iconst 0, 1) := by decide +kernel
theorem dX8_moves_17 : decode cX8_moves 17 = .ok (.istore 6, 2) := by decide +kernel
theorem dX8_moves_19 : decode cX8_moves 19 = .ok (.iload 6, 2) := by decide +kernel
theorem dX8_moves_21 : decode cX8_moves 21 = .ok (.iload 5, 2) := by decide +kernel
theorem dX8_moves_23 : decode cX8_moves 23 = .ok (.if_icmp .ge 92, 3) := by decide +kernel
theorem dX8_moves_26 : decode cX8_moves 26 = .ok (.iload 6, 2) := by decide +kernel
theorem dX8_moves_28 : decode cX8_moves 28 = .ok (.istore 7, 2) := by decide +kernel
theorem dX8_moves_30 : decode cX8_moves 30 = .ok (.iconst 0, 1) := by decide +kernel
theorem dX8_moves_31 : decode cX8_moves 31 = .ok (.istore 8, 2) := by decide +kernel
theorem dX8_moves_33 : decode cX8_moves 33 = .ok (.iload 8, 2) := by decide +kernel
theorem dX8_moves_35 : decode cX8_moves 35 = .ok (.aload_n 0, 1) := by decide +kernel
theorem dX8_moves_36 : decode cX8_moves 36 = .ok (.getfield 7, 3) := by decide +kernel
theorem dX8_moves_39 : decode cX8_moves 39 = .ok (.if_icmp .ge 37, 3) := by decide +kernel
theorem dX8_moves_42 : decode cX8_moves 42 = .ok (.iload_n 1, 1) := by decide +kernel
theorem dX8_moves_43 : decode cX8_moves 43 = .ok (.iload 8, 2) := by decide +kernel
theorem dX8_moves_45 : decode cX8_moves 45 = .ok (.invokestatic 155, 3) := by decide +kernel
theorem dX8_moves_48 : decode cX8_moves 48 = .ok (.ifCond .eq 22, 3) := by decide +kernel
theorem dX8_moves_51 : decode cX8_moves 51 = .ok (.aload_n 0, 1) := by decide +kernel
theorem dX8_moves_52 : decode cX8_moves 52 = .ok (.getfield 38, 3) := by decide +kernel
theorem dX8_moves_55 : decode cX8_moves 55 = .ok (.iload 8, 2) := by decide +kernel
theorem dX8_moves_57 : decode cX8_moves 57 = .ok (.iload 7, 2) := by decide +kernel
theorem dX8_moves_59 : decode cX8_moves 59 = .ok (.bipush 6, 2) := by decide +kernel
theorem dX8_moves_61 : decode cX8_moves 61 = .ok (.irem, 1) := by decide +kernel
theorem dX8_moves_62 : decode cX8_moves 62 = .ok (.iastore, 1) := by decide +kernel
theorem dX8_moves_63 : decode cX8_moves 63 = .ok (.iload 7, 2) := by decide +kernel
theorem dX8_moves_65 : decode cX8_moves 65 = .ok (.bipush 6, 2) := by decide +kernel
theorem dX8_moves_67 : decode cX8_moves 67 = .ok (.idiv, 1) := by decide +kernel
theorem dX8_moves_68 : decode cX8_moves 68 = .ok (.istore 7, 2) := by decide +kernel
theorem dX8_moves_70 : decode cX8_moves 70 = .ok (.iinc 8 1, 3) := by decide +kernel
theorem dX8_moves_73 : decode cX8_moves 73 = .ok (.goto (-40), 3) := by decide +kernel
theorem dX8_moves_76 : decode cX8_moves 76 = .ok (.aload_n 0, 1) := by decide +kernel
theorem dX8_moves_77 : decode cX8_moves 77 = .ok (.iload_n 2, 1) := by decide +kernel
theorem dX8_moves_78 : decode cX8_moves 78 = .ok (.iload_n 3, 1) := by decide +kernel
theorem dX8_moves_79 : decode cX8_moves 79 = .ok (.invokevirtual 120, 3) := by decide +kernel
theorem dX8_moves_82 : decode cX8_moves 82 = .ok (.istore 8, 2) := by decide +kernel
theorem dX8_moves_84 : decode cX8_moves 84 = .ok (.iload 4, 2) := by decide +kernel
theorem dX8_moves_86 : decode cX8_moves 86 = .ok (.iload_n 2, 1) := by decide +kernel
theorem dX8_moves_87 : decode cX8_moves 87 = .ok (.if_icmp .lt 13, 3) := by decide +kernel
theorem dX8_moves_90 : decode cX8_moves 90 = .ok (.iload 8, 2) := by decide +kernel
theorem dX8_moves_92 : decode cX8_moves 92 = .ok (.iload 4, 2) := by decide +kernel
theorem dX8_moves_94 : decode cX8_moves 94 = .ok (.if_icmp .lt 15, 3) := by decide +kernel
theorem dX8_moves_97 : decode cX8_moves 97 = .ok (.goto 10, 3) := by decide +kernel
theorem dX8_moves_100 : decode cX8_moves 100 = .ok (.iload 8, 2) := by decide +kernel
theorem dX8_moves_102 : decode cX8_moves 102 = .ok (.iload 4, 2) := by decide +kernel
theorem dX8_moves_104 : decode cX8_moves 104 = .ok (.if_icmp .gt 5, 3) := by decide +kernel
theorem dX8_moves_107 : decode cX8_moves 107 = .ok (.iconst 1, 1) := by decide +kernel
theorem dX8_moves_108 : decode cX8_moves 108 = .ok (.ireturn, 1) := by decide +kernel
theorem dX8_moves_109 : decode cX8_moves 109 = .ok (.iinc 6 1, 3) := by decide +kernel
theorem dX8_moves_112 : decode cX8_moves 112 = .ok (.goto (-93), 3) := by decide +kernel
theorem dX8_moves_115 : decode cX8_moves 115 = .ok (.iconst 0, 1) := by decide +kernel
theorem dX8_moves_116 : decode cX8_moves 116 = .ok (.ireturn, 1) := by decide +kernel
set_option maxRecDepth 20000 in
theorem ggX8_move_X8_isHour : GoodIn wsX8_move wsX8_isHour := goodIn_r _ [5, 6, 7, 4, 8] (by decide +kernel) (by decide +kernel)
set_option maxRecDepth 20000 in
theorem gX8_move_X8_isHour : GoodIn wsX8_move (va_wsS RX8 114 yX8_isHour wsX8_isHour) := goodIn_app (goodIn_of _ (by decide +kernel)) ggX8_move_X8_isHour
set_option maxRecDepth 20000 in
theorem ggX8_move_X8_in : GoodIn wsX8_move wsX8_in := goodIn_r _ [8] (by decide +kernel) (by decide +kernel)
set_option maxRecDepth 20000 in
theorem gX8_move_X8_in : GoodIn wsX8_move (va_wsS RX8 69 yX8_in wsX8_in) := goodIn_app (goodIn_of _ (by decide +kernel)) ggX8_move_X8_in
set_option maxRecDepth 20000 in
theorem ggX8_move_X8_bits : GoodIn wsX8_move wsX8_bits := goodIn_r _ [11] (by decide +kernel) (by decide +kernel)
set_option maxRecDepth 20000 in
theorem gX8_move_X8_bits : GoodIn wsX8_move (va_wsS RX8 152 yX8_bits wsX8_bits) := goodIn_app (goodIn_of _ (by decide +kernel)) ggX8_move_X8_bits
set_option maxRecDepth 20000 in
theorem ggX8_move_X8_moves : GoodIn wsX8_move wsX8_moves := goodIn_r _ [15, 1, 16, 17, 18, 19, 4, 20, 21, 22, 9, 10, 11, 23, 24, 25, 26, 27, 28, 29, 30, 31, 32, 33, 34, 35, 36, 37, 38, 39, 40, 41, 42, 43, 44, 45, 46, 47, 48, 49, 50, 51, 52, 53, 6, 7, 8, 54, 55, 56, 57, 58, 59, 60, 61, 62, 63, 64, 65, 66, 67, 68, 69, 70, 71, 72, 73, 74, 75, 76, 77, 78, 79, 80, 81, 82, 83, 84, 85, 86] (by decide +kernel) (by decide +kernel)
set_option maxRecDepth 20000 in
theorem gX8_move_X8_moves : GoodIn wsX8_move (wsV RX8 159 RX8 yX8_moves wsX8_moves) := goodIn_app (goodIn_of _ (by decide +kernel)) ggX8_move_X8_moves
theorem dX8_move_0 : decode cX8_move 0 = .ok (.iload_n 1, 1) := by decide +kernel
theorem dX8_move_1 : decode cX8_move 1 = .ok (.invokestatic 114, 3) := by decide +kernel
theorem dX8_move_4 : decode cX8_move 4 = .ok (.ifCond .eq 20, 3) := by decide +kernel
theorem dX8_move_7 : decode cX8_move 7 = .ok (.iload_n 2, 1) := by decide +kernel
theorem dX8_move_8 : decode cX8_move 8 = .ok (.iconst 1, 1) := by decide +kernel
theorem dX8_move_9 : decode cX8_move 9 = .ok (.bipush 9, 2) := by decide +kernel
theorem dX8_move_11 : decode cX8_move 11 = .ok (.invokestatic 69, 3) := by decide +kernel
theorem dX8_move_14 : decode cX8_move 14 = .ok (.ifCond .eq 10, 3) := by decide +kernel
theorem dX8_move_17 : decode cX8_move 17 = .ok (.iload_n 3, 1) := by decide +kernel
theorem dX8_move_18 : decode cX8_move 18 = .ok (.invokestatic 114, 3) := by decide +kernel
theorem dX8_move_21 : decode cX8_move 21 = .ok (.ifCond .ne 6, 3) := by decide +kernel
theorem dX8_move_24 : decode cX8_move 24 = .ok (.bipush (-2), 2) := by decide +kernel
theorem dX8_move_26 : decode cX8_move 26 = .ok (.ireturn, 1) := by decide +kernel
theorem dX8_move_27 : decode cX8_move 27 = .ok (.bipush (-6), 2) := by decide +kernel
theorem dX8_move_29 : decode cX8_move 29 = .ok (.istore 4, 2) := by decide +kernel
theorem dX8_move_31 : decode cX8_move 31 = .ok (.iconst 0, 1) := by decide +kernel
theorem dX8_move_32 : decode cX8_move 32 = .ok (.istore 5, 2) := by decide +kernel
theorem dX8_move_34 : decode cX8_move 34 = .ok (.iload 5, 2) := by decide +kernel
theorem dX8_move_36 : decode cX8_move 36 = .ok (.iconst 1, 1) := by decide +kernel
theorem dX8_move_37 : decode cX8_move 37 = .ok (.aload_n 0, 1) := by decide +kernel
theorem dX8_move_38 : decode cX8_move 38 = .ok (.getfield 7, 3) := by decide +kernel
theorem dX8_move_41 : decode cX8_move 41 = .ok (.ishl, 1) := by decide +kernel
theorem dX8_move_42 : decode cX8_move 42 = .ok (.if_icmp .ge 60, 3) := by decide +kernel
theorem dX8_move_45 : decode cX8_move 45 = .ok (.iload 4, 2) := by decide +kernel
theorem dX8_move_47 : decode cX8_move 47 = .ok (.ifCond .lt 16, 3) := by decide +kernel
theorem dX8_move_50 : decode cX8_move 50 = .ok (.iload 5, 2) := by decide +kernel
theorem dX8_move_52 : decode cX8_move 52 = .ok (.invokestatic 152, 3) := by decide +kernel
theorem dX8_move_55 : decode cX8_move 55 = .ok (.iload 4, 2) := by decide +kernel
theorem dX8_move_57 : decode cX8_move 57 = .ok (.invokestatic 152, 3) := by decide +kernel
theorem dX8_move_60 : decode cX8_move 60 = .ok (.if_icmp .ge 7, 3) := by decide +kernel
theorem dX8_move_63 : decode cX8_move 63 = .ok (.iconst 1, 1) := by decide +kernel
theorem dX8_move_64 : decode cX8_move 64 = .ok (.goto 4, 3) := by decide +kernel
theorem dX8_move_67 : decode cX8_move 67 = .ok (.iconst 0, 1) := by decide +kernel
theorem dX8_move_68 : decode cX8_move 68 = .ok (.istore 6, 2) := by decide +kernel
theorem dX8_move_70 : decode cX8_move 70 = .ok (.iload 6, 2) := by decide +kernel
theorem dX8_move_72 : decode cX8_move 72 = .ok (.ifCond .eq 20, 3) := by decide +kernel
theorem dX8_move_75 : decode cX8_move 75 = .ok (.aload_n 0, 1) := by decide +kernel
theorem dX8_move_76 : decode cX8_move 76 = .ok (.iload 5, 2) := by decide +kernel
theorem dX8_move_78 : decode cX8_move 78 = .ok (.iload_n 1, 1) := by decide +kernel
theorem dX8_move_79 : decode cX8_move 79 = .ok (.iload_n 2, 1) := by decide +kernel
theorem dX8_move_80 : decode cX8_move 80 = .ok (.iload_n 3, 1) := by decide +kernel
theorem dX8_move_81 : decode cX8_move 81 = .ok (.invokevirtual 159, 3) := by decide +kernel
theorem dX8_move_84 : decode cX8_move 84 = .ok (.ifCond .eq 8, 3) := by decide +kernel
theorem dX8_move_87 : decode cX8_move 87 = .ok (.iload 5, 2) := by decide +kernel
theorem dX8_move_89 : decode cX8_move 89 = .ok (.goto 5, 3) := by decide +kernel
theorem dX8_move_92 : decode cX8_move 92 = .ok (.iload 4, 2) := by decide +kernel
theorem dX8_move_94 : decode cX8_move 94 = .ok (.istore 4, 2) := by decide +kernel
theorem dX8_move_96 : decode cX8_move 96 = .ok (.iinc 5 1, 3) := by decide +kernel
theorem dX8_move_99 : decode cX8_move 99 = .ok (.goto (-65), 3) := by decide +kernel
theorem dX8_move_102 : decode cX8_move 102 = .ok (.iload 4, 2) := by decide +kernel
theorem dX8_move_104 : decode cX8_move 104 = .ok (.ireturn, 1) := by decide +kernel
set_option maxRecDepth 20000 in
theorem ggX8_seen_X8_in : GoodIn wsX8_seen wsX8_in := goodIn_r _ [6] (by decide +kernel) (by decide +kernel)
set_option maxRecDepth 20000 in
theorem gX8_seen_X8_in : GoodIn wsX8_seen (va_wsS RX8 69 yX8_in wsX8_in) := goodIn_app (goodIn_of _ (by decide +kernel)) ggX8_seen_X8_in
set_option maxRecDepth 20000 in
theorem ggX8_seen_X8_isHour : GoodIn wsX8_seen wsX8_isHour := goodIn_r _ [9, 3, 4, 5, 6] (by decide +kernel) (by decide +kernel)
set_option maxRecDepth 20000 in
theorem gX8_seen_X8_isHour : GoodIn wsX8_seen (va_wsS RX8 114 yX8_isHour wsX8_isHour) := goodIn_app (goodIn_of _ (by decide +kernel)) ggX8_seen_X8_isHour
theorem dX8_seen_0 : decode cX8_seen 0 = .ok (.iload_n 1, 1) := by decide +kernel
theorem dX8_seen_1 : decode cX8_seen 1 = .ok (.iconst 0, 1) := by decide +kernel
theorem dX8_seen_2 : decode cX8_seen 2 = .ok (.bipush 30, 2) := by decide +kernel
theorem dX8_seen_4 : decode cX8_seen 4 = .ok (.invokestatic 69, 3) := by decide +kernel
theorem dX8_seen_7 : decode cX8_seen 7 = .ok (.ifCond .eq 10, 3) := by decide +kernel
theorem dX8_seen_10 : decode cX8_seen 10 = .ok (.iload_n 2, 1) := by decide +kernel
theorem dX8_seen_11 : decode cX8_seen 11 = .ok (.invokestatic 114, 3) := by decide +kernel
theorem dX8_seen_14 : decode cX8_seen 14 = .ok (.ifCond .ne 6, 3) := by decide +kernel
theorem dX8_seen_17 : decode cX8_seen 17 = .ok (.bipush (-2), 2) := by decide +kernel
theorem dX8_seen_19 : decode cX8_seen 19 = .ok (.ireturn, 1) := by decide +kernel
theorem dX8_seen_20 : decode cX8_seen 20 = .ok (.aload_n 0, 1) := by decide +kernel
theorem dX8_seen_21 : decode cX8_seen 21 = .ok (.getfield 66, 3) := by decide +kernel
theorem dX8_seen_24 : decode cX8_seen 24 = .ok (.bipush 6, 2) := by decide +kernel
theorem dX8_seen_26 : decode cX8_seen 26 = .ok (.if_icmp .ne 6, 3) := by decide +kernel
theorem dX8_seen_29 : decode cX8_seen 29 = .ok (.bipush (-4), 2) := by decide +kernel
theorem dX8_seen_31 : decode cX8_seen 31 = .ok (.ireturn, 1) := by decide +kernel
theorem dX8_seen_32 : decode cX8_seen 32 = .ok (.aload_n 0, 1) := by decide +kernel
theorem dX8_seen_33 : decode cX8_seen 33 = .ok (.getfield 32, 3) := by decide +kernel
theorem dX8_seen_36 : decode cX8_seen 36 = .ok (.iconst 2, 1) := by decide +kernel
theorem dX8_seen_37 : decode cX8_seen 37 = .ok (.aload_n 0, 1) := by decide +kernel
theorem dX8_seen_38 : decode cX8_seen 38 = .ok (.getfield 66, 3) := by decide +kernel
theorem dX8_seen_41 : decode cX8_seen 41 = .ok (.imul, 1) := by decide +kernel
theorem dX8_seen_42 : decode cX8_seen 42 = .ok (.iload_n 1, 1) := by decide +kernel
theorem dX8_seen_43 : decode cX8_seen 43 = .ok (.iastore, 1) := by decide +kernel
theorem dX8_seen_44 : decode cX8_seen 44 = .ok (.aload_n 0, 1) := by decide +kernel
theorem dX8_seen_45 : decode cX8_seen 45 = .ok (.getfield 32, 3) := by decide +kernel
theorem dX8_seen_48 : decode cX8_seen 48 = .ok (.iconst 2, 1) := by decide +kernel
theorem dX8_seen_49 : decode cX8_seen 49 = .ok (.aload_n 0, 1) := by decide +kernel
theorem dX8_seen_50 : decode cX8_seen 50 = .ok (.getfield 66, 3) := by decide +kernel
theorem dX8_seen_53 : decode cX8_seen 53 = .ok (.imul, 1) := by decide +kernel
theorem dX8_seen_54 : decode cX8_seen 54 = .ok (.iconst 1, 1) := by decide +kernel
theorem dX8_seen_55 : decode cX8_seen 55 = .ok (.iadd, 1) := by decide +kernel
theorem dX8_seen_56 : decode cX8_seen 56 = .ok (.iload_n 2, 1) := by decide +kernel
theorem dX8_seen_57 : decode cX8_seen 57 = .ok (.iastore, 1) := by decide +kernel
theorem dX8_seen_58 : decode cX8_seen 58 = .ok (.aload_n 0, 1) := by decide +kernel
theorem dX8_seen_59 : decode cX8_seen 59 = .ok (.dup, 1) := by decide +kernel
theorem dX8_seen_60 : decode cX8_seen 60 = .ok (.getfield 66, 3) := by decide +kernel
theorem dX8_seen_63 : decode cX8_seen 63 = .ok (.iconst 1, 1) := by decide +kernel
theorem dX8_seen_64 : decode cX8_seen 64 = .ok (.iadd, 1) := by decide +kernel
theorem dX8_seen_65 : decode cX8_seen 65 = .ok (.putfield 66, 3) := by decide +kernel
theorem dX8_seen_68 : decode cX8_seen 68 = .ok (.aload_n 0, 1) := by decide +kernel
theorem dX8_seen_69 : decode cX8_seen 69 = .ok (.getfield 66, 3) := by decide +kernel
theorem dX8_seen_72 : decode cX8_seen 72 = .ok (.ireturn, 1) := by decide +kernel
theorem dX8_forget_0 : decode cX8_forget 0 = .ok (.aload_n 0, 1) := by decide +kernel
theorem dX8_forget_1 : decode cX8_forget 1 = .ok (.getfield 66, 3) := by decide +kernel
theorem dX8_forget_4 : decode cX8_forget 4 = .ok (.istore_n 1, 1) := by decide +kernel
theorem dX8_forget_5 : decode cX8_forget 5 = .ok (.aload_n 0, 1) := by decide +kernel
theorem dX8_forget_6 : decode cX8_forget 6 = .ok (.iconst 0, 1) := by decide +kernel
theorem dX8_forget_7 : decode cX8_forget 7 = .ok (.putfield 66, 3) := by decide +kernel
theorem dX8_forget_10 : decode cX8_forget 10 = .ok (.iload_n 1, 1) := by decide +kernel
theorem dX8_forget_11 : decode cX8_forget 11 = .ok (.ireturn, 1) := by decide +kernel
set_option maxRecDepth 20000 in
theorem ggX8_could_X8_isMember : GoodIn wsX8_could wsX8_isMember := goodIn_r _ [8, 9, 10, 11, 7, 12, 56, 57, 58, 59, 60, 61, 62, 63, 64, 65, 66, 67, 68, 69, 70, 71, 72, 73, 74, 75, 76, 77, 78] (by decide +kernel) (by decide +kernel)
set_option maxRecDepth 20000 in
theorem gX8_could_X8_isMember : GoodIn wsX8_could (wsV RX8 73 RX8 yX8_isMember wsX8_isMember) := goodIn_app (goodIn_of _ (by decide +kernel)) ggX8_could_X8_isMember
set_option maxRecDepth 20000 in
theorem ggX8_could_X8_isHour : GoodIn wsX8_could wsX8_isHour := goodIn_r _ [15, 10, 11, 7, 12] (by decide +kernel) (by decide +kernel)
set_option maxRecDepth 20000 in
theorem gX8_could_X8_isHour : GoodIn wsX8_could (va_wsS RX8 114 yX8_isHour wsX8_isHour) := goodIn_app (goodIn_of _ (by decide +kernel)) ggX8_could_X8_isHour
set_option maxRecDepth 20000 in
theorem ggX8_could_X8_asTold : GoodIn wsX8_could wsX8_asTold := goodIn_r _ [19, 20, 1, 21, 56, 57, 58, 59, 60, 61, 62, 63, 64, 65, 66, 67, 68, 69, 70, 71, 72, 73, 74, 75, 76, 77, 78] (by decide +kernel) (by decide +kernel)
set_option maxRecDepth 20000 in
theorem gX8_could_X8_asTold : GoodIn wsX8_could (wsV RX8 117 RX8 yX8_asTold wsX8_asTold) := goodIn_app (goodIn_of _ (by decide +kernel)) ggX8_could_X8_asTold
set_option maxRecDepth 20000 in
theorem ggX8_could_X8_hourOf : GoodIn wsX8_could wsX8_hourOf := goodIn_r _ [25, 26, 27, 28, 7, 29, 30, 31, 32, 33, 34, 35, 36, 9, 37, 38, 39, 40, 41, 42, 20, 1, 43, 44, 45, 10, 11, 12, 46, 47, 48, 49, 50, 51, 52, 53, 54, 55, 56, 57, 58, 59, 60, 61, 62, 63, 64, 65, 66, 67, 68, 69, 70, 71, 72, 73, 74, 75, 76, 77, 78] (by decide +kernel) (by decide +kernel)
set_option maxRecDepth 20000 in
theorem gX8_could_X8_hourOf : GoodIn wsX8_could (wsV RX8 120 RX8 yX8_hourOf wsX8_hourOf) := goodIn_app (goodIn_of _ (by decide +kernel)) ggX8_could_X8_hourOf
theorem dX8_could_0 : decode cX8_could 0 = .ok (.aload_n 0, 1) := by decide +kernel
theorem dX8_could_1 : decode cX8_could 1 = .ok (.iload_n 1, 1) := by decide +kernel
theorem dX8_could_2 : decode cX8_could 2 = .ok (.invokevirtual 73, 3) := by decide +kernel
theorem dX8_could_5 : decode cX8_could 5 = .ok (.ifCond .ne 5, 3) := by decide +kernel
theorem dX8_could_8 : decode cX8_could 8 = .ok (.iconst (-1), 1) := by decide +kernel
theorem dX8_could_9 : decode cX8_could 9 = .ok (.ireturn, 1) := by decide +kernel
theorem dX8_could_10 : decode cX8_could 10 = .ok (.iload_n 2, 1) := by decide +kernel
theorem dX8_could_11 : decode cX8_could 11 = .ok (.invokestatic 114, 3) := by decide +kernel
theorem dX8_could_14 : decode cX8_could 14 = .ok (.ifCond .ne 6, 3) := by decide +kernel
theorem dX8_could_17 : decode cX8_could 17 = .ok (.bipush (-2), 2) := by decide +kernel
theorem dX8_could_19 : decode cX8_could 19 = .ok (.ireturn, 1) := by decide +kernel
theorem dX8_could_20 : decode cX8_could 20 = .ok (.aload_n 0, 1) := by decide +kernel
theorem dX8_could_21 : decode cX8_could 21 = .ok (.invokevirtual 117, 3) := by decide +kernel
theorem dX8_could_24 : decode cX8_could 24 = .ok (.iconst 0, 1) := by decide +kernel
theorem dX8_could_25 : decode cX8_could 25 = .ok (.istore_n 3, 1) := by decide +kernel
theorem dX8_could_26 : decode cX8_could 26 = .ok (.iconst 0, 1) := by decide +kernel
theorem dX8_could_27 : decode cX8_could 27 = .ok (.istore 4, 2) := by decide +kernel
theorem dX8_could_29 : decode cX8_could 29 = .ok (.iload 4, 2) := by decide +kernel
theorem dX8_could_31 : decode cX8_could 31 = .ok (.bipush 6, 2) := by decide +kernel
theorem dX8_could_33 : decode cX8_could 33 = .ok (.if_icmp .ge 94, 3) := by decide +kernel
theorem dX8_could_36 : decode cX8_could 36 = .ok (.aload_n 0, 1) := by decide +kernel
theorem dX8_could_37 : decode cX8_could 37 = .ok (.getfield 38, 3) := by decide +kernel
theorem dX8_could_40 : decode cX8_could 40 = .ok (.iload_n 1, 1) := by decide +kernel
theorem dX8_could_41 : decode cX8_could 41 = .ok (.iload 4, 2) := by decide +kernel
theorem dX8_could_43 : decode cX8_could 43 = .ok (.iastore, 1) := by decide +kernel
theorem dX8_could_44 : decode cX8_could 44 = .ok (.iconst 1, 1) := by decide +kernel
theorem dX8_could_45 : decode cX8_could 45 = .ok (.istore 5, 2) := by decide +kernel
theorem dX8_could_47 : decode cX8_could 47 = .ok (.iconst 0, 1) := by decide +kernel
theorem dX8_could_48 : decode cX8_could 48 = .ok (.istore 6, 2) := by decide +kernel
theorem dX8_could_50 : decode cX8_could 50 = .ok (.iload 6, 2) := by decide +kernel
theorem dX8_could_52 : decode cX8_could 52 = .ok (.aload_n 0, 1) := by decide +kernel
theorem dX8_could_53 : decode cX8_could 53 = .ok (.getfield 66, 3) := by decide +kernel
theorem dX8_could_56 : decode cX8_could 56 = .ok (.if_icmp .ge 49, 3) := by decide +kernel
theorem dX8_could_59 : decode cX8_could 59 = .ok (.iload 5, 2) := by decide +kernel
theorem dX8_could_61 : decode cX8_could 61 = .ok (.ifCond .eq 35, 3) := by decide +kernel
theorem dX8_could_64 : decode cX8_could 64 = .ok (.aload_n 0, 1) := by decide +kernel
theorem dX8_could_65 : decode cX8_could 65 = .ok (.iload_n 2, 1) := by decide +kernel
theorem dX8_could_66 : decode cX8_could 66 = .ok (.aload_n 0, 1) := by decide +kernel
theorem dX8_could_67 : decode cX8_could 67 = .ok (.getfield 32, 3) := by decide +kernel
theorem dX8_could_70 : decode cX8_could 70 = .ok (.iconst 2, 1) := by decide +kernel
theorem dX8_could_71 : decode cX8_could 71 = .ok (.iload 6, 2) := by decide +kernel
theorem dX8_could_73 : decode cX8_could 73 = .ok (.imul, 1) := by decide +kernel
theorem dX8_could_74 : decode cX8_could 74 = .ok (.iaload, 1) := by decide +kernel
theorem dX8_could_75 : decode cX8_could 75 = .ok (.invokevirtual 120, 3) := by decide +kernel
theorem dX8_could_78 : decode cX8_could 78 = .ok (.aload_n 0, 1) := by decide +kernel
theorem dX8_could_79 : decode cX8_could 79 = .ok (.getfield 32, 3) := by decide +kernel
theorem dX8_could_82 : decode cX8_could 82 = .ok (.iconst 2, 1) := by decide +kernel
theorem dX8_could_83 : decode cX8_could 83 = .ok (.iload 6, 2) := by decide +kernel
theorem dX8_could_85 : decode cX8_could 85 = .ok (.imul, 1) := by decide +kernel
theorem dX8_could_86 : decode cX8_could 86 = .ok (.iconst 1, 1) := by decide +kernel
theorem dX8_could_87 : decode cX8_could 87 = .ok (.iadd, 1) := by decide +kernel
theorem dX8_could_88 : decode cX8_could 88 = .ok (.iaload, 1) := by decide +kernel
theorem dX8_could_89 : decode cX8_could 89 = .ok (.if_icmp .ne 7, 3) := by decide +kernel
theorem dX8_could_92 : decode cX8_could 92 = .ok (.iconst 1, 1) := by decide +kernel
theorem dX8_could_93 : decode cX8_could 93 = .ok (.goto 4, 3) := by decide +kernel
theorem dX8_could_96 : decode cX8_could 96 = .ok (.iconst 0, 1) := by decide +kernel
theorem dX8_could_97 : decode cX8_could 97 = .ok (.istore 5, 2) := by decide +kernel
theorem dX8_could_99 : decode cX8_could 99 = .ok (.iinc 6 1, 3) := by decide +kernel
theorem dX8_could_102 : decode cX8_could 102 = .ok (.goto (-52), 3) := by decide +kernel
theorem dX8_could_105 : decode cX8_could 105 = .ok (.iload_n 3, 1) := by decide +kernel
theorem dX8_could_106 : decode cX8_could 106 = .ok (.iload 5, 2) := by decide +kernel
theorem dX8_could_108 : decode cX8_could 108 = .ok (.ifCond .eq 10, 3) := by decide +kernel
theorem dX8_could_111 : decode cX8_could 111 = .ok (.iconst 1, 1) := by decide +kernel
theorem dX8_could_112 : decode cX8_could 112 = .ok (.iload 4, 2) := by decide +kernel
theorem dX8_could_114 : decode cX8_could 114 = .ok (.ishl, 1) := by decide +kernel
theorem dX8_could_115 : decode cX8_could 115 = .ok (.goto 4, 3) := by decide +kernel
theorem dX8_could_118 : decode cX8_could 118 = .ok (.iconst 0, 1) := by decide +kernel
theorem dX8_could_119 : decode cX8_could 119 = .ok (.ior, 1) := by decide +kernel
theorem dX8_could_120 : decode cX8_could 120 = .ok (.istore_n 3, 1) := by decide +kernel
theorem dX8_could_121 : decode cX8_could 121 = .ok (.iinc 4 1, 3) := by decide +kernel
theorem dX8_could_124 : decode cX8_could 124 = .ok (.goto (-95), 3) := by decide +kernel
theorem dX8_could_127 : decode cX8_could 127 = .ok (.iload_n 3, 1) := by decide +kernel
theorem dX8_could_128 : decode cX8_could 128 = .ok (.ireturn, 1) := by decide +kernel
theorem dX8_power_0 : decode cX8_power 0 = .ok (.lconst 1, 1) := by decide +kernel
theorem dX8_power_1 : decode cX8_power 1 = .ok (.lstore_n 3, 1) := by decide +kernel
theorem dX8_power_2 : decode cX8_power 2 = .ok (.iconst 0, 1) := by decide +kernel
theorem dX8_power_3 : decode cX8_power 3 = .ok (.istore 5, 2) := by decide +kernel
theorem dX8_power_5 : decode cX8_power 5 = .ok (.iload 5, 2) := by decide +kernel
theorem dX8_power_7 : decode cX8_power 7 = .ok (.iload_n 2, 1) := by decide +kernel
theorem dX8_power_8 : decode cX8_power 8 = .ok (.if_icmp .ge 13, 3) := by decide +kernel
theorem dX8_power_11 : decode cX8_power 11 = .ok (.lload_n 3, 1) := by decide +kernel
theorem dX8_power_12 : decode cX8_power 12 = .ok (.lload_n 0, 1) := by decide +kernel
theorem dX8_power_13 : decode cX8_power 13 = .ok (.lmul, 1) := by decide +kernel
theorem dX8_power_14 : decode cX8_power 14 = .ok (.lstore_n 3, 1) := by decide +kernel
theorem dX8_power_15 : decode cX8_power 15 = .ok (.iinc 5 1, 3) := by decide +kernel
theorem dX8_power_18 : decode cX8_power 18 = .ok (.goto (-13), 3) := by decide +kernel
theorem dX8_power_21 : decode cX8_power 21 = .ok (.lload_n 3, 1) := by decide +kernel
theorem dX8_power_22 : decode cX8_power 22 = .ok (.lreturn, 1) := by decide +kernel
set_option maxRecDepth 20000 in
theorem ggX8_rain_X8_isHour : GoodIn wsX8_rain wsX8_isHour := goodIn_r _ [7, 8, 9, 6, 10] (by decide +kernel) (by decide +kernel)
set_option maxRecDepth 20000 in
theorem gX8_rain_X8_isHour : GoodIn wsX8_rain (va_wsS RX8 114 yX8_isHour wsX8_isHour) := goodIn_app (goodIn_of _ (by decide +kernel)) ggX8_rain_X8_isHour
set_option maxRecDepth 20000 in
theorem ggX8_rain_X8_in : GoodIn wsX8_rain wsX8_in := goodIn_r _ [10] (by decide +kernel) (by decide +kernel)
set_option maxRecDepth 20000 in
theorem gX8_rain_X8_in : GoodIn wsX8_rain (va_wsS RX8 69 yX8_in wsX8_in) := goodIn_app (goodIn_of _ (by decide +kernel)) ggX8_rain_X8_in
set_option maxRecDepth 20000 in
theorem ggX8_rain_X8_asTold : GoodIn wsX8_rain wsX8_asTold := goodIn_r _ [14, 2, 15, 16, 54, 55, 56, 57, 58, 59, 60, 61, 62, 63, 64, 65, 66, 67, 68, 69, 70, 71, 72, 73, 74, 75, 76] (by decide +kernel) (by decide +kernel)
set_option maxRecDepth 20000 in
theorem gX8_rain_X8_asTold : GoodIn wsX8_rain (wsV RX8 117 RX8 yX8_asTold wsX8_asTold) := goodIn_app (goodIn_of _ (by decide +kernel)) ggX8_rain_X8_asTold
set_option maxRecDepth 20000 in
theorem ggX8_rain_X8_has : GoodIn wsX8_rain wsX8_has := goodIn_r _ [19] (by decide +kernel) (by decide +kernel)
set_option maxRecDepth 20000 in
theorem gX8_rain_X8_has : GoodIn wsX8_rain (va_wsS RX8 155 yX8_has wsX8_has) := goodIn_app (goodIn_of _ (by decide +kernel)) ggX8_rain_X8_has
set_option maxRecDepth 20000 in
theorem ggX8_rain_X8_nextOf : GoodIn wsX8_rain wsX8_nextOf := goodIn_r _ [23, 24, 25, 26, 27, 28, 29, 6, 30, 31, 32, 33, 34, 35, 36, 37, 2, 15, 38, 39, 40, 8, 9, 10, 41, 42, 43, 44, 45, 46, 47, 48, 49, 50, 54, 55, 56, 57, 58, 59, 60, 61, 62, 63, 64, 65, 66, 67, 68, 69, 70, 71, 72, 73, 74, 75, 76] (by decide +kernel) (by decide +kernel)
set_option maxRecDepth 20000 in
theorem gX8_rain_X8_nextOf : GoodIn wsX8_rain (wsV RX8 111 RX8 yX8_nextOf wsX8_nextOf) := goodIn_app (goodIn_of _ (by decide +kernel)) ggX8_rain_X8_nextOf
set_option maxRecDepth 20000 in
theorem ggX8_rain_X8_power : GoodIn wsX8_rain wsX8_power := goodIn_r _ [53] (by decide +kernel) (by decide +kernel)
set_option maxRecDepth 20000 in
theorem gX8_rain_X8_power : GoodIn wsX8_rain (va_wsS RX8 165 yX8_power wsX8_power) := goodIn_app (goodIn_of _ (by decide +kernel)) ggX8_rain_X8_power
theorem dX8_rain_0 : decode cX8_rain 0 = .ok (.iload_n 1, 1) := by decide +kernel
theorem dX8_rain_1 : decode cX8_rain 1 = .ok (.invokestatic 114, 3) := by decide +kernel
theorem dX8_rain_4 : decode cX8_rain 4 = .ok (.ifCond .eq 44, 3) := by decide +kernel
theorem dX8_rain_7 : decode cX8_rain 7 = .ok (.iload_n 2, 1) := by decide +kernel
theorem dX8_rain_8 : decode cX8_rain 8 = .ok (.iconst 0, 1) := by decide +kernel
theorem dX8_rain_9 : decode cX8_rain 9 = .ok (.bipush 8, 2) := by decide +kernel
theorem dX8_rain_11 : decode cX8_rain 11 = .ok (.invokestatic 69, 3) := by decide +kernel
theorem dX8_rain_14 : decode cX8_rain 14 = .ok (.ifCond .eq 34, 3) := by decide +kernel
theorem dX8_rain_17 : decode cX8_rain 17 = .ok (.iload_n 3, 1) := by decide +kernel
theorem dX8_rain_18 : decode cX8_rain 18 = .ok (.iconst 0, 1) := by decide +kernel
theorem dX8_rain_19 : decode cX8_rain 19 = .ok (.bipush 10, 2) := by decide +kernel
theorem dX8_rain_21 : decode cX8_rain 21 = .ok (.invokestatic 69, 3) := by decide +kernel
theorem dX8_rain_24 : decode cX8_rain 24 = .ok (.ifCond .eq 24, 3) := by decide +kernel
theorem dX8_rain_27 : decode cX8_rain 27 = .ok (.iload 4, 2) := by decide +kernel
theorem dX8_rain_29 : decode cX8_rain 29 = .ok (.iconst 0, 1) := by decide +kernel
theorem dX8_rain_30 : decode cX8_rain 30 = .ok (.bipush 9, 2) := by decide +kernel
theorem dX8_rain_32 : decode cX8_rain 32 = .ok (.invokestatic 69, 3) := by decide +kernel
theorem dX8_rain_35 : decode cX8_rain 35 = .ok (.ifCond .eq 13, 3) := by decide +kernel
theorem dX8_rain_38 : decode cX8_rain 38 = .ok (.iload 5, 2) := by decide +kernel
theorem dX8_rain_40 : decode cX8_rain 40 = .ok (.iconst 0, 1) := by decide +kernel
theorem dX8_rain_41 : decode cX8_rain 41 = .ok (.iconst 1, 1) := by decide +kernel
theorem dX8_rain_42 : decode cX8_rain 42 = .ok (.invokestatic 69, 3) := by decide +kernel
theorem dX8_rain_45 : decode cX8_rain 45 = .ok (.ifCond .ne 7, 3) := by decide +kernel
theorem dX8_rain_48 : decode cX8_rain 48 = .ok (.ldc2_w 163, 3) := by decide +kernel
theorem dX8_rain_51 : decode cX8_rain 51 = .ok (.lreturn, 1) := by decide +kernel
theorem dX8_rain_52 : decode cX8_rain 52 = .ok (.aload_n 0, 1) := by decide +kernel
theorem dX8_rain_53 : decode cX8_rain 53 = .ok (.invokevirtual 117, 3) := by decide +kernel
theorem dX8_rain_56 : decode cX8_rain 56 = .ok (.lconst 0, 1) := by decide +kernel
theorem dX8_rain_57 : decode cX8_rain 57 = .ok (.lstore 6, 2) := by decide +kernel
theorem dX8_rain_59 : decode cX8_rain 59 = .ok (.iconst 0, 1) := by decide +kernel
theorem dX8_rain_60 : decode cX8_rain 60 = .ok (.istore 8, 2) := by decide +kernel
theorem dX8_rain_62 : decode cX8_rain 62 = .ok (.iload 8, 2) := by decide +kernel
theorem dX8_rain_64 : decode cX8_rain 64 = .ok (.iconst 1, 1) := by decide +kernel
theorem dX8_rain_65 : decode cX8_rain 65 = .ok (.iload_n 2, 1) := by decide +kernel
theorem dX8_rain_66 : decode cX8_rain 66 = .ok (.ishl, 1) := by decide +kernel
theorem dX8_rain_67 : decode cX8_rain 67 = .ok (.if_icmp .ge 107, 3) := by decide +kernel
theorem dX8_rain_70 : decode cX8_rain 70 = .ok (.iload_n 1, 1) := by decide +kernel
theorem dX8_rain_71 : decode cX8_rain 71 = .ok (.istore 9, 2) := by decide +kernel
theorem dX8_rain_73 : decode cX8_rain 73 = .ok (.iconst 0, 1) := by decide +kernel
theorem dX8_rain_74 : decode cX8_rain 74 = .ok (.istore 10, 2) := by decide +kernel
theorem dX8_rain_76 : decode cX8_rain 76 = .ok (.iconst 0, 1) := by decide +kernel
theorem dX8_rain_77 : decode cX8_rain 77 = .ok (.istore 11, 2) := by decide +kernel
theorem dX8_rain_79 : decode cX8_rain 79 = .ok (.iload 11, 2) := by decide +kernel
theorem dX8_rain_81 : decode cX8_rain 81 = .ok (.iload_n 2, 1) := by decide +kernel
theorem dX8_rain_82 : decode cX8_rain 82 = .ok (.if_icmp .ge 57, 3) := by decide +kernel
theorem dX8_rain_85 : decode cX8_rain 85 = .ok (.aload_n 0, 1) := by decide +kernel
theorem dX8_rain_86 : decode cX8_rain 86 = .ok (.iload 8, 2) := by decide +kernel
theorem dX8_rain_88 : decode cX8_rain 88 = .ok (.iload 11, 2) := by decide +kernel
theorem dX8_rain_90 : decode cX8_rain 90 = .ok (.invokestatic 155, 3) := by decide +kernel
theorem dX8_rain_93 : decode cX8_rain 93 = .ok (.ifCond .eq 8, 3) := by decide +kernel
theorem dX8_rain_96 : decode cX8_rain 96 = .ok (.iload 4, 2) := by decide +kernel
theorem dX8_rain_98 : decode cX8_rain 98 = .ok (.goto 4, 3) := by decide +kernel
theorem dX8_rain_101 : decode cX8_rain 101 = .ok (.iconst 0, 1) := by decide +kernel
theorem dX8_rain_102 : decode cX8_rain 102 = .ok (.putfield 93, 3) := by decide +kernel
theorem dX8_rain_105 : decode cX8_rain 105 = .ok (.iload 10, 2) := by decide +kernel
theorem dX8_rain_107 : decode cX8_rain 107 = .ok (.iload 8, 2) := by decide +kernel
theorem dX8_rain_109 : decode cX8_rain 109 = .ok (.iload 11, 2) := by decide +kernel
theorem dX8_rain_111 : decode cX8_rain 111 = .ok (.invokestatic 155, 3) := by decide +kernel
theorem dX8_rain_114 : decode cX8_rain 114 = .ok (.ifCond .eq 7, 3) := by decide +kernel
theorem dX8_rain_117 : decode cX8_rain 117 = .ok (.iconst 1, 1) := by decide +kernel
theorem dX8_rain_118 : decode cX8_rain 118 = .ok (.goto 4, 3) := by decide +kernel
theorem dX8_rain_121 : decode cX8_rain 121 = .ok (.iconst 0, 1) := by decide +kernel
theorem dX8_rain_122 : decode cX8_rain 122 = .ok (.iadd, 1) := by decide +kernel
theorem dX8_rain_123 : decode cX8_rain 123 = .ok (.istore 10, 2) := by decide +kernel
theorem dX8_rain_125 : decode cX8_rain 125 = .ok (.aload_n 0, 1) := by decide +kernel
theorem dX8_rain_126 : decode cX8_rain 126 = .ok (.iload 9, 2) := by decide +kernel
theorem dX8_rain_128 : decode cX8_rain 128 = .ok (.invokevirtual 111, 3) := by decide +kernel
theorem dX8_rain_131 : decode cX8_rain 131 = .ok (.istore 9, 2) := by decide +kernel
theorem dX8_rain_133 : decode cX8_rain 133 = .ok (.iinc 11 1, 3) := by decide +kernel
theorem dX8_rain_136 : decode cX8_rain 136 = .ok (.goto (-57), 3) := by decide +kernel
theorem dX8_rain_139 : decode cX8_rain 139 = .ok (.lload 6, 2) := by decide +kernel
theorem dX8_rain_141 : decode cX8_rain 141 = .ok (.iload 9, 2) := by decide +kernel
theorem dX8_rain_143 : decode cX8_rain 143 = .ok (.i2l, 1) := by decide +kernel
theorem dX8_rain_144 : decode cX8_rain 144 = .ok (.iload_n 3, 1) := by decide +kernel
theorem dX8_rain_145 : decode cX8_rain 145 = .ok (.i2l, 1) := by decide +kernel
theorem dX8_rain_146 : decode cX8_rain 146 = .ok (.iload 10, 2) := by decide +kernel
theorem dX8_rain_148 : decode cX8_rain 148 = .ok (.invokestatic 165, 3) := by decide +kernel
theorem dX8_rain_151 : decode cX8_rain 151 = .ok (.lmul, 1) := by decide +kernel
theorem dX8_rain_152 : decode cX8_rain 152 = .ok (.bipush 10, 2) := by decide +kernel
theorem dX8_rain_154 : decode cX8_rain 154 = .ok (.iload_n 3, 1) := by decide +kernel
theorem dX8_rain_155 : decode cX8_rain 155 = .ok (.isub, 1) := by decide +kernel
theorem dX8_rain_156 : decode cX8_rain 156 = .ok (.i2l, 1) := by decide +kernel
theorem dX8_rain_157 : decode cX8_rain 157 = .ok (.iload_n 2, 1) := by decide +kernel
theorem dX8_rain_158 : decode cX8_rain 158 = .ok (.iload 10, 2) := by decide +kernel
theorem dX8_rain_160 : decode cX8_rain 160 = .ok (.isub, 1) := by decide +kernel
theorem dX8_rain_161 : decode cX8_rain 161 = .ok (.invokestatic 165, 3) := by decide +kernel
theorem dX8_rain_164 : decode cX8_rain 164 = .ok (.lmul, 1) := by decide +kernel
theorem dX8_rain_165 : decode cX8_rain 165 = .ok (.ladd, 1) := by decide +kernel
theorem dX8_rain_166 : decode cX8_rain 166 = .ok (.lstore 6, 2) := by decide +kernel
theorem dX8_rain_168 : decode cX8_rain 168 = .ok (.iinc 8 1, 3) := by decide +kernel
theorem dX8_rain_171 : decode cX8_rain 171 = .ok (.goto (-109), 3) := by decide +kernel
theorem dX8_rain_174 : decode cX8_rain 174 = .ok (.lload 6, 2) := by decide +kernel
theorem dX8_rain_176 : decode cX8_rain 176 = .ok (.lstore 8, 2) := by decide +kernel
theorem dX8_rain_178 : decode cX8_rain 178 = .ok (.ldc2_w 169, 3) := by decide +kernel
theorem dX8_rain_181 : decode cX8_rain 181 = .ok (.iload_n 2, 1) := by decide +kernel
theorem dX8_rain_182 : decode cX8_rain 182 = .ok (.invokestatic 165, 3) := by decide +kernel
theorem dX8_rain_185 : decode cX8_rain 185 = .ok (.lstore 10, 2) := by decide +kernel
theorem dX8_rain_187 : decode cX8_rain 187 = .ok (.lload 10, 2) := by decide +kernel
theorem dX8_rain_189 : decode cX8_rain 189 = .ok (.lconst 0, 1) := by decide +kernel
theorem dX8_rain_190 : decode cX8_rain 190 = .ok (.lcmp, 1) := by decide +kernel
theorem dX8_rain_191 : decode cX8_rain 191 = .ok (.ifCond .eq 21, 3) := by decide +kernel
theorem dX8_rain_194 : decode cX8_rain 194 = .ok (.lload 8, 2) := by decide +kernel
theorem dX8_rain_196 : decode cX8_rain 196 = .ok (.lload 10, 2) := by decide +kernel
theorem dX8_rain_198 : decode cX8_rain 198 = .ok (.lrem, 1) := by decide +kernel
theorem dX8_rain_199 : decode cX8_rain 199 = .ok (.lstore 12, 2) := by decide +kernel
theorem dX8_rain_201 : decode cX8_rain 201 = .ok (.lload 10, 2) := by decide +kernel
theorem dX8_rain_203 : decode cX8_rain 203 = .ok (.lstore 8, 2) := by decide +kernel
theorem dX8_rain_205 : decode cX8_rain 205 = .ok (.lload 12, 2) := by decide +kernel
theorem dX8_rain_207 : decode cX8_rain 207 = .ok (.lstore 10, 2) := by decide +kernel
theorem dX8_rain_209 : decode cX8_rain 209 = .ok (.goto (-22), 3) := by decide +kernel
theorem dX8_rain_212 : decode cX8_rain 212 = .ok (.iload 5, 2) := by decide +kernel
theorem dX8_rain_214 : decode cX8_rain 214 = .ok (.ifCond .ne 11, 3) := by decide +kernel
theorem dX8_rain_217 : decode cX8_rain 217 = .ok (.lload 6, 2) := by decide +kernel
theorem dX8_rain_219 : decode cX8_rain 219 = .ok (.lload 8, 2) := by decide +kernel
theorem dX8_rain_221 : decode cX8_rain 221 = .ok (.ldiv, 1) := by decide +kernel
theorem dX8_rain_222 : decode cX8_rain 222 = .ok (.goto 13, 3) := by decide +kernel
theorem dX8_rain_225 : decode cX8_rain 225 = .ok (.ldc2_w 169, 3) := by decide +kernel
theorem dX8_rain_228 : decode cX8_rain 228 = .ok (.iload_n 2, 1) := by decide +kernel
theorem dX8_rain_229 : decode cX8_rain 229 = .ok (.invokestatic 165, 3) := by decide +kernel
theorem dX8_rain_232 : decode cX8_rain 232 = .ok (.lload 8, 2) := by decide +kernel
theorem dX8_rain_234 : decode cX8_rain 234 = .ok (.ldiv, 1) := by decide +kernel
theorem dX8_rain_235 : decode cX8_rain 235 = .ok (.lreturn, 1) := by decide +kernel
set_option maxRecDepth 20000 in
theorem ggX8_year_X8_in : GoodIn wsX8_year wsX8_in := goodIn_r _ [9] (by decide +kernel) (by decide +kernel)
set_option maxRecDepth 20000 in
theorem gX8_year_X8_in : GoodIn wsX8_year (va_wsS RX8 69 yX8_in wsX8_in) := goodIn_app (goodIn_of _ (by decide +kernel)) ggX8_year_X8_in
set_option maxRecDepth 20000 in
theorem ggX8_year_X8_isHour : GoodIn wsX8_year wsX8_isHour := goodIn_r _ [12, 6, 7, 8, 9] (by decide +kernel) (by decide +kernel)
set_option maxRecDepth 20000 in
theorem gX8_year_X8_isHour : GoodIn wsX8_year (va_wsS RX8 114 yX8_isHour wsX8_isHour) := goodIn_app (goodIn_of _ (by decide +kernel)) ggX8_year_X8_isHour
set_option maxRecDepth 20000 in
theorem ggX8_year_X8_asTold : GoodIn wsX8_year wsX8_asTold := goodIn_r _ [16, 17, 3, 4, 48, 49, 50, 51, 52, 53, 54, 55, 56, 57, 58, 59, 60, 61, 62, 63, 64, 65, 66, 67, 68, 69, 70] (by decide +kernel) (by decide +kernel)
set_option maxRecDepth 20000 in
theorem gX8_year_X8_asTold : GoodIn wsX8_year (wsV RX8 117 RX8 yX8_asTold wsX8_asTold) := goodIn_app (goodIn_of _ (by decide +kernel)) ggX8_year_X8_asTold
set_option maxRecDepth 20000 in
theorem ggX8_year_X8_nextOf : GoodIn wsX8_year wsX8_nextOf := goodIn_r _ [21, 22, 23, 24, 25, 26, 27, 8, 28, 1, 29, 30, 31, 32, 33, 34, 17, 3, 35, 36, 37, 6, 7, 9, 38, 39, 40, 41, 42, 43, 44, 45, 46, 47, 48, 49, 50, 51, 52, 53, 54, 55, 56, 57, 58, 59, 60, 61, 62, 63, 64, 65, 66, 67, 68, 69, 70] (by decide +kernel) (by decide +kernel)
set_option maxRecDepth 20000 in
theorem gX8_year_X8_nextOf : GoodIn wsX8_year (wsV RX8 111 RX8 yX8_nextOf wsX8_nextOf) := goodIn_app (goodIn_of _ (by decide +kernel)) ggX8_year_X8_nextOf
theorem dX8_year_0 : decode cX8_year 0 = .ok (.iload_n 1, 1) := by decide +kernel
theorem dX8_year_1 : decode cX8_year 1 = .ok (.iconst 0, 1) := by decide +kernel
theorem dX8_year_2 : decode cX8_year 2 = .ok (.sipush 9999, 3) := by decide +kernel
theorem dX8_year_5 : decode cX8_year 5 = .ok (.invokestatic 69, 3) := by decide +kernel
theorem dX8_year_8 : decode cX8_year 8 = .ok (.ifCond .eq 30, 3) := by decide +kernel
theorem dX8_year_11 : decode cX8_year 11 = .ok (.iload_n 2, 1) := by decide +kernel
theorem dX8_year_12 : decode cX8_year 12 = .ok (.iconst 1, 1) := by decide +kernel
theorem dX8_year_13 : decode cX8_year 13 = .ok (.bipush 99, 2) := by decide +kernel
theorem dX8_year_15 : decode cX8_year 15 = .ok (.invokestatic 69, 3) := by decide +kernel
theorem dX8_year_18 : decode cX8_year 18 = .ok (.ifCond .eq 20, 3) := by decide +kernel
theorem dX8_year_21 : decode cX8_year 21 = .ok (.iload_n 3, 1) := by decide +kernel
theorem dX8_year_22 : decode cX8_year 22 = .ok (.invokestatic 114, 3) := by decide +kernel
theorem dX8_year_25 : decode cX8_year 25 = .ok (.ifCond .eq 13, 3) := by decide +kernel
theorem dX8_year_28 : decode cX8_year 28 = .ok (.iload 4, 2) := by decide +kernel
theorem dX8_year_30 : decode cX8_year 30 = .ok (.iconst 0, 1) := by decide +kernel
theorem dX8_year_31 : decode cX8_year 31 = .ok (.iconst 2, 1) := by decide +kernel
theorem dX8_year_32 : decode cX8_year 32 = .ok (.invokestatic 69, 3) := by decide +kernel
theorem dX8_year_35 : decode cX8_year 35 = .ok (.ifCond .ne 6, 3) := by decide +kernel
theorem dX8_year_38 : decode cX8_year 38 = .ok (.bipush (-2), 2) := by decide +kernel
theorem dX8_year_40 : decode cX8_year 40 = .ok (.ireturn, 1) := by decide +kernel
theorem dX8_year_41 : decode cX8_year 41 = .ok (.aload_n 0, 1) := by decide +kernel
theorem dX8_year_42 : decode cX8_year 42 = .ok (.invokevirtual 117, 3) := by decide +kernel
theorem dX8_year_45 : decode cX8_year 45 = .ok (.iload_n 1, 1) := by decide +kernel
theorem dX8_year_46 : decode cX8_year 46 = .ok (.istore 5, 2) := by decide +kernel
theorem dX8_year_48 : decode cX8_year 48 = .ok (.iload_n 3, 1) := by decide +kernel
theorem dX8_year_49 : decode cX8_year 49 = .ok (.istore 6, 2) := by decide +kernel
theorem dX8_year_51 : decode cX8_year 51 = .ok (.iload_n 3, 1) := by decide +kernel
theorem dX8_year_52 : decode cX8_year 52 = .ok (.istore 7, 2) := by decide +kernel
theorem dX8_year_54 : decode cX8_year 54 = .ok (.iconst 0, 1) := by decide +kernel
theorem dX8_year_55 : decode cX8_year 55 = .ok (.istore 8, 2) := by decide +kernel
theorem dX8_year_57 : decode cX8_year 57 = .ok (.iconst 0, 1) := by decide +kernel
theorem dX8_year_58 : decode cX8_year 58 = .ok (.istore 9, 2) := by decide +kernel
theorem dX8_year_60 : decode cX8_year 60 = .ok (.iload 9, 2) := by decide +kernel
theorem dX8_year_62 : decode cX8_year 62 = .ok (.iload_n 2, 1) := by decide +kernel
theorem dX8_year_63 : decode cX8_year 63 = .ok (.if_icmp .ge 100, 3) := by decide +kernel
theorem dX8_year_66 : decode cX8_year 66 = .ok (.iconst 0, 1) := by decide +kernel
theorem dX8_year_67 : decode cX8_year 67 = .ok (.istore 10, 2) := by decide +kernel
theorem dX8_year_69 : decode cX8_year 69 = .ok (.iload 10, 2) := by decide +kernel
theorem dX8_year_71 : decode cX8_year 71 = .ok (.aload_n 0, 1) := by decide +kernel
theorem dX8_year_72 : decode cX8_year 72 = .ok (.getfield 7, 3) := by decide +kernel
theorem dX8_year_75 : decode cX8_year 75 = .ok (.if_icmp .ge 58, 3) := by decide +kernel
theorem dX8_year_78 : decode cX8_year 78 = .ok (.bipush 75, 2) := by decide +kernel
theorem dX8_year_80 : decode cX8_year 80 = .ok (.iload 5, 2) := by decide +kernel
theorem dX8_year_82 : decode cX8_year 82 = .ok (.imul, 1) := by decide +kernel
theorem dX8_year_83 : decode cX8_year 83 = .ok (.bipush 74, 2) := by decide +kernel
theorem dX8_year_85 : decode cX8_year 85 = .ok (.iadd, 1) := by decide +kernel
theorem dX8_year_86 : decode cX8_year 86 = .ok (.ldc 171, 2) := by decide +kernel
theorem dX8_year_88 : decode cX8_year 88 = .ok (.irem, 1) := by decide +kernel
theorem dX8_year_89 : decode cX8_year 89 = .ok (.istore 5, 2) := by decide +kernel
theorem dX8_year_91 : decode cX8_year 91 = .ok (.aload_n 0, 1) := by decide +kernel
theorem dX8_year_92 : decode cX8_year 92 = .ok (.getfield 38, 3) := by decide +kernel
theorem dX8_year_95 : decode cX8_year 95 = .ok (.iload 10, 2) := by decide +kernel
theorem dX8_year_97 : decode cX8_year 97 = .ok (.aload_n 0, 1) := by decide +kernel
theorem dX8_year_98 : decode cX8_year 98 = .ok (.getfield 17, 3) := by decide +kernel
theorem dX8_year_101 : decode cX8_year 101 = .ok (.iload 10, 2) := by decide +kernel
theorem dX8_year_103 : decode cX8_year 103 = .ok (.iaload, 1) := by decide +kernel
theorem dX8_year_104 : decode cX8_year 104 = .ok (.iload 5, 2) := by decide +kernel
theorem dX8_year_106 : decode cX8_year 106 = .ok (.iconst 3, 1) := by decide +kernel
theorem dX8_year_107 : decode cX8_year 107 = .ok (.irem, 1) := by decide +kernel
theorem dX8_year_108 : decode cX8_year 108 = .ok (.iadd, 1) := by decide +kernel
theorem dX8_year_109 : decode cX8_year 109 = .ok (.iastore, 1) := by decide +kernel
theorem dX8_year_110 : decode cX8_year 110 = .ok (.iload 8, 2) := by decide +kernel
theorem dX8_year_112 : decode cX8_year 112 = .ok (.aload_n 0, 1) := by decide +kernel
theorem dX8_year_113 : decode cX8_year 113 = .ok (.getfield 23, 3) := by decide +kernel
theorem dX8_year_116 : decode cX8_year 116 = .ok (.aload_n 0, 1) := by decide +kernel
theorem dX8_year_117 : decode cX8_year 117 = .ok (.getfield 38, 3) := by decide +kernel
theorem dX8_year_120 : decode cX8_year 120 = .ok (.iload 10, 2) := by decide +kernel
theorem dX8_year_122 : decode cX8_year 122 = .ok (.iaload, 1) := by decide +kernel
theorem dX8_year_123 : decode cX8_year 123 = .ok (.imul, 1) := by decide +kernel
theorem dX8_year_124 : decode cX8_year 124 = .ok (.iadd, 1) := by decide +kernel
theorem dX8_year_125 : decode cX8_year 125 = .ok (.istore 8, 2) := by decide +kernel
theorem dX8_year_127 : decode cX8_year 127 = .ok (.iinc 10 1, 3) := by decide +kernel
theorem dX8_year_130 : decode cX8_year 130 = .ok (.goto (-61), 3) := by decide +kernel
theorem dX8_year_133 : decode cX8_year 133 = .ok (.aload_n 0, 1) := by decide +kernel
theorem dX8_year_134 : decode cX8_year 134 = .ok (.iload 6, 2) := by decide +kernel
theorem dX8_year_136 : decode cX8_year 136 = .ok (.invokevirtual 111, 3) := by decide +kernel
theorem dX8_year_139 : decode cX8_year 139 = .ok (.istore 6, 2) := by decide +kernel
theorem dX8_year_141 : decode cX8_year 141 = .ok (.iload 6, 2) := by decide +kernel
theorem dX8_year_143 : decode cX8_year 143 = .ok (.iload 7, 2) := by decide +kernel
theorem dX8_year_145 : decode cX8_year 145 = .ok (.if_icmp .le 8, 3) := by decide +kernel
theorem dX8_year_148 : decode cX8_year 148 = .ok (.iload 6, 2) := by decide +kernel
theorem dX8_year_150 : decode cX8_year 150 = .ok (.goto 5, 3) := by decide +kernel
theorem dX8_year_153 : decode cX8_year 153 = .ok (.iload 7, 2) := by decide +kernel
theorem dX8_year_155 : decode cX8_year 155 = .ok (.istore 7, 2) := by decide +kernel
theorem dX8_year_157 : decode cX8_year 157 = .ok (.iinc 9 1, 3) := by decide +kernel
theorem dX8_year_160 : decode cX8_year 160 = .ok (.goto (-100), 3) := by decide +kernel
theorem dX8_year_163 : decode cX8_year 163 = .ok (.iload 4, 2) := by decide +kernel
theorem dX8_year_165 : decode cX8_year 165 = .ok (.ifCond .ne 8, 3) := by decide +kernel
theorem dX8_year_168 : decode cX8_year 168 = .ok (.iload 6, 2) := by decide +kernel
theorem dX8_year_170 : decode cX8_year 170 = .ok (.goto 16, 3) := by decide +kernel
theorem dX8_year_173 : decode cX8_year 173 = .ok (.iload 4, 2) := by decide +kernel
theorem dX8_year_175 : decode cX8_year 175 = .ok (.iconst 1, 1) := by decide +kernel
theorem dX8_year_176 : decode cX8_year 176 = .ok (.if_icmp .ne 8, 3) := by decide +kernel
theorem dX8_year_179 : decode cX8_year 179 = .ok (.iload 7, 2) := by decide +kernel
theorem dX8_year_181 : decode cX8_year 181 = .ok (.goto 5, 3) := by decide +kernel
theorem dX8_year_184 : decode cX8_year 184 = .ok (.iload 8, 2) := by decide +kernel
theorem dX8_year_186 : decode cX8_year 186 = .ok (.ireturn, 1) := by decide +kernel
set_option maxRecDepth 20000 in
theorem ggX8_image_X8_in : GoodIn wsX8_image wsX8_in := goodIn_r _ [15] (by decide +kernel) (by decide +kernel)
set_option maxRecDepth 20000 in
theorem gX8_image_X8_in : GoodIn wsX8_image (va_wsS RX8 69 yX8_in wsX8_in) := goodIn_app (goodIn_of _ (by decide +kernel)) ggX8_image_X8_in
theorem dX8_image_0 : decode cX8_image 0 = .ok (.iload_n 1, 1) := by decide +kernel
theorem dX8_image_1 : decode cX8_image 1 = .ok (.iconst 0, 1) := by decide +kernel
theorem dX8_image_2 : decode cX8_image 2 = .ok (.iconst 1, 1) := by decide +kernel
theorem dX8_image_3 : decode cX8_image 3 = .ok (.invokestatic 69, 3) := by decide +kernel
theorem dX8_image_6 : decode cX8_image 6 = .ok (.ifCond .ne 6, 3) := by decide +kernel
theorem dX8_image_9 : decode cX8_image 9 = .ok (.bipush (-2), 2) := by decide +kernel
theorem dX8_image_11 : decode cX8_image 11 = .ok (.ireturn, 1) := by decide +kernel
theorem dX8_image_12 : decode cX8_image 12 = .ok (.bipush 56, 2) := by decide +kernel
theorem dX8_image_14 : decode cX8_image 14 = .ok (.iload_n 1, 1) := by decide +kernel
theorem dX8_image_15 : decode cX8_image 15 = .ok (.imul, 1) := by decide +kernel
theorem dX8_image_16 : decode cX8_image 16 = .ok (.istore_n 2, 1) := by decide +kernel
theorem dX8_image_17 : decode cX8_image 17 = .ok (.iconst 0, 1) := by decide +kernel
theorem dX8_image_18 : decode cX8_image 18 = .ok (.istore_n 3, 1) := by decide +kernel
theorem dX8_image_19 : decode cX8_image 19 = .ok (.iload_n 3, 1) := by decide +kernel
theorem dX8_image_20 : decode cX8_image 20 = .ok (.bipush 6, 2) := by decide +kernel
theorem dX8_image_22 : decode cX8_image 22 = .ok (.if_icmp .ge 57, 3) := by decide +kernel
theorem dX8_image_25 : decode cX8_image 25 = .ok (.aload_n 0, 1) := by decide +kernel
theorem dX8_image_26 : decode cX8_image 26 = .ok (.getfield 56, 3) := by decide +kernel
theorem dX8_image_29 : decode cX8_image 29 = .ok (.iload_n 2, 1) := by decide +kernel
theorem dX8_image_30 : decode cX8_image 30 = .ok (.iload_n 3, 1) := by decide +kernel
theorem dX8_image_31 : decode cX8_image 31 = .ok (.iadd, 1) := by decide +kernel
theorem dX8_image_32 : decode cX8_image 32 = .ok (.aload_n 0, 1) := by decide +kernel
theorem dX8_image_33 : decode cX8_image 33 = .ok (.getfield 13, 3) := by decide +kernel
theorem dX8_image_36 : decode cX8_image 36 = .ok (.iload_n 3, 1) := by decide +kernel
theorem dX8_image_37 : decode cX8_image 37 = .ok (.iaload, 1) := by decide +kernel
theorem dX8_image_38 : decode cX8_image 38 = .ok (.iastore, 1) := by decide +kernel
theorem dX8_image_39 : decode cX8_image 39 = .ok (.aload_n 0, 1) := by decide +kernel
theorem dX8_image_40 : decode cX8_image 40 = .ok (.getfield 56, 3) := by decide +kernel
theorem dX8_image_43 : decode cX8_image 43 = .ok (.iload_n 2, 1) := by decide +kernel
theorem dX8_image_44 : decode cX8_image 44 = .ok (.bipush 6, 2) := by decide +kernel
theorem dX8_image_46 : decode cX8_image 46 = .ok (.iadd, 1) := by decide +kernel
theorem dX8_image_47 : decode cX8_image 47 = .ok (.iload_n 3, 1) := by decide +kernel
theorem dX8_image_48 : decode cX8_image 48 = .ok (.iadd, 1) := by decide +kernel
theorem dX8_image_49 : decode cX8_image 49 = .ok (.aload_n 0, 1) := by decide +kernel
theorem dX8_image_50 : decode cX8_image 50 = .ok (.getfield 17, 3) := by decide +kernel
theorem dX8_image_53 : decode cX8_image 53 = .ok (.iload_n 3, 1) := by decide +kernel
theorem dX8_image_54 : decode cX8_image 54 = .ok (.iaload, 1) := by decide +kernel
theorem dX8_image_55 : decode cX8_image 55 = .ok (.iastore, 1) := by decide +kernel
theorem dX8_image_56 : decode cX8_image 56 = .ok (.aload_n 0, 1) := by decide +kernel
theorem dX8_image_57 : decode cX8_image 57 = .ok (.getfield 56, 3) := by decide +kernel
theorem dX8_image_60 : decode cX8_image 60 = .ok (.iload_n 2, 1) := by decide +kernel
theorem dX8_image_61 : decode cX8_image 61 = .ok (.bipush 12, 2) := by decide +kernel
theorem dX8_image_63 : decode cX8_image 63 = .ok (.iadd, 1) := by decide +kernel
theorem dX8_image_64 : decode cX8_image 64 = .ok (.iload_n 3, 1) := by decide +kernel
theorem dX8_image_65 : decode cX8_image 65 = .ok (.iadd, 1) := by decide +kernel
theorem dX8_image_66 : decode cX8_image 66 = .ok (.aload_n 0, 1) := by decide +kernel
theorem dX8_image_67 : decode cX8_image 67 = .ok (.getfield 20, 3) := by decide +kernel
theorem dX8_image_70 : decode cX8_image 70 = .ok (.iload_n 3, 1) := by decide +kernel
theorem dX8_image_71 : decode cX8_image 71 = .ok (.iaload, 1) := by decide +kernel
theorem dX8_image_72 : decode cX8_image 72 = .ok (.iastore, 1) := by decide +kernel
theorem dX8_image_73 : decode cX8_image 73 = .ok (.iinc 3 1, 3) := by decide +kernel
theorem dX8_image_76 : decode cX8_image 76 = .ok (.goto (-57), 3) := by decide +kernel
theorem dX8_image_79 : decode cX8_image 79 = .ok (.iconst 0, 1) := by decide +kernel
theorem dX8_image_80 : decode cX8_image 80 = .ok (.istore_n 3, 1) := by decide +kernel
theorem dX8_image_81 : decode cX8_image 81 = .ok (.iload_n 3, 1) := by decide +kernel
theorem dX8_image_82 : decode cX8_image 82 = .ok (.bipush 20, 2) := by decide +kernel
theorem dX8_image_84 : decode cX8_image 84 = .ok (.if_icmp .ge 26, 3) := by decide +kernel
theorem dX8_image_87 : decode cX8_image 87 = .ok (.aload_n 0, 1) := by decide +kernel
theorem dX8_image_88 : decode cX8_image 88 = .ok (.getfield 56, 3) := by decide +kernel
theorem dX8_image_91 : decode cX8_image 91 = .ok (.iload_n 2, 1) := by decide +kernel
theorem dX8_image_92 : decode cX8_image 92 = .ok (.bipush 18, 2) := by decide +kernel
theorem dX8_image_94 : decode cX8_image 94 = .ok (.iadd, 1) := by decide +kernel
theorem dX8_image_95 : decode cX8_image 95 = .ok (.iload_n 3, 1) := by decide +kernel
theorem dX8_image_96 : decode cX8_image 96 = .ok (.iadd, 1) := by decide +kernel
theorem dX8_image_97 : decode cX8_image 97 = .ok (.aload_n 0, 1) := by decide +kernel
theorem dX8_image_98 : decode cX8_image 98 = .ok (.getfield 29, 3) := by decide +kernel
theorem dX8_image_101 : decode cX8_image 101 = .ok (.iload_n 3, 1) := by decide +kernel
theorem dX8_image_102 : decode cX8_image 102 = .ok (.iaload, 1) := by decide +kernel
theorem dX8_image_103 : decode cX8_image 103 = .ok (.iastore, 1) := by decide +kernel
theorem dX8_image_104 : decode cX8_image 104 = .ok (.iinc 3 1, 3) := by decide +kernel
theorem dX8_image_107 : decode cX8_image 107 = .ok (.goto (-26), 3) := by decide +kernel
theorem dX8_image_110 : decode cX8_image 110 = .ok (.iconst 0, 1) := by decide +kernel
theorem dX8_image_111 : decode cX8_image 111 = .ok (.istore_n 3, 1) := by decide +kernel
theorem dX8_image_112 : decode cX8_image 112 = .ok (.iload_n 3, 1) := by decide +kernel
theorem dX8_image_113 : decode cX8_image 113 = .ok (.bipush 12, 2) := by decide +kernel
theorem dX8_image_115 : decode cX8_image 115 = .ok (.if_icmp .ge 26, 3) := by decide +kernel
theorem dX8_image_118 : decode cX8_image 118 = .ok (.aload_n 0, 1) := by decide +kernel
theorem dX8_image_119 : decode cX8_image 119 = .ok (.getfield 56, 3) := by decide +kernel
theorem dX8_image_122 : decode cX8_image 122 = .ok (.iload_n 2, 1) := by decide +kernel
theorem dX8_image_123 : decode cX8_image 123 = .ok (.bipush 38, 2) := by decide +kernel
theorem dX8_image_125 : decode cX8_image 125 = .ok (.iadd, 1) := by decide +kernel
theorem dX8_image_126 : decode cX8_image 126 = .ok (.iload_n 3, 1) := by decide +kernel
theorem dX8_image_127 : decode cX8_image 127 = .ok (.iadd, 1) := by decide +kernel
theorem dX8_image_128 : decode cX8_image 128 = .ok (.aload_n 0, 1) := by decide +kernel
theorem dX8_image_129 : decode cX8_image 129 = .ok (.getfield 32, 3) := by decide +kernel
theorem dX8_image_132 : decode cX8_image 132 = .ok (.iload_n 3, 1) := by decide +kernel
theorem dX8_image_133 : decode cX8_image 133 = .ok (.iaload, 1) := by decide +kernel
theorem dX8_image_134 : decode cX8_image 134 = .ok (.iastore, 1) := by decide +kernel
theorem dX8_image_135 : decode cX8_image 135 = .ok (.iinc 3 1, 3) := by decide +kernel
theorem dX8_image_138 : decode cX8_image 138 = .ok (.goto (-26), 3) := by decide +kernel
theorem dX8_image_141 : decode cX8_image 141 = .ok (.aload_n 0, 1) := by decide +kernel
theorem dX8_image_142 : decode cX8_image 142 = .ok (.getfield 56, 3) := by decide +kernel
theorem dX8_image_145 : decode cX8_image 145 = .ok (.iload_n 2, 1) := by decide +kernel
theorem dX8_image_146 : decode cX8_image 146 = .ok (.bipush 50, 2) := by decide +kernel
theorem dX8_image_148 : decode cX8_image 148 = .ok (.iadd, 1) := by decide +kernel
theorem dX8_image_149 : decode cX8_image 149 = .ok (.aload_n 0, 1) := by decide +kernel
theorem dX8_image_150 : decode cX8_image 150 = .ok (.getfield 7, 3) := by decide +kernel
theorem dX8_image_153 : decode cX8_image 153 = .ok (.iastore, 1) := by decide +kernel
theorem dX8_image_154 : decode cX8_image 154 = .ok (.aload_n 0, 1) := by decide +kernel
theorem dX8_image_155 : decode cX8_image 155 = .ok (.getfield 56, 3) := by decide +kernel
theorem dX8_image_158 : decode cX8_image 158 = .ok (.iload_n 2, 1) := by decide +kernel
theorem dX8_image_159 : decode cX8_image 159 = .ok (.bipush 51, 2) := by decide +kernel
theorem dX8_image_161 : decode cX8_image 161 = .ok (.iadd, 1) := by decide +kernel
theorem dX8_image_162 : decode cX8_image 162 = .ok (.aload_n 0, 1) := by decide +kernel
theorem dX8_image_163 : decode cX8_image 163 = .ok (.getfield 23, 3) := by decide +kernel
theorem dX8_image_166 : decode cX8_image 166 = .ok (.iastore, 1) := by decide +kernel
theorem dX8_image_167 : decode cX8_image 167 = .ok (.aload_n 0, 1) := by decide +kernel
theorem dX8_image_168 : decode cX8_image 168 = .ok (.getfield 56, 3) := by decide +kernel
theorem dX8_image_171 : decode cX8_image 171 = .ok (.iload_n 2, 1) := by decide +kernel
theorem dX8_image_172 : decode cX8_image 172 = .ok (.bipush 52, 2) := by decide +kernel
theorem dX8_image_174 : decode cX8_image 174 = .ok (.iadd, 1) := by decide +kernel
theorem dX8_image_175 : decode cX8_image 175 = .ok (.aload_n 0, 1) := by decide +kernel
theorem dX8_image_176 : decode cX8_image 176 = .ok (.getfield 26, 3) := by decide +kernel
theorem dX8_image_179 : decode cX8_image 179 = .ok (.iastore, 1) := by decide +kernel
theorem dX8_image_180 : decode cX8_image 180 = .ok (.aload_n 0, 1) := by decide +kernel
theorem dX8_image_181 : decode cX8_image 181 = .ok (.getfield 56, 3) := by decide +kernel
theorem dX8_image_184 : decode cX8_image 184 = .ok (.iload_n 2, 1) := by decide +kernel
theorem dX8_image_185 : decode cX8_image 185 = .ok (.bipush 53, 2) := by decide +kernel
theorem dX8_image_187 : decode cX8_image 187 = .ok (.iadd, 1) := by decide +kernel
theorem dX8_image_188 : decode cX8_image 188 = .ok (.aload_n 0, 1) := by decide +kernel
theorem dX8_image_189 : decode cX8_image 189 = .ok (.getfield 66, 3) := by decide +kernel
theorem dX8_image_192 : decode cX8_image 192 = .ok (.iastore, 1) := by decide +kernel
theorem dX8_image_193 : decode cX8_image 193 = .ok (.aload_n 0, 1) := by decide +kernel
theorem dX8_image_194 : decode cX8_image 194 = .ok (.getfield 59, 3) := by decide +kernel
theorem dX8_image_197 : decode cX8_image 197 = .ok (.iload_n 1, 1) := by decide +kernel
theorem dX8_image_198 : decode cX8_image 198 = .ok (.iconst 1, 1) := by decide +kernel
theorem dX8_image_199 : decode cX8_image 199 = .ok (.bastore, 1) := by decide +kernel
theorem dX8_image_200 : decode cX8_image 200 = .ok (.iconst 1, 1) := by decide +kernel
theorem dX8_image_201 : decode cX8_image 201 = .ok (.ireturn, 1) := by decide +kernel
set_option maxRecDepth 20000 in
theorem ggX8_restore_X8_in : GoodIn wsX8_restore wsX8_in := goodIn_r _ [15] (by decide +kernel) (by decide +kernel)
set_option maxRecDepth 20000 in
theorem gX8_restore_X8_in : GoodIn wsX8_restore (va_wsS RX8 69 yX8_in wsX8_in) := goodIn_app (goodIn_of _ (by decide +kernel)) ggX8_restore_X8_in
theorem dX8_restore_0 : decode cX8_restore 0 = .ok (.iload_n 1, 1) := by decide +kernel
theorem dX8_restore_1 : decode cX8_restore 1 = .ok (.iconst 0, 1) := by decide +kernel
theorem dX8_restore_2 : decode cX8_restore 2 = .ok (.iconst 1, 1) := by decide +kernel
theorem dX8_restore_3 : decode cX8_restore 3 = .ok (.invokestatic 69, 3) := by decide +kernel
theorem dX8_restore_6 : decode cX8_restore 6 = .ok (.ifCond .ne 6, 3) := by decide +kernel
theorem dX8_restore_9 : decode cX8_restore 9 = .ok (.bipush (-2), 2) := by decide +kernel
theorem dX8_restore_11 : decode cX8_restore 11 = .ok (.ireturn, 1) := by decide +kernel
theorem dX8_restore_12 : decode cX8_restore 12 = .ok (.aload_n 0, 1) := by decide +kernel
theorem dX8_restore_13 : decode cX8_restore 13 = .ok (.getfield 59, 3) := by decide +kernel
theorem dX8_restore_16 : decode cX8_restore 16 = .ok (.iload_n 1, 1) := by decide +kernel
theorem dX8_restore_17 : decode cX8_restore 17 = .ok (.baload, 1) := by decide +kernel
theorem dX8_restore_18 : decode cX8_restore 18 = .ok (.ifCond .ne 6, 3) := by decide +kernel
theorem dX8_restore_21 : decode cX8_restore 21 = .ok (.bipush (-3), 2) := by decide +kernel
theorem dX8_restore_23 : decode cX8_restore 23 = .ok (.ireturn, 1) := by decide +kernel
theorem dX8_restore_24 : decode cX8_restore 24 = .ok (.bipush 56, 2) := by decide +kernel
theorem dX8_restore_26 : decode cX8_restore 26 = .ok (.iload_n 1, 1) := by decide +kernel
theorem dX8_restore_27 : decode cX8_restore 27 = .ok (.imul, 1) := by decide +kernel
theorem dX8_restore_28 : decode cX8_restore 28 = .ok (.istore_n 2, 1) := by decide +kernel
theorem dX8_restore_29 : decode cX8_restore 29 = .ok (.iconst 0, 1) := by decide +kernel
theorem dX8_restore_30 : decode cX8_restore 30 = .ok (.istore_n 3, 1) := by decide +kernel
theorem dX8_restore_31 : decode cX8_restore 31 = .ok (.iload_n 3, 1) := by decide +kernel
theorem dX8_restore_32 : decode cX8_restore 32 = .ok (.bipush 6, 2) := by decide +kernel
theorem dX8_restore_34 : decode cX8_restore 34 = .ok (.if_icmp .ge 57, 3) := by decide +kernel
theorem dX8_restore_37 : decode cX8_restore 37 = .ok (.aload_n 0, 1) := by decide +kernel
theorem dX8_restore_38 : decode cX8_restore 38 = .ok (.getfield 13, 3) := by decide +kernel
theorem dX8_restore_41 : decode cX8_restore 41 = .ok (.iload_n 3, 1) := by decide +kernel
theorem dX8_restore_42 : decode cX8_restore 42 = .ok (.aload_n 0, 1) := by decide +kernel
theorem dX8_restore_43 : decode cX8_restore 43 = .ok (.getfield 56, 3) := by decide +kernel
theorem dX8_restore_46 : decode cX8_restore 46 = .ok (.iload_n 2, 1) := by decide +kernel
theorem dX8_restore_47 : decode cX8_restore 47 = .ok (.iload_n 3, 1) := by decide +kernel
theorem dX8_restore_48 : decode cX8_restore 48 = .ok (.iadd, 1) := by decide +kernel
theorem dX8_restore_49 : decode cX8_restore 49 = .ok (.iaload, 1) := by decide +kernel
theorem dX8_restore_50 : decode cX8_restore 50 = .ok (.iastore, 1) := by decide +kernel
theorem dX8_restore_51 : decode cX8_restore 51 = .ok (.aload_n 0, 1) := by decide +kernel
theorem dX8_restore_52 : decode cX8_restore 52 = .ok (.getfield 17, 3) := by decide +kernel
theorem dX8_restore_55 : decode cX8_restore 55 = .ok (.iload_n 3, 1) := by decide +kernel
theorem dX8_restore_56 : decode cX8_restore 56 = .ok (.aload_n 0, 1) := by decide +kernel
theorem dX8_restore_57 : decode cX8_restore 57 = .ok (.getfield 56, 3) := by decide +kernel
theorem dX8_restore_60 : decode cX8_restore 60 = .ok (.iload_n 2, 1) := by decide +kernel
theorem dX8_restore_61 : decode cX8_restore 61 = .ok (.bipush 6, 2) := by decide +kernel
theorem dX8_restore_63 : decode cX8_restore 63 = .ok (.iadd, 1) := by decide +kernel
theorem dX8_restore_64 : decode cX8_restore 64 = .ok (.iload_n 3, 1) := by decide +kernel
theorem dX8_restore_65 : decode cX8_restore 65 = .ok (.iadd, 1) := by decide +kernel
theorem dX8_restore_66 : decode cX8_restore 66 = .ok (.iaload, 1) := by decide +kernel
theorem dX8_restore_67 : decode cX8_restore 67 = .ok (.iastore, 1) := by decide +kernel
theorem dX8_restore_68 : decode cX8_restore 68 = .ok (.aload_n 0, 1) := by decide +kernel
theorem dX8_restore_69 : decode cX8_restore 69 = .ok (.getfield 20, 3) := by decide +kernel
theorem dX8_restore_72 : decode cX8_restore 72 = .ok (.iload_n 3, 1) := by decide +kernel
theorem dX8_restore_73 : decode cX8_restore 73 = .ok (.aload_n 0, 1) := by decide +kernel
theorem dX8_restore_74 : decode cX8_restore 74 = .ok (.getfield 56, 3) := by decide +kernel
theorem dX8_restore_77 : decode cX8_restore 77 = .ok (.iload_n 2, 1) := by decide +kernel
theorem dX8_restore_78 : decode cX8_restore 78 = .ok (.bipush 12, 2) := by decide +kernel
theorem dX8_restore_80 : decode cX8_restore 80 = .ok (.iadd, 1) := by decide +kernel
theorem dX8_restore_81 : decode cX8_restore 81 = .ok (.iload_n 3, 1) := by decide +kernel
theorem dX8_restore_82 : decode cX8_restore 82 = .ok (.iadd, 1) := by decide +kernel
theorem dX8_restore_83 : decode cX8_restore 83 = .ok (.iaload, 1) := by decide +kernel
theorem dX8_restore_84 : decode cX8_restore 84 = .ok (.iastore, 1) := by decide +kernel
theorem dX8_restore_85 : decode cX8_restore 85 = .ok (.iinc 3 1, 3) := by decide +kernel
theorem dX8_restore_88 : decode cX8_restore 88 = .ok (.goto (-57), 3) := by decide +kernel
theorem dX8_restore_91 : decode cX8_restore 91 = .ok (.iconst 0, 1) := by decide +kernel
theorem dX8_restore_92 : decode cX8_restore 92 = .ok (.istore_n 3, 1) := by decide +kernel
theorem dX8_restore_93 : decode cX8_restore 93 = .ok (.iload_n 3, 1) := by decide +kernel
theorem dX8_restore_94 : decode cX8_restore 94 = .ok (.bipush 20, 2) := by decide +kernel
theorem dX8_restore_96 : decode cX8_restore 96 = .ok (.if_icmp .ge 26, 3) := by decide +kernel
theorem dX8_restore_99 : decode cX8_restore 99 = .ok (.aload_n 0, 1) := by decide +kernel
theorem dX8_restore_100 : decode cX8_restore 100 = .ok (.getfield 29, 3) := by decide +kernel
theorem dX8_restore_103 : decode cX8_restore 103 = .ok (.iload_n 3, 1) := by decide +kernel
theorem dX8_restore_104 : decode cX8_restore 104 = .ok (.aload_n 0, 1) := by decide +kernel
theorem dX8_restore_105 : decode cX8_restore 105 = .ok (.getfield 56, 3) := by decide +kernel
theorem dX8_restore_108 : decode cX8_restore 108 = .ok (.iload_n 2, 1) := by decide +kernel
theorem dX8_restore_109 : decode cX8_restore 109 = .ok (.bipush 18, 2) := by decide +kernel
theorem dX8_restore_111 : decode cX8_restore 111 = .ok (.iadd, 1) := by decide +kernel
theorem dX8_restore_112 : decode cX8_restore 112 = .ok (.iload_n 3, 1) := by decide +kernel
theorem dX8_restore_113 : decode cX8_restore 113 = .ok (.iadd, 1) := by decide +kernel
theorem dX8_restore_114 : decode cX8_restore 114 = .ok (.iaload, 1) := by decide +kernel
theorem dX8_restore_115 : decode cX8_restore 115 = .ok (.iastore, 1) := by decide +kernel
theorem dX8_restore_116 : decode cX8_restore 116 = .ok (.iinc 3 1, 3) := by decide +kernel
theorem dX8_restore_119 : decode cX8_restore 119 = .ok (.goto (-26), 3) := by decide +kernel
theorem dX8_restore_122 : decode cX8_restore 122 = .ok (.iconst 0, 1) := by decide +kernel
theorem dX8_restore_123 : decode cX8_restore 123 = .ok (.istore_n 3, 1) := by decide +kernel
theorem dX8_restore_124 : decode cX8_restore 124 = .ok (.iload_n 3, 1) := by decide +kernel
theorem dX8_restore_125 : decode cX8_restore 125 = .ok (.bipush 12, 2) := by decide +kernel
theorem dX8_restore_127 : decode cX8_restore 127 = .ok (.if_icmp .ge 26, 3) := by decide +kernel
theorem dX8_restore_130 : decode cX8_restore 130 = .ok (.aload_n 0, 1) := by decide +kernel
theorem dX8_restore_131 : decode cX8_restore 131 = .ok (.getfield 32, 3) := by decide +kernel
theorem dX8_restore_134 : decode cX8_restore 134 = .ok (.iload_n 3, 1) := by decide +kernel
theorem dX8_restore_135 : decode cX8_restore 135 = .ok (.aload_n 0, 1) := by decide +kernel
theorem dX8_restore_136 : decode cX8_restore 136 = .ok (.getfield 56, 3) := by decide +kernel
theorem dX8_restore_139 : decode cX8_restore 139 = .ok (.iload_n 2, 1) := by decide +kernel
theorem dX8_restore_140 : decode cX8_restore 140 = .ok (.bipush 38, 2) := by decide +kernel
theorem dX8_restore_142 : decode cX8_restore 142 = .ok (.iadd, 1) := by decide +kernel
theorem dX8_restore_143 : decode cX8_restore 143 = .ok (.iload_n 3, 1) := by decide +kernel
theorem dX8_restore_144 : decode cX8_restore 144 = .ok (.iadd, 1) := by decide +kernel
theorem dX8_restore_145 : decode cX8_restore 145 = .ok (.iaload, 1) := by decide +kernel
theorem dX8_restore_146 : decode cX8_restore 146 = .ok (.iastore, 1) := by decide +kernel
theorem dX8_restore_147 : decode cX8_restore 147 = .ok (.iinc 3 1, 3) := by decide +kernel
theorem dX8_restore_150 : decode cX8_restore 150 = .ok (.goto (-26), 3) := by decide +kernel
theorem dX8_restore_153 : decode cX8_restore 153 = .ok (.aload_n 0, 1) := by decide +kernel
theorem dX8_restore_154 : decode cX8_restore 154 = .ok (.aload_n 0, 1) := by decide +kernel
theorem dX8_restore_155 : decode cX8_restore 155 = .ok (.getfield 56, 3) := by decide +kernel
theorem dX8_restore_158 : decode cX8_restore 158 = .ok (.iload_n 2, 1) := by decide +kernel
theorem dX8_restore_159 : decode cX8_restore 159 = .ok (.bipush 50, 2) := by decide +kernel
theorem dX8_restore_161 : decode cX8_restore 161 = .ok (.iadd, 1) := by decide +kernel
theorem dX8_restore_162 : decode cX8_restore 162 = .ok (.iaload, 1) := by decide +kernel
theorem dX8_restore_163 : decode cX8_restore 163 = .ok (.putfield 7, 3) := by decide +kernel
theorem dX8_restore_166 : decode cX8_restore 166 = .ok (.aload_n 0, 1) := by decide +kernel
theorem dX8_restore_167 : decode cX8_restore 167 = .ok (.aload_n 0, 1) := by decide +kernel
theorem dX8_restore_168 : decode cX8_restore 168 = .ok (.getfield 56, 3) := by decide +kernel
theorem dX8_restore_171 : decode cX8_restore 171 = .ok (.iload_n 2, 1) := by decide +kernel
theorem dX8_restore_172 : decode cX8_restore 172 = .ok (.bipush 51, 2) := by decide +kernel
theorem dX8_restore_174 : decode cX8_restore 174 = .ok (.iadd, 1) := by decide +kernel
theorem dX8_restore_175 : decode cX8_restore 175 = .ok (.iaload, 1) := by decide +kernel
theorem dX8_restore_176 : decode cX8_restore 176 = .ok (.putfield 23, 3) := by decide +kernel
theorem dX8_restore_179 : decode cX8_restore 179 = .ok (.aload_n 0, 1) := by decide +kernel
theorem dX8_restore_180 : decode cX8_restore 180 = .ok (.aload_n 0, 1) := by decide +kernel
theorem dX8_restore_181 : decode cX8_restore 181 = .ok (.getfield 56, 3) := by decide +kernel
theorem dX8_restore_184 : decode cX8_restore 184 = .ok (.iload_n 2, 1) := by decide +kernel
theorem dX8_restore_185 : decode cX8_restore 185 = .ok (.bipush 52, 2) := by decide +kernel
theorem dX8_restore_187 : decode cX8_restore 187 = .ok (.iadd, 1) := by decide +kernel
theorem dX8_restore_188 : decode cX8_restore 188 = .ok (.iaload, 1) := by decide +kernel
theorem dX8_restore_189 : decode cX8_restore 189 = .ok (.putfield 26, 3) := by decide +kernel
theorem dX8_restore_192 : decode cX8_restore 192 = .ok (.aload_n 0, 1) := by decide +kernel
theorem dX8_restore_193 : decode cX8_restore 193 = .ok (.aload_n 0, 1) := by decide +kernel
theorem dX8_restore_194 : decode cX8_restore 194 = .ok (.getfield 56, 3) := by decide +kernel
theorem dX8_restore_197 : decode cX8_restore 197 = .ok (.iload_n 2, 1) := by decide +kernel
theorem dX8_restore_198 : decode cX8_restore 198 = .ok (.bipush 53, 2) := by decide +kernel
theorem dX8_restore_200 : decode cX8_restore 200 = .ok (.iadd, 1) := by decide +kernel
theorem dX8_restore_201 : decode cX8_restore 201 = .ok (.iaload, 1) := by decide +kernel
theorem dX8_restore_202 : decode cX8_restore 202 = .ok (.putfield 66, 3) := by decide +kernel
theorem dX8_restore_205 : decode cX8_restore 205 = .ok (.iconst 1, 1) := by decide +kernel
theorem dX8_restore_206 : decode cX8_restore 206 = .ok (.ireturn, 1) := by decide +kernel
set_option maxRecDepth 20000 in
theorem ggX8_told_X8_in : GoodIn wsX8_told wsX8_in := goodIn_r _ [13] (by decide +kernel) (by decide +kernel)
set_option maxRecDepth 20000 in
theorem gX8_told_X8_in : GoodIn wsX8_told (va_wsS RX8 69 yX8_in wsX8_in) := goodIn_app (goodIn_of _ (by decide +kernel)) ggX8_told_X8_in
set_option maxRecDepth 20000 in
theorem ggX8_told_X8_isMember : GoodIn wsX8_told wsX8_isMember := goodIn_r _ [17, 7, 10, 11, 12, 13, 18, 19, 20, 21, 22, 23, 24, 25, 26, 27, 28, 29, 30, 31, 32, 33, 34, 35, 36, 37, 38, 39, 40] (by decide +kernel) (by decide +kernel)
set_option maxRecDepth 20000 in
theorem gX8_told_X8_isMember : GoodIn wsX8_told (wsV RX8 73 RX8 yX8_isMember wsX8_isMember) := goodIn_app (goodIn_of _ (by decide +kernel)) ggX8_told_X8_isMember
theorem dX8_told_0 : decode cX8_told 0 = .ok (.iload_n 1, 1) := by decide +kernel
theorem dX8_told_1 : decode cX8_told 1 = .ok (.bipush 10, 2) := by decide +kernel
theorem dX8_told_3 : decode cX8_told 3 = .ok (.irem, 1) := by decide +kernel
theorem dX8_told_4 : decode cX8_told 4 = .ok (.istore_n 2, 1) := by decide +kernel
theorem dX8_told_5 : decode cX8_told 5 = .ok (.iload_n 1, 1) := by decide +kernel
theorem dX8_told_6 : decode cX8_told 6 = .ok (.bipush 10, 2) := by decide +kernel
theorem dX8_told_8 : decode cX8_told 8 = .ok (.bipush 39, 2) := by decide +kernel
theorem dX8_told_10 : decode cX8_told 10 = .ok (.invokestatic 69, 3) := by decide +kernel
theorem dX8_told_13 : decode cX8_told 13 = .ok (.ifCond .eq 53, 3) := by decide +kernel
theorem dX8_told_16 : decode cX8_told 16 = .ok (.aload_n 0, 1) := by decide +kernel
theorem dX8_told_17 : decode cX8_told 17 = .ok (.iload_n 2, 1) := by decide +kernel
theorem dX8_told_18 : decode cX8_told 18 = .ok (.invokevirtual 73, 3) := by decide +kernel
theorem dX8_told_21 : decode cX8_told 21 = .ok (.ifCond .ne 8, 3) := by decide +kernel
theorem dX8_told_24 : decode cX8_told 24 = .ok (.bipush (-2), 2) := by decide +kernel
theorem dX8_told_26 : decode cX8_told 26 = .ok (.goto 39, 3) := by decide +kernel
theorem dX8_told_29 : decode cX8_told 29 = .ok (.iload_n 1, 1) := by decide +kernel
theorem dX8_told_30 : decode cX8_told 30 = .ok (.bipush 20, 2) := by decide +kernel
theorem dX8_told_32 : decode cX8_told 32 = .ok (.if_icmp .ge 12, 3) := by decide +kernel
theorem dX8_told_35 : decode cX8_told 35 = .ok (.aload_n 0, 1) := by decide +kernel
theorem dX8_told_36 : decode cX8_told 36 = .ok (.getfield 13, 3) := by decide +kernel
theorem dX8_told_39 : decode cX8_told 39 = .ok (.iload_n 2, 1) := by decide +kernel
theorem dX8_told_40 : decode cX8_told 40 = .ok (.iaload, 1) := by decide +kernel
theorem dX8_told_41 : decode cX8_told 41 = .ok (.goto 24, 3) := by decide +kernel
theorem dX8_told_44 : decode cX8_told 44 = .ok (.iload_n 1, 1) := by decide +kernel
theorem dX8_told_45 : decode cX8_told 45 = .ok (.bipush 30, 2) := by decide +kernel
theorem dX8_told_47 : decode cX8_told 47 = .ok (.if_icmp .ge 12, 3) := by decide +kernel
theorem dX8_told_50 : decode cX8_told 50 = .ok (.aload_n 0, 1) := by decide +kernel
theorem dX8_told_51 : decode cX8_told 51 = .ok (.getfield 17, 3) := by decide +kernel
theorem dX8_told_54 : decode cX8_told 54 = .ok (.iload_n 2, 1) := by decide +kernel
theorem dX8_told_55 : decode cX8_told 55 = .ok (.iaload, 1) := by decide +kernel
theorem dX8_told_56 : decode cX8_told 56 = .ok (.goto 9, 3) := by decide +kernel
theorem dX8_told_59 : decode cX8_told 59 = .ok (.aload_n 0, 1) := by decide +kernel
theorem dX8_told_60 : decode cX8_told 60 = .ok (.getfield 20, 3) := by decide +kernel
theorem dX8_told_63 : decode cX8_told 63 = .ok (.iload_n 2, 1) := by decide +kernel
theorem dX8_told_64 : decode cX8_told 64 = .ok (.iaload, 1) := by decide +kernel
theorem dX8_told_65 : decode cX8_told 65 = .ok (.ireturn, 1) := by decide +kernel
theorem dX8_told_66 : decode cX8_told 66 = .ok (.iload_n 1, 1) := by decide +kernel
theorem dX8_told_67 : decode cX8_told 67 = .ok (.bipush 40, 2) := by decide +kernel
theorem dX8_told_69 : decode cX8_told 69 = .ok (.if_icmp .lt 35, 3) := by decide +kernel
theorem dX8_told_72 : decode cX8_told 72 = .ok (.iload_n 1, 1) := by decide +kernel
theorem dX8_told_73 : decode cX8_told 73 = .ok (.bipush 40, 2) := by decide +kernel
theorem dX8_told_75 : decode cX8_told 75 = .ok (.isub, 1) := by decide +kernel
theorem dX8_told_76 : decode cX8_told 76 = .ok (.iconst 0, 1) := by decide +kernel
theorem dX8_told_77 : decode cX8_told 77 = .ok (.aload_n 0, 1) := by decide +kernel
theorem dX8_told_78 : decode cX8_told 78 = .ok (.getfield 26, 3) := by decide +kernel
theorem dX8_told_81 : decode cX8_told 81 = .ok (.iconst 1, 1) := by decide +kernel
theorem dX8_told_82 : decode cX8_told 82 = .ok (.isub, 1) := by decide +kernel
theorem dX8_told_83 : decode cX8_told 83 = .ok (.invokestatic 69, 3) := by decide +kernel
theorem dX8_told_86 : decode cX8_told 86 = .ok (.ifCond .eq 15, 3) := by decide +kernel
theorem dX8_told_89 : decode cX8_told 89 = .ok (.aload_n 0, 1) := by decide +kernel
theorem dX8_told_90 : decode cX8_told 90 = .ok (.getfield 29, 3) := by decide +kernel
theorem dX8_told_93 : decode cX8_told 93 = .ok (.iload_n 1, 1) := by decide +kernel
theorem dX8_told_94 : decode cX8_told 94 = .ok (.bipush 40, 2) := by decide +kernel
theorem dX8_told_96 : decode cX8_told 96 = .ok (.isub, 1) := by decide +kernel
theorem dX8_told_97 : decode cX8_told 97 = .ok (.iaload, 1) := by decide +kernel
theorem dX8_told_98 : decode cX8_told 98 = .ok (.goto 5, 3) := by decide +kernel
theorem dX8_told_101 : decode cX8_told 101 = .ok (.bipush (-2), 2) := by decide +kernel
theorem dX8_told_103 : decode cX8_told 103 = .ok (.ireturn, 1) := by decide +kernel
theorem dX8_told_104 : decode cX8_told 104 = .ok (.iload_n 1, 1) := by decide +kernel
theorem dX8_told_105 : decode cX8_told 105 = .ok (.tableswitch 51 0 3 #[31, 36, 41, 46], 31) := by decide +kernel
theorem dX8_told_136 : decode cX8_told 136 = .ok (.aload_n 0, 1) := by decide +kernel
theorem dX8_told_137 : decode cX8_told 137 = .ok (.getfield 77, 3) := by decide +kernel
theorem dX8_told_140 : decode cX8_told 140 = .ok (.ireturn, 1) := by decide +kernel
theorem dX8_told_141 : decode cX8_told 141 = .ok (.aload_n 0, 1) := by decide +kernel
theorem dX8_told_142 : decode cX8_told 142 = .ok (.getfield 7, 3) := by decide +kernel
theorem dX8_told_145 : decode cX8_told 145 = .ok (.ireturn, 1) := by decide +kernel
theorem dX8_told_146 : decode cX8_told 146 = .ok (.aload_n 0, 1) := by decide +kernel
theorem dX8_told_147 : decode cX8_told 147 = .ok (.getfield 23, 3) := by decide +kernel
theorem dX8_told_150 : decode cX8_told 150 = .ok (.ireturn, 1) := by decide +kernel
theorem dX8_told_151 : decode cX8_told 151 = .ok (.aload_n 0, 1) := by decide +kernel
theorem dX8_told_152 : decode cX8_told 152 = .ok (.getfield 26, 3) := by decide +kernel
theorem dX8_told_155 : decode cX8_told 155 = .ok (.ireturn, 1) := by decide +kernel
theorem dX8_told_156 : decode cX8_told 156 = .ok (.iload_n 1, 1) := by decide +kernel
theorem dX8_told_157 : decode cX8_told 157 = .ok (.iconst 4, 1) := by decide +kernel
theorem dX8_told_158 : decode cX8_told 158 = .ok (.if_icmp .ne 10, 3) := by decide +kernel
theorem dX8_told_161 : decode cX8_told 161 = .ok (.aload_n 0, 1) := by decide +kernel
theorem dX8_told_162 : decode cX8_told 162 = .ok (.getfield 66, 3) := by decide +kernel
theorem dX8_told_165 : decode cX8_told 165 = .ok (.goto 5, 3) := by decide +kernel
theorem dX8_told_168 : decode cX8_told 168 = .ok (.bipush (-2), 2) := by decide +kernel
theorem dX8_told_170 : decode cX8_told 170 = .ok (.ireturn, 1) := by decide +kernel
theorem dJ6_bitCount_0f7a4_0 : decode cJ6_bitCount_0f7a4 0 = .ok (.iload_n 0, 1) := by decide +kernel
theorem dJ6_bitCount_0f7a4_1 : decode cJ6_bitCount_0f7a4 1 = .ok (.iload_n 0, 1) := by decide +kernel
theorem dJ6_bitCount_0f7a4_2 : decode cJ6_bitCount_0f7a4 2 = .ok (.iconst 1, 1) := by decide +kernel
theorem dJ6_bitCount_0f7a4_3 : decode cJ6_bitCount_0f7a4 3 = .ok (.iushr, 1) := by decide +kernel
theorem dJ6_bitCount_0f7a4_4 : decode cJ6_bitCount_0f7a4 4 = .ok (.ldc_w 265, 3) := by decide +kernel
theorem dJ6_bitCount_0f7a4_7 : decode cJ6_bitCount_0f7a4 7 = .ok (.iand, 1) := by decide +kernel
theorem dJ6_bitCount_0f7a4_8 : decode cJ6_bitCount_0f7a4 8 = .ok (.isub, 1) := by decide +kernel
theorem dJ6_bitCount_0f7a4_9 : decode cJ6_bitCount_0f7a4 9 = .ok (.istore_n 0, 1) := by decide +kernel
theorem dJ6_bitCount_0f7a4_10 : decode cJ6_bitCount_0f7a4 10 = .ok (.iload_n 0, 1) := by decide +kernel
theorem dJ6_bitCount_0f7a4_11 : decode cJ6_bitCount_0f7a4 11 = .ok (.ldc_w 266, 3) := by decide +kernel
theorem dJ6_bitCount_0f7a4_14 : decode cJ6_bitCount_0f7a4 14 = .ok (.iand, 1) := by decide +kernel
theorem dJ6_bitCount_0f7a4_15 : decode cJ6_bitCount_0f7a4 15 = .ok (.iload_n 0, 1) := by decide +kernel
theorem dJ6_bitCount_0f7a4_16 : decode cJ6_bitCount_0f7a4 16 = .ok (.iconst 2, 1) := by decide +kernel
theorem dJ6_bitCount_0f7a4_17 : decode cJ6_bitCount_0f7a4 17 = .ok (.iushr, 1) := by decide +kernel
theorem dJ6_bitCount_0f7a4_18 : decode cJ6_bitCount_0f7a4 18 = .ok (.ldc_w 266, 3) := by decide +kernel
theorem dJ6_bitCount_0f7a4_21 : decode cJ6_bitCount_0f7a4 21 = .ok (.iand, 1) := by decide +kernel
theorem dJ6_bitCount_0f7a4_22 : decode cJ6_bitCount_0f7a4 22 = .ok (.iadd, 1) := by decide +kernel
theorem dJ6_bitCount_0f7a4_23 : decode cJ6_bitCount_0f7a4 23 = .ok (.istore_n 0, 1) := by decide +kernel
theorem dJ6_bitCount_0f7a4_24 : decode cJ6_bitCount_0f7a4 24 = .ok (.iload_n 0, 1) := by decide +kernel
theorem dJ6_bitCount_0f7a4_25 : decode cJ6_bitCount_0f7a4 25 = .ok (.iload_n 0, 1) := by decide +kernel
theorem dJ6_bitCount_0f7a4_26 : decode cJ6_bitCount_0f7a4 26 = .ok (.iconst 4, 1) := by decide +kernel
theorem dJ6_bitCount_0f7a4_27 : decode cJ6_bitCount_0f7a4 27 = .ok (.iushr, 1) := by decide +kernel
theorem dJ6_bitCount_0f7a4_28 : decode cJ6_bitCount_0f7a4 28 = .ok (.iadd, 1) := by decide +kernel
theorem dJ6_bitCount_0f7a4_29 : decode cJ6_bitCount_0f7a4 29 = .ok (.ldc_w 267, 3) := by decide +kernel
theorem dJ6_bitCount_0f7a4_32 : decode cJ6_bitCount_0f7a4 32 = .ok (.iand, 1) := by decide +kernel
theorem dJ6_bitCount_0f7a4_33 : decode cJ6_bitCount_0f7a4 33 = .ok (.istore_n 0, 1) := by decide +kernel
theorem dJ6_bitCount_0f7a4_34 : decode cJ6_bitCount_0f7a4 34 = .ok (.iload_n 0, 1) := by decide +kernel
theorem dJ6_bitCount_0f7a4_35 : decode cJ6_bitCount_0f7a4 35 = .ok (.iload_n 0, 1) := by decide +kernel
theorem dJ6_bitCount_0f7a4_36 : decode cJ6_bitCount_0f7a4 36 = .ok (.bipush 8, 2) := by decide +kernel
theorem dJ6_bitCount_0f7a4_38 : decode cJ6_bitCount_0f7a4 38 = .ok (.iushr, 1) := by decide +kernel
theorem dJ6_bitCount_0f7a4_39 : decode cJ6_bitCount_0f7a4 39 = .ok (.iadd, 1) := by decide +kernel
theorem dJ6_bitCount_0f7a4_40 : decode cJ6_bitCount_0f7a4 40 = .ok (.istore_n 0, 1) := by decide +kernel
theorem dJ6_bitCount_0f7a4_41 : decode cJ6_bitCount_0f7a4 41 = .ok (.iload_n 0, 1) := by decide +kernel
theorem dJ6_bitCount_0f7a4_42 : decode cJ6_bitCount_0f7a4 42 = .ok (.iload_n 0, 1) := by decide +kernel
theorem dJ6_bitCount_0f7a4_43 : decode cJ6_bitCount_0f7a4 43 = .ok (.bipush 16, 2) := by decide +kernel
theorem dJ6_bitCount_0f7a4_45 : decode cJ6_bitCount_0f7a4 45 = .ok (.iushr, 1) := by decide +kernel
theorem dJ6_bitCount_0f7a4_46 : decode cJ6_bitCount_0f7a4 46 = .ok (.iadd, 1) := by decide +kernel
theorem dJ6_bitCount_0f7a4_47 : decode cJ6_bitCount_0f7a4 47 = .ok (.istore_n 0, 1) := by decide +kernel
theorem dJ6_bitCount_0f7a4_48 : decode cJ6_bitCount_0f7a4 48 = .ok (.iload_n 0, 1) := by decide +kernel
theorem dJ6_bitCount_0f7a4_49 : decode cJ6_bitCount_0f7a4 49 = .ok (.bipush 63, 2) := by decide +kernel
theorem dJ6_bitCount_0f7a4_51 : decode cJ6_bitCount_0f7a4 51 = .ok (.iand, 1) := by decide +kernel
theorem dJ6_bitCount_0f7a4_52 : decode cJ6_bitCount_0f7a4 52 = .ok (.ireturn, 1) := by decide +kernel
theorem dJ9_abs_0f7a4_0 : decode cJ9_abs_0f7a4 0 = .ok (.iload_n 0, 1) := by decide +kernel
theorem dJ9_abs_0f7a4_1 : decode cJ9_abs_0f7a4 1 = .ok (.ifCond .ge 8, 3) := by decide +kernel
theorem dJ9_abs_0f7a4_4 : decode cJ9_abs_0f7a4 4 = .ok (.iload_n 0, 1) := by decide +kernel
theorem dJ9_abs_0f7a4_5 : decode cJ9_abs_0f7a4 5 = .ok (.ineg, 1) := by decide +kernel
theorem dJ9_abs_0f7a4_6 : decode cJ9_abs_0f7a4 6 = .ok (.goto 4, 3) := by decide +kernel
theorem dJ9_abs_0f7a4_9 : decode cJ9_abs_0f7a4 9 = .ok (.iload_n 0, 1) := by decide +kernel
theorem dJ9_abs_0f7a4_10 : decode cJ9_abs_0f7a4 10 = .ok (.ireturn, 1) := by decide +kernel
theorem dJ9_max_7cf53_0 : decode cJ9_max_7cf53 0 = .ok (.iload_n 0, 1) := by decide +kernel
theorem dJ9_max_7cf53_1 : decode cJ9_max_7cf53 1 = .ok (.iload_n 1, 1) := by decide +kernel
theorem dJ9_max_7cf53_2 : decode cJ9_max_7cf53 2 = .ok (.if_icmp .lt 7, 3) := by decide +kernel
theorem dJ9_max_7cf53_5 : decode cJ9_max_7cf53 5 = .ok (.iload_n 0, 1) := by decide +kernel
theorem dJ9_max_7cf53_6 : decode cJ9_max_7cf53 6 = .ok (.goto 4, 3) := by decide +kernel
theorem dJ9_max_7cf53_9 : decode cJ9_max_7cf53 9 = .ok (.iload_n 1, 1) := by decide +kernel
theorem dJ9_max_7cf53_10 : decode cJ9_max_7cf53 10 = .ok (.ireturn, 1) := by decide +kernel
theorem dJ9_min_7cf53_0 : decode cJ9_min_7cf53 0 = .ok (.iload_n 0, 1) := by decide +kernel
theorem dJ9_min_7cf53_1 : decode cJ9_min_7cf53 1 = .ok (.iload_n 1, 1) := by decide +kernel
theorem dJ9_min_7cf53_2 : decode cJ9_min_7cf53 2 = .ok (.if_icmp .gt 7, 3) := by decide +kernel
theorem dJ9_min_7cf53_5 : decode cJ9_min_7cf53 5 = .ok (.iload_n 0, 1) := by decide +kernel
theorem dJ9_min_7cf53_6 : decode cJ9_min_7cf53 6 = .ok (.goto 4, 3) := by decide +kernel
theorem dJ9_min_7cf53_9 : decode cJ9_min_7cf53 9 = .ok (.iload_n 1, 1) := by decide +kernel
theorem dJ9_min_7cf53_10 : decode cJ9_min_7cf53 10 = .ok (.ireturn, 1) := by decide +kernel
theorem dJ7_fill_d0a16_0 : decode cJ7_fill_d0a16 0 = .ok (.iconst 0, 1) := by decide +kernel
theorem dJ7_fill_d0a16_1 : decode cJ7_fill_d0a16 1 = .ok (.istore_n 3, 1) := by decide +kernel
theorem dJ7_fill_d0a16_2 : decode cJ7_fill_d0a16 2 = .ok (.aload_n 0, 1) := by decide +kernel
theorem dJ7_fill_d0a16_3 : decode cJ7_fill_d0a16 3 = .ok (.arraylength, 1) := by decide +kernel
theorem dJ7_fill_d0a16_4 : decode cJ7_fill_d0a16 4 = .ok (.istore 4, 2) := by decide +kernel
theorem dJ7_fill_d0a16_6 : decode cJ7_fill_d0a16 6 = .ok (.iload_n 3, 1) := by decide +kernel
theorem dJ7_fill_d0a16_7 : decode cJ7_fill_d0a16 7 = .ok (.iload 4, 2) := by decide +kernel
theorem dJ7_fill_d0a16_9 : decode cJ7_fill_d0a16 9 = .ok (.if_icmp .ge 13, 3) := by decide +kernel
theorem dJ7_fill_d0a16_12 : decode cJ7_fill_d0a16 12 = .ok (.aload_n 0, 1) := by decide +kernel
theorem dJ7_fill_d0a16_13 : decode cJ7_fill_d0a16 13 = .ok (.iload_n 3, 1) := by decide +kernel
theorem dJ7_fill_d0a16_14 : decode cJ7_fill_d0a16 14 = .ok (.lload_n 1, 1) := by decide +kernel
theorem dJ7_fill_d0a16_15 : decode cJ7_fill_d0a16 15 = .ok (.lastore, 1) := by decide +kernel
theorem dJ7_fill_d0a16_16 : decode cJ7_fill_d0a16 16 = .ok (.iinc 3 1, 3) := by decide +kernel
theorem dJ7_fill_d0a16_19 : decode cJ7_fill_d0a16 19 = .ok (.goto (-13), 3) := by decide +kernel
theorem dJ7_fill_d0a16_22 : decode cJ7_fill_d0a16 22 = .ok (.return_, 1) := by decide +kernel
theorem dJ7_fill_53178_0 : decode cJ7_fill_53178 0 = .ok (.iconst 0, 1) := by decide +kernel
theorem dJ7_fill_53178_1 : decode cJ7_fill_53178 1 = .ok (.istore_n 2, 1) := by decide +kernel
theorem dJ7_fill_53178_2 : decode cJ7_fill_53178 2 = .ok (.aload_n 0, 1) := by decide +kernel
theorem dJ7_fill_53178_3 : decode cJ7_fill_53178 3 = .ok (.arraylength, 1) := by decide +kernel
theorem dJ7_fill_53178_4 : decode cJ7_fill_53178 4 = .ok (.istore_n 3, 1) := by decide +kernel
theorem dJ7_fill_53178_5 : decode cJ7_fill_53178 5 = .ok (.iload_n 2, 1) := by decide +kernel
theorem dJ7_fill_53178_6 : decode cJ7_fill_53178 6 = .ok (.iload_n 3, 1) := by decide +kernel
theorem dJ7_fill_53178_7 : decode cJ7_fill_53178 7 = .ok (.if_icmp .ge 13, 3) := by decide +kernel
theorem dJ7_fill_53178_10 : decode cJ7_fill_53178 10 = .ok (.aload_n 0, 1) := by decide +kernel
theorem dJ7_fill_53178_11 : decode cJ7_fill_53178 11 = .ok (.iload_n 2, 1) := by decide +kernel
theorem dJ7_fill_53178_12 : decode cJ7_fill_53178 12 = .ok (.iload_n 1, 1) := by decide +kernel
theorem dJ7_fill_53178_13 : decode cJ7_fill_53178 13 = .ok (.iastore, 1) := by decide +kernel
theorem dJ7_fill_53178_14 : decode cJ7_fill_53178 14 = .ok (.iinc 2 1, 3) := by decide +kernel
theorem dJ7_fill_53178_17 : decode cJ7_fill_53178 17 = .ok (.goto (-12), 3) := by decide +kernel
theorem dJ7_fill_53178_20 : decode cJ7_fill_53178 20 = .ok (.return_, 1) := by decide +kernel
abbrev vwCl : List vw_C := [(RX0, TX0, 5), (RX1, TX1, 8), (RX2, TX2, 4), (RX3, TX3, 9), (RX4, TX4, 2), (RX5, TX5, 2), (RX6, TX6, 6), (RX7, TX7, 7), (RX8, TX8, 23)]
end
section
/-! THE WORLDS AND CALLS OF THIS CLAIM: contracts CI (int, boolean), CL (long), CV (void), CR (an address); their starts, ends and calls -/
/-- the one word of the tables that speaks of a nest mate's private method -/
abbrev nwB (U : State) : Prop := va_Nw (.methodLinkNest RX0 43 yX7_comingAt RX7) U
abbrev pw (D : va_G) (ty : List (ClassId × FieldType)) (ws : va_W) (sz : Nat) (U : State) : Prop := U.heap.size = sz ∧ va_P D vwCl ws U.heap ∧ va_K D vwCl ty U ∧ va_D (fun _ => True) ws ∧ nwB U
abbrev qw {S : Type} (D : va_G) (wn : S → va_W) (A : Nat → Prop) (u : S) (t : State) : Prop := va_P D vwCl (wn u) t.heap ∧ va_D A (wn u)
abbrev qr {S : Type} (D : va_G) (wn : S → va_W) (ad : S → Nat) (A : Nat → Prop) (u : S) (a : Nat) (t : State) : Prop := a = ad u ∧ va_P D vwCl (wn u) t.heap ∧ va_D A (wn u)
def CI (l : Launch) (y : MethodName) (w : List Cond) (rm : Room) (D : va_G) (ty : List (ClassId × FieldType)) (ws : va_W) (av : List Value) {S : Type} (post : Int32 → S → Prop) (wn : S → va_W) : Prop :=
  ∀ sz : Nat, Met l y w rm (va_Pc av (pw D ty ws sz)) (va_Qi post (qw D wn (va_A ws sz)) (va_A ws sz)) rm.cells rm.slots (va_A ws sz)
def CL (l : Launch) (y : MethodName) (w : List Cond) (rm : Room) (D : va_G) (ty : List (ClassId × FieldType)) (ws : va_W) (av : List Value) {S : Type} (post : Int64 → S → Prop) (wn : S → va_W) : Prop :=
  ∀ sz : Nat, Met l y w rm (va_Pc av (pw D ty ws sz)) (va_Ql post (qw D wn (va_A ws sz)) (va_A ws sz)) rm.cells rm.slots (va_A ws sz)
def CV (l : Launch) (y : MethodName) (w : List Cond) (rm : Room) (D : va_G) (ty : List (ClassId × FieldType)) (ws : va_W) (av : List Value) {S : Type} (post : S → Prop) (wn : S → va_W) : Prop :=
  ∀ sz : Nat, Met l y w rm (va_Pc av (pw D ty ws sz)) (va_Qv post (qw D wn (va_A ws sz)) (va_A ws sz)) rm.cells rm.slots (va_A ws sz)
def CR (l : Launch) (y : MethodName) (w : List Cond) (rm : Room) (D : va_G) (ty : List (ClassId × FieldType)) (ws : va_W) (av : List Value) {S : Type} (post : S → Prop) (ad : S → Nat) (wn : S → va_W) : Prop :=
  ∀ sz : Nat, Met l y w rm (va_Pc av (pw D ty ws sz)) (va_Qr post (qr D wn ad (va_A ws sz)) (va_A ws sz)) rm.cells rm.slots (va_A ws sz)
section BST
variable {l : Launch} {y : MethodName} {w w' : List Cond} {rm : Room} {D : va_G} {ty : List (ClassId × FieldType)} {ws : va_W} {av : List Value} {cc : ByteArray} {maxL : Nat} {ret : Option FieldType}
/-- what stands at a method's entry -/
def Ent (l : Launch) (y : MethodName) (w : List Cond) (rm : Room) (D : va_G) (ty : List (ClassId × FieldType)) (ws : va_W) (av : List Value) (cc : ByteArray) (maxL : Nat) (ret : Option FieldType) (p : Program) (s : State) (m : MethodId) (args : Array Value) (meth : Method) (c : Code) (A : Nat → Prop) (ls : Array Slot) : Prop :=
  p.tables.exec = Jvm.exec ∧ c.code = cc ∧ meth.sig.returnType = ret ∧ c.maxLocals = maxL ∧ s.vm.findClass y.cls = some m.cls ∧ (∀ x ∈ w, x.before args s = true) ∧ meth.locks = false ∧ meth.name = y.name ∧ (∀ q : Nat, s.heap.size ≤ q → A q) ∧ va_K D vwCl ty s ∧ va_P D vwCl ws s.heap ∧ va_D A ws ∧ va_S A s.heap s.heap [] ∧ lv_has ls maxL (lv_args 0 av) ∧ nwB s
theorem st_of {Qf : (Nat → Prop) → Array Value → State → Outcome → State → Prop} (hy : plainName y.cls = true) (hw : w = Cond.code y cc maxL ret :: w') (hsl : (lg_sl av).length ≤ maxL)
    (body : ∀ (p : Program) (e : Env) (s : State) (m : MethodId) (args : Array Value) (below : List Frame) (meth : Method) (c : Code) (A : Nat → Prop) (ls : Array Slot), Ent l y w rm D ty ws av cc maxL ret p s m args meth c A ls →
      W p l e rm s m args below meth c s.heap [] 0 0 (MQ below (Qf A) args s rm.cells rm.slots A) (F0 m 0 ls [])) :
    ∀ sz : Nat, Met l y w rm (va_Pc av (pw D ty ws sz)) (Qf (va_A ws sz)) rm.cells rm.slots (va_A ws sz) := by
  intro sz
  refine Met.ofW (cc := cc) (maxL := maxL) (ret := ret) hy hw ?_
  intro p e s m args below meth c s₁ B hml hv
  obtain ⟨rfl, hsz, hP, hK, hD0, hN⟩ := hv
  have hts := atoms_spec (ws := w) B.pre
  have hown : s.vm.findClass y.cls = some m.cls := findClass_of_methodNamed B.named
  subst hsz
  have hl := lv_entry av (n := maxL) hsl
  rw [lg_entry_eq]
  exact body p e s m _ below meth c _ _ ⟨B.exec, B.bytes, B.returns, hml, hown, hts, B.notSynchronized, (name_of_methodNamed B.named B.method).1, (fun q h => Or.inr h), hK, hP, hD0.self, va_S.rf, hl, hN⟩
theorem si_of {S : Type} {post : Int32 → S → Prop} {wn : S → va_W} (hy : plainName y.cls = true) (hw : w = Cond.code y cc maxL (some .int) :: w') (hsl : (lg_sl av).length ≤ maxL)
    (body : ∀ (p : Program) (e : Env) (s : State) (m : MethodId) (args : Array Value) (below : List Frame) (meth : Method) (c : Code) (A : Nat → Prop) (ls : Array Slot) (Q : State → Prop), Ent l y w rm D ty ws av cc maxL (some .int) p s m args meth c A ls →
      (∀ (v : Int32) (u : S) (H : Heap) (locs : List Loc) (pc : Nat) (ls : Array Slot), decode cc pc = .ok (.ireturn, 1) → post v u → va_P D vwCl (wn u) H → va_D A (wn u) → va_S A s.heap H locs → W p l e rm s m args below meth c H locs rm.cells rm.slots Q (F0 m pc ls [.int v])) →
      W p l e rm s m args below meth c s.heap [] 0 0 Q (F0 m 0 ls [])) : CI l y w rm D ty ws av post wn :=
  st_of (Qf := fun A => va_Qi post (qw D wn A) A) hy hw hsl (fun p e s m args below meth c A ls E => body p e s m args below meth c A ls _ E (fun v u H locs pc ls hdg hp hP hD hS => by
    obtain ⟨hx, hb, hr, -, -, -, hlocks, -⟩ := E
    exact W.iret (v := v) hx hb hr (fun t ht hW => ⟨⟨v, u, rfl, hp, by rw [ht]; exact hP, hD⟩, hS.F ht⟩) hS.2.2 hdg))
theorem sz_of {S : Type} {post : Int32 → S → Prop} {wn : S → va_W} (hy : plainName y.cls = true) (hw : w = Cond.code y cc maxL (some .boolean) :: w') (hsl : (lg_sl av).length ≤ maxL)
    (body : ∀ (p : Program) (e : Env) (s : State) (m : MethodId) (args : Array Value) (below : List Frame) (meth : Method) (c : Code) (A : Nat → Prop) (ls : Array Slot) (Q : State → Prop), Ent l y w rm D ty ws av cc maxL (some .boolean) p s m args meth c A ls →
      (∀ (v : Int32) (u : S) (H : Heap) (locs : List Loc) (pc : Nat) (ls : Array Slot), decode cc pc = .ok (.ireturn, 1) → narrow .boolean (.int v) = .int v → post v u → va_P D vwCl (wn u) H → va_D A (wn u) → va_S A s.heap H locs → W p l e rm s m args below meth c H locs rm.cells rm.slots Q (F0 m pc ls [.int v])) →
      W p l e rm s m args below meth c s.heap [] 0 0 Q (F0 m 0 ls [])) : CI l y w rm D ty ws av post wn :=
  st_of (Qf := fun A => va_Qi post (qw D wn A) A) hy hw hsl (fun p e s m args below meth c A ls E => body p e s m args below meth c A ls _ E (fun v u H locs pc ls hdg hn hp hP hD hS => by
    obtain ⟨hx, hb, hr, -, -, -, hlocks, -⟩ := E
    exact W.zret (v := v) hx hb hr hn (fun t ht hW => ⟨⟨v, u, rfl, hp, by rw [ht]; exact hP, hD⟩, hS.F ht⟩) hS.2.2 hdg))
theorem sl_of {S : Type} {post : Int64 → S → Prop} {wn : S → va_W} (hy : plainName y.cls = true) (hw : w = Cond.code y cc maxL (some .long) :: w') (hsl : (lg_sl av).length ≤ maxL)
    (body : ∀ (p : Program) (e : Env) (s : State) (m : MethodId) (args : Array Value) (below : List Frame) (meth : Method) (c : Code) (A : Nat → Prop) (ls : Array Slot) (Q : State → Prop), Ent l y w rm D ty ws av cc maxL (some .long) p s m args meth c A ls →
      (∀ (v : Int64) (u : S) (H : Heap) (locs : List Loc) (pc : Nat) (ls : Array Slot), decode cc pc = .ok (.lreturn, 1) → post v u → va_P D vwCl (wn u) H → va_D A (wn u) → va_S A s.heap H locs → W p l e rm s m args below meth c H locs rm.cells rm.slots Q (F0 m pc ls [.long v])) →
      W p l e rm s m args below meth c s.heap [] 0 0 Q (F0 m 0 ls [])) : CL l y w rm D ty ws av post wn :=
  st_of (Qf := fun A => va_Ql post (qw D wn A) A) hy hw hsl (fun p e s m args below meth c A ls E => body p e s m args below meth c A ls _ E (fun v u H locs pc ls hdg hp hP hD hS => by
    obtain ⟨hx, hb, hr, -, -, -, hlocks, -⟩ := E
    exact W.lret (v := v) hx hb hr (fun t ht hW => ⟨⟨v, u, rfl, hp, by rw [ht]; exact hP, hD⟩, hS.F ht⟩) hS.2.2 hdg))
theorem sv_of {S : Type} {post : S → Prop} {wn : S → va_W} (hy : plainName y.cls = true) (hw : w = Cond.code y cc maxL none :: w') (hsl : (lg_sl av).length ≤ maxL)
    (body : ∀ (p : Program) (e : Env) (s : State) (m : MethodId) (args : Array Value) (below : List Frame) (meth : Method) (c : Code) (A : Nat → Prop) (ls : Array Slot) (Q : State → Prop), Ent l y w rm D ty ws av cc maxL none p s m args meth c A ls →
      (∀ (u : S) (H : Heap) (locs : List Loc) (pc : Nat) (ls : Array Slot), decode cc pc = .ok (.return_, 1) → post u → va_P D vwCl (wn u) H → va_D A (wn u) → va_S A s.heap H locs → W p l e rm s m args below meth c H locs rm.cells rm.slots Q (F0 m pc ls [])) →
      W p l e rm s m args below meth c s.heap [] 0 0 Q (F0 m 0 ls [])) : CV l y w rm D ty ws av post wn :=
  st_of (Qf := fun A => va_Qv post (qw D wn A) A) hy hw hsl (fun p e s m args below meth c A ls E => body p e s m args below meth c A ls _ E (fun u H locs pc ls hdg hp hP hD hS => by
    obtain ⟨hx, hb, hr, -, -, -, hlocks, -⟩ := E
    exact W.vret hx hb hr (fun t ht hW => ⟨⟨u, rfl, hp, by rw [ht]; exact hP, hD⟩, hS.F ht⟩) hS.2.2 hdg))
theorem sr_of {S : Type} {post : S → Prop} {ad : S → Nat} {wn : S → va_W} {rt : FieldType} (hrt : (∃ n, rt = .object n) ∨ ∃ t, rt = .array t) (hy : plainName y.cls = true) (hw : w = Cond.code y cc maxL (some rt) :: w') (hsl : (lg_sl av).length ≤ maxL)
    (body : ∀ (p : Program) (e : Env) (s : State) (m : MethodId) (args : Array Value) (below : List Frame) (meth : Method) (c : Code) (A : Nat → Prop) (ls : Array Slot) (Q : State → Prop), Ent l y w rm D ty ws av cc maxL (some rt) p s m args meth c A ls →
      (∀ (u : S) (H : Heap) (locs : List Loc) (pc : Nat) (ls : Array Slot), decode cc pc = .ok (.areturn, 1) → post u → va_P D vwCl (wn u) H → va_D A (wn u) → va_S A s.heap H locs → W p l e rm s m args below meth c H locs rm.cells rm.slots Q (F0 m pc ls [.ref (ad u)])) →
      W p l e rm s m args below meth c s.heap [] 0 0 Q (F0 m 0 ls [])) : CR l y w rm D ty ws av post ad wn :=
  st_of (Qf := fun A => va_Qr post (qr D wn ad A) A) hy hw hsl (fun p e s m args below meth c A ls E => body p e s m args below meth c A ls _ E (fun u H locs pc ls hdg hp hP hD hS => by
    obtain ⟨hx, hb, hr, -, -, -, hlocks, -⟩ := E
    exact W.aret (v := .ref (ad u)) hx hb hr hrt (Or.inr ⟨_, rfl⟩) (fun t ht hW => ⟨⟨u, ad u, rfl, hp, rfl, by rw [ht]; exact hP, hD⟩, hS.F ht⟩) hS.2.2 hdg))
end BST
/-- ws, but w1 at the places is -/
def rp : va_W → List Nat → va_W → va_W
  | ws, i :: is, x :: xs => rp (ws.set i x) is xs
  | ws, [], _ => ws
  | ws, _ :: _, [] => ws
theorem rp_get : ∀ (is : List Nat) (ws w1 : va_W) (k : Nat) (q : Nat × va_E), is.length = w1.length → (rp ws is w1)[k]? = some q → (∃ j : Nat, is[j]? = some k ∧ w1[j]? = some q) ∨ (k ∉ is ∧ ws[k]? = some q)
  | [], ws, w1, k, q, _, h => Or.inr ⟨List.not_mem_nil, by simpa [rp] using h⟩
  | i :: is, ws, [], k, q, hl, _ => by simp at hl
  | i :: is, ws, x :: xs, k, q, hl, h => by
    have h' : (rp (ws.set i x) is xs)[k]? = some q := h
    rcases rp_get is (ws.set i x) xs k q (by simpa using hl) h' with ⟨j, h1, h2⟩ | ⟨h1, h2⟩
    · exact Or.inl ⟨j + 1, by simpa using h1, by simpa using h2⟩
    · by_cases e : k = i
      · subst e
        refine Or.inl ⟨0, by simp, ?_⟩
        rw [List.getElem?_set] at h2
        by_cases hlt : k < ws.length
        · simpa [hlt] using h2
        · simp [hlt] at h2
      · refine Or.inr ⟨?_, ?_⟩
        · intro hm
          rcases List.mem_cons.mp hm with h9 | h9
          · exact e h9
          · exact h1 h9
        · rwa [List.getElem?_set_ne (Ne.symm e)] at h2
theorem map_at {ws wc : va_W} {is : List Nat} (hC : is.map (fun i => ws[i]?) = wc.map some) {k : Nat} {q : Nat × va_E} (hq : wc[k]? = some q) : ∃ i : Nat, is[k]? = some i ∧ ws[i]? = some q := by
  have h1 : (is.map (fun i => ws[i]?))[k]? = some (some q) := by rw [hC, List.getElem?_map, hq]; rfl
  rw [List.getElem?_map] at h1
  cases hi : is[k]? with
  | none => rw [hi] at h1; cases h1
  | some i => rw [hi] at h1; exact ⟨i, rfl, Option.some.inj h1⟩
theorem pa_sub {D : va_G} {cl : List vw_C} {ws wc : va_W} {H : Heap} (hP : va_P D cl ws H) (is : List Nat) (hC : is.map (fun i => ws[i]?) = wc.map some) : va_P D cl wc H := fun k q hq => by
  obtain ⟨i, -, h⟩ := map_at hC hq
  exact hP i q h
theorem rp_join {A0 : Nat → Prop} {D : va_G} {cl : List vw_C} {ws wc w1 : va_W} {H H1 : Heap} (hP : va_P D cl ws H) (hD : va_D A0 ws) (isC : List Nat) (hC : isC.map (fun i => ws[i]?) = wc.map some) (hlen : isC.length = w1.length)
    (hk : ∀ q : Nat, q < H.size → ¬ va_A wc H.size q → H1[q]? = H[q]?) (hF : ∀ q, va_A wc H.size q → A0 q) (hP1 : va_P D cl w1 H1) (hD1 : va_D (va_A wc H.size) w1) : va_P D cl (rp ws isC w1) H1 ∧ va_D A0 (rp ws isC w1) := by
  have out : ∀ (k : Nat) (q : Nat × va_E), k ∉ isC → ws[k]? = some q → q.1 < H.size ∧ ¬ va_A wc H.size q.1 := by
    intro k q hk9 h2
    have hl := (hP k q h2).lt
    refine ⟨hl, fun h => ?_⟩
    rcases h with ⟨k2, e, h⟩ | h
    · obtain ⟨j, h3, h4⟩ := map_at hC h
      have hij := hD.1 k j q (q.1, e) h2 h4 rfl
      subst hij
      exact hk9 (List.mem_of_getElem? h3)
    · omega
  refine ⟨fun k q hq => ?_, fun i j x y hx hy hxy => ?_, fun k q hq => ?_⟩
  · rcases rp_get isC ws w1 k q hlen hq with ⟨j, -, h2⟩ | ⟨h1, h2⟩
    · exact hP1 j q h2
    · obtain ⟨g1, g2⟩ := out k q h1 h2
      exact (hP k q h2).kept (hk q.1 g1 g2)
  · rcases rp_get isC ws w1 i x hlen hx with ⟨a, ha, ha2⟩ | ⟨ha, ha2⟩ <;> rcases rp_get isC ws w1 j y hlen hy with ⟨b, hb, hb2⟩ | ⟨hb, hb2⟩
    · have e := hD1.1 a b x y ha2 hb2 hxy
      subst e
      rw [ha] at hb
      exact Option.some.inj hb
    · exact absurd (by rw [← hxy]; exact hD1.2 a x ha2) (out j y hb hb2).2
    · exact absurd (by rw [hxy]; exact hD1.2 b y hb2) (out i x ha ha2).2
    · exact hD.1 i j x y ha2 hb2 hxy
  · rcases rp_get isC ws w1 k q hlen hq with ⟨j, -, h2⟩ | ⟨h1, h2⟩
    · exact hF q.1 (hD1.2 j q h2)
    · exact hD.2 k q h2
theorem fb_pw {D : va_G} {ty : List (ClassId × FieldType)} {ws : va_W} {av : List Value} {sz : Nat} : FrameBlind (va_Pc av (pw D ty ws sz)) := fun a U g mk q => by
  obtain ⟨q0, q1, qP, qK, qD, qN⟩ := q
  exact ⟨q0, q1, qP, va_K.moved (u := U) (U := U.calling g mk a) (Vm.Alike.refl U.vm) qK, qD, va_Nw.same rfl rfl qN⟩
section BRN
variable {p : Program} {l : Launch} {e : Env} {R : Room} {s : State} {m : MethodId} {args : Array Value} {below : List Frame} {meth : Method} {c : Code} {H : Heap} {locs : List Loc} {cells slots : Nat} {Q : State → Prop}
variable {y : MethodName} {bytes cc : ByteArray} {maxL nL n index : Nat} {ret : Option FieldType} {w Ts : List Cond} {rm : Room} {own C host : String} {b : Addr} {As rest st0 : List Value} {pc : Nat} {ls : Array Slot}
variable {D : va_G} {ty : List (ClassId × FieldType)} {ws wc : va_W} {A : Nat → Prop} {Qf : Nat → Array Value → State → Outcome → State → Prop}
theorem pre_w (hN : nwB s) (hK : va_K D vwCl ty s) (hP : va_P D vwCl ws H) (hD : va_D A ws) (isC : List Nat) (hC : isC.map (fun i => ws[i]?) = wc.map some) (hn : va_nd isC = true) (av : List Value) : ∀ U : State, U.heap = H → s.WarmedH U.vm → va_Pc av (pw D ty wc H.size) av.toArray U := fun U hU hW =>
  ⟨rfl, by rw [hU], by rw [hU]; exact pa_sub hP isC hC, va_K.moved hW.alike hK, (hD.sub isC hn hC).weaken (fun _ _ _ _ => trivial), va_Nw.warmM hW hN⟩
theorem run_V (S : CallFix p m c cc nL s args Ts own) (hM : ∀ sz : Nat, Met l y w rm (va_Pc (.ref b :: As) (pw D ty wc sz)) (Qf sz) rm.cells rm.slots (va_A wc sz)) (cw : CallW R s args own C index y bytes maxL ret w rm rm.cells rm.slots n)
    (hN : nwB s) (hK : va_K D vwCl ty s) (hP : va_P D vwCl ws H) (hD : va_D A ws) (isC : List Nat) (hC : isC.map (fun i => ws[i]?) = wc.map some) (hnd : va_nd isC = true) (ci q0 : Nat) {q : vw_C} {fs : List Value} (hc : vwCl[ci]? = some q) (he : ws[q0]? = some (b, .inr (ci, fs))) (hq : q.1 = C)
    (hn : As.length = n) (hsize : ls.size = nL) (hst : st0 = As.reverse ++ .ref b :: rest) (hW : (rest.map fun v => v.category).sum ≤ 8) (hdg : decode cc pc = .ok (.invokevirtual index, 3)) (hf : cells + rm.cells ≤ R.cells ∧ slots + rm.slots ≤ R.slots) :
    va_Run p l e R s m args below meth c H locs cells slots rm.cells rm.slots (F0 m pc ls st0) rest (Qf H.size (Value.ref b :: As).toArray) (va_A wc H.size) :=
  va_runV S (hM H.size) cw ⟨fb_pw, hq ▸ va_recv hK hP hc he, pre_w hN hK hP hD isC hC hnd _⟩ rfl hn hsize hst (lv_room (ls := ls) (rest := []) (m := m) (pc := pc) hW) hdg hf
theorem run_VN (S : CallFix p m c cc nL s args Ts own) (hM : ∀ sz : Nat, Met l y w rm (va_Pc (.ref b :: As) (pw D ty wc sz)) (Qf sz) rm.cells rm.slots (va_A wc sz)) (cw : va_CN R s args own index y host bytes maxL ret w rm rm.cells rm.slots n ∧ (Cond.instanceMethod y).before args s = true ∧ (Cond.selects C y y).before args s = true)
    (hN : nwB s) (hK : va_K D vwCl ty s) (hP : va_P D vwCl ws H) (hD : va_D A ws) (isC : List Nat) (hC : isC.map (fun i => ws[i]?) = wc.map some) (hnd : va_nd isC = true) (ci q0 : Nat) {q : vw_C} {fs : List Value} (hc : vwCl[ci]? = some q) (he : ws[q0]? = some (b, .inr (ci, fs))) (hq : q.1 = C)
    (hn : As.length = n) (hsize : ls.size = nL) (hst : st0 = As.reverse ++ .ref b :: rest) (hW : (rest.map fun v => v.category).sum ≤ 8) (hdg : decode cc pc = .ok (.invokevirtual index, 3)) (hf : cells + rm.cells ≤ R.cells ∧ slots + rm.slots ≤ R.slots) :
    va_Run p l e R s m args below meth c H locs cells slots rm.cells rm.slots (F0 m pc ls st0) rest (Qf H.size (Value.ref b :: As).toArray) (va_A wc H.size) :=
  va_runVN S (hM H.size) cw ⟨fb_pw, hq ▸ va_recv hK hP hc he, pre_w hN hK hP hD isC hC hnd _⟩ rfl hn hsize hst (lv_room (ls := ls) (rest := []) (m := m) (pc := pc) hW) hdg hf
theorem run_S (S : CallFix p m c cc nL s args Ts own) (hM : ∀ sz : Nat, Met l y w rm (va_Pc As (pw D ty wc sz)) (Qf sz) rm.cells rm.slots (va_A wc sz)) (cw : CallB R s args own index y bytes maxL ret w rm rm.cells rm.slots n ∧ (Cond.static y).before args s = true)
    (hN : nwB s) (hK : va_K D vwCl ty s) (hP : va_P D vwCl ws H) (hD : va_D A ws) (isC : List Nat) (hC : isC.map (fun i => ws[i]?) = wc.map some) (hnd : va_nd isC = true)
    (hn : As.length = n) (hsize : ls.size = nL) (hst : st0 = As.reverse ++ rest) (hW : (rest.map fun v => v.category).sum ≤ 8) (hdg : decode cc pc = .ok (.invokestatic index, 3)) (hf : cells + rm.cells ≤ R.cells ∧ slots + rm.slots ≤ R.slots) :
    va_Run p l e R s m args below meth c H locs cells slots rm.cells rm.slots (F0 m pc ls st0) rest (Qf H.size As.toArray) (va_A wc H.size) :=
  va_runS S (hM H.size) cw ⟨fb_pw, pre_w hN hK hP hD isC hC hnd _⟩ rfl hn hsize hst (lv_room (ls := ls) (rest := []) (m := m) (pc := pc) hW) hdg hf
theorem run_SN (S : CallFix p m c cc nL s args Ts own) (hM : ∀ sz : Nat, Met l y w rm (va_Pc As (pw D ty wc sz)) (Qf sz) rm.cells rm.slots (va_A wc sz)) (cw : va_CN R s args own index y host bytes maxL ret w rm rm.cells rm.slots n ∧ (Cond.static y).before args s = true ∧ True)
    (hN : nwB s) (hK : va_K D vwCl ty s) (hP : va_P D vwCl ws H) (hD : va_D A ws) (isC : List Nat) (hC : isC.map (fun i => ws[i]?) = wc.map some) (hnd : va_nd isC = true)
    (hn : As.length = n) (hsize : ls.size = nL) (hst : st0 = As.reverse ++ rest) (hW : (rest.map fun v => v.category).sum ≤ 8) (hdg : decode cc pc = .ok (.invokestatic index, 3)) (hf : cells + rm.cells ≤ R.cells ∧ slots + rm.slots ≤ R.slots) :
    va_Run p l e R s m args below meth c H locs cells slots rm.cells rm.slots (F0 m pc ls st0) rest (Qf H.size As.toArray) (va_A wc H.size) :=
  va_runSN S (hM H.size) cw ⟨fb_pw, pre_w hN hK hP hD isC hC hnd _⟩ rfl hn hsize hst (lv_room (ls := ls) (rest := []) (m := m) (pc := pc) hW) hdg hf
theorem run_I (S : CallFix p m c cc nL s args Ts own) (hM : ∀ sz : Nat, Met l y w rm (va_Pc (.ref b :: As) (pw D ty wc sz)) (Qf sz) rm.cells rm.slots (va_A wc sz)) (cw : CallB R s args own index y bytes maxL none w rm rm.cells rm.slots n ∧ y.name = "<init>" ∧ (Cond.instanceMethod y).before args s = true)
    (hN : nwB s) (hK : va_K D vwCl ty s) (hP : va_P D vwCl ws H) (hD : va_D A ws) (isC : List Nat) (hC : isC.map (fun i => ws[i]?) = wc.map some) (hnd : va_nd isC = true)
    (hn : As.length = n) (hsize : ls.size = nL) (hst : st0 = As.reverse ++ .ref b :: rest) (hW : (rest.map fun v => v.category).sum ≤ 8) (hdg : decode cc pc = .ok (.invokespecial index, 3)) (hf : cells + rm.cells ≤ R.cells ∧ slots + rm.slots ≤ R.slots) :
    va_Run p l e R s m args below meth c H locs cells slots rm.cells rm.slots (F0 m pc ls st0) rest (Qf H.size (Value.ref b :: As).toArray) (va_A wc H.size) :=
  va_runI S (hM H.size) cw ⟨fb_pw, pre_w hN hK hP hD isC hC hnd _⟩ rfl hn hsize hst (lv_room (ls := ls) (rest := []) (m := m) (pc := pc) hW) hdg hf
theorem run_IN (S : CallFix p m c cc nL s args Ts own) (hM : ∀ sz : Nat, Met l y w rm (va_Pc (.ref b :: As) (pw D ty wc sz)) (Qf sz) rm.cells rm.slots (va_A wc sz)) (cw : va_CN R s args own index y host bytes maxL none w rm rm.cells rm.slots n ∧ y.name = "<init>" ∧ (Cond.instanceMethod y).before args s = true)
    (hN : nwB s) (hK : va_K D vwCl ty s) (hP : va_P D vwCl ws H) (hD : va_D A ws) (isC : List Nat) (hC : isC.map (fun i => ws[i]?) = wc.map some) (hnd : va_nd isC = true)
    (hn : As.length = n) (hsize : ls.size = nL) (hst : st0 = As.reverse ++ .ref b :: rest) (hW : (rest.map fun v => v.category).sum ≤ 8) (hdg : decode cc pc = .ok (.invokespecial index, 3)) (hf : cells + rm.cells ≤ R.cells ∧ slots + rm.slots ≤ R.slots) :
    va_Run p l e R s m args below meth c H locs cells slots rm.cells rm.slots (F0 m pc ls st0) rest (Qf H.size (Value.ref b :: As).toArray) (va_A wc H.size) :=
  va_runIN S (hM H.size) cw ⟨fb_pw, pre_w hN hK hP hD isC hC hnd _⟩ rfl hn hsize hst (lv_room (ls := ls) (rest := []) (m := m) (pc := pc) hW) hdg hf
variable {St : Type} {wn : St → va_W} {a : Array Value} {mc ms : Nat} {ad : St → Nat}
theorem cal_i {post : Int32 → St → Prop} (hr : va_Run p l e R s m args below meth c H locs cells slots mc ms (F0 m pc ls st0) rest (va_Qi post (qw D wn (va_A wc H.size)) (va_A wc H.size) a) (va_A wc H.size)) (hz : mc = 0 ∧ ms = 0)
    (hP : va_P D vwCl ws H) (hD : va_D A ws) (hS : va_S A s.heap H locs) (hA : ∀ q : Nat, s.heap.size ≤ q → A q) (isC : List Nat) (hC : isC.map (fun i => ws[i]?) = wc.map some) (hlen : ∀ u, isC.length = (wn u).length)
    (kk : ∀ (r : Int32) (u : St) (H1 : Heap) (locs1 : List Loc), post r u → va_P D vwCl (rp ws isC (wn u)) H1 → va_D A (rp ws isC (wn u)) → va_S A s.heap H1 locs1 → W p l e R s m args below meth c H1 locs1 cells slots Q (F0 m (pc + 3) ls (.int r :: rest))) : W p l e R s m args below meth c H locs cells slots Q (F0 m pc ls st0) := by
  obtain ⟨rfl, rfl⟩ := hz
  have hF := va_free hD hS hA isC hC
  refine va_calli hr hS (fun q _ h => hF q h) hF (fun r u t H1 locs1 ht _ hp hB _ hk hS1 => ?_)
  obtain ⟨hP1, hD1⟩ := hB
  rw [ht] at hP1
  obtain ⟨g1, g2⟩ := rp_join hP hD isC hC (hlen u) hk hF hP1 hD1
  exact kk r u H1 locs1 hp g1 g2 hS1
theorem cal_l {post : Int64 → St → Prop} (hr : va_Run p l e R s m args below meth c H locs cells slots mc ms (F0 m pc ls st0) rest (va_Ql post (qw D wn (va_A wc H.size)) (va_A wc H.size) a) (va_A wc H.size)) (hz : mc = 0 ∧ ms = 0)
    (hP : va_P D vwCl ws H) (hD : va_D A ws) (hS : va_S A s.heap H locs) (hA : ∀ q : Nat, s.heap.size ≤ q → A q) (isC : List Nat) (hC : isC.map (fun i => ws[i]?) = wc.map some) (hlen : ∀ u, isC.length = (wn u).length)
    (kk : ∀ (r : Int64) (u : St) (H1 : Heap) (locs1 : List Loc), post r u → va_P D vwCl (rp ws isC (wn u)) H1 → va_D A (rp ws isC (wn u)) → va_S A s.heap H1 locs1 → W p l e R s m args below meth c H1 locs1 cells slots Q (F0 m (pc + 3) ls (.long r :: rest))) : W p l e R s m args below meth c H locs cells slots Q (F0 m pc ls st0) := by
  obtain ⟨rfl, rfl⟩ := hz
  have hF := va_free hD hS hA isC hC
  refine va_calll hr hS (fun q _ h => hF q h) hF (fun r u t H1 locs1 ht _ hp hB _ hk hS1 => ?_)
  obtain ⟨hP1, hD1⟩ := hB
  rw [ht] at hP1
  obtain ⟨g1, g2⟩ := rp_join hP hD isC hC (hlen u) hk hF hP1 hD1
  exact kk r u H1 locs1 hp g1 g2 hS1
theorem cal_v {post : St → Prop} (hr : va_Run p l e R s m args below meth c H locs cells slots mc ms (F0 m pc ls st0) rest (va_Qv post (qw D wn (va_A wc H.size)) (va_A wc H.size) a) (va_A wc H.size)) (hz : mc = 0 ∧ ms = 0)
    (hP : va_P D vwCl ws H) (hD : va_D A ws) (hS : va_S A s.heap H locs) (hA : ∀ q : Nat, s.heap.size ≤ q → A q) (isC : List Nat) (hC : isC.map (fun i => ws[i]?) = wc.map some) (hlen : ∀ u, isC.length = (wn u).length)
    (kk : ∀ (u : St) (H1 : Heap) (locs1 : List Loc), post u → va_P D vwCl (rp ws isC (wn u)) H1 → va_D A (rp ws isC (wn u)) → va_S A s.heap H1 locs1 → W p l e R s m args below meth c H1 locs1 cells slots Q (F0 m (pc + 3) ls (rest))) : W p l e R s m args below meth c H locs cells slots Q (F0 m pc ls st0) := by
  obtain ⟨rfl, rfl⟩ := hz
  have hF := va_free hD hS hA isC hC
  refine va_callv hr hS (fun q _ h => hF q h) hF (fun u t H1 locs1 ht _ hp hB _ hk hS1 => ?_)
  obtain ⟨hP1, hD1⟩ := hB
  rw [ht] at hP1
  obtain ⟨g1, g2⟩ := rp_join hP hD isC hC (hlen u) hk hF hP1 hD1
  exact kk u H1 locs1 hp g1 g2 hS1
theorem cal_r {post : St → Prop} (hr : va_Run p l e R s m args below meth c H locs cells slots mc ms (F0 m pc ls st0) rest (va_Qr post (qr D wn ad (va_A wc H.size)) (va_A wc H.size) a) (va_A wc H.size)) (hz : mc = 0 ∧ ms = 0)
    (hP : va_P D vwCl ws H) (hD : va_D A ws) (hS : va_S A s.heap H locs) (hA : ∀ q : Nat, s.heap.size ≤ q → A q) (isC : List Nat) (hC : isC.map (fun i => ws[i]?) = wc.map some) (hlen : ∀ u, isC.length = (wn u).length)
    (kk : ∀ (u : St) (H1 : Heap) (locs1 : List Loc), post u → va_P D vwCl (rp ws isC (wn u)) H1 → va_D A (rp ws isC (wn u)) → va_S A s.heap H1 locs1 → W p l e R s m args below meth c H1 locs1 cells slots Q (F0 m (pc + 3) ls (.ref (ad u) :: rest))) : W p l e R s m args below meth c H locs cells slots Q (F0 m pc ls st0) := by
  obtain ⟨rfl, rfl⟩ := hz
  have hF := va_free hD hS hA isC hC
  refine va_callr hr hS (fun q _ h => hF q h) hF (fun u ra t H1 locs1 ht _ hp hB _ hk hS1 => ?_)
  obtain ⟨rfl, hP1, hD1⟩ := hB
  rw [ht] at hP1
  obtain ⟨g1, g2⟩ := rp_join hP hD isC hC (hlen u) hk hF hP1 hD1
  exact kk u H1 locs1 hp g1 g2 hS1
end BRN
section BNT
variable {p : Program} {l : Launch} {e : Env} {R : Room} {s : State} {m : MethodId} {args : Array Value} {below : List Frame} {meth : Method} {c : Code} {H : Heap} {locs : List Loc} {cells slots : Nat} {Q : State → Prop}
variable {cc : ByteArray} {pc tgt : Nat} {off : Int} {ls : Array Slot} {rest : List Value} {a b : Nat}
theorem icmp_ge_n (hx : p.tables.exec = Jvm.exec) (hb : c.code = cc) (hdg : decode cc pc = .ok (.if_icmp .ge off, 3)) (ht : (pc : Int) + off = (tgt : Int)) (h1 : a < 2147483648) (h2 : b < 2147483648)
    (kt : b ≤ a → W p l e R s m args below meth c H locs cells slots Q (F0 m tgt ls rest)) (kf : a < b → W p l e R s m args below meth c H locs cells slots Q (F0 m (pc + 3) ls rest)) : W p l e R s m args below meth c H locs cells slots Q (F0 m pc ls (.int (nI b) :: .int (nI a) :: rest)) :=
  lv_icmp_ge hx hb hdg ht (fun h => kt ((nI_leI h2 h1).mp h)) (fun h => kf (Nat.lt_of_not_le fun q => h ((nI_leI h2 h1).mpr q)))
theorem icmp_le_n (hx : p.tables.exec = Jvm.exec) (hb : c.code = cc) (hdg : decode cc pc = .ok (.if_icmp .le off, 3)) (ht : (pc : Int) + off = (tgt : Int)) (h1 : a < 2147483648) (h2 : b < 2147483648)
    (kt : a ≤ b → W p l e R s m args below meth c H locs cells slots Q (F0 m tgt ls rest)) (kf : b < a → W p l e R s m args below meth c H locs cells slots Q (F0 m (pc + 3) ls rest)) : W p l e R s m args below meth c H locs cells slots Q (F0 m pc ls (.int (nI b) :: .int (nI a) :: rest)) :=
  lv_icmp_le hx hb hdg ht (fun h => kt ((nI_leI h1 h2).mp h)) (fun h => kf (Nat.lt_of_not_le fun q => h ((nI_leI h1 h2).mpr q)))
theorem icmp_lt_n (hx : p.tables.exec = Jvm.exec) (hb : c.code = cc) (hdg : decode cc pc = .ok (.if_icmp .lt off, 3)) (ht : (pc : Int) + off = (tgt : Int)) (h1 : a < 2147483648) (h2 : b < 2147483648)
    (kt : a < b → W p l e R s m args below meth c H locs cells slots Q (F0 m tgt ls rest)) (kf : b ≤ a → W p l e R s m args below meth c H locs cells slots Q (F0 m (pc + 3) ls rest)) : W p l e R s m args below meth c H locs cells slots Q (F0 m pc ls (.int (nI b) :: .int (nI a) :: rest)) :=
  lv_icmp_lt hx hb hdg ht (fun h => kt ((nI_ltI h1 h2).mp h)) (fun h => kf (Nat.le_of_not_lt fun q => h ((nI_ltI h1 h2).mpr q)))
theorem icmp_gt_n (hx : p.tables.exec = Jvm.exec) (hb : c.code = cc) (hdg : decode cc pc = .ok (.if_icmp .gt off, 3)) (ht : (pc : Int) + off = (tgt : Int)) (h1 : a < 2147483648) (h2 : b < 2147483648)
    (kt : b < a → W p l e R s m args below meth c H locs cells slots Q (F0 m tgt ls rest)) (kf : a ≤ b → W p l e R s m args below meth c H locs cells slots Q (F0 m (pc + 3) ls rest)) : W p l e R s m args below meth c H locs cells slots Q (F0 m pc ls (.int (nI b) :: .int (nI a) :: rest)) :=
  lv_icmp_gt hx hb hdg ht (fun h => kt ((nI_ltI h2 h1).mp h)) (fun h => kf (Nat.le_of_not_lt fun q => h ((nI_ltI h2 h1).mpr q)))
theorem icmp_eq_n (hx : p.tables.exec = Jvm.exec) (hb : c.code = cc) (hdg : decode cc pc = .ok (.if_icmp .eq off, 3)) (ht : (pc : Int) + off = (tgt : Int)) (h1 : a < 2147483648) (h2 : b < 2147483648)
    (kt : a = b → W p l e R s m args below meth c H locs cells slots Q (F0 m tgt ls rest)) (kf : a ≠ b → W p l e R s m args below meth c H locs cells slots Q (F0 m (pc + 3) ls rest)) : W p l e R s m args below meth c H locs cells slots Q (F0 m pc ls (.int (nI b) :: .int (nI a) :: rest)) :=
  lv_icmp_eq hx hb hdg ht (fun h => kt ((nI_eq h1 h2).mp h)) (fun h => kf (fun q => h ((nI_eq h1 h2).mpr q)))
theorem icmp_ne_n (hx : p.tables.exec = Jvm.exec) (hb : c.code = cc) (hdg : decode cc pc = .ok (.if_icmp .ne off, 3)) (ht : (pc : Int) + off = (tgt : Int)) (h1 : a < 2147483648) (h2 : b < 2147483648)
    (kt : a ≠ b → W p l e R s m args below meth c H locs cells slots Q (F0 m tgt ls rest)) (kf : a = b → W p l e R s m args below meth c H locs cells slots Q (F0 m (pc + 3) ls rest)) : W p l e R s m args below meth c H locs cells slots Q (F0 m pc ls (.int (nI b) :: .int (nI a) :: rest)) :=
  lv_icmp_ne hx hb hdg ht (fun h => kt (fun q => h ((nI_eq h1 h2).mpr q))) (fun h => kf ((nI_eq h1 h2).mp h))
theorem if_eq_n (hx : p.tables.exec = Jvm.exec) (hb : c.code = cc) (hdg : decode cc pc = .ok (.ifCond .eq off, 3)) (ht : (pc : Int) + off = (tgt : Int)) (h1 : a < 2147483648)
    (kt : a = 0 → W p l e R s m args below meth c H locs cells slots Q (F0 m tgt ls rest)) (kf : 0 < a → W p l e R s m args below meth c H locs cells slots Q (F0 m (pc + 3) ls rest)) : W p l e R s m args below meth c H locs cells slots Q (F0 m pc ls (.int (nI a) :: rest)) :=
  lv_if_eq hx hb hdg ht (fun h => kt ((nI_eq h1 (by omega)).mp (h.trans nI_0.symm))) (fun h => kf (Nat.pos_of_ne_zero fun q => h (by rw [q, nI_0])))
theorem if_ne_n (hx : p.tables.exec = Jvm.exec) (hb : c.code = cc) (hdg : decode cc pc = .ok (.ifCond .ne off, 3)) (ht : (pc : Int) + off = (tgt : Int)) (h1 : a < 2147483648)
    (kt : 0 < a → W p l e R s m args below meth c H locs cells slots Q (F0 m tgt ls rest)) (kf : a = 0 → W p l e R s m args below meth c H locs cells slots Q (F0 m (pc + 3) ls rest)) : W p l e R s m args below meth c H locs cells slots Q (F0 m pc ls (.int (nI a) :: rest)) :=
  lv_if_ne hx hb hdg ht (fun h => kt (Nat.pos_of_ne_zero fun q => h (by rw [q, nI_0]))) (fun h => kf ((nI_eq h1 (by omega)).mp (h.trans nI_0.symm)))
theorem if_le_n (hx : p.tables.exec = Jvm.exec) (hb : c.code = cc) (hdg : decode cc pc = .ok (.ifCond .le off, 3)) (ht : (pc : Int) + off = (tgt : Int)) (h1 : a < 2147483648)
    (kt : a = 0 → W p l e R s m args below meth c H locs cells slots Q (F0 m tgt ls rest)) (kf : 0 < a → W p l e R s m args below meth c H locs cells slots Q (F0 m (pc + 3) ls rest)) : W p l e R s m args below meth c H locs cells slots Q (F0 m pc ls (.int (nI a) :: rest)) :=
  lv_if_le hx hb hdg ht (fun h => kt (Nat.le_zero.mp ((nI_leI h1 (by omega)).mp (by rw [nI_0]; exact h)))) (fun h => kf (Nat.pos_of_ne_zero fun q => h (by rw [q, nI_0]; decide)))
theorem iadd_n (hx : p.tables.exec = Jvm.exec) (hb : c.code = cc) (hdg : decode cc pc = .ok (.iadd, 1)) (k : W p l e R s m args below meth c H locs cells slots Q (F0 m (pc + 1) ls (.int (nI (a + b)) :: rest))) : W p l e R s m args below meth c H locs cells slots Q (F0 m pc ls (.int (nI b) :: .int (nI a) :: rest)) :=
  lv_iadd hx hb hdg (by rw [nI_add]; exact k)
theorem isub_n (hx : p.tables.exec = Jvm.exec) (hb : c.code = cc) (hdg : decode cc pc = .ok (.isub, 1)) (h : b ≤ a) (k : W p l e R s m args below meth c H locs cells slots Q (F0 m (pc + 1) ls (.int (nI (a - b)) :: rest))) : W p l e R s m args below meth c H locs cells slots Q (F0 m pc ls (.int (nI b) :: .int (nI a) :: rest)) :=
  lv_isub hx hb hdg (by rw [pk_sub h]; exact k)
theorem imul_n (hx : p.tables.exec = Jvm.exec) (hb : c.code = cc) (hdg : decode cc pc = .ok (.imul, 1)) (k : W p l e R s m args below meth c H locs cells slots Q (F0 m (pc + 1) ls (.int (nI (a * b)) :: rest))) : W p l e R s m args below meth c H locs cells slots Q (F0 m pc ls (.int (nI b) :: .int (nI a) :: rest)) :=
  lv_imul hx hb hdg (by rw [pk_mul]; exact k)
theorem idiv_n (hx : p.tables.exec = Jvm.exec) (hb : c.code = cc) (hdg : decode cc pc = .ok (.idiv, 1)) (h0 : 0 < b) (h1 : a < 2147483648) (h2 : b < 2147483648) (k : W p l e R s m args below meth c H locs cells slots Q (F0 m (pc + 1) ls (.int (nI (a / b)) :: rest))) : W p l e R s m args below meth c H locs cells slots Q (F0 m pc ls (.int (nI b) :: .int (nI a) :: rest)) :=
  lv_idiv hx hb hdg (nI_ne0 h0 h2) (by rw [pk_div h1 h0 h2]; exact k)
variable {D : va_G} {ty : List (ClassId × FieldType)} {ws : va_W} {A : Nat → Prop} {H0 : Heap} {ad : Nat}
theorem iald_n (hx : p.tables.exec = Jvm.exec) (hb : c.code = cc) (hK : va_K D vwCl ty s) (hP : va_P D vwCl ws H) (q0 t0 : Nat) {cA : ClassId} {n k : Nat} {f : Nat → Int32} (ha : ws[q0]? = some (ad, .inl (cA, n, .inl f))) (ht : ty[t0]? = some (cA, .int)) (hk : k < n) (hn : n < 2147483648) (hdg : decode cc pc = .ok (.iaload, 1))
    (kk : W p l e R s m args below meth c H locs cells slots Q (F0 m (pc + 1) ls (.int (f k) :: rest))) : W p l e R s m args below meth c H locs cells slots Q (F0 m pc ls (.int (nI k) :: .ref ad :: rest)) :=
  va_iald hx hb hK hP q0 t0 ha ht (vp_in_nI hk hn) hdg (by rw [nI_clamp (by omega)]; exact kk)
theorem iast_n (hx : p.tables.exec = Jvm.exec) (hb : c.code = cc) (hK : va_K D vwCl ty s) (hP : va_P D vwCl ws H) (hD : va_D A ws) (hS : va_S A H0 H locs) (q0 t0 : Nat) {cA : ClassId} {n k : Nat} {f : Nat → Int32} (ha : ws[q0]? = some (ad, .inl (cA, n, .inl f))) (ht : ty[t0]? = some (cA, .int)) {x : Int32} (hk : k < n) (hn : n < 2147483648) (hdg : decode cc pc = .ok (.iastore, 1))
    (kk : ∀ (H1 : Heap) (locs1 : List Loc), va_P D vwCl (ws.set q0 (ad, .inl (cA, n, .inl (upd f k x)))) H1 → va_D A (ws.set q0 (ad, .inl (cA, n, .inl (upd f k x)))) → va_S A H0 H1 locs1 → W p l e R s m args below meth c H1 locs1 cells slots Q (F0 m (pc + 1) ls rest)) : W p l e R s m args below meth c H locs cells slots Q (F0 m pc ls (.int x :: .int (nI k) :: .ref ad :: rest)) :=
  va_iast hx hb hK hP hD hS q0 t0 ha ht (vp_in_nI hk hn) hdg (by rw [nI_clamp (by omega)]; exact kk)
theorem irem_n (hx : p.tables.exec = Jvm.exec) (hb : c.code = cc) (hdg : decode cc pc = .ok (.irem, 1)) (h0 : 0 < b) (h1 : a < 2147483648) (h2 : b < 2147483648) (k : W p l e R s m args below meth c H locs cells slots Q (F0 m (pc + 1) ls (.int (nI (a % b)) :: rest))) : W p l e R s m args below meth c H locs cells slots Q (F0 m pc ls (.int (nI b) :: .int (nI a) :: rest)) :=
  lv_irem hx hb hdg (nI_ne0 h0 h2) (by rw [pk_rem h1 h0 h2]; exact k)
theorem lald_n (hx : p.tables.exec = Jvm.exec) (hb : c.code = cc) (hK : va_K D vwCl ty s) (hP : va_P D vwCl ws H) (q0 t0 : Nat) {cA : ClassId} {n k : Nat} {f : Nat → Int64} (ha : ws[q0]? = some (ad, .inl (cA, n, .inr (.inl f)))) (ht : ty[t0]? = some (cA, .long)) (hk : k < n) (hn : n < 2147483648) (hdg : decode cc pc = .ok (.laload, 1))
    (kk : W p l e R s m args below meth c H locs cells slots Q (F0 m (pc + 1) ls (.long (f k) :: rest))) : W p l e R s m args below meth c H locs cells slots Q (F0 m pc ls (.int (nI k) :: .ref ad :: rest)) :=
  va_lald hx hb hK hP q0 t0 ha ht (vp_in_nI hk hn) hdg (by rw [nI_clamp (by omega)]; exact kk)
theorem last_n (hx : p.tables.exec = Jvm.exec) (hb : c.code = cc) (hK : va_K D vwCl ty s) (hP : va_P D vwCl ws H) (hD : va_D A ws) (hS : va_S A H0 H locs) (q0 t0 : Nat) {cA : ClassId} {n k : Nat} {f : Nat → Int64} (ha : ws[q0]? = some (ad, .inl (cA, n, .inr (.inl f)))) (ht : ty[t0]? = some (cA, .long)) {x : Int64} (hk : k < n) (hn : n < 2147483648) (hdg : decode cc pc = .ok (.lastore, 1))
    (kk : ∀ (H1 : Heap) (locs1 : List Loc), va_P D vwCl (ws.set q0 (ad, .inl (cA, n, .inr (.inl (vp_updL f k x))))) H1 → va_D A (ws.set q0 (ad, .inl (cA, n, .inr (.inl (vp_updL f k x))))) → va_S A H0 H1 locs1 → W p l e R s m args below meth c H1 locs1 cells slots Q (F0 m (pc + 1) ls rest)) : W p l e R s m args below meth c H locs cells slots Q (F0 m pc ls (.long x :: .int (nI k) :: .ref ad :: rest)) :=
  va_last hx hb hK hP hD hS q0 t0 ha ht (vp_in_nI hk hn) hdg (by rw [nI_clamp (by omega)]; exact kk)
theorem zald_n (hx : p.tables.exec = Jvm.exec) (hb : c.code = cc) (hK : va_K D vwCl ty s) (hP : va_P D vwCl ws H) (q0 t0 : Nat) {cA : ClassId} {n k : Nat} {f : Nat → Int32} (ha : ws[q0]? = some (ad, .inl (cA, n, .inl f))) (ht : ty[t0]? = some (cA, .boolean)) (hk : k < n) (hn : n < 2147483648) (hdg : decode cc pc = .ok (.baload, 1))
    (kk : W p l e R s m args below meth c H locs cells slots Q (F0 m (pc + 1) ls (.int (f k) :: rest))) : W p l e R s m args below meth c H locs cells slots Q (F0 m pc ls (.int (nI k) :: .ref ad :: rest)) :=
  va_zald hx hb hK hP q0 t0 ha ht (vp_in_nI hk hn) hdg (by rw [nI_clamp (by omega)]; exact kk)
theorem zast_n (hx : p.tables.exec = Jvm.exec) (hb : c.code = cc) (hK : va_K D vwCl ty s) (hP : va_P D vwCl ws H) (hD : va_D A ws) (hS : va_S A H0 H locs) (q0 t0 : Nat) {cA : ClassId} {n k : Nat} {f : Nat → Int32} (ha : ws[q0]? = some (ad, .inl (cA, n, .inl f))) (ht : ty[t0]? = some (cA, .boolean)) {x : Int32} (hk : k < n) (hn : n < 2147483648) (hnar : vp_nar .boolean x = x) (hdg : decode cc pc = .ok (.bastore, 1))
    (kk : ∀ (H1 : Heap) (locs1 : List Loc), va_P D vwCl (ws.set q0 (ad, .inl (cA, n, .inl (upd f k x)))) H1 → va_D A (ws.set q0 (ad, .inl (cA, n, .inl (upd f k x)))) → va_S A H0 H1 locs1 → W p l e R s m args below meth c H1 locs1 cells slots Q (F0 m (pc + 1) ls rest)) : W p l e R s m args below meth c H locs cells slots Q (F0 m pc ls (.int x :: .int (nI k) :: .ref ad :: rest)) :=
  va_zast hx hb hK hP hD hS q0 t0 ha ht (vp_in_nI hk hn) hdg (by rw [nI_clamp (by omega), hnar]; exact kk)
theorem aald_n (hx : p.tables.exec = Jvm.exec) (hb : c.code = cc) (hK : va_K D vwCl ty s) (hP : va_P D vwCl ws H) (q0 t0 : Nat) {cA : ClassId} {C : String} {n k : Nat} {f : Nat → Option Nat} (ha : ws[q0]? = some (ad, .inl (cA, n, .inr (.inr (.inr (.inr f)))))) (ht : ty[t0]? = some (cA, .object C)) (hk : k < n) (hn : n < 2147483648) (hdg : decode cc pc = .ok (.aaload, 1))
    (kk : W p l e R s m args below meth c H locs cells slots Q (F0 m (pc + 1) ls (va_rf (f k) :: rest))) : W p l e R s m args below meth c H locs cells slots Q (F0 m pc ls (.int (nI k) :: .ref ad :: rest)) :=
  va_aldq hx hb hK hP q0 t0 ha ht (vp_in_nI hk hn) hdg (by rw [nI_clamp (by omega)]; exact kk)
theorem copy_n (hx : p.tables.exec = Jvm.exec) (hb : c.code = cc) (hml : c.maxLocals = ls.size) {own : String} {index : Nat} (hown : s.vm.findClass own = some m.cls) (hlink : (Cond.methodLink own index arraycopyName).before args s = true) (hnat : (Cond.native arraycopyName).before args s = true) (hstat : (Cond.static arraycopyName).before args s = true) (hini : (Cond.initialized "java/lang/System").before args s = true)
    (hK : va_K D vwCl ty s) (hP : va_P D vwCl ws H) (hD : va_D A ws) (hS : va_S A H0 H locs) (q0 q1 t0 : Nat) {a0 : Nat} {cA : ClassId} {n0 n1 : Nat} {f g : Nat → Int32} (ha0 : ws[q0]? = some (a0, .inl (cA, n0, .inl f))) (ha1 : ws[q1]? = some (ad, .inl (cA, n1, .inl g))) (ht0 : ty[t0]? = some (cA, .int))
    {sp dp n : Nat} (hsp : sp < 2147483648) (hdp : dp < 2147483648) (hnn : n < 2147483648) (h4 : sp + n ≤ n0) (h5 : dp + n ≤ n1)
    (hframes : 1 ≤ R.frames) (hlocals : (rest.map fun v => v.category).sum + (nativeFrameWords "java/lang/System" "arraycopy" 5 + 11) ≤ R.locals) (hdg : decode cc pc = .ok (.invokestatic index, 3))
    (kk : ∀ (H1 : Heap) (locs1 : List Loc), va_P D vwCl (ws.set q1 (ad, .inl (cA, n1, .inl (va_cpy f g sp dp n)))) H1 → va_D A (ws.set q1 (ad, .inl (cA, n1, .inl (va_cpy f g sp dp n)))) → va_S A H0 H1 locs1 → W p l e R s m args below meth c H1 locs1 cells slots Q (F0 m (pc + 3) ls rest)) : W p l e R s m args below meth c H locs cells slots Q (F0 m pc ls (.int (nI n) :: .int (nI dp) :: .ref ad :: .int (nI sp) :: .ref a0 :: rest)) := by
  refine va_copyi hx hb hml hown hlink hnat hstat hini hK hP hD hS q0 q1 t0 t0 ha0 ha1 ht0 ht0 rfl (nI_pos hsp) (nI_pos hdp) (nI_pos hnn) (by rw [nI_clamp hsp, nI_clamp hnn]; exact h4) (by rw [nI_clamp hdp, nI_clamp hnn]; exact h5) (fun _ _ => rfl) hframes hlocals hdg ?_
  rw [nI_clamp hsp, nI_clamp hdp, nI_clamp hnn]
  exact kk
theorem copyL_n (hx : p.tables.exec = Jvm.exec) (hb : c.code = cc) (hml : c.maxLocals = ls.size) {own : String} {index : Nat} (hown : s.vm.findClass own = some m.cls) (hlink : (Cond.methodLink own index arraycopyName).before args s = true) (hnat : (Cond.native arraycopyName).before args s = true) (hstat : (Cond.static arraycopyName).before args s = true) (hini : (Cond.initialized "java/lang/System").before args s = true)
    (hK : va_K D vwCl ty s) (hP : va_P D vwCl ws H) (hD : va_D A ws) (hS : va_S A H0 H locs) (q0 q1 t0 : Nat) {a0 : Nat} {cA : ClassId} {n0 n1 : Nat} {f g : Nat → Int64} (ha0 : ws[q0]? = some (a0, .inl (cA, n0, .inr (.inl f)))) (ha1 : ws[q1]? = some (ad, .inl (cA, n1, .inr (.inl g)))) (ht0 : ty[t0]? = some (cA, .long))
    {sp dp n : Nat} (hsp : sp < 2147483648) (hdp : dp < 2147483648) (hnn : n < 2147483648) (h4 : sp + n ≤ n0) (h5 : dp + n ≤ n1)
    (hframes : 1 ≤ R.frames) (hlocals : (rest.map fun v => v.category).sum + (nativeFrameWords "java/lang/System" "arraycopy" 5 + 11) ≤ R.locals) (hdg : decode cc pc = .ok (.invokestatic index, 3))
    (kk : ∀ (H1 : Heap) (locs1 : List Loc), va_P D vwCl (ws.set q1 (ad, .inl (cA, n1, .inr (.inl (va_cpy f g sp dp n))))) H1 → va_D A (ws.set q1 (ad, .inl (cA, n1, .inr (.inl (va_cpy f g sp dp n))))) → va_S A H0 H1 locs1 → W p l e R s m args below meth c H1 locs1 cells slots Q (F0 m (pc + 3) ls rest)) : W p l e R s m args below meth c H locs cells slots Q (F0 m pc ls (.int (nI n) :: .int (nI dp) :: .ref ad :: .int (nI sp) :: .ref a0 :: rest)) := by
  refine va_copyl hx hb hml hown hlink hnat hstat hini hK hP hD hS q0 q1 t0 t0 ha0 ha1 ht0 ht0 rfl (nI_pos hsp) (nI_pos hdp) (nI_pos hnn) (by rw [nI_clamp hsp, nI_clamp hnn]; exact h4) (by rw [nI_clamp hdp, nI_clamp hnn]; exact h5) (fun _ _ => rfl) hframes hlocals hdg ?_
  rw [nI_clamp hsp, nI_clamp hdp, nI_clamp hnn]
  exact kk
end BNT
theorem nw_of {w : Cond} {A : Array Value} {U : State} (h : w.before A U = true) (hw : w.onTables = true) : va_Nw w U := va_Nw.of hw h
end
section
/-! PURE WORDS, first: the numbers that the leaves compute -/
def mxI (x y : Int32) : Int32 := if x < y then y else x
def mnI (x y : Int32) : Int32 := if y < x then y else x
def abI (x : Int32) : Int32 := if 0 ≤ x then x else 0 - x
/-- a boolean: 1 where P holds, else 0 -/
def bz (P : Prop) (r : Int32) : Prop := (P ∧ r = nI 1) ∨ (¬ P ∧ r = nI 0)
theorem bz1 {P : Prop} (h : P) : bz P (nI 1) := Or.inl ⟨h, rfl⟩
theorem bz0 {P : Prop} (h : ¬ P) : bz P (nI 0) := Or.inr ⟨h, rfl⟩
theorem i_nlt {a b : Int32} (h : ¬ a < b) : b ≤ a := by
  rw [Int32.le_iff_toInt_le]; rw [Int32.lt_iff_toInt_lt] at h; omega
theorem i_nle {a b : Int32} (h : ¬ a ≤ b) : b < a := by
  rw [Int32.lt_iff_toInt_lt]; rw [Int32.le_iff_toInt_le] at h; omega
theorem i_ltnle {a b : Int32} (h : a < b) : ¬ b ≤ a := by
  rw [Int32.le_iff_toInt_le]; rw [Int32.lt_iff_toInt_lt] at h; omega
theorem i_lenlt {a b : Int32} (h : a ≤ b) : ¬ b < a := by
  rw [Int32.lt_iff_toInt_lt]; rw [Int32.le_iff_toInt_le] at h; omega
theorem ne_toI {x : Int32} {c : Nat} (hc : c < 2147483648) (h : ¬ x = nI c) : ¬ ((c : Int) = x.toInt) := fun e => h (Int32.toInt_inj.mp (by rw [← e, nI_toInt hc]))
theorem nI_rng {x : Int32} {a b : Nat} (ha : a < 2147483648) (hb : b < 2147483648) (h1 : nI a ≤ x) (h2 : x ≤ nI b) : ∃ k : Nat, a ≤ k ∧ k ≤ b ∧ x = nI k := by
  rw [Int32.le_iff_toInt_le, nI_toInt ha] at h1
  rw [Int32.le_iff_toInt_le, nI_toInt hb] at h2
  refine ⟨x.toInt.toNat, by omega, by omega, Int32.toInt_inj.mp ?_⟩
  rw [nI_toInt (by omega)]
  omega
theorem mnI_l {a b : Nat} (h : a ≤ b) (hb : b < 2147483648) : mnI (nI a) (nI b) = nI a := by
  unfold mnI
  by_cases e : b < a
  · omega
  · rw [if_neg (fun q => e ((nI_ltI hb (by omega)).mp q))]
theorem mnI_r {a b : Nat} (h : b ≤ a) (ha : a < 2147483648) : mnI (nI a) (nI b) = nI b := by
  unfold mnI
  by_cases e : b < a
  · rw [if_pos ((nI_ltI (by omega) ha).mpr e)]
  · have : a = b := by omega
    subst this
    split <;> rfl
theorem mxI_l {a b : Nat} (h : b ≤ a) (ha : a < 2147483648) : mxI (nI a) (nI b) = nI a := by
  unfold mxI
  rw [if_neg (fun q => by have := (nI_ltI ha (by omega)).mp q; omega)]
theorem mxI_r {a b : Nat} (h : a ≤ b) (hb : b < 2147483648) : mxI (nI a) (nI b) = nI b := by
  unfold mxI
  by_cases e : a < b
  · rw [if_pos ((nI_ltI (by omega) hb).mpr e)]
  · have : a = b := by omega
    subst this
    split <;> rfl
/-- when one comes: comingAt -/
def cmA (h e la : Int32) : Int32 := mnI (nI 23) (mxI h e + la)
def filI (f : Nat → Int32) (v : Int32) : Nat → (Nat → Int32)
  | 0 => f
  | k + 1 => upd (filI f v k) k v
theorem filI_in (f : Nat → Int32) (v : Int32) : ∀ (n k : Nat), k < n → filI f v n k = v
  | n + 1, k, h => by
    show upd (filI f v n) n v k = v
    by_cases e : k = n
    · subst e; exact pk_us
    · rw [pk_un e]; exact filI_in f v n k (by omega)
theorem filI_out (f : Nat → Int32) (v : Int32) : ∀ (n k : Nat), n ≤ k → filI f v n k = f k
  | 0, _, _ => rfl
  | n + 1, k, h => by
    show upd (filI f v n) n v k = f k
    rw [pk_un (by omega)]; exact filI_out f v n k (by omega)
def filJ (f : Nat → Int64) (v : Int64) : Nat → (Nat → Int64)
  | 0 => f
  | k + 1 => vp_updL (filJ f v k) k v
theorem filJ_in (f : Nat → Int64) (v : Int64) : ∀ (n k : Nat), k < n → filJ f v n k = v
  | n + 1, k, h => by
    show vp_updL (filJ f v n) n v k = v
    by_cases e : k = n
    · subst e; exact pk_uLs
    · rw [pk_uLn e]; exact filJ_in f v n k (by omega)
def sgN : Nat → Nat
  | 0 => 108
  | 1 => 109
  | 2 => 112
  | _ => 102
abbrev isLf (x : Int32) : Prop := x = nI 108 ∨ x = nI 102 ∨ x = nI 109 ∨ x = nI 112 ∨ x = nI 104
abbrev isPr (x : Int32) : Prop := x = nI 60 ∨ x = nI 62 ∨ x = nI 47
abbrev isSh (x : Int32) : Prop := x = nI 45 ∨ x = nI 43
/-- how many parts a sign stands ahead of; -1 if it begins none -/
def prt (x : Int32) : Int32 := if isLf x then nI 0 else if isPr x then nI 2 else if isSh x ∨ x = nI 126 then nI 1 else (-1)
/-- the place in the order of the one whom a sign means -/
def plc (x : Int32) (n : Nat) : Nat := if x = nI 108 then n - 1 else if x = nI 109 then (n - 1) / 2 else if x = nI 112 then n - 1 - 1 else 0
/-- a time put among the first k of a row in order -/
def insG (g : Nat → Int32) (t : Int32) : Nat → (Nat → Int32)
  | 0 => upd g 0 t
  | k + 1 => if g k ≤ t then upd g (k + 1) t else insG (upd g (k + 1) (g k)) t k
/-- how far an hour is from the bests of the first k, together -/
def farS (b : Nat → Int32) (h : Int32) : Nat → Int32
  | 0 => nI 0
  | k + 1 => farS b h k + abI (h - b k)
def rowA (a b c : Nat) (x : Int32) : Nat := if x = 0 then a else if x = nI 1 then b else c
theorem mx_sub1 {k : Nat} (hk : k < 2147483648) : mxI (nI 0) (nI k - nI 1) = nI (k - 1) := by
  rcases Nat.eq_zero_or_pos k with e | e
  · subst e; decide
  · rw [pk_sub e]; exact mxI_r (by omega) (by omega)
theorem i_sub1 (x : Int32) : x - nI 1 = x + (-1) := by rw [Int32.sub_eq_add_neg]; rfl
end
section
abbrev rm_J7_fill_53178 : Room := { frames := 0, cells := 0, slots := 0, locals := 0 }
set_option maxHeartbeats 4000000 in
set_option maxRecDepth 100000 in
theorem c_fillI (l : Launch) (D : va_G) (cI cJ cZ cG cM : ClassId) (a n : Nat) (f : Nat → Int32) (v : Int32) (hn : n < 1000000) :
    CV l yJ7_fill_53178 wsJ7_fill_53178 rm_J7_fill_53178 D [(cI, .int), (cJ, .long), (cZ, .boolean), (cG, .object "LatestSets$Guild"), (cM, .array .int)] [(a, .inl (cI, n, .inl f))] [.ref a, .int v] (S := Unit) (fun u => True) (fun u => [(a, .inl (cI, n, .inl (filI f v n)))]) := by
  refine sv_of (cc := cJ7_fill_53178) (maxL := 4) (by decide) rfl (Nat.le_of_ble_eq_true rfl) ?_
  intro p e s m args below meth c A ls Q E hret
  obtain ⟨hx, hb, -, hml, hown, hts, -, hin, hA, hK, hP, hD, hS, hl, hN⟩ := E
  have hown : s.vm.findClass RJ7 = some m.cls := hown
  have hl : lv_has ls 4 [(0, .ref a), (1, .int v)] := hl
  have SF : CallFix p m c cJ7_fill_53178 4 s args wsJ7_fill_53178 RJ7 := ⟨hx, hb, hml, hown, hts⟩
  refine lv_iconst (v := nI 0) hx hb dJ7_fill_53178_0 (by decide) ?_
  refine lv_istore_n (lv' := [(2, .int (nI 0)), (0, .ref a), (1, .int v)]) hx hb dJ7_fill_53178_1 rfl hl (by decide) rfl (fun ls hl => ?_)
  refine lv_aload_n hx hb dJ7_fill_53178_2 rfl (lv_at hl 1 rfl) ?_
  refine va_alen (v := nI n) hx hb hK hP 0 0 rfl rfl rfl dJ7_fill_53178_3 ?_
  refine lv_istore_n (lv' := [(3, .int (nI n)), (2, .int (nI 0)), (0, .ref a), (1, .int v)]) hx hb dJ7_fill_53178_4 rfl hl (by decide) rfl (fun ls hl => ?_)
  have L5 : ∀ (n9 : Nat) (k : Nat) (hk : k ≤ n), n - k < n9 → ∀ (H : Heap) (locs : List Loc), va_P D vwCl [(a, .inl (cI, n, .inl (filI f v k)))] H → va_D A [(a, .inl (cI, n, .inl (filI f v k)))] → va_S A s.heap H locs → ∀ (ls : Array Slot), lv_has ls 4 [(0, .ref a), (1, .int v), (2, .int (nI k)), (3, .int (nI n))] → W p l e rm_J7_fill_53178 s m args below meth c H locs 0 0 Q (F0 m 5 ls []) := by
    intro n9
    induction n9 with
    | zero => intro k hk hm; exact absurd hm (Nat.not_lt_zero _)
    | succ n9 ih5 =>
      intro k hk hm5 H locs hP hD hS ls hl
      refine lv_iload_n hx hb dJ7_fill_53178_5 rfl (lv_at hl 2 rfl) ?_
      refine lv_iload_n hx hb dJ7_fill_53178_6 rfl (lv_at hl 3 rfl) ?_
      refine icmp_ge_n (a := k) (b := n) (tgt := 20) hx hb dJ7_fill_53178_7 (by decide) (by omega) (by omega) (fun c7 => ?_) (fun c7 => ?_)
      · have e9 : k = n := by omega
        subst e9
        exact hret (()) _ _ _ _ dJ7_fill_53178_20 trivial hP hD hS
      · refine lv_aload_n hx hb dJ7_fill_53178_10 rfl (lv_at hl 0 rfl) ?_
        refine lv_iload_n hx hb dJ7_fill_53178_11 rfl (lv_at hl 2 rfl) ?_
        refine lv_iload_n hx hb dJ7_fill_53178_12 rfl (lv_at hl 1 rfl) ?_
        refine iast_n (k := k) hx hb hK hP hD hS 0 0 rfl rfl (by omega) (by omega) dJ7_fill_53178_13 (fun H locs hP hD hS => ?_)
        have hP : va_P D vwCl [(a, .inl (cI, n, .inl (upd (filI f v k) k v)))] H := hP
        have hD : va_D A [(a, .inl (cI, n, .inl (upd (filI f v k) k v)))] := hD
        refine lv_iinc (v := nI (k + 1)) (lv' := [(2, .int (nI (k + 1))), (0, .ref a), (1, .int v), (3, .int (nI n))]) hx hb dJ7_fill_53178_14 hl (k := 2) rfl (nI_1 k) (by decide) rfl (fun ls hl => ?_)
        refine lv_goto (tgt := 5) hx hb dJ7_fill_53178_17 (by decide) ?_
        exact ih5 (k + 1) ((by omega)) (by omega) _ _ hP hD hS _ (lv_sub hl [1, 2, 0, 3] rfl)
  exact L5 _ 0 ((Nat.zero_le _)) (Nat.lt_succ_self _) _ _ hP hD hS _ (lv_sub hl [2, 3, 1, 0] rfl)

abbrev rm_J7_fill_d0a16 : Room := { frames := 0, cells := 0, slots := 0, locals := 0 }
set_option maxHeartbeats 4000000 in
set_option maxRecDepth 100000 in
theorem c_fillJ (l : Launch) (D : va_G) (cI cJ cZ cG cM : ClassId) (a n : Nat) (f : Nat → Int64) (v : Int64) (hn : n < 1000000) :
    CV l yJ7_fill_d0a16 wsJ7_fill_d0a16 rm_J7_fill_d0a16 D [(cI, .int), (cJ, .long), (cZ, .boolean), (cG, .object "LatestSets$Guild"), (cM, .array .int)] [(a, .inl (cJ, n, .inr (.inl f)))] [.ref a, .long v] (S := Unit) (fun u => True) (fun u => [(a, .inl (cJ, n, .inr (.inl (filJ f v n))))]) := by
  refine sv_of (cc := cJ7_fill_d0a16) (maxL := 5) (by decide) rfl (Nat.le_of_ble_eq_true rfl) ?_
  intro p e s m args below meth c A ls Q E hret
  obtain ⟨hx, hb, -, hml, hown, hts, -, hin, hA, hK, hP, hD, hS, hl, hN⟩ := E
  have hown : s.vm.findClass RJ7 = some m.cls := hown
  have hl : lv_has ls 5 [(0, .ref a), (1, .long v)] := hl
  have SF : CallFix p m c cJ7_fill_d0a16 5 s args wsJ7_fill_d0a16 RJ7 := ⟨hx, hb, hml, hown, hts⟩
  refine lv_iconst (v := nI 0) hx hb dJ7_fill_d0a16_0 (by decide) ?_
  refine lv_istore_n (lv' := [(3, .int (nI 0)), (0, .ref a), (1, .long v)]) hx hb dJ7_fill_d0a16_1 rfl hl (by decide) rfl (fun ls hl => ?_)
  refine lv_aload_n hx hb dJ7_fill_d0a16_2 rfl (lv_at hl 1 rfl) ?_
  refine va_alen (v := nI n) hx hb hK hP 0 1 rfl rfl rfl dJ7_fill_d0a16_3 ?_
  refine lv_istore (lv' := [(4, .int (nI n)), (3, .int (nI 0)), (0, .ref a), (1, .long v)]) hx hb dJ7_fill_d0a16_4 hl (by decide) rfl (fun ls hl => ?_)
  have L6 : ∀ (n9 : Nat) (k : Nat) (hk : k ≤ n), n - k < n9 → ∀ (H : Heap) (locs : List Loc), va_P D vwCl [(a, .inl (cJ, n, .inr (.inl (filJ f v k))))] H → va_D A [(a, .inl (cJ, n, .inr (.inl (filJ f v k))))] → va_S A s.heap H locs → ∀ (ls : Array Slot), lv_has ls 5 [(0, .ref a), (1, .long v), (3, .int (nI k)), (4, .int (nI n))] → W p l e rm_J7_fill_d0a16 s m args below meth c H locs 0 0 Q (F0 m 6 ls []) := by
    intro n9
    induction n9 with
    | zero => intro k hk hm; exact absurd hm (Nat.not_lt_zero _)
    | succ n9 ih6 =>
      intro k hk hm6 H locs hP hD hS ls hl
      refine lv_iload_n hx hb dJ7_fill_d0a16_6 rfl (lv_at hl 2 rfl) ?_
      refine lv_iload hx hb dJ7_fill_d0a16_7 (lv_at hl 3 rfl) ?_
      refine icmp_ge_n (a := k) (b := n) (tgt := 22) hx hb dJ7_fill_d0a16_9 (by decide) (by omega) (by omega) (fun c9 => ?_) (fun c9 => ?_)
      · have e9 : k = n := by omega
        subst e9
        exact hret (()) _ _ _ _ dJ7_fill_d0a16_22 trivial hP hD hS
      · refine lv_aload_n hx hb dJ7_fill_d0a16_12 rfl (lv_at hl 0 rfl) ?_
        refine lv_iload_n hx hb dJ7_fill_d0a16_13 rfl (lv_at hl 2 rfl) ?_
        refine lv_lload_n hx hb dJ7_fill_d0a16_14 rfl (lv_at hl 1 rfl) ?_
        refine last_n (k := k) hx hb hK hP hD hS 0 1 rfl rfl (by omega) (by omega) dJ7_fill_d0a16_15 (fun H locs hP hD hS => ?_)
        have hP : va_P D vwCl [(a, .inl (cJ, n, .inr (.inl (vp_updL (filJ f v k) k v))))] H := hP
        have hD : va_D A [(a, .inl (cJ, n, .inr (.inl (vp_updL (filJ f v k) k v))))] := hD
        refine lv_iinc (v := nI (k + 1)) (lv' := [(3, .int (nI (k + 1))), (0, .ref a), (1, .long v), (4, .int (nI n))]) hx hb dJ7_fill_d0a16_16 hl (k := 2) rfl (nI_1 k) (by decide) rfl (fun ls hl => ?_)
        refine lv_goto (tgt := 6) hx hb dJ7_fill_d0a16_19 (by decide) ?_
        exact ih6 (k + 1) ((by omega)) (by omega) _ _ hP hD hS _ (lv_sub hl [1, 2, 0, 3] rfl)
  exact L6 _ 0 ((Nat.zero_le _)) (Nat.lt_succ_self _) _ _ hP hD hS _ (lv_sub hl [2, 3, 1, 0] rfl)

abbrev rm_X7_within : Room := { frames := 0, cells := 0, slots := 0, locals := 0 }
set_option maxHeartbeats 4000000 in
set_option maxRecDepth 100000 in
theorem c_within (l : Launch) (D : va_G) (cI cJ cZ cG cM : ClassId) (v a b : Int32) :
    CI l yX7_within wsX7_within rm_X7_within D [(cI, .int), (cJ, .long), (cZ, .boolean), (cG, .object "LatestSets$Guild"), (cM, .array .int)] [] [.int v, .int a, .int b] (S := Unit) (fun r u => bz (a ≤ v ∧ v ≤ b) r) (fun u => []) := by
  refine sz_of (cc := cX7_within) (maxL := 3) (by decide) rfl (Nat.le_of_ble_eq_true rfl) ?_
  intro p e s m args below meth c A ls Q E hret
  obtain ⟨hx, hb, -, hml, hown, hts, -, hin, hA, hK, hP, hD, hS, hl, hN⟩ := E
  have hown : s.vm.findClass RX7 = some m.cls := hown
  have hl : lv_has ls 3 [(0, .int v), (1, .int a), (2, .int b)] := hl
  have SF : CallFix p m c cX7_within 3 s args wsX7_within RX7 := ⟨hx, hb, hml, hown, hts⟩
  refine lv_iload_n hx hb dX7_within_0 rfl (lv_at hl 0 rfl) ?_
  refine lv_iload_n hx hb dX7_within_1 rfl (lv_at hl 1 rfl) ?_
  refine lv_icmp_lt (tgt := 14) hx hb dX7_within_2 (by decide) (fun c2 => ?_) (fun c2 => ?_)
  · refine lv_iconst (v := nI 0) hx hb dX7_within_14 (by decide) ?_
    exact hret (nI 0) (()) _ _ _ _ dX7_within_15 rfl (bz0 (fun z => i_ltnle c2 z.1)) hP hD hS
  · refine lv_iload_n hx hb dX7_within_5 rfl (lv_at hl 0 rfl) ?_
    refine lv_iload_n hx hb dX7_within_6 rfl (lv_at hl 2 rfl) ?_
    refine lv_icmp_gt (tgt := 14) hx hb dX7_within_7 (by decide) (fun c7 => ?_) (fun c7 => ?_)
    · refine lv_iconst (v := nI 0) hx hb dX7_within_14 (by decide) ?_
      exact hret (nI 0) (()) _ _ _ _ dX7_within_15 rfl (bz0 (fun z => i_ltnle c7 z.2)) hP hD hS
    · refine lv_iconst (v := nI 1) hx hb dX7_within_10 (by decide) ?_
      refine lv_goto (tgt := 15) hx hb dX7_within_11 (by decide) ?_
      exact hret (nI 1) (()) _ _ _ _ dX7_within_15 rfl (bz1 ⟨i_nlt c2, i_nlt c7⟩) hP hD hS

abbrev rm_X7_isHour : Room := { frames := 0, cells := 0, slots := 0, locals := 0 }
set_option maxHeartbeats 4000000 in
set_option maxRecDepth 100000 in
theorem c_isHour (l : Launch) (D : va_G) (cI cJ cZ cG cM : ClassId) (v : Int32) :
    CI l yX7_isHour wsX7_isHour rm_X7_isHour D [(cI, .int), (cJ, .long), (cZ, .boolean), (cG, .object "LatestSets$Guild"), (cM, .array .int)] [] [.int v] (S := Unit) (fun r u => bz (nI 0 ≤ v ∧ v ≤ nI 23) r) (fun u => []) := by
  refine sz_of (cc := cX7_isHour) (maxL := 1) (by decide) rfl (Nat.le_of_ble_eq_true rfl) ?_
  intro p e s m args below meth c A ls Q E hret
  obtain ⟨hx, hb, -, hml, hown, hts, -, hin, hA, hK, hP, hD, hS, hl, hN⟩ := E
  have hown : s.vm.findClass RX7 = some m.cls := hown
  have hl : lv_has ls 1 [(0, .int v)] := hl
  have SF : CallFix p m c cX7_isHour 1 s args wsX7_isHour RX7 := ⟨hx, hb, hml, hown, hts⟩
  refine lv_iload_n hx hb dX7_isHour_0 rfl (lv_at hl 0 rfl) ?_
  refine lv_if_lt (tgt := 14) hx hb dX7_isHour_1 (by decide) (fun c1 => ?_) (fun c1 => ?_)
  · refine lv_iconst (v := nI 0) hx hb dX7_isHour_14 (by decide) ?_
    exact hret (nI 0) (()) _ _ _ _ dX7_isHour_15 rfl (bz0 (fun z => i_ltnle c1 z.1)) hP hD hS
  · refine lv_iload_n hx hb dX7_isHour_4 rfl (lv_at hl 0 rfl) ?_
    refine lv_bipush (v := nI 23) hx hb dX7_isHour_5 (by decide) ?_
    refine lv_icmp_gt (tgt := 14) hx hb dX7_isHour_7 (by decide) (fun c7 => ?_) (fun c7 => ?_)
    · refine lv_iconst (v := nI 0) hx hb dX7_isHour_14 (by decide) ?_
      exact hret (nI 0) (()) _ _ _ _ dX7_isHour_15 rfl (bz0 (fun z => i_ltnle c7 z.2)) hP hD hS
    · refine lv_iconst (v := nI 1) hx hb dX7_isHour_10 (by decide) ?_
      refine lv_goto (tgt := 15) hx hb dX7_isHour_11 (by decide) ?_
      exact hret (nI 1) (()) _ _ _ _ dX7_isHour_15 rfl (bz1 ⟨i_nlt c1, i_nlt c7⟩) hP hD hS

abbrev rm_X7_comingAt : Room := { frames := 1, cells := 0, slots := 0, locals := 21 }
set_option maxHeartbeats 4000000 in
set_option maxRecDepth 100000 in
theorem c_comingAt (l : Launch) (D : va_G) (cI cJ cZ cG cM : ClassId) (h ea la : Int32) :
    CI l yX7_comingAt wsX7_comingAt rm_X7_comingAt D [(cI, .int), (cJ, .long), (cZ, .boolean), (cG, .object "LatestSets$Guild"), (cM, .array .int)] [] [.int h, .int ea, .int la] (S := Unit) (fun r u => r = cmA h ea la) (fun u => []) := by
  refine si_of (cc := cX7_comingAt) (maxL := 3) (by decide) rfl (Nat.le_of_ble_eq_true rfl) ?_
  intro p e s m args below meth c A ls Q E hret
  obtain ⟨hx, hb, -, hml, hown, hts, -, hin, hA, hK, hP, hD, hS, hl, hN⟩ := E
  have hown : s.vm.findClass RX7 = some m.cls := hown
  have hl : lv_has ls 3 [(0, .int h), (1, .int ea), (2, .int la)] := hl
  have SF : CallFix p m c cX7_comingAt 3 s args wsX7_comingAt RX7 := ⟨hx, hb, hml, hown, hts⟩
  have hw0 := hts (.methodLink RX7 213 Lib.Math.max.name) (by decide +kernel)
  have hw1 := hts (.static Lib.Math.max.name) (by decide +kernel)
  have hw2 := hts (.initialized "java/lang/Math") (by decide +kernel)
  have hw3 := hts (.code Lib.Math.max.name Lib.Math.max.code 2 (some .int)) (by decide +kernel)
  have hw4 := hts (.methodLink RX7 218 Lib.Math.min.name) (by decide +kernel)
  have hw5 := hts (.static Lib.Math.min.name) (by decide +kernel)
  have hw6 := hts (.code Lib.Math.min.name Lib.Math.min.code 2 (some .int)) (by decide +kernel)
  refine lv_bipush (v := nI 23) hx hb dX7_comingAt_0 (by decide) ?_
  refine lv_iload_n hx hb dX7_comingAt_2 rfl (lv_at hl 0 rfl) ?_
  refine lv_iload_n hx hb dX7_comingAt_3 rfl (lv_at hl 1 rfl) ?_
  refine va_mmax hx hb (by rw [hml]; exact hl.1.symm) hown hw0 hw1 hw2 hw3 (Nat.le_of_ble_eq_true rfl) (Nat.le_of_ble_eq_true rfl) (Nat.zero_le _) (Nat.zero_le _) dX7_comingAt_4 ?_
  refine lv_iload_n hx hb dX7_comingAt_7 rfl (lv_at hl 2 rfl) ?_
  refine lv_iadd hx hb dX7_comingAt_8 ?_
  refine va_mmin hx hb (by rw [hml]; exact hl.1.symm) hown hw4 hw5 hw2 hw6 (Nat.le_of_ble_eq_true rfl) (Nat.le_of_ble_eq_true rfl) (Nat.zero_le _) (Nat.zero_le _) dX7_comingAt_9 ?_
  exact hret (mnI (nI 23) ((mxI h ea) + la)) (()) _ _ _ _ dX7_comingAt_12 rfl hP hD hS

abbrev rm_X4_take : Room := { frames := 1, cells := 0, slots := 0, locals := 26 }
set_option maxHeartbeats 4000000 in
set_option maxRecDepth 100000 in
theorem c_take (l : Launch) (D : va_G) (cI cJ cZ cG cM : ClassId) (w sg a : Nat) (f g : Nat → Int32) (na k : Nat) (le : Int32) (h1 : k ≤ na) (h2 : na < 1000000) (h3 : k ≤ 20) :
    CV l yX4_take wsX4_take rm_X4_take D [(cI, .int), (cJ, .long), (cZ, .boolean), (cG, .object "LatestSets$Guild"), (cM, .array .int)] [(w, .inr (4, [.ref sg, .int le])), (sg, .inl (cI, 20, .inl f)), (a, .inl (cI, na, .inl g))] [.ref w, .ref a, .int (nI k)] (S := Unit) (fun u => True) (fun u => [(w, .inr (4, [.ref sg, .int (nI k)])), (sg, .inl (cI, 20, .inl (va_cpy g f 0 0 k))), (a, .inl (cI, na, .inl g))]) := by
  refine sv_of (cc := cX4_take) (maxL := 3) (by decide) rfl (Nat.le_of_ble_eq_true rfl) ?_
  intro p e s m args below meth c A ls Q E hret
  obtain ⟨hx, hb, -, hml, hown, hts, -, hin, hA, hK, hP, hD, hS, hl, hN⟩ := E
  have hown : s.vm.findClass RX4 = some m.cls := hown
  have hl : lv_has ls 3 [(0, .ref w), (1, .ref a), (2, .int (nI k))] := hl
  have SF : CallFix p m c cX4_take 3 s args wsX4_take RX4 := ⟨hx, hb, hml, hown, hts⟩
  have hw0 := hts (.methodLink RX4 19 Lib.Math.min.name) (by decide +kernel)
  have hw1 := hts (.static Lib.Math.min.name) (by decide +kernel)
  have hw2 := hts (.initialized "java/lang/Math") (by decide +kernel)
  have hw3 := hts (.code Lib.Math.min.name Lib.Math.min.code 2 (some .int)) (by decide +kernel)
  have hw4 := hts (.fieldLink RX4 15 "LatestSets$Law" "length" "I") (by decide +kernel)
  have hi4 : ∀ x ∈ wsX40, x ∈ wsX4_take := by decide +kernel
  have hw6 := hts (.fieldLink RX4 9 "LatestSets$Law" "signs" "[I") (by decide +kernel)
  have hw7 := hts (.methodLink RX4 25 arraycopyName) (by decide +kernel)
  have hw8 := hts (.native arraycopyName) (by decide +kernel)
  have hw9 := hts (.static arraycopyName) (by decide +kernel)
  have hw10 := hts (.initialized "java/lang/System") (by decide +kernel)
  refine lv_aload_n hx hb dX4_take_0 rfl (lv_at hl 0 rfl) ?_
  refine lv_iload_n hx hb dX4_take_1 rfl (lv_at hl 2 rfl) ?_
  refine lv_bipush (v := nI 20) hx hb dX4_take_2 (by decide) ?_
  refine va_mmin hx hb (by rw [hml]; exact hl.1.symm) hown hw0 hw1 hw2 hw3 (Nat.le_of_ble_eq_true rfl) (Nat.le_of_ble_eq_true rfl) (Nat.zero_le _) (Nat.zero_le _) dX4_take_4 ?_
  refine lv_topi (fun y9 e9 => ?_)
  have e9 : y9 = nI k := e9.trans (mnI_l h3 (by omega))
  subst e9
  refine va_put (D := D) (ci := 4) (v := .int (nI k)) (ty := .int) (C := RX4) (T := TX4) (N := 2) hx hb hts hi4 tyX4 tyX4_ok nmX4 hown hK hP hD hS 0 rfl rfl 1 (by decide) hw4 (fun _ h9 => h9) rfl (by decide +kernel) rfl rfl (Nat.le_of_ble_eq_true rfl) dX4_take_7 (fun H locs hP hD hS => ?_)
  have hP : va_P D vwCl [(w, .inr (4, [.ref sg, .int (nI k)])), (sg, .inl (cI, 20, .inl f)), (a, .inl (cI, na, .inl g))] H := hP
  have hD : va_D A [(w, .inr (4, [.ref sg, .int (nI k)])), (sg, .inl (cI, 20, .inl f)), (a, .inl (cI, na, .inl g))] := hD
  refine lv_aload_n hx hb dX4_take_10 rfl (lv_at hl 1 rfl) ?_
  refine lv_iconst (v := nI 0) hx hb dX4_take_11 (by decide) ?_
  refine lv_aload_n hx hb dX4_take_12 rfl (lv_at hl 0 rfl) ?_
  refine va_get (D := D) (ci := 4) (v := .ref sg) (C := RX4) (T := TX4) (N := 2) hx hb hts hi4 hown hK hP 0 rfl rfl 0 (by decide) hw6 (fun _ h9 => h9) rfl dX4_take_13 ?_
  refine lv_iconst (v := nI 0) hx hb dX4_take_16 (by decide) ?_
  refine lv_aload_n hx hb dX4_take_17 rfl (lv_at hl 0 rfl) ?_
  refine va_get (D := D) (ci := 4) (v := .int (nI k)) (C := RX4) (T := TX4) (N := 2) hx hb hts hi4 hown hK hP 0 rfl rfl 1 (by decide) hw4 (fun _ h9 => h9) rfl dX4_take_18 ?_
  refine copy_n (sp := 0) (dp := 0) (n := k) hx hb (by rw [hml]; exact hl.1.symm) hown hw7 hw8 hw9 hw10 hK hP hD hS 2 1 0 rfl rfl rfl (by omega) (by omega) (by omega) (by omega) (by omega) (Nat.le_of_ble_eq_true rfl) (Nat.le_of_ble_eq_true rfl) dX4_take_21 (fun H locs hP hD hS => ?_)
  have hP : va_P D vwCl [(w, .inr (4, [.ref sg, .int (nI k)])), (sg, .inl (cI, 20, .inl (va_cpy g f 0 0 k))), (a, .inl (cI, na, .inl g))] H := hP
  have hD : va_D A [(w, .inr (4, [.ref sg, .int (nI k)])), (sg, .inl (cI, 20, .inl (va_cpy g f 0 0 k))), (a, .inl (cI, na, .inl g))] := hD
  exact hret (()) _ _ _ _ dX4_take_24 trivial hP hD hS

abbrev rm_X4_signOf : Room := { frames := 0, cells := 0, slots := 0, locals := 0 }
set_option maxHeartbeats 4000000 in
set_option maxRecDepth 100000 in
theorem c_signOf (l : Launch) (D : va_G) (cI cJ cZ cG cM : ClassId) (k : Nat) (hk : k < 4) :
    CI l yX4_signOf wsX4_signOf rm_X4_signOf D [(cI, .int), (cJ, .long), (cZ, .boolean), (cG, .object "LatestSets$Guild"), (cM, .array .int)] [] [.int (nI k)] (S := Unit) (fun r u => r = nI (sgN k)) (fun u => []) := by
  refine si_of (cc := cX4_signOf) (maxL := 1) (by decide) rfl (Nat.le_of_ble_eq_true rfl) ?_
  intro p e s m args below meth c A ls Q E hret
  obtain ⟨hx, hb, -, hml, hown, hts, -, hin, hA, hK, hP, hD, hS, hl, hN⟩ := E
  have hown : s.vm.findClass RX4 = some m.cls := hown
  have hl : lv_has ls 1 [(0, .int (nI k))] := hl
  have SF : CallFix p m c cX4_signOf 1 s args wsX4_signOf RX4 := ⟨hx, hb, hml, hown, hts⟩
  rcases (show k = 0 ∨ k = 1 ∨ k = 2 ∨ k = 3 by omega) with rfl | rfl | rfl | rfl
  · refine lv_iload_n hx hb dX4_signOf_0 rfl (lv_at hl 0 rfl) ?_
    refine lv_tableIn (off := 27) (tgt := 28) hx hb dX4_signOf_1 (by decide) (by decide) (by decide +kernel) (by decide) ?_
    refine lv_bipush (v := nI 108) hx hb dX4_signOf_28 (by decide) ?_
    exact hret (nI 108) (()) _ _ _ _ dX4_signOf_30 rfl hP hD hS
  · refine lv_iload_n hx hb dX4_signOf_0 rfl (lv_at hl 0 rfl) ?_
    refine lv_tableIn (off := 30) (tgt := 31) hx hb dX4_signOf_1 (by decide) (by decide) (by decide +kernel) (by decide) ?_
    refine lv_bipush (v := nI 109) hx hb dX4_signOf_31 (by decide) ?_
    exact hret (nI 109) (()) _ _ _ _ dX4_signOf_33 rfl hP hD hS
  · refine lv_iload_n hx hb dX4_signOf_0 rfl (lv_at hl 0 rfl) ?_
    refine lv_tableIn (off := 33) (tgt := 34) hx hb dX4_signOf_1 (by decide) (by decide) (by decide +kernel) (by decide) ?_
    refine lv_bipush (v := nI 112) hx hb dX4_signOf_34 (by decide) ?_
    exact hret (nI 112) (()) _ _ _ _ dX4_signOf_36 rfl hP hD hS
  · refine lv_iload_n hx hb dX4_signOf_0 rfl (lv_at hl 0 rfl) ?_
    refine lv_tableOut (tgt := 37) hx hb dX4_signOf_1 (by decide) (by decide) ?_
    refine lv_bipush (v := nI 102) hx hb dX4_signOf_37 (by decide) ?_
    exact hret (nI 102) (()) _ _ _ _ dX4_signOf_39 rfl hP hD hS

abbrev rm_X4_takeNumber : Room := { frames := 1, cells := 0, slots := 0, locals := 20 }
set_option maxHeartbeats 4000000 in
set_option maxRecDepth 100000 in
theorem c_takeNumber (l : Launch) (D : va_G) (cI cJ cZ cG cM : ClassId) (w sg : Nat) (f : Nat → Int32) (q : Nat) (le : Int32) (hq : q < 24) :
    CV l yX4_takeNumber wsX4_takeNumber rm_X4_takeNumber D [(cI, .int), (cJ, .long), (cZ, .boolean), (cG, .object "LatestSets$Guild"), (cM, .array .int)] [(w, .inr (4, [.ref sg, .int le])), (sg, .inl (cI, 20, .inl f))] [.ref w, .int (nI q)] (S := Unit) (fun u => True) (fun u => [(w, .inr (4, [.ref sg, .int (nI 3)])), (sg, .inl (cI, 20, .inl (upd (upd (upd f 0 (nI 45)) 1 (nI (48 + q % 6))) 2 (nI (sgN (q / 6))))))]) := by
  refine sv_of (cc := cX4_takeNumber) (maxL := 2) (by decide) rfl (Nat.le_of_ble_eq_true rfl) ?_
  intro p e s m args below meth c A ls Q E hret
  obtain ⟨hx, hb, -, hml, hown, hts, -, hin, hA, hK, hP, hD, hS, hl, hN⟩ := E
  have hown : s.vm.findClass RX4 = some m.cls := hown
  have hl : lv_has ls 2 [(0, .ref w), (1, .int (nI q))] := hl
  have SF : CallFix p m c cX4_takeNumber 2 s args wsX4_takeNumber RX4 := ⟨hx, hb, hml, hown, hts⟩
  have hw0 := hts (.fieldLink RX4 9 "LatestSets$Law" "signs" "[I") (by decide +kernel)
  have hi4 : ∀ x ∈ wsX40, x ∈ wsX4_takeNumber := by decide +kernel
  have hw2 := hts (.fieldLink RX4 15 "LatestSets$Law" "length" "I") (by decide +kernel)
  refine lv_aload_n hx hb dX4_takeNumber_0 rfl (lv_at hl 0 rfl) ?_
  refine va_get (D := D) (ci := 4) (v := .ref sg) (C := RX4) (T := TX4) (N := 2) hx hb hts hi4 hown hK hP 0 rfl rfl 0 (by decide) hw0 (fun _ h9 => h9) rfl dX4_takeNumber_1 ?_
  refine lv_iconst (v := nI 0) hx hb dX4_takeNumber_4 (by decide) ?_
  refine lv_bipush (v := nI 45) hx hb dX4_takeNumber_5 (by decide) ?_
  refine iast_n (k := 0) hx hb hK hP hD hS 1 0 rfl rfl (by omega) (by omega) dX4_takeNumber_7 (fun H locs hP hD hS => ?_)
  have hP : va_P D vwCl [(w, .inr (4, [.ref sg, .int le])), (sg, .inl (cI, 20, .inl (upd f 0 (nI 45))))] H := hP
  have hD : va_D A [(w, .inr (4, [.ref sg, .int le])), (sg, .inl (cI, 20, .inl (upd f 0 (nI 45))))] := hD
  refine lv_aload_n hx hb dX4_takeNumber_8 rfl (lv_at hl 0 rfl) ?_
  refine va_get (D := D) (ci := 4) (v := .ref sg) (C := RX4) (T := TX4) (N := 2) hx hb hts hi4 hown hK hP 0 rfl rfl 0 (by decide) hw0 (fun _ h9 => h9) rfl dX4_takeNumber_9 ?_
  refine lv_iconst (v := nI 1) hx hb dX4_takeNumber_12 (by decide) ?_
  refine lv_bipush (v := nI 48) hx hb dX4_takeNumber_13 (by decide) ?_
  refine lv_iload_n hx hb dX4_takeNumber_15 rfl (lv_at hl 1 rfl) ?_
  refine lv_bipush (v := nI 6) hx hb dX4_takeNumber_16 (by decide) ?_
  refine irem_n (a := q) (b := 6) hx hb dX4_takeNumber_18 (by omega) (by omega) (by omega) ?_
  refine iadd_n (a := 48) (b := q % 6) hx hb dX4_takeNumber_19 ?_
  refine iast_n (k := 1) hx hb hK hP hD hS 1 0 rfl rfl (by omega) (by omega) dX4_takeNumber_20 (fun H locs hP hD hS => ?_)
  have hP : va_P D vwCl [(w, .inr (4, [.ref sg, .int le])), (sg, .inl (cI, 20, .inl (upd (upd f 0 (nI 45)) 1 (nI (48 + (q % 6))))))] H := hP
  have hD : va_D A [(w, .inr (4, [.ref sg, .int le])), (sg, .inl (cI, 20, .inl (upd (upd f 0 (nI 45)) 1 (nI (48 + (q % 6))))))] := hD
  refine lv_aload_n hx hb dX4_takeNumber_21 rfl (lv_at hl 0 rfl) ?_
  refine va_get (D := D) (ci := 4) (v := .ref sg) (C := RX4) (T := TX4) (N := 2) hx hb hts hi4 hown hK hP 0 rfl rfl 0 (by decide) hw0 (fun _ h9 => h9) rfl dX4_takeNumber_22 ?_
  refine lv_iconst (v := nI 2) hx hb dX4_takeNumber_25 (by decide) ?_
  refine lv_iload_n hx hb dX4_takeNumber_26 rfl (lv_at hl 1 rfl) ?_
  refine lv_bipush (v := nI 6) hx hb dX4_takeNumber_27 (by decide) ?_
  refine idiv_n (a := q) (b := 6) hx hb dX4_takeNumber_29 (by omega) (by omega) (by omega) ?_
  refine cal_i (run_S (As := [.int (nI (q / 6))]) (rest := [.int (nI 2), .ref sg]) SF (c_signOf l D cI cJ cZ cG cM (q / 6) (by omega)) (va_cwS 1 hts gX4_takeNumber_X4_signOf rfl rfl rfl (by decide +kernel) ⟨Nat.le_of_ble_eq_true rfl, Nat.le_of_ble_eq_true rfl⟩) hN hK hP hD [] rfl (by decide) rfl hl.1 rfl (Nat.le_of_ble_eq_true rfl) dX4_takeNumber_30 ⟨Nat.le_of_ble_eq_true rfl, Nat.le_of_ble_eq_true rfl⟩) ⟨rfl, rfl⟩ hP hD hS hA [] rfl (fun _ => rfl) (fun r30 _ H locs hw hP hD hS => ?_)
  have hP : va_P D vwCl [(w, .inr (4, [.ref sg, .int le])), (sg, .inl (cI, 20, .inl (upd (upd f 0 (nI 45)) 1 (nI (48 + (q % 6))))))] H := hP
  have hD : va_D A [(w, .inr (4, [.ref sg, .int le])), (sg, .inl (cI, 20, .inl (upd (upd f 0 (nI 45)) 1 (nI (48 + (q % 6))))))] := hD
  subst hw
  refine iast_n (k := 2) hx hb hK hP hD hS 1 0 rfl rfl (by omega) (by omega) dX4_takeNumber_33 (fun H locs hP hD hS => ?_)
  have hP : va_P D vwCl [(w, .inr (4, [.ref sg, .int le])), (sg, .inl (cI, 20, .inl (upd (upd (upd f 0 (nI 45)) 1 (nI (48 + (q % 6)))) 2 (nI (sgN (q / 6))))))] H := hP
  have hD : va_D A [(w, .inr (4, [.ref sg, .int le])), (sg, .inl (cI, 20, .inl (upd (upd (upd f 0 (nI 45)) 1 (nI (48 + (q % 6)))) 2 (nI (sgN (q / 6))))))] := hD
  refine lv_aload_n hx hb dX4_takeNumber_34 rfl (lv_at hl 0 rfl) ?_
  refine lv_iconst (v := nI 3) hx hb dX4_takeNumber_35 (by decide) ?_
  refine va_put (D := D) (ci := 4) (v := .int (nI 3)) (ty := .int) (C := RX4) (T := TX4) (N := 2) hx hb hts hi4 tyX4 tyX4_ok nmX4 hown hK hP hD hS 0 rfl rfl 1 (by decide) hw2 (fun _ h9 => h9) rfl (by decide +kernel) rfl rfl (Nat.le_of_ble_eq_true rfl) dX4_takeNumber_36 (fun H locs hP hD hS => ?_)
  have hP : va_P D vwCl [(w, .inr (4, [.ref sg, .int (nI 3)])), (sg, .inl (cI, 20, .inl (upd (upd (upd f 0 (nI 45)) 1 (nI (48 + (q % 6)))) 2 (nI (sgN (q / 6))))))] H := hP
  have hD : va_D A [(w, .inr (4, [.ref sg, .int (nI 3)])), (sg, .inl (cI, 20, .inl (upd (upd (upd f 0 (nI 45)) 1 (nI (48 + (q % 6)))) 2 (nI (sgN (q / 6))))))] := hD
  exact hret (()) _ _ _ _ dX4_takeNumber_39 trivial hP hD hS

abbrev rm_X5_write : Room := { frames := 0, cells := 0, slots := 0, locals := 0 }
set_option maxHeartbeats 4000000 in
set_option maxRecDepth 100000 in
theorem c_write (l : Launch) (D : va_G) (cI cJ cZ cG cM : ClassId) (p9 ps : Nat) (f : Nat → Int32) (k : Nat) (x : Int32) (hk : k < 48) :
    CI l yX5_write wsX5_write rm_X5_write D [(cI, .int), (cJ, .long), (cZ, .boolean), (cG, .object "LatestSets$Guild"), (cM, .array .int)] [(p9, .inr (5, [.ref ps, .int (nI k)])), (ps, .inl (cI, 48, .inl f))] [.ref p9, .int x] (S := Unit) (fun r u => r = nI (k + 1)) (fun u => [(p9, .inr (5, [.ref ps, .int (nI (k + 1))])), (ps, .inl (cI, 48, .inl (upd f k x)))]) := by
  refine si_of (cc := cX5_write) (maxL := 2) (by decide) rfl (Nat.le_of_ble_eq_true rfl) ?_
  intro p e s m args below meth c A ls Q E hret
  obtain ⟨hx, hb, -, hml, hown, hts, -, hin, hA, hK, hP, hD, hS, hl, hN⟩ := E
  have hown : s.vm.findClass RX5 = some m.cls := hown
  have hl : lv_has ls 2 [(0, .ref p9), (1, .int x)] := hl
  have SF : CallFix p m c cX5_write 2 s args wsX5_write RX5 := ⟨hx, hb, hml, hown, hts⟩
  have hw0 := hts (.fieldLink RX5 15 "LatestSets$Pad" "count" "I") (by decide +kernel)
  have hi5 : ∀ x ∈ wsX50, x ∈ wsX5_write := by decide +kernel
  have hw2 := hts (.fieldLink RX5 9 "LatestSets$Pad" "signs" "[I") (by decide +kernel)
  refine lv_aload_n hx hb dX5_write_0 rfl (lv_at hl 0 rfl) ?_
  refine va_get (D := D) (ci := 5) (v := .int (nI k)) (C := RX5) (T := TX5) (N := 2) hx hb hts hi5 hown hK hP 0 rfl rfl 1 (by decide) hw0 (fun _ h9 => h9) rfl dX5_write_1 ?_
  refine lv_bipush (v := nI 48) hx hb dX5_write_4 (by decide) ?_
  refine icmp_ge_n (a := k) (b := 48) (tgt := 29) hx hb dX5_write_6 (by decide) (by omega) (by omega) (fun c6 => ?_) (fun c6 => ?_)
  · exact absurd c6 (by omega)
  · refine lv_aload_n hx hb dX5_write_9 rfl (lv_at hl 0 rfl) ?_
    refine va_get (D := D) (ci := 5) (v := .ref ps) (C := RX5) (T := TX5) (N := 2) hx hb hts hi5 hown hK hP 0 rfl rfl 0 (by decide) hw2 (fun _ h9 => h9) rfl dX5_write_10 ?_
    refine lv_aload_n hx hb dX5_write_13 rfl (lv_at hl 0 rfl) ?_
    refine va_get (D := D) (ci := 5) (v := .int (nI k)) (C := RX5) (T := TX5) (N := 2) hx hb hts hi5 hown hK hP 0 rfl rfl 1 (by decide) hw0 (fun _ h9 => h9) rfl dX5_write_14 ?_
    refine lv_iload_n hx hb dX5_write_17 rfl (lv_at hl 1 rfl) ?_
    refine iast_n (k := k) hx hb hK hP hD hS 1 0 rfl rfl (by omega) (by omega) dX5_write_18 (fun H locs hP hD hS => ?_)
    have hP : va_P D vwCl [(p9, .inr (5, [.ref ps, .int (nI k)])), (ps, .inl (cI, 48, .inl (upd f k x)))] H := hP
    have hD : va_D A [(p9, .inr (5, [.ref ps, .int (nI k)])), (ps, .inl (cI, 48, .inl (upd f k x)))] := hD
    refine lv_aload_n hx hb dX5_write_19 rfl (lv_at hl 0 rfl) ?_
    refine lv_dup hx hb dX5_write_20 rfl ?_
    refine va_get (D := D) (ci := 5) (v := .int (nI k)) (C := RX5) (T := TX5) (N := 2) hx hb hts hi5 hown hK hP 0 rfl rfl 1 (by decide) hw0 (fun _ h9 => h9) rfl dX5_write_21 ?_
    refine lv_iconst (v := nI 1) hx hb dX5_write_24 (by decide) ?_
    refine iadd_n (a := k) (b := 1) hx hb dX5_write_25 ?_
    refine va_put (D := D) (ci := 5) (v := .int (nI (k + 1))) (ty := .int) (C := RX5) (T := TX5) (N := 2) hx hb hts hi5 tyX5 tyX5_ok nmX5 hown hK hP hD hS 0 rfl rfl 1 (by decide) hw0 (fun _ h9 => h9) rfl (by decide +kernel) rfl rfl (Nat.le_of_ble_eq_true rfl) dX5_write_26 (fun H locs hP hD hS => ?_)
    have hP : va_P D vwCl [(p9, .inr (5, [.ref ps, .int (nI (k + 1))])), (ps, .inl (cI, 48, .inl (upd f k x)))] H := hP
    have hD : va_D A [(p9, .inr (5, [.ref ps, .int (nI (k + 1))])), (ps, .inl (cI, 48, .inl (upd f k x)))] := hD
    refine lv_aload_n hx hb dX5_write_29 rfl (lv_at hl 0 rfl) ?_
    refine va_get (D := D) (ci := 5) (v := .int (nI (k + 1))) (C := RX5) (T := TX5) (N := 2) hx hb hts hi5 hown hK hP 0 rfl rfl 1 (by decide) hw0 (fun _ h9 => h9) rfl dX5_write_30 ?_
    exact hret (nI (k + 1)) (()) _ _ _ _ dX5_write_33 rfl hP hD hS

abbrev rm_X5_partsOf : Room := { frames := 0, cells := 0, slots := 0, locals := 0 }
set_option maxHeartbeats 4000000 in
set_option maxRecDepth 100000 in
theorem c_partsOf (l : Launch) (D : va_G) (cI cJ cZ cG cM : ClassId) (x : Int32) :
    CI l yX5_partsOf wsX5_partsOf rm_X5_partsOf D [(cI, .int), (cJ, .long), (cZ, .boolean), (cG, .object "LatestSets$Guild"), (cM, .array .int)] [] [.int x] (S := Unit) (fun r u => r = prt x) (fun u => []) := by
  refine si_of (cc := cX5_partsOf) (maxL := 1) (by decide) rfl (Nat.le_of_ble_eq_true rfl) ?_
  intro p e s m args below meth c A ls Q E hret
  obtain ⟨hx, hb, -, hml, hown, hts, -, hin, hA, hK, hP, hD, hS, hl, hN⟩ := E
  have hown : s.vm.findClass RX5 = some m.cls := hown
  have hl : lv_has ls 1 [(0, .int x)] := hl
  have SF : CallFix p m c cX5_partsOf 1 s args wsX5_partsOf RX5 := ⟨hx, hb, hml, hown, hts⟩
  refine lv_iload_n hx hb dX5_partsOf_0 rfl (lv_at hl 0 rfl) ?_
  by_cases e43 : x = nI 43
  · refine lv_lookup (off := 101) (tgt := 102) hx hb dX5_partsOf_1 (by decide +kernel) (by rw [e43]; decide +kernel) (by decide) ?_
    refine lv_iconst (v := nI 1) hx hb dX5_partsOf_102 (by decide) ?_
    exact hret (nI 1) (()) _ _ _ _ dX5_partsOf_103 (by rw [e43]; decide) hP hD hS
  · skip
    by_cases e45 : x = nI 45
    · refine lv_lookup (off := 101) (tgt := 102) hx hb dX5_partsOf_1 (by decide +kernel) (by rw [e45]; decide +kernel) (by decide) ?_
      refine lv_iconst (v := nI 1) hx hb dX5_partsOf_102 (by decide) ?_
      exact hret (nI 1) (()) _ _ _ _ dX5_partsOf_103 (by rw [e45]; decide) hP hD hS
    · skip
      by_cases e47 : x = nI 47
      · refine lv_lookup (off := 103) (tgt := 104) hx hb dX5_partsOf_1 (by decide +kernel) (by rw [e47]; decide +kernel) (by decide) ?_
        refine lv_iconst (v := nI 2) hx hb dX5_partsOf_104 (by decide) ?_
        exact hret (nI 2) (()) _ _ _ _ dX5_partsOf_105 (by rw [e47]; decide) hP hD hS
      · skip
        by_cases e60 : x = nI 60
        · refine lv_lookup (off := 103) (tgt := 104) hx hb dX5_partsOf_1 (by decide +kernel) (by rw [e60]; decide +kernel) (by decide) ?_
          refine lv_iconst (v := nI 2) hx hb dX5_partsOf_104 (by decide) ?_
          exact hret (nI 2) (()) _ _ _ _ dX5_partsOf_105 (by rw [e60]; decide) hP hD hS
        · skip
          by_cases e62 : x = nI 62
          · refine lv_lookup (off := 103) (tgt := 104) hx hb dX5_partsOf_1 (by decide +kernel) (by rw [e62]; decide +kernel) (by decide) ?_
            refine lv_iconst (v := nI 2) hx hb dX5_partsOf_104 (by decide) ?_
            exact hret (nI 2) (()) _ _ _ _ dX5_partsOf_105 (by rw [e62]; decide) hP hD hS
          · skip
            by_cases e102 : x = nI 102
            · refine lv_lookup (off := 99) (tgt := 100) hx hb dX5_partsOf_1 (by decide +kernel) (by rw [e102]; decide +kernel) (by decide) ?_
              refine lv_iconst (v := nI 0) hx hb dX5_partsOf_100 (by decide) ?_
              exact hret (nI 0) (()) _ _ _ _ dX5_partsOf_101 (by rw [e102]; decide) hP hD hS
            · skip
              by_cases e104 : x = nI 104
              · refine lv_lookup (off := 99) (tgt := 100) hx hb dX5_partsOf_1 (by decide +kernel) (by rw [e104]; decide +kernel) (by decide) ?_
                refine lv_iconst (v := nI 0) hx hb dX5_partsOf_100 (by decide) ?_
                exact hret (nI 0) (()) _ _ _ _ dX5_partsOf_101 (by rw [e104]; decide) hP hD hS
              · skip
                by_cases e108 : x = nI 108
                · refine lv_lookup (off := 99) (tgt := 100) hx hb dX5_partsOf_1 (by decide +kernel) (by rw [e108]; decide +kernel) (by decide) ?_
                  refine lv_iconst (v := nI 0) hx hb dX5_partsOf_100 (by decide) ?_
                  exact hret (nI 0) (()) _ _ _ _ dX5_partsOf_101 (by rw [e108]; decide) hP hD hS
                · skip
                  by_cases e109 : x = nI 109
                  · refine lv_lookup (off := 99) (tgt := 100) hx hb dX5_partsOf_1 (by decide +kernel) (by rw [e109]; decide +kernel) (by decide) ?_
                    refine lv_iconst (v := nI 0) hx hb dX5_partsOf_100 (by decide) ?_
                    exact hret (nI 0) (()) _ _ _ _ dX5_partsOf_101 (by rw [e109]; decide) hP hD hS
                  · skip
                    by_cases e112 : x = nI 112
                    · refine lv_lookup (off := 99) (tgt := 100) hx hb dX5_partsOf_1 (by decide +kernel) (by rw [e112]; decide +kernel) (by decide) ?_
                      refine lv_iconst (v := nI 0) hx hb dX5_partsOf_100 (by decide) ?_
                      exact hret (nI 0) (()) _ _ _ _ dX5_partsOf_101 (by rw [e112]; decide) hP hD hS
                    · skip
                      by_cases e126 : x = nI 126
                      · refine lv_lookup (off := 101) (tgt := 102) hx hb dX5_partsOf_1 (by decide +kernel) (by rw [e126]; decide +kernel) (by decide) ?_
                        refine lv_iconst (v := nI 1) hx hb dX5_partsOf_102 (by decide) ?_
                        exact hret (nI 1) (()) _ _ _ _ dX5_partsOf_103 (by rw [e126]; decide) hP hD hS
                      · skip
                        refine lv_lookup (off := 105) (tgt := 106) hx hb dX5_partsOf_1 (by decide +kernel) (by show Op.lookupswitch.offset [(43, 101), (45, 101), (47, 103), (60, 103), (62, 103), (102, 99), (104, 99), (108, 99), (109, 99), (112, 99), (126, 101)] (105) _ = _; rw [Op.lookupswitch.offset_cons, if_neg (show ¬ ((43 : Int) = _) from ne_toI (c := 43) (by decide) e43), Op.lookupswitch.offset_cons, if_neg (show ¬ ((45 : Int) = _) from ne_toI (c := 45) (by decide) e45), Op.lookupswitch.offset_cons, if_neg (show ¬ ((47 : Int) = _) from ne_toI (c := 47) (by decide) e47), Op.lookupswitch.offset_cons, if_neg (show ¬ ((60 : Int) = _) from ne_toI (c := 60) (by decide) e60), Op.lookupswitch.offset_cons, if_neg (show ¬ ((62 : Int) = _) from ne_toI (c := 62) (by decide) e62), Op.lookupswitch.offset_cons, if_neg (show ¬ ((102 : Int) = _) from ne_toI (c := 102) (by decide) e102), Op.lookupswitch.offset_cons, if_neg (show ¬ ((104 : Int) = _) from ne_toI (c := 104) (by decide) e104), Op.lookupswitch.offset_cons, if_neg (show ¬ ((108 : Int) = _) from ne_toI (c := 108) (by decide) e108), Op.lookupswitch.offset_cons, if_neg (show ¬ ((109 : Int) = _) from ne_toI (c := 109) (by decide) e109), Op.lookupswitch.offset_cons, if_neg (show ¬ ((112 : Int) = _) from ne_toI (c := 112) (by decide) e112), Op.lookupswitch.offset_cons, if_neg (show ¬ ((126 : Int) = _) from ne_toI (c := 126) (by decide) e126), Op.lookupswitch.offset_nil]) (by decide) ?_
                        refine lv_iconst (v := (-1)) hx hb dX5_partsOf_106 (by decide) ?_
                        exact hret ((-1)) (()) _ _ _ _ dX5_partsOf_107 (by unfold prt; rw [if_neg (by rintro (h | h | h | h | h) <;> contradiction), if_neg (by rintro (h | h | h) <;> contradiction), if_neg (by rintro ((h | h) | h) <;> contradiction)]) hP hD hS

abbrev rm_X3_assemble : Room := { frames := 1, cells := 0, slots := 0, locals := 23 }
set_option maxHeartbeats 4000000 in
set_option maxRecDepth 100000 in
theorem c_assemble (l : Launch) (D : va_G) (cI cJ cZ cG cM : ClassId) (g ge gl gb gw gsw gsh : Nat) (si fi : Int32) (n : Nat) (k : Nat) (fe fl fb : Nat → Int32) :
    CV l yX3_assemble wsX3_assemble rm_X3_assemble D [(cI, .int), (cJ, .long), (cZ, .boolean), (cG, .object "LatestSets$Guild"), (cM, .array .int)] [(g, .inr (3, [.ref ge, .ref gl, .ref gb, .ref gw, .ref gsw, .ref gsh, .int si, .int (nI n), .int fi])), (ge, .inl (cI, 6, .inl fe)), (gl, .inl (cI, 6, .inl fl)), (gb, .inl (cI, 6, .inl fb))] [.ref g, .int (nI k)] (S := Unit) (fun u => True) (fun u => [(g, .inr (3, [.ref ge, .ref gl, .ref gb, .ref gw, .ref gsw, .ref gsh, .int (nI 0), .int (nI k), .int fi])), (ge, .inl (cI, 6, .inl (filI fe (nI 0) 6))), (gl, .inl (cI, 6, .inl (filI fl (nI 0) 6))), (gb, .inl (cI, 6, .inl (filI fb (nI 12) 6)))]) := by
  refine sv_of (cc := cX3_assemble) (maxL := 2) (by decide) rfl (Nat.le_of_ble_eq_true rfl) ?_
  intro p e s m args below meth c A ls Q E hret
  obtain ⟨hx, hb, -, hml, hown, hts, -, hin, hA, hK, hP, hD, hS, hl, hN⟩ := E
  have hown : s.vm.findClass RX3 = some m.cls := hown
  have hl : lv_has ls 2 [(0, .ref g), (1, .int (nI k))] := hl
  have SF : CallFix p m c cX3_assemble 2 s args wsX3_assemble RX3 := ⟨hx, hb, hml, hown, hts⟩
  have hw0 := hts (.fieldLink RX3 38 "LatestSets$Guild" "count" "I") (by decide +kernel)
  have hi3 : ∀ x ∈ wsX30, x ∈ wsX3_assemble := by decide +kernel
  have hw2 := hts (.fieldLink RX3 47 "LatestSets$Guild" "sights" "I") (by decide +kernel)
  have hw3 := hts (.fieldLink RX3 9 "LatestSets$Guild" "early" "[I") (by decide +kernel)
  have hw4 := hts (.fieldLink RX3 15 "LatestSets$Guild" "late" "[I") (by decide +kernel)
  have hw5 := hts (.fieldLink RX3 18 "LatestSets$Guild" "best" "[I") (by decide +kernel)
  refine lv_aload_n hx hb dX3_assemble_0 rfl (lv_at hl 0 rfl) ?_
  refine lv_iload_n hx hb dX3_assemble_1 rfl (lv_at hl 1 rfl) ?_
  refine va_put (D := D) (ci := 3) (v := .int (nI k)) (ty := .int) (C := RX3) (T := TX3) (N := 9) hx hb hts hi3 tyX3 tyX3_ok nmX3 hown hK hP hD hS 0 rfl rfl 7 (by decide) hw0 (fun _ h9 => h9) rfl (by decide +kernel) rfl rfl (Nat.le_of_ble_eq_true rfl) dX3_assemble_2 (fun H locs hP hD hS => ?_)
  have hP : va_P D vwCl [(g, .inr (3, [.ref ge, .ref gl, .ref gb, .ref gw, .ref gsw, .ref gsh, .int si, .int (nI k), .int fi])), (ge, .inl (cI, 6, .inl fe)), (gl, .inl (cI, 6, .inl fl)), (gb, .inl (cI, 6, .inl fb))] H := hP
  have hD : va_D A [(g, .inr (3, [.ref ge, .ref gl, .ref gb, .ref gw, .ref gsw, .ref gsh, .int si, .int (nI k), .int fi])), (ge, .inl (cI, 6, .inl fe)), (gl, .inl (cI, 6, .inl fl)), (gb, .inl (cI, 6, .inl fb))] := hD
  refine lv_aload_n hx hb dX3_assemble_5 rfl (lv_at hl 0 rfl) ?_
  refine lv_iconst (v := nI 0) hx hb dX3_assemble_6 (by decide) ?_
  refine va_put (D := D) (ci := 3) (v := .int (nI 0)) (ty := .int) (C := RX3) (T := TX3) (N := 9) hx hb hts hi3 tyX3 tyX3_ok nmX3 hown hK hP hD hS 0 rfl rfl 6 (by decide) hw2 (fun _ h9 => h9) rfl (by decide +kernel) rfl rfl (Nat.le_of_ble_eq_true rfl) dX3_assemble_7 (fun H locs hP hD hS => ?_)
  have hP : va_P D vwCl [(g, .inr (3, [.ref ge, .ref gl, .ref gb, .ref gw, .ref gsw, .ref gsh, .int (nI 0), .int (nI k), .int fi])), (ge, .inl (cI, 6, .inl fe)), (gl, .inl (cI, 6, .inl fl)), (gb, .inl (cI, 6, .inl fb))] H := hP
  have hD : va_D A [(g, .inr (3, [.ref ge, .ref gl, .ref gb, .ref gw, .ref gsw, .ref gsh, .int (nI 0), .int (nI k), .int fi])), (ge, .inl (cI, 6, .inl fe)), (gl, .inl (cI, 6, .inl fl)), (gb, .inl (cI, 6, .inl fb))] := hD
  refine lv_aload_n hx hb dX3_assemble_10 rfl (lv_at hl 0 rfl) ?_
  refine va_get (D := D) (ci := 3) (v := .ref ge) (C := RX3) (T := TX3) (N := 9) hx hb hts hi3 hown hK hP 0 rfl rfl 0 (by decide) hw3 (fun _ h9 => h9) rfl dX3_assemble_11 ?_
  refine lv_iconst (v := nI 0) hx hb dX3_assemble_14 (by decide) ?_
  refine cal_v (run_S (As := [.ref ge, .int (nI 0)]) (rest := []) SF (c_fillI l D cI cJ cZ cG cM ge 6 fe (nI 0) (by omega)) (va_cwS 2 hts gX3_assemble_J7_fill_53178 rfl rfl rfl (by decide +kernel) ⟨Nat.le_of_ble_eq_true rfl, Nat.le_of_ble_eq_true rfl⟩) hN hK hP hD [1] rfl (by decide) rfl hl.1 rfl (Nat.le_of_ble_eq_true rfl) dX3_assemble_15 ⟨Nat.le_of_ble_eq_true rfl, Nat.le_of_ble_eq_true rfl⟩) ⟨rfl, rfl⟩ hP hD hS hA [1] rfl (fun _ => rfl) (fun _ H locs hw hP hD hS => ?_)
  have hP : va_P D vwCl [(g, .inr (3, [.ref ge, .ref gl, .ref gb, .ref gw, .ref gsw, .ref gsh, .int (nI 0), .int (nI k), .int fi])), (ge, .inl (cI, 6, .inl (filI fe ((nI 0)) 6))), (gl, .inl (cI, 6, .inl fl)), (gb, .inl (cI, 6, .inl fb))] H := hP
  have hD : va_D A [(g, .inr (3, [.ref ge, .ref gl, .ref gb, .ref gw, .ref gsw, .ref gsh, .int (nI 0), .int (nI k), .int fi])), (ge, .inl (cI, 6, .inl (filI fe ((nI 0)) 6))), (gl, .inl (cI, 6, .inl fl)), (gb, .inl (cI, 6, .inl fb))] := hD
  refine lv_aload_n hx hb dX3_assemble_18 rfl (lv_at hl 0 rfl) ?_
  refine va_get (D := D) (ci := 3) (v := .ref gl) (C := RX3) (T := TX3) (N := 9) hx hb hts hi3 hown hK hP 0 rfl rfl 1 (by decide) hw4 (fun _ h9 => h9) rfl dX3_assemble_19 ?_
  refine lv_iconst (v := nI 0) hx hb dX3_assemble_22 (by decide) ?_
  refine cal_v (run_S (As := [.ref gl, .int (nI 0)]) (rest := []) SF (c_fillI l D cI cJ cZ cG cM gl 6 fl (nI 0) (by omega)) (va_cwS 2 hts gX3_assemble_J7_fill_53178 rfl rfl rfl (by decide +kernel) ⟨Nat.le_of_ble_eq_true rfl, Nat.le_of_ble_eq_true rfl⟩) hN hK hP hD [2] rfl (by decide) rfl hl.1 rfl (Nat.le_of_ble_eq_true rfl) dX3_assemble_23 ⟨Nat.le_of_ble_eq_true rfl, Nat.le_of_ble_eq_true rfl⟩) ⟨rfl, rfl⟩ hP hD hS hA [2] rfl (fun _ => rfl) (fun _ H locs hw hP hD hS => ?_)
  have hP : va_P D vwCl [(g, .inr (3, [.ref ge, .ref gl, .ref gb, .ref gw, .ref gsw, .ref gsh, .int (nI 0), .int (nI k), .int fi])), (ge, .inl (cI, 6, .inl (filI fe ((nI 0)) 6))), (gl, .inl (cI, 6, .inl (filI fl ((nI 0)) 6))), (gb, .inl (cI, 6, .inl fb))] H := hP
  have hD : va_D A [(g, .inr (3, [.ref ge, .ref gl, .ref gb, .ref gw, .ref gsw, .ref gsh, .int (nI 0), .int (nI k), .int fi])), (ge, .inl (cI, 6, .inl (filI fe ((nI 0)) 6))), (gl, .inl (cI, 6, .inl (filI fl ((nI 0)) 6))), (gb, .inl (cI, 6, .inl fb))] := hD
  refine lv_aload_n hx hb dX3_assemble_26 rfl (lv_at hl 0 rfl) ?_
  refine va_get (D := D) (ci := 3) (v := .ref gb) (C := RX3) (T := TX3) (N := 9) hx hb hts hi3 hown hK hP 0 rfl rfl 2 (by decide) hw5 (fun _ h9 => h9) rfl dX3_assemble_27 ?_
  refine lv_bipush (v := nI 12) hx hb dX3_assemble_30 (by decide) ?_
  refine cal_v (run_S (As := [.ref gb, .int (nI 12)]) (rest := []) SF (c_fillI l D cI cJ cZ cG cM gb 6 fb (nI 12) (by omega)) (va_cwS 2 hts gX3_assemble_J7_fill_53178 rfl rfl rfl (by decide +kernel) ⟨Nat.le_of_ble_eq_true rfl, Nat.le_of_ble_eq_true rfl⟩) hN hK hP hD [3] rfl (by decide) rfl hl.1 rfl (Nat.le_of_ble_eq_true rfl) dX3_assemble_32 ⟨Nat.le_of_ble_eq_true rfl, Nat.le_of_ble_eq_true rfl⟩) ⟨rfl, rfl⟩ hP hD hS hA [3] rfl (fun _ => rfl) (fun _ H locs hw hP hD hS => ?_)
  have hP : va_P D vwCl [(g, .inr (3, [.ref ge, .ref gl, .ref gb, .ref gw, .ref gsw, .ref gsh, .int (nI 0), .int (nI k), .int fi])), (ge, .inl (cI, 6, .inl (filI fe ((nI 0)) 6))), (gl, .inl (cI, 6, .inl (filI fl ((nI 0)) 6))), (gb, .inl (cI, 6, .inl (filI fb ((nI 12)) 6)))] H := hP
  have hD : va_D A [(g, .inr (3, [.ref ge, .ref gl, .ref gb, .ref gw, .ref gsw, .ref gsh, .int (nI 0), .int (nI k), .int fi])), (ge, .inl (cI, 6, .inl (filI fe ((nI 0)) 6))), (gl, .inl (cI, 6, .inl (filI fl ((nI 0)) 6))), (gb, .inl (cI, 6, .inl (filI fb ((nI 12)) 6)))] := hD
  exact hret (()) _ _ _ _ dX3_assemble_35 trivial hP hD hS

abbrev rm_X3_has : Room := { frames := 0, cells := 0, slots := 0, locals := 0 }
set_option maxHeartbeats 4000000 in
set_option maxRecDepth 100000 in
theorem c_has (l : Launch) (D : va_G) (cI cJ cZ cG cM : ClassId) (g ge gl gb gw gsw gsh : Nat) (si fi : Int32) (n : Nat) (x : Int32) :
    CI l yX3_has wsX3_has rm_X3_has D [(cI, .int), (cJ, .long), (cZ, .boolean), (cG, .object "LatestSets$Guild"), (cM, .array .int)] [(g, .inr (3, [.ref ge, .ref gl, .ref gb, .ref gw, .ref gsw, .ref gsh, .int si, .int (nI n), .int fi]))] [.ref g, .int x] (S := Unit) (fun r u => bz (nI 0 ≤ x ∧ x < nI n) r) (fun u => [(g, .inr (3, [.ref ge, .ref gl, .ref gb, .ref gw, .ref gsw, .ref gsh, .int si, .int (nI n), .int fi]))]) := by
  refine sz_of (cc := cX3_has) (maxL := 2) (by decide) rfl (Nat.le_of_ble_eq_true rfl) ?_
  intro p e s m args below meth c A ls Q E hret
  obtain ⟨hx, hb, -, hml, hown, hts, -, hin, hA, hK, hP, hD, hS, hl, hN⟩ := E
  have hown : s.vm.findClass RX3 = some m.cls := hown
  have hl : lv_has ls 2 [(0, .ref g), (1, .int x)] := hl
  have SF : CallFix p m c cX3_has 2 s args wsX3_has RX3 := ⟨hx, hb, hml, hown, hts⟩
  have hw0 := hts (.fieldLink RX3 38 "LatestSets$Guild" "count" "I") (by decide +kernel)
  have hi3 : ∀ x ∈ wsX30, x ∈ wsX3_has := by decide +kernel
  refine lv_iload_n hx hb dX3_has_0 rfl (lv_at hl 1 rfl) ?_
  refine lv_if_lt (tgt := 16) hx hb dX3_has_1 (by decide) (fun c1 => ?_) (fun c1 => ?_)
  · refine lv_iconst (v := nI 0) hx hb dX3_has_16 (by decide) ?_
    exact hret (nI 0) (()) _ _ _ _ dX3_has_17 rfl (bz0 (fun z => i_ltnle c1 z.1)) hP hD hS
  · refine lv_iload_n hx hb dX3_has_4 rfl (lv_at hl 1 rfl) ?_
    refine lv_aload_n hx hb dX3_has_5 rfl (lv_at hl 0 rfl) ?_
    refine va_get (D := D) (ci := 3) (v := .int (nI n)) (C := RX3) (T := TX3) (N := 9) hx hb hts hi3 hown hK hP 0 rfl rfl 7 (by decide) hw0 (fun _ h9 => h9) rfl dX3_has_6 ?_
    refine lv_icmp_ge (tgt := 16) hx hb dX3_has_9 (by decide) (fun c9 => ?_) (fun c9 => ?_)
    · refine lv_iconst (v := nI 0) hx hb dX3_has_16 (by decide) ?_
      exact hret (nI 0) (()) _ _ _ _ dX3_has_17 rfl (bz0 (fun z => i_ltnle z.2 c9)) hP hD hS
    · refine lv_iconst (v := nI 1) hx hb dX3_has_12 (by decide) ?_
      refine lv_goto (tgt := 17) hx hb dX3_has_13 (by decide) ?_
      exact hret (nI 1) (()) _ _ _ _ dX3_has_17 rfl (bz1 ⟨i_nlt c1, i_nle c9⟩) hP hD hS

abbrev rm_X3_rowOf : Room := { frames := 0, cells := 0, slots := 0, locals := 0 }
set_option maxHeartbeats 4000000 in
set_option maxRecDepth 100000 in
theorem c_rowOf (l : Launch) (D : va_G) (cI cJ cZ cG cM : ClassId) (g ge gl gb gw gsw gsh : Nat) (si fi : Int32) (n : Nat) (x : Int32) :
    CR l yX3_rowOf wsX3_rowOf rm_X3_rowOf D [(cI, .int), (cJ, .long), (cZ, .boolean), (cG, .object "LatestSets$Guild"), (cM, .array .int)] [(g, .inr (3, [.ref ge, .ref gl, .ref gb, .ref gw, .ref gsw, .ref gsh, .int si, .int (nI n), .int fi]))] [.ref g, .int x] (S := Nat) (fun u => u = rowA ge gl gb x) (fun u => u) (fun u => [(g, .inr (3, [.ref ge, .ref gl, .ref gb, .ref gw, .ref gsw, .ref gsh, .int si, .int (nI n), .int fi]))]) := by
  refine sr_of (Or.inr ⟨_, rfl⟩) (cc := cX3_rowOf) (maxL := 2) (by decide) rfl (Nat.le_of_ble_eq_true rfl) ?_
  intro p e s m args below meth c A ls Q E hret
  obtain ⟨hx, hb, -, hml, hown, hts, -, hin, hA, hK, hP, hD, hS, hl, hN⟩ := E
  have hown : s.vm.findClass RX3 = some m.cls := hown
  have hl : lv_has ls 2 [(0, .ref g), (1, .int x)] := hl
  have SF : CallFix p m c cX3_rowOf 2 s args wsX3_rowOf RX3 := ⟨hx, hb, hml, hown, hts⟩
  have hw0 := hts (.fieldLink RX3 18 "LatestSets$Guild" "best" "[I") (by decide +kernel)
  have hi3 : ∀ x ∈ wsX30, x ∈ wsX3_rowOf := by decide +kernel
  have hw2 := hts (.fieldLink RX3 15 "LatestSets$Guild" "late" "[I") (by decide +kernel)
  have hw3 := hts (.fieldLink RX3 9 "LatestSets$Guild" "early" "[I") (by decide +kernel)
  refine lv_iload_n hx hb dX3_rowOf_0 rfl (lv_at hl 1 rfl) ?_
  refine lv_if_ne (tgt := 9) hx hb dX3_rowOf_1 (by decide) (fun c1 => ?_) (fun c1 => ?_)
  · refine lv_iload_n hx hb dX3_rowOf_9 rfl (lv_at hl 1 rfl) ?_
    refine lv_iconst (v := nI 1) hx hb dX3_rowOf_10 (by decide) ?_
    refine lv_icmp_ne (tgt := 21) hx hb dX3_rowOf_11 (by decide) (fun c11 => ?_) (fun c11 => ?_)
    · refine lv_aload_n hx hb dX3_rowOf_21 rfl (lv_at hl 0 rfl) ?_
      refine va_get (D := D) (ci := 3) (v := .ref gb) (C := RX3) (T := TX3) (N := 9) hx hb hts hi3 hown hK hP 0 rfl rfl 2 (by decide) hw0 (fun _ h9 => h9) rfl dX3_rowOf_22 ?_
      exact hret gb _ _ _ _ dX3_rowOf_25 (by rw [rowA, if_neg c1, if_neg c11]) hP hD hS
    · refine lv_aload_n hx hb dX3_rowOf_14 rfl (lv_at hl 0 rfl) ?_
      refine va_get (D := D) (ci := 3) (v := .ref gl) (C := RX3) (T := TX3) (N := 9) hx hb hts hi3 hown hK hP 0 rfl rfl 1 (by decide) hw2 (fun _ h9 => h9) rfl dX3_rowOf_15 ?_
      refine lv_goto (tgt := 25) hx hb dX3_rowOf_18 (by decide) ?_
      exact hret gl _ _ _ _ dX3_rowOf_25 (by rw [rowA, if_neg c1, if_pos c11]) hP hD hS
  · refine lv_aload_n hx hb dX3_rowOf_4 rfl (lv_at hl 0 rfl) ?_
    refine va_get (D := D) (ci := 3) (v := .ref ge) (C := RX3) (T := TX3) (N := 9) hx hb hts hi3 hown hK hP 0 rfl rfl 0 (by decide) hw3 (fun _ h9 => h9) rfl dX3_rowOf_5 ?_
    exact hret ge _ _ _ _ dX3_rowOf_8 (by rw [rowA, if_pos c1]) hP hD hS

abbrev rm_X3_addSight : Room := { frames := 0, cells := 0, slots := 0, locals := 0 }
set_option maxHeartbeats 4000000 in
set_option maxRecDepth 100000 in
theorem c_addSight (l : Launch) (D : va_G) (cI cJ cZ cG cM : ClassId) (g ge gl gb gw gsw gsh : Nat) (fi : Int32) (n : Nat) (k : Nat) (f h : Nat → Int32) (x y : Int32) (hk : k < 6) :
    CI l yX3_addSight wsX3_addSight rm_X3_addSight D [(cI, .int), (cJ, .long), (cZ, .boolean), (cG, .object "LatestSets$Guild"), (cM, .array .int)] [(g, .inr (3, [.ref ge, .ref gl, .ref gb, .ref gw, .ref gsw, .ref gsh, .int (nI k), .int (nI n), .int fi])), (gsw, .inl (cI, 6, .inl f)), (gsh, .inl (cI, 6, .inl h))] [.ref g, .int x, .int y] (S := Unit) (fun r u => r = nI (k + 1)) (fun u => [(g, .inr (3, [.ref ge, .ref gl, .ref gb, .ref gw, .ref gsw, .ref gsh, .int (nI (k + 1)), .int (nI n), .int fi])), (gsw, .inl (cI, 6, .inl (upd f k x))), (gsh, .inl (cI, 6, .inl (upd h k y)))]) := by
  refine si_of (cc := cX3_addSight) (maxL := 3) (by decide) rfl (Nat.le_of_ble_eq_true rfl) ?_
  intro p e s m args below meth c A ls Q E hret
  obtain ⟨hx, hb, -, hml, hown, hts, -, hin, hA, hK, hP, hD, hS, hl, hN⟩ := E
  have hown : s.vm.findClass RX3 = some m.cls := hown
  have hl : lv_has ls 3 [(0, .ref g), (1, .int x), (2, .int y)] := hl
  have SF : CallFix p m c cX3_addSight 3 s args wsX3_addSight RX3 := ⟨hx, hb, hml, hown, hts⟩
  have hw0 := hts (.fieldLink RX3 47 "LatestSets$Guild" "sights" "I") (by decide +kernel)
  have hi3 : ∀ x ∈ wsX30, x ∈ wsX3_addSight := by decide +kernel
  have hw2 := hts (.fieldLink RX3 28 "LatestSets$Guild" "sightWeek" "[I") (by decide +kernel)
  have hw3 := hts (.fieldLink RX3 31 "LatestSets$Guild" "sightHour" "[I") (by decide +kernel)
  refine lv_aload_n hx hb dX3_addSight_0 rfl (lv_at hl 0 rfl) ?_
  refine va_get (D := D) (ci := 3) (v := .int (nI k)) (C := RX3) (T := TX3) (N := 9) hx hb hts hi3 hown hK hP 0 rfl rfl 6 (by decide) hw0 (fun _ h9 => h9) rfl dX3_addSight_1 ?_
  refine lv_bipush (v := nI 6) hx hb dX3_addSight_4 (by decide) ?_
  refine icmp_ge_n (a := k) (b := 6) (tgt := 39) hx hb dX3_addSight_6 (by decide) (by omega) (by omega) (fun c6 => ?_) (fun c6 => ?_)
  · exact absurd c6 (by omega)
  · refine lv_aload_n hx hb dX3_addSight_9 rfl (lv_at hl 0 rfl) ?_
    refine va_get (D := D) (ci := 3) (v := .ref gsw) (C := RX3) (T := TX3) (N := 9) hx hb hts hi3 hown hK hP 0 rfl rfl 4 (by decide) hw2 (fun _ h9 => h9) rfl dX3_addSight_10 ?_
    refine lv_aload_n hx hb dX3_addSight_13 rfl (lv_at hl 0 rfl) ?_
    refine va_get (D := D) (ci := 3) (v := .int (nI k)) (C := RX3) (T := TX3) (N := 9) hx hb hts hi3 hown hK hP 0 rfl rfl 6 (by decide) hw0 (fun _ h9 => h9) rfl dX3_addSight_14 ?_
    refine lv_iload_n hx hb dX3_addSight_17 rfl (lv_at hl 1 rfl) ?_
    refine iast_n (k := k) hx hb hK hP hD hS 1 0 rfl rfl (by omega) (by omega) dX3_addSight_18 (fun H locs hP hD hS => ?_)
    have hP : va_P D vwCl [(g, .inr (3, [.ref ge, .ref gl, .ref gb, .ref gw, .ref gsw, .ref gsh, .int (nI k), .int (nI n), .int fi])), (gsw, .inl (cI, 6, .inl (upd f k x))), (gsh, .inl (cI, 6, .inl h))] H := hP
    have hD : va_D A [(g, .inr (3, [.ref ge, .ref gl, .ref gb, .ref gw, .ref gsw, .ref gsh, .int (nI k), .int (nI n), .int fi])), (gsw, .inl (cI, 6, .inl (upd f k x))), (gsh, .inl (cI, 6, .inl h))] := hD
    refine lv_aload_n hx hb dX3_addSight_19 rfl (lv_at hl 0 rfl) ?_
    refine va_get (D := D) (ci := 3) (v := .ref gsh) (C := RX3) (T := TX3) (N := 9) hx hb hts hi3 hown hK hP 0 rfl rfl 5 (by decide) hw3 (fun _ h9 => h9) rfl dX3_addSight_20 ?_
    refine lv_aload_n hx hb dX3_addSight_23 rfl (lv_at hl 0 rfl) ?_
    refine va_get (D := D) (ci := 3) (v := .int (nI k)) (C := RX3) (T := TX3) (N := 9) hx hb hts hi3 hown hK hP 0 rfl rfl 6 (by decide) hw0 (fun _ h9 => h9) rfl dX3_addSight_24 ?_
    refine lv_iload_n hx hb dX3_addSight_27 rfl (lv_at hl 2 rfl) ?_
    refine iast_n (k := k) hx hb hK hP hD hS 2 0 rfl rfl (by omega) (by omega) dX3_addSight_28 (fun H locs hP hD hS => ?_)
    have hP : va_P D vwCl [(g, .inr (3, [.ref ge, .ref gl, .ref gb, .ref gw, .ref gsw, .ref gsh, .int (nI k), .int (nI n), .int fi])), (gsw, .inl (cI, 6, .inl (upd f k x))), (gsh, .inl (cI, 6, .inl (upd h k y)))] H := hP
    have hD : va_D A [(g, .inr (3, [.ref ge, .ref gl, .ref gb, .ref gw, .ref gsw, .ref gsh, .int (nI k), .int (nI n), .int fi])), (gsw, .inl (cI, 6, .inl (upd f k x))), (gsh, .inl (cI, 6, .inl (upd h k y)))] := hD
    refine lv_aload_n hx hb dX3_addSight_29 rfl (lv_at hl 0 rfl) ?_
    refine lv_dup hx hb dX3_addSight_30 rfl ?_
    refine va_get (D := D) (ci := 3) (v := .int (nI k)) (C := RX3) (T := TX3) (N := 9) hx hb hts hi3 hown hK hP 0 rfl rfl 6 (by decide) hw0 (fun _ h9 => h9) rfl dX3_addSight_31 ?_
    refine lv_iconst (v := nI 1) hx hb dX3_addSight_34 (by decide) ?_
    refine iadd_n (a := k) (b := 1) hx hb dX3_addSight_35 ?_
    refine va_put (D := D) (ci := 3) (v := .int (nI (k + 1))) (ty := .int) (C := RX3) (T := TX3) (N := 9) hx hb hts hi3 tyX3 tyX3_ok nmX3 hown hK hP hD hS 0 rfl rfl 6 (by decide) hw0 (fun _ h9 => h9) rfl (by decide +kernel) rfl rfl (Nat.le_of_ble_eq_true rfl) dX3_addSight_36 (fun H locs hP hD hS => ?_)
    have hP : va_P D vwCl [(g, .inr (3, [.ref ge, .ref gl, .ref gb, .ref gw, .ref gsw, .ref gsh, .int (nI (k + 1)), .int (nI n), .int fi])), (gsw, .inl (cI, 6, .inl (upd f k x))), (gsh, .inl (cI, 6, .inl (upd h k y)))] H := hP
    have hD : va_D A [(g, .inr (3, [.ref ge, .ref gl, .ref gb, .ref gw, .ref gsw, .ref gsh, .int (nI (k + 1)), .int (nI n), .int fi])), (gsw, .inl (cI, 6, .inl (upd f k x))), (gsh, .inl (cI, 6, .inl (upd h k y)))] := hD
    refine lv_aload_n hx hb dX3_addSight_39 rfl (lv_at hl 0 rfl) ?_
    refine va_get (D := D) (ci := 3) (v := .int (nI (k + 1))) (C := RX3) (T := TX3) (N := 9) hx hb hts hi3 hown hK hP 0 rfl rfl 6 (by decide) hw0 (fun _ h9 => h9) rfl dX3_addSight_40 ?_
    exact hret (nI (k + 1)) (()) _ _ _ _ dX3_addSight_43 rfl hP hD hS

abbrev rm_X3_farFromBest : Room := { frames := 1, cells := 0, slots := 0, locals := 21 }
set_option maxHeartbeats 4000000 in
set_option maxRecDepth 100000 in
theorem c_farFromBest (l : Launch) (D : va_G) (cI cJ cZ cG cM : ClassId) (g ge gl gb gw gsw gsh : Nat) (si fi : Int32) (n : Nat) (x : Int32) (fb : Nat → Int32) (hn : n ≤ 6) :
    CI l yX3_farFromBest wsX3_farFromBest rm_X3_farFromBest D [(cI, .int), (cJ, .long), (cZ, .boolean), (cG, .object "LatestSets$Guild"), (cM, .array .int)] [(g, .inr (3, [.ref ge, .ref gl, .ref gb, .ref gw, .ref gsw, .ref gsh, .int si, .int (nI n), .int fi])), (gb, .inl (cI, 6, .inl fb))] [.ref g, .int x] (S := Unit) (fun r u => r = farS fb x n) (fun u => [(g, .inr (3, [.ref ge, .ref gl, .ref gb, .ref gw, .ref gsw, .ref gsh, .int si, .int (nI n), .int fi])), (gb, .inl (cI, 6, .inl fb))]) := by
  refine si_of (cc := cX3_farFromBest) (maxL := 4) (by decide) rfl (Nat.le_of_ble_eq_true rfl) ?_
  intro p e s m args below meth c A ls Q E hret
  obtain ⟨hx, hb, -, hml, hown, hts, -, hin, hA, hK, hP, hD, hS, hl, hN⟩ := E
  have hown : s.vm.findClass RX3 = some m.cls := hown
  have hl : lv_has ls 4 [(0, .ref g), (1, .int x)] := hl
  have SF : CallFix p m c cX3_farFromBest 4 s args wsX3_farFromBest RX3 := ⟨hx, hb, hml, hown, hts⟩
  have hw0 := hts (.fieldLink RX3 38 "LatestSets$Guild" "count" "I") (by decide +kernel)
  have hi3 : ∀ x ∈ wsX30, x ∈ wsX3_farFromBest := by decide +kernel
  have hw2 := hts (.fieldLink RX3 18 "LatestSets$Guild" "best" "[I") (by decide +kernel)
  have hw3 := hts (.methodLink RX3 73 Lib.Math.abs.name) (by decide +kernel)
  have hw4 := hts (.static Lib.Math.abs.name) (by decide +kernel)
  have hw5 := hts (.initialized "java/lang/Math") (by decide +kernel)
  have hw6 := hts (.code Lib.Math.abs.name Lib.Math.abs.code 1 (some .int)) (by decide +kernel)
  refine lv_iconst (v := nI 0) hx hb dX3_farFromBest_0 (by decide) ?_
  refine lv_istore_n (lv' := [(2, .int (nI 0)), (0, .ref g), (1, .int x)]) hx hb dX3_farFromBest_1 rfl hl (by decide) rfl (fun ls hl => ?_)
  refine lv_iconst (v := nI 0) hx hb dX3_farFromBest_2 (by decide) ?_
  refine lv_istore_n (lv' := [(3, .int (nI 0)), (2, .int (nI 0)), (0, .ref g), (1, .int x)]) hx hb dX3_farFromBest_3 rfl hl (by decide) rfl (fun ls hl => ?_)
  have L4 : ∀ (n9 : Nat) (k : Nat) (hk : k ≤ n), n - k < n9 → ∀ (H : Heap) (locs : List Loc), va_P D vwCl [(g, .inr (3, [.ref ge, .ref gl, .ref gb, .ref gw, .ref gsw, .ref gsh, .int si, .int (nI n), .int fi])), (gb, .inl (cI, 6, .inl fb))] H → va_D A [(g, .inr (3, [.ref ge, .ref gl, .ref gb, .ref gw, .ref gsw, .ref gsh, .int si, .int (nI n), .int fi])), (gb, .inl (cI, 6, .inl fb))] → va_S A s.heap H locs → ∀ (ls : Array Slot), lv_has ls 4 [(0, .ref g), (1, .int x), (2, .int (farS fb x k)), (3, .int (nI k))] → W p l e rm_X3_farFromBest s m args below meth c H locs 0 0 Q (F0 m 4 ls []) := by
    intro n9
    induction n9 with
    | zero => intro k hk hm; exact absurd hm (Nat.not_lt_zero _)
    | succ n9 ih4 =>
      intro k hk hm4 H locs hP hD hS ls hl
      refine lv_iload_n hx hb dX3_farFromBest_4 rfl (lv_at hl 3 rfl) ?_
      refine lv_aload_n hx hb dX3_farFromBest_5 rfl (lv_at hl 0 rfl) ?_
      refine va_get (D := D) (ci := 3) (v := .int (nI n)) (C := RX3) (T := TX3) (N := 9) hx hb hts hi3 hown hK hP 0 rfl rfl 7 (by decide) hw0 (fun _ h9 => h9) rfl dX3_farFromBest_6 ?_
      refine icmp_ge_n (a := k) (b := n) (tgt := 32) hx hb dX3_farFromBest_9 (by decide) (by omega) (by omega) (fun c9 => ?_) (fun c9 => ?_)
      · refine lv_iload_n hx hb dX3_farFromBest_32 rfl (lv_at hl 2 rfl) ?_
        exact hret (farS fb x k) (()) _ _ _ _ dX3_farFromBest_33 (by rw [show k = n by omega]) hP hD hS
      · refine lv_iload_n hx hb dX3_farFromBest_12 rfl (lv_at hl 2 rfl) ?_
        refine lv_iload_n hx hb dX3_farFromBest_13 rfl (lv_at hl 1 rfl) ?_
        refine lv_aload_n hx hb dX3_farFromBest_14 rfl (lv_at hl 0 rfl) ?_
        refine va_get (D := D) (ci := 3) (v := .ref gb) (C := RX3) (T := TX3) (N := 9) hx hb hts hi3 hown hK hP 0 rfl rfl 2 (by decide) hw2 (fun _ h9 => h9) rfl dX3_farFromBest_15 ?_
        refine lv_iload_n hx hb dX3_farFromBest_18 rfl (lv_at hl 3 rfl) ?_
        refine iald_n (k := k) hx hb hK hP 1 0 rfl rfl (by omega) (by omega) dX3_farFromBest_19 ?_
        refine lv_isub hx hb dX3_farFromBest_20 ?_
        refine va_mabs hx hb (by rw [hml]; exact hl.1.symm) hown hw3 hw4 hw5 hw6 (Nat.le_of_ble_eq_true rfl) (Nat.le_of_ble_eq_true rfl) (Nat.zero_le _) (Nat.zero_le _) dX3_farFromBest_21 ?_
        refine lv_iadd hx hb dX3_farFromBest_24 ?_
        refine lv_istore_n (lv' := [(2, .int ((farS fb x k) + (abI (x - (fb k))))), (0, .ref g), (1, .int x), (3, .int (nI k))]) hx hb dX3_farFromBest_25 rfl hl (by decide) rfl (fun ls hl => ?_)
        refine lv_iinc (v := nI (k + 1)) (lv' := [(3, .int (nI (k + 1))), (2, .int ((farS fb x k) + (abI (x - (fb k))))), (0, .ref g), (1, .int x)]) hx hb dX3_farFromBest_26 hl (k := 3) rfl (nI_1 k) (by decide) rfl (fun ls hl => ?_)
        refine lv_goto (tgt := 4) hx hb dX3_farFromBest_29 (by decide) ?_
        exact ih4 (k + 1) ((by omega)) (by omega) _ _ hP hD hS _ (lv_sub hl [2, 3, 1, 0] rfl)
  exact L4 _ 0 ((Nat.zero_le _)) (Nat.lt_succ_self _) _ _ hP hD hS _ (lv_sub hl [2, 3, 1, 0] rfl)

abbrev rm_X0_tryAsTold : Room := { frames := 1, cells := 0, slots := 0, locals := 26 }
set_option maxHeartbeats 4000000 in
set_option maxRecDepth 100000 in
theorem c_tryAsTold (l : Launch) (D : va_G) (cI cJ cZ cG cM : ClassId) (b bt bc bs : Nat) (g ge gl gb gw gsw gsh : Nat) (si fi : Int32) (n : Nat) (hg : Int32) (ft fl : Nat → Int32) :
    CV l yX0_tryAsTold wsX0_tryAsTold rm_X0_tryAsTold D [(cI, .int), (cJ, .long), (cZ, .boolean), (cG, .object "LatestSets$Guild"), (cM, .array .int)] [(b, .inr (0, [.ref g, .ref bt, .ref bc, .ref bs, .int hg])), (g, .inr (3, [.ref ge, .ref gl, .ref gb, .ref gw, .ref gsw, .ref gsh, .int si, .int (nI n), .int fi])), (bt, .inl (cI, 6, .inl ft)), (gl, .inl (cI, 6, .inl fl))] [.ref b] (S := Unit) (fun u => True) (fun u => [(b, .inr (0, [.ref g, .ref bt, .ref bc, .ref bs, .int hg])), (g, .inr (3, [.ref ge, .ref gl, .ref gb, .ref gw, .ref gsw, .ref gsh, .int si, .int (nI n), .int fi])), (bt, .inl (cI, 6, .inl (va_cpy fl ft 0 0 6))), (gl, .inl (cI, 6, .inl fl))]) := by
  refine sv_of (cc := cX0_tryAsTold) (maxL := 1) (by decide) rfl (Nat.le_of_ble_eq_true rfl) ?_
  intro p e s m args below meth c A ls Q E hret
  obtain ⟨hx, hb, -, hml, hown, hts, -, hin, hA, hK, hP, hD, hS, hl, hN⟩ := E
  have hown : s.vm.findClass RX0 = some m.cls := hown
  have hl : lv_has ls 1 [(0, .ref b)] := hl
  have SF : CallFix p m c cX0_tryAsTold 1 s args wsX0_tryAsTold RX0 := ⟨hx, hb, hml, hown, hts⟩
  have hw0 := hts (.fieldLink RX0 21 "LatestSets$Board" "guild" "LLatestSets$Guild;") (by decide +kernel)
  have hi0 : ∀ x ∈ wsX00, x ∈ wsX0_tryAsTold := by decide +kernel
  have hw2 := hts (.fieldLink RX0 25 "LatestSets$Guild" "late" "[I") (by decide +kernel)
  have hi3 : ∀ x ∈ wsX30, x ∈ wsX0_tryAsTold := by decide +kernel
  have hw4 := hts (.fieldLink RX0 9 "LatestSets$Board" "trial" "[I") (by decide +kernel)
  have hw5 := hts (.methodLink RX0 30 arraycopyName) (by decide +kernel)
  have hw6 := hts (.native arraycopyName) (by decide +kernel)
  have hw7 := hts (.static arraycopyName) (by decide +kernel)
  have hw8 := hts (.initialized "java/lang/System") (by decide +kernel)
  refine lv_aload_n hx hb dX0_tryAsTold_0 rfl (lv_at hl 0 rfl) ?_
  refine va_get (D := D) (ci := 0) (v := .ref g) (C := RX0) (T := TX0) (N := 5) hx hb hts hi0 hown hK hP 0 rfl rfl 0 (by decide) hw0 (fun _ h9 => h9) rfl dX0_tryAsTold_1 ?_
  refine va_get (D := D) (ci := 3) (v := .ref gl) (C := RX3) (T := TX3) (N := 9) hx hb hts hi3 hown hK hP 1 rfl rfl 1 (by decide) hw2 (fun _ h9 => h9) rfl dX0_tryAsTold_4 ?_
  refine lv_iconst (v := nI 0) hx hb dX0_tryAsTold_7 (by decide) ?_
  refine lv_aload_n hx hb dX0_tryAsTold_8 rfl (lv_at hl 0 rfl) ?_
  refine va_get (D := D) (ci := 0) (v := .ref bt) (C := RX0) (T := TX0) (N := 5) hx hb hts hi0 hown hK hP 0 rfl rfl 1 (by decide) hw4 (fun _ h9 => h9) rfl dX0_tryAsTold_9 ?_
  refine lv_iconst (v := nI 0) hx hb dX0_tryAsTold_12 (by decide) ?_
  refine lv_bipush (v := nI 6) hx hb dX0_tryAsTold_13 (by decide) ?_
  refine copy_n (sp := 0) (dp := 0) (n := 6) hx hb (by rw [hml]; exact hl.1.symm) hown hw5 hw6 hw7 hw8 hK hP hD hS 3 2 0 rfl rfl rfl (by omega) (by omega) (by omega) (by omega) (by omega) (Nat.le_of_ble_eq_true rfl) (Nat.le_of_ble_eq_true rfl) dX0_tryAsTold_15 (fun H locs hP hD hS => ?_)
  have hP : va_P D vwCl [(b, .inr (0, [.ref g, .ref bt, .ref bc, .ref bs, .int hg])), (g, .inr (3, [.ref ge, .ref gl, .ref gb, .ref gw, .ref gsw, .ref gsh, .int si, .int (nI n), .int fi])), (bt, .inl (cI, 6, .inl (va_cpy fl ft 0 0 6))), (gl, .inl (cI, 6, .inl fl))] H := hP
  have hD : va_D A [(b, .inr (0, [.ref g, .ref bt, .ref bc, .ref bs, .int hg])), (g, .inr (3, [.ref ge, .ref gl, .ref gb, .ref gw, .ref gsw, .ref gsh, .int si, .int (nI n), .int fi])), (bt, .inl (cI, 6, .inl (va_cpy fl ft 0 0 6))), (gl, .inl (cI, 6, .inl fl))] := hD
  exact hret (()) _ _ _ _ dX0_tryAsTold_18 trivial hP hD hS

abbrev rm_X0_placeOf : Room := { frames := 1, cells := 0, slots := 0, locals := 21 }
set_option maxHeartbeats 4000000 in
set_option maxRecDepth 100000 in
theorem c_placeOf (l : Launch) (D : va_G) (cI cJ cZ cG cM : ClassId) (b bt bc bs : Nat) (g ge gl gb gw gsw gsh : Nat) (si fi : Int32) (n : Nat) (hg : Int32) (x : Int32) (h1 : 1 ≤ n) (h6 : n ≤ 6) :
    CI l yX0_placeOf wsX0_placeOf rm_X0_placeOf D [(cI, .int), (cJ, .long), (cZ, .boolean), (cG, .object "LatestSets$Guild"), (cM, .array .int)] [(b, .inr (0, [.ref g, .ref bt, .ref bc, .ref bs, .int hg])), (g, .inr (3, [.ref ge, .ref gl, .ref gb, .ref gw, .ref gsw, .ref gsh, .int si, .int (nI n), .int fi]))] [.ref b, .int x] (S := Unit) (fun r u => r = nI (plc x n)) (fun u => [(b, .inr (0, [.ref g, .ref bt, .ref bc, .ref bs, .int hg])), (g, .inr (3, [.ref ge, .ref gl, .ref gb, .ref gw, .ref gsw, .ref gsh, .int si, .int (nI n), .int fi]))]) := by
  refine si_of (cc := cX0_placeOf) (maxL := 3) (by decide) rfl (Nat.le_of_ble_eq_true rfl) ?_
  intro p e s m args below meth c A ls Q E hret
  obtain ⟨hx, hb, -, hml, hown, hts, -, hin, hA, hK, hP, hD, hS, hl, hN⟩ := E
  have hown : s.vm.findClass RX0 = some m.cls := hown
  have hl : lv_has ls 3 [(0, .ref b), (1, .int x)] := hl
  have SF : CallFix p m c cX0_placeOf 3 s args wsX0_placeOf RX0 := ⟨hx, hb, hml, hown, hts⟩
  have hw0 := hts (.fieldLink RX0 21 "LatestSets$Board" "guild" "LLatestSets$Guild;") (by decide +kernel)
  have hi0 : ∀ x ∈ wsX00, x ∈ wsX0_placeOf := by decide +kernel
  have hw2 := hts (.fieldLink RX0 36 "LatestSets$Guild" "count" "I") (by decide +kernel)
  have hi3 : ∀ x ∈ wsX30, x ∈ wsX0_placeOf := by decide +kernel
  have hw4 := hts (.methodLink RX0 61 Lib.Math.max.name) (by decide +kernel)
  have hw5 := hts (.static Lib.Math.max.name) (by decide +kernel)
  have hw6 := hts (.initialized "java/lang/Math") (by decide +kernel)
  have hw7 := hts (.code Lib.Math.max.name Lib.Math.max.code 2 (some .int)) (by decide +kernel)
  refine lv_aload_n hx hb dX0_placeOf_0 rfl (lv_at hl 0 rfl) ?_
  refine va_get (D := D) (ci := 0) (v := .ref g) (C := RX0) (T := TX0) (N := 5) hx hb hts hi0 hown hK hP 0 rfl rfl 0 (by decide) hw0 (fun _ h9 => h9) rfl dX0_placeOf_1 ?_
  refine va_get (D := D) (ci := 3) (v := .int (nI n)) (C := RX3) (T := TX3) (N := 9) hx hb hts hi3 hown hK hP 1 rfl rfl 7 (by decide) hw2 (fun _ h9 => h9) rfl dX0_placeOf_4 ?_
  refine lv_iconst (v := nI 1) hx hb dX0_placeOf_7 (by decide) ?_
  refine isub_n (a := n) (b := 1) hx hb dX0_placeOf_8 (by omega) ?_
  refine lv_istore_n (lv' := [(2, .int (nI (n - 1))), (0, .ref b), (1, .int x)]) hx hb dX0_placeOf_9 rfl hl (by decide) rfl (fun ls hl => ?_)
  refine lv_iload_n hx hb dX0_placeOf_10 rfl (lv_at hl 2 rfl) ?_
  by_cases e108 : x = nI 108
  · refine lv_tableIn (off := 33) (tgt := 44) hx hb dX0_placeOf_11 (by rw [e108]; decide) (by rw [e108]; decide) (by rw [e108]; decide +kernel) (by decide) ?_
    refine lv_iload_n hx hb dX0_placeOf_44 rfl (lv_at hl 0 rfl) ?_
    exact hret (nI (n - 1)) (()) _ _ _ _ dX0_placeOf_45 (by subst e108; rfl) hP hD hS
  · skip
    by_cases e109 : x = nI 109
    · refine lv_tableIn (off := 35) (tgt := 46) hx hb dX0_placeOf_11 (by rw [e109]; decide) (by rw [e109]; decide) (by rw [e109]; decide +kernel) (by decide) ?_
      refine lv_iload_n hx hb dX0_placeOf_46 rfl (lv_at hl 0 rfl) ?_
      refine lv_iconst (v := nI 2) hx hb dX0_placeOf_47 (by decide) ?_
      refine idiv_n (a := n - 1) (b := 2) hx hb dX0_placeOf_48 (by omega) (by omega) (by omega) ?_
      exact hret (nI ((n - 1) / 2)) (()) _ _ _ _ dX0_placeOf_49 (by subst e109; rfl) hP hD hS
    · skip
      by_cases e110 : x = nI 110
      · refine lv_tableIn (off := 47) (tgt := 58) hx hb dX0_placeOf_11 (by rw [e110]; decide) (by rw [e110]; decide) (by rw [e110]; decide +kernel) (by decide) ?_
        refine lv_iconst (v := nI 0) hx hb dX0_placeOf_58 (by decide) ?_
        exact hret (nI 0) (()) _ _ _ _ dX0_placeOf_59 (by subst e110; rfl) hP hD hS
      · skip
        by_cases e111 : x = nI 111
        · refine lv_tableIn (off := 47) (tgt := 58) hx hb dX0_placeOf_11 (by rw [e111]; decide) (by rw [e111]; decide) (by rw [e111]; decide +kernel) (by decide) ?_
          refine lv_iconst (v := nI 0) hx hb dX0_placeOf_58 (by decide) ?_
          exact hret (nI 0) (()) _ _ _ _ dX0_placeOf_59 (by subst e111; rfl) hP hD hS
        · skip
          by_cases e112 : x = nI 112
          · refine lv_tableIn (off := 39) (tgt := 50) hx hb dX0_placeOf_11 (by rw [e112]; decide) (by rw [e112]; decide) (by rw [e112]; decide +kernel) (by decide) ?_
            refine lv_iconst (v := nI 0) hx hb dX0_placeOf_50 (by decide) ?_
            refine lv_iload_n hx hb dX0_placeOf_51 rfl (lv_at hl 0 rfl) ?_
            refine lv_iconst (v := nI 1) hx hb dX0_placeOf_52 (by decide) ?_
            refine lv_isub hx hb dX0_placeOf_53 ?_
            refine va_mmax hx hb (by rw [hml]; exact hl.1.symm) hown hw4 hw5 hw6 hw7 (Nat.le_of_ble_eq_true rfl) (Nat.le_of_ble_eq_true rfl) (Nat.zero_le _) (Nat.zero_le _) dX0_placeOf_54 ?_
            refine lv_topi (fun y9 e9 => ?_)
            have e9 : y9 = nI (n - 1 - 1) := e9.trans (mx_sub1 (by omega))
            subst e9
            exact hret (nI (n - 1 - 1)) (()) _ _ _ _ dX0_placeOf_57 (by subst e112; rfl) hP hD hS
          · skip
            refine lv_tableOut (tgt := 58) hx hb dX0_placeOf_11 (by have z108 := ne_toI (c := 108) (by decide) e108; have z109 := ne_toI (c := 109) (by decide) e109; have z110 := ne_toI (c := 110) (by decide) e110; have z111 := ne_toI (c := 111) (by decide) e111; have z112 := ne_toI (c := 112) (by decide) e112; omega) (by decide) ?_
            refine lv_iconst (v := nI 0) hx hb dX0_placeOf_58 (by decide) ?_
            exact hret (nI 0) (()) _ _ _ _ dX0_placeOf_59 (by unfold plc; rw [if_neg e108, if_neg e109, if_neg e112]) hP hD hS

abbrev rm_X0_push : Room := { frames := 0, cells := 0, slots := 0, locals := 0 }
set_option maxHeartbeats 4000000 in
set_option maxRecDepth 100000 in
theorem c_push (l : Launch) (D : va_G) (cI cJ cZ cG cM : ClassId) (b bt bc bs : Nat) (g : Nat) (k : Nat) (f : Nat → Int32) (x : Int32) (hk : k < 20) :
    CV l yX0_push wsX0_push rm_X0_push D [(cI, .int), (cJ, .long), (cZ, .boolean), (cG, .object "LatestSets$Guild"), (cM, .array .int)] [(b, .inr (0, [.ref g, .ref bt, .ref bc, .ref bs, .int (nI k)])), (bs, .inl (cI, 20, .inl f))] [.ref b, .int x] (S := Unit) (fun u => True) (fun u => [(b, .inr (0, [.ref g, .ref bt, .ref bc, .ref bs, .int (nI (k + 1))])), (bs, .inl (cI, 20, .inl (upd f k x)))]) := by
  refine sv_of (cc := cX0_push) (maxL := 2) (by decide) rfl (Nat.le_of_ble_eq_true rfl) ?_
  intro p e s m args below meth c A ls Q E hret
  obtain ⟨hx, hb, -, hml, hown, hts, -, hin, hA, hK, hP, hD, hS, hl, hN⟩ := E
  have hown : s.vm.findClass RX0 = some m.cls := hown
  have hl : lv_has ls 2 [(0, .ref b), (1, .int x)] := hl
  have SF : CallFix p m c cX0_push 2 s args wsX0_push RX0 := ⟨hx, hb, hml, hown, hts⟩
  have hw0 := hts (.fieldLink RX0 92 "LatestSets$Board" "height" "I") (by decide +kernel)
  have hi0 : ∀ x ∈ wsX00, x ∈ wsX0_push := by decide +kernel
  have hw2 := hts (.fieldLink RX0 18 "LatestSets$Board" "stack" "[I") (by decide +kernel)
  refine lv_aload_n hx hb dX0_push_0 rfl (lv_at hl 0 rfl) ?_
  refine va_get (D := D) (ci := 0) (v := .int (nI k)) (C := RX0) (T := TX0) (N := 5) hx hb hts hi0 hown hK hP 0 rfl rfl 4 (by decide) hw0 (fun _ h9 => h9) rfl dX0_push_1 ?_
  refine lv_bipush (v := nI 20) hx hb dX0_push_4 (by decide) ?_
  refine icmp_ge_n (a := k) (b := 20) (tgt := 29) hx hb dX0_push_6 (by decide) (by omega) (by omega) (fun c6 => ?_) (fun c6 => ?_)
  · exact absurd c6 (by omega)
  · refine lv_aload_n hx hb dX0_push_9 rfl (lv_at hl 0 rfl) ?_
    refine va_get (D := D) (ci := 0) (v := .ref bs) (C := RX0) (T := TX0) (N := 5) hx hb hts hi0 hown hK hP 0 rfl rfl 3 (by decide) hw2 (fun _ h9 => h9) rfl dX0_push_10 ?_
    refine lv_aload_n hx hb dX0_push_13 rfl (lv_at hl 0 rfl) ?_
    refine va_get (D := D) (ci := 0) (v := .int (nI k)) (C := RX0) (T := TX0) (N := 5) hx hb hts hi0 hown hK hP 0 rfl rfl 4 (by decide) hw0 (fun _ h9 => h9) rfl dX0_push_14 ?_
    refine lv_iload_n hx hb dX0_push_17 rfl (lv_at hl 1 rfl) ?_
    refine iast_n (k := k) hx hb hK hP hD hS 1 0 rfl rfl (by omega) (by omega) dX0_push_18 (fun H locs hP hD hS => ?_)
    have hP : va_P D vwCl [(b, .inr (0, [.ref g, .ref bt, .ref bc, .ref bs, .int (nI k)])), (bs, .inl (cI, 20, .inl (upd f k x)))] H := hP
    have hD : va_D A [(b, .inr (0, [.ref g, .ref bt, .ref bc, .ref bs, .int (nI k)])), (bs, .inl (cI, 20, .inl (upd f k x)))] := hD
    refine lv_aload_n hx hb dX0_push_19 rfl (lv_at hl 0 rfl) ?_
    refine lv_dup hx hb dX0_push_20 rfl ?_
    refine va_get (D := D) (ci := 0) (v := .int (nI k)) (C := RX0) (T := TX0) (N := 5) hx hb hts hi0 hown hK hP 0 rfl rfl 4 (by decide) hw0 (fun _ h9 => h9) rfl dX0_push_21 ?_
    refine lv_iconst (v := nI 1) hx hb dX0_push_24 (by decide) ?_
    refine iadd_n (a := k) (b := 1) hx hb dX0_push_25 ?_
    refine va_put (D := D) (ci := 0) (v := .int (nI (k + 1))) (ty := .int) (C := RX0) (T := TX0) (N := 5) hx hb hts hi0 tyX0 tyX0_ok nmX0 hown hK hP hD hS 0 rfl rfl 4 (by decide) hw0 (fun _ h9 => h9) rfl (by decide +kernel) rfl rfl (Nat.le_of_ble_eq_true rfl) dX0_push_26 (fun H locs hP hD hS => ?_)
    have hP : va_P D vwCl [(b, .inr (0, [.ref g, .ref bt, .ref bc, .ref bs, .int (nI (k + 1))])), (bs, .inl (cI, 20, .inl (upd f k x)))] H := hP
    have hD : va_D A [(b, .inr (0, [.ref g, .ref bt, .ref bc, .ref bs, .int (nI (k + 1))])), (bs, .inl (cI, 20, .inl (upd f k x)))] := hD
    exact hret (()) _ _ _ _ dX0_push_29 trivial hP hD hS

abbrev rm_X0_pop : Room := { frames := 0, cells := 0, slots := 0, locals := 0 }
set_option maxHeartbeats 4000000 in
set_option maxRecDepth 100000 in
theorem c_pop (l : Launch) (D : va_G) (cI cJ cZ cG cM : ClassId) (b bt bc bs : Nat) (g : Nat) (k : Nat) (f : Nat → Int32) (hk : k < 20) :
    CI l yX0_pop wsX0_pop rm_X0_pop D [(cI, .int), (cJ, .long), (cZ, .boolean), (cG, .object "LatestSets$Guild"), (cM, .array .int)] [(b, .inr (0, [.ref g, .ref bt, .ref bc, .ref bs, .int (nI (k + 1))])), (bs, .inl (cI, 20, .inl f))] [.ref b] (S := Unit) (fun r u => r = f k) (fun u => [(b, .inr (0, [.ref g, .ref bt, .ref bc, .ref bs, .int (nI k)])), (bs, .inl (cI, 20, .inl f))]) := by
  refine si_of (cc := cX0_pop) (maxL := 1) (by decide) rfl (Nat.le_of_ble_eq_true rfl) ?_
  intro p e s m args below meth c A ls Q E hret
  obtain ⟨hx, hb, -, hml, hown, hts, -, hin, hA, hK, hP, hD, hS, hl, hN⟩ := E
  have hown : s.vm.findClass RX0 = some m.cls := hown
  have hl : lv_has ls 1 [(0, .ref b)] := hl
  have SF : CallFix p m c cX0_pop 1 s args wsX0_pop RX0 := ⟨hx, hb, hml, hown, hts⟩
  have hw0 := hts (.fieldLink RX0 92 "LatestSets$Board" "height" "I") (by decide +kernel)
  have hi0 : ∀ x ∈ wsX00, x ∈ wsX0_pop := by decide +kernel
  have hw2 := hts (.fieldLink RX0 18 "LatestSets$Board" "stack" "[I") (by decide +kernel)
  refine lv_aload_n hx hb dX0_pop_0 rfl (lv_at hl 0 rfl) ?_
  refine va_get (D := D) (ci := 0) (v := .int (nI (k + 1))) (C := RX0) (T := TX0) (N := 5) hx hb hts hi0 hown hK hP 0 rfl rfl 4 (by decide) hw0 (fun _ h9 => h9) rfl dX0_pop_1 ?_
  refine if_le_n (a := k + 1) (tgt := 27) hx hb dX0_pop_4 (by decide) (by omega) (fun c4 => ?_) (fun c4 => ?_)
  · exact absurd c4 (by omega)
  · refine lv_aload_n hx hb dX0_pop_7 rfl (lv_at hl 0 rfl) ?_
    refine lv_dup hx hb dX0_pop_8 rfl ?_
    refine va_get (D := D) (ci := 0) (v := .int (nI (k + 1))) (C := RX0) (T := TX0) (N := 5) hx hb hts hi0 hown hK hP 0 rfl rfl 4 (by decide) hw0 (fun _ h9 => h9) rfl dX0_pop_9 ?_
    refine lv_iconst (v := nI 1) hx hb dX0_pop_12 (by decide) ?_
    refine isub_n (a := k + 1) (b := 1) hx hb dX0_pop_13 (by omega) ?_
    refine va_put (D := D) (ci := 0) (v := .int (nI k)) (ty := .int) (C := RX0) (T := TX0) (N := 5) hx hb hts hi0 tyX0 tyX0_ok nmX0 hown hK hP hD hS 0 rfl rfl 4 (by decide) hw0 (fun _ h9 => h9) rfl (by decide +kernel) rfl rfl (Nat.le_of_ble_eq_true rfl) dX0_pop_14 (fun H locs hP hD hS => ?_)
    have hP : va_P D vwCl [(b, .inr (0, [.ref g, .ref bt, .ref bc, .ref bs, .int (nI k)])), (bs, .inl (cI, 20, .inl f))] H := hP
    have hD : va_D A [(b, .inr (0, [.ref g, .ref bt, .ref bc, .ref bs, .int (nI k)])), (bs, .inl (cI, 20, .inl f))] := hD
    refine lv_aload_n hx hb dX0_pop_17 rfl (lv_at hl 0 rfl) ?_
    refine va_get (D := D) (ci := 0) (v := .ref bs) (C := RX0) (T := TX0) (N := 5) hx hb hts hi0 hown hK hP 0 rfl rfl 3 (by decide) hw2 (fun _ h9 => h9) rfl dX0_pop_18 ?_
    refine lv_aload_n hx hb dX0_pop_21 rfl (lv_at hl 0 rfl) ?_
    refine va_get (D := D) (ci := 0) (v := .int (nI k)) (C := RX0) (T := TX0) (N := 5) hx hb hts hi0 hown hK hP 0 rfl rfl 4 (by decide) hw0 (fun _ h9 => h9) rfl dX0_pop_22 ?_
    refine iald_n (k := k) hx hb hK hP 1 0 rfl rfl (by omega) (by omega) dX0_pop_25 ?_
    exact hret (f k) (()) _ _ _ _ dX0_pop_26 rfl hP hD hS

abbrev rm_X0_insert : Room := { frames := 0, cells := 0, slots := 0, locals := 0 }
set_option maxHeartbeats 4000000 in
set_option maxRecDepth 100000 in
theorem c_insert (l : Launch) (D : va_G) (cI cJ cZ cG cM : ClassId) (b bt bc bs : Nat) (g : Nat) (hg : Int32) (k : Nat) (f : Nat → Int32) (x : Int32) (hk : k < 6) :
    CV l yX0_insert wsX0_insert rm_X0_insert D [(cI, .int), (cJ, .long), (cZ, .boolean), (cG, .object "LatestSets$Guild"), (cM, .array .int)] [(b, .inr (0, [.ref g, .ref bt, .ref bc, .ref bs, .int hg])), (bc, .inl (cI, 6, .inl f))] [.ref b, .int (nI k), .int x] (S := Unit) (fun u => True) (fun u => [(b, .inr (0, [.ref g, .ref bt, .ref bc, .ref bs, .int hg])), (bc, .inl (cI, 6, .inl (insG f x k)))]) := by
  refine sv_of (cc := cX0_insert) (maxL := 4) (by decide) rfl (Nat.le_of_ble_eq_true rfl) ?_
  intro p e s m args below meth c A ls Q E hret
  obtain ⟨hx, hb, -, hml, hown, hts, -, hin, hA, hK, hP, hD, hS, hl, hN⟩ := E
  have hown : s.vm.findClass RX0 = some m.cls := hown
  have hl : lv_has ls 4 [(0, .ref b), (1, .int (nI k)), (2, .int x)] := hl
  have SF : CallFix p m c cX0_insert 4 s args wsX0_insert RX0 := ⟨hx, hb, hml, hown, hts⟩
  have hw0 := hts (.fieldLink RX0 15 "LatestSets$Board" "came" "[I") (by decide +kernel)
  have hi0 : ∀ x ∈ wsX00, x ∈ wsX0_insert := by decide +kernel
  refine lv_iload_n hx hb dX0_insert_0 rfl (lv_at hl 1 rfl) ?_
  refine lv_istore_n (lv' := [(3, .int (nI k)), (0, .ref b), (1, .int (nI k)), (2, .int x)]) hx hb dX0_insert_1 rfl hl (by decide) rfl (fun ls hl => ?_)
  have L2 : ∀ (n9 : Nat) (j : Nat) (f1 : Nat → Int32) (hj : j < 6) (he : insG f1 x j = insG f x k), j < n9 → ∀ (H : Heap) (locs : List Loc), va_P D vwCl [(b, .inr (0, [.ref g, .ref bt, .ref bc, .ref bs, .int hg])), (bc, .inl (cI, 6, .inl f1))] H → va_D A [(b, .inr (0, [.ref g, .ref bt, .ref bc, .ref bs, .int hg])), (bc, .inl (cI, 6, .inl f1))] → va_S A s.heap H locs → ∀ (ls : Array Slot), lv_has ls 4 [(0, .ref b), (1, .int (nI k)), (2, .int x), (3, .int (nI j))] → W p l e rm_X0_insert s m args below meth c H locs 0 0 Q (F0 m 2 ls []) := by
    intro n9
    induction n9 with
    | zero => intro j f1 hj he hm; exact absurd hm (Nat.not_lt_zero _)
    | succ n9 ih2 =>
      intro j f1 hj he hm2 H locs hP hD hS ls hl
      refine lv_iload_n hx hb dX0_insert_2 rfl (lv_at hl 3 rfl) ?_
      refine if_le_n (a := j) (tgt := 38) hx hb dX0_insert_3 (by decide) (by omega) (fun c3 => ?_) (fun c3 => ?_)
      · refine lv_aload_n hx hb dX0_insert_38 rfl (lv_at hl 0 rfl) ?_
        refine va_get (D := D) (ci := 0) (v := .ref bc) (C := RX0) (T := TX0) (N := 5) hx hb hts hi0 hown hK hP 0 rfl rfl 2 (by decide) hw0 (fun _ h9 => h9) rfl dX0_insert_39 ?_
        refine lv_iload_n hx hb dX0_insert_42 rfl (lv_at hl 3 rfl) ?_
        refine lv_iload_n hx hb dX0_insert_43 rfl (lv_at hl 2 rfl) ?_
        refine iast_n (k := j) hx hb hK hP hD hS 1 0 rfl rfl (by omega) (by omega) dX0_insert_44 (fun H locs hP hD hS => ?_)
        have hP : va_P D vwCl [(b, .inr (0, [.ref g, .ref bt, .ref bc, .ref bs, .int hg])), (bc, .inl (cI, 6, .inl (upd f1 j x)))] H := hP
        have hD : va_D A [(b, .inr (0, [.ref g, .ref bt, .ref bc, .ref bs, .int hg])), (bc, .inl (cI, 6, .inl (upd f1 j x)))] := hD
        have e9 : upd f1 j x = insG f x k := by rw [← he, c3]; rfl
        rw [e9] at hP hD
        exact hret (()) _ _ _ _ dX0_insert_45 trivial hP hD hS
      · refine lv_aload_n hx hb dX0_insert_6 rfl (lv_at hl 0 rfl) ?_
        refine va_get (D := D) (ci := 0) (v := .ref bc) (C := RX0) (T := TX0) (N := 5) hx hb hts hi0 hown hK hP 0 rfl rfl 2 (by decide) hw0 (fun _ h9 => h9) rfl dX0_insert_7 ?_
        refine lv_iload_n hx hb dX0_insert_10 rfl (lv_at hl 3 rfl) ?_
        refine lv_iconst (v := nI 1) hx hb dX0_insert_11 (by decide) ?_
        refine isub_n (a := j) (b := 1) hx hb dX0_insert_12 (by omega) ?_
        refine iald_n (k := j - 1) hx hb hK hP 1 0 rfl rfl (by omega) (by omega) dX0_insert_13 ?_
        refine lv_iload_n hx hb dX0_insert_14 rfl (lv_at hl 2 rfl) ?_
        refine lv_icmp_le (tgt := 38) hx hb dX0_insert_15 (by decide) (fun c15 => ?_) (fun c15 => ?_)
        · refine lv_aload_n hx hb dX0_insert_38 rfl (lv_at hl 0 rfl) ?_
          refine va_get (D := D) (ci := 0) (v := .ref bc) (C := RX0) (T := TX0) (N := 5) hx hb hts hi0 hown hK hP 0 rfl rfl 2 (by decide) hw0 (fun _ h9 => h9) rfl dX0_insert_39 ?_
          refine lv_iload_n hx hb dX0_insert_42 rfl (lv_at hl 3 rfl) ?_
          refine lv_iload_n hx hb dX0_insert_43 rfl (lv_at hl 2 rfl) ?_
          refine iast_n (k := j) hx hb hK hP hD hS 1 0 rfl rfl (by omega) (by omega) dX0_insert_44 (fun H locs hP hD hS => ?_)
          have hP : va_P D vwCl [(b, .inr (0, [.ref g, .ref bt, .ref bc, .ref bs, .int hg])), (bc, .inl (cI, 6, .inl (upd f1 j x)))] H := hP
          have hD : va_D A [(b, .inr (0, [.ref g, .ref bt, .ref bc, .ref bs, .int hg])), (bc, .inl (cI, 6, .inl (upd f1 j x)))] := hD
          have e9 : upd f1 j x = insG f x k := by rw [← he]; obtain ⟨i, rfl⟩ : ∃ i, j = i + 1 := ⟨j - 1, by omega⟩; exact (if_pos c15).symm
          rw [e9] at hP hD
          exact hret (()) _ _ _ _ dX0_insert_45 trivial hP hD hS
        · refine lv_aload_n hx hb dX0_insert_18 rfl (lv_at hl 0 rfl) ?_
          refine va_get (D := D) (ci := 0) (v := .ref bc) (C := RX0) (T := TX0) (N := 5) hx hb hts hi0 hown hK hP 0 rfl rfl 2 (by decide) hw0 (fun _ h9 => h9) rfl dX0_insert_19 ?_
          refine lv_iload_n hx hb dX0_insert_22 rfl (lv_at hl 3 rfl) ?_
          refine lv_aload_n hx hb dX0_insert_23 rfl (lv_at hl 0 rfl) ?_
          refine va_get (D := D) (ci := 0) (v := .ref bc) (C := RX0) (T := TX0) (N := 5) hx hb hts hi0 hown hK hP 0 rfl rfl 2 (by decide) hw0 (fun _ h9 => h9) rfl dX0_insert_24 ?_
          refine lv_iload_n hx hb dX0_insert_27 rfl (lv_at hl 3 rfl) ?_
          refine lv_iconst (v := nI 1) hx hb dX0_insert_28 (by decide) ?_
          refine isub_n (a := j) (b := 1) hx hb dX0_insert_29 (by omega) ?_
          refine iald_n (k := j - 1) hx hb hK hP 1 0 rfl rfl (by omega) (by omega) dX0_insert_30 ?_
          refine iast_n (k := j) hx hb hK hP hD hS 1 0 rfl rfl (by omega) (by omega) dX0_insert_31 (fun H locs hP hD hS => ?_)
          have hP : va_P D vwCl [(b, .inr (0, [.ref g, .ref bt, .ref bc, .ref bs, .int hg])), (bc, .inl (cI, 6, .inl (upd f1 j (f1 (j - 1)))))] H := hP
          have hD : va_D A [(b, .inr (0, [.ref g, .ref bt, .ref bc, .ref bs, .int hg])), (bc, .inl (cI, 6, .inl (upd f1 j (f1 (j - 1)))))] := hD
          refine lv_iinc (v := nI (j - 1)) (lv' := [(3, .int (nI (j - 1))), (0, .ref b), (1, .int (nI k)), (2, .int x)]) hx hb dX0_insert_32 hl (k := 3) rfl (by have h9 : 1 ≤ j := (by omega); rw [show j = (j - 1) + 1 by omega]; exact pk_m1 _) (by decide) rfl (fun ls hl => ?_)
          refine lv_goto (tgt := 2) hx hb dX0_insert_35 (by decide) ?_
          exact ih2 (j - 1) (upd f1 j (f1 (j - 1))) ((by omega)) ((by rw [← he]; obtain ⟨i, rfl⟩ : ∃ i, j = i + 1 := ⟨j - 1, by omega⟩; exact (if_neg c15).symm)) (by omega) _ _ hP hD hS _ (lv_sub hl [1, 2, 3, 0] rfl)
  exact L2 _ k f hk rfl (Nat.lt_succ_self _) _ _ hP hD hS _ (lv_sub hl [1, 2, 3, 0] rfl)
end
section
/-! PURE WORDS, second: texts of laws, how they are read, the next hour -/
abbrev dgt (x : Int32) : Prop := nI 48 ≤ x ∧ x ≤ nI 57
abbrev gds (x : Int32) : Prop := isLf x ∨ isPr x ∨ isSh x ∨ x = nI 126
def pN (x : Int32) : Nat := if isPr x then 2 else if isLf x then 0 else 1
/-- how many parts are due ahead of the k-th sign, and whether a digit is -/
def ps (sg : Nat → Int32) : Nat → Nat × Bool
  | 0 => (1, false)
  | k + 1 => if (ps sg k).2 = true then ((ps sg k).1, false) else ((ps sg k).1 + pN (sg k) - 1, decide (isSh (sg k)))
/-- the first n signs are a law -/
def VL (sg : Nat → Int32) (n : Nat) : Prop := n ≤ 20 ∧ (∀ k, k < n → 1 ≤ (ps sg k).1 ∧ ((ps sg k).2 = true → dgt (sg k)) ∧ ((ps sg k).2 = false → gds (sg k))) ∧ (ps sg n).1 = 0
theorem VL_pos {sg : Nat → Int32} {n : Nat} (h : VL sg n) : 1 ≤ n := by
  rcases Nat.eq_zero_or_pos n with e | e
  · subst e; exact absurd h.2.2 (by simp [ps])
  · exact e
theorem dgt_ne {x : Int32} (h : dgt x) {c : Nat} (hc : c < 48 ∨ (57 < c ∧ c < 2147483648)) : ¬ x = nI c := fun e => by
  subst e
  obtain ⟨h1, h2⟩ := h
  rcases hc with hc | ⟨hc, hb⟩
  · have := (nI_leI (by omega) (by omega)).mp h1
    omega
  · have := (nI_leI hb (by omega)).mp h2
    omega
theorem pN_sh {x : Int32} (h : isSh x) : pN x = 1 := by rcases h with h | h <;> (subst h; decide)
theorem ps_t {sg : Nat → Int32} {k : Nat} (h : (ps sg k).2 = true) : ps sg (k + 1) = ((ps sg k).1, false) := if_pos h
theorem ps_f {sg : Nat → Int32} {k : Nat} (h : (ps sg k).2 = false) : ps sg (k + 1) = ((ps sg k).1 + pN (sg k) - 1, decide (isSh (sg k))) := if_neg (by rw [h]; decide)
theorem VL_end {sg : Nat → Int32} {n : Nat} (h : VL sg n) : (ps sg n).2 = false := by
  obtain ⟨m, rfl⟩ : ∃ m, n = m + 1 := ⟨n - 1, by have := VL_pos h; omega⟩
  cases e : (ps sg m).2 with
  | true => rw [ps_t e]
  | false =>
    have h0 := h.2.2
    rw [ps_f e] at h0 ⊢
    have h1 := (h.2.1 m (Nat.lt_succ_self m)).1
    cases e2 : decide (isSh (sg m)) with
    | false => rfl
    | true =>
      rw [pN_sh (of_decide_eq_true e2)] at h0
      simp at h0
      omega
theorem VL_sh {sg : Nat → Int32} {n q : Nat} (h : VL sg n) (hq : q < n) (hs : isSh (sg q)) : (ps sg (q + 1)).2 = true := by
  cases e : (ps sg q).2 with
  | true =>
    have hd := (h.2.1 q hq).2.1 e
    rcases hs with hs | hs
    · exact absurd hs (dgt_ne hd (by omega))
    · exact absurd hs (dgt_ne hd (by omega))
  | false => rw [ps_f e]; exact decide_eq_true hs
/-- one sign read, from the right: what the leaves are, the sign, the sign behind it -/
def stp (lf : Int32 → Int32) (x nx : Int32) (st : List Int32) : List Int32 :=
  if x = nI 60 then (match st with | a :: b :: t => mnI a b :: t | _ => st)
  else if x = nI 62 then (match st with | a :: b :: t => mxI a b :: t | _ => st)
  else if x = nI 47 then (match st with | a :: b :: t => (a + b) / nI 2 :: t | _ => st)
  else if x = nI 126 then (match st with | a :: t => (nI 23 - a) :: t | _ => st)
  else if x = nI 45 then (match st with | a :: t => (a - (nx - nI 48)) :: t | _ => st)
  else if x = nI 43 then (match st with | a :: t => (a + (nx - nI 48)) :: t | _ => st)
  else if isLf x then lf x :: st
  else st
theorem stp_lt {lf : Int32 → Int32} {x nx a b : Int32} {t : List Int32} (h : x = nI 60) : stp lf x nx (a :: b :: t) = mnI a b :: t := by subst h; rfl
theorem stp_gt {lf : Int32 → Int32} {x nx a b : Int32} {t : List Int32} (h : x = nI 62) : stp lf x nx (a :: b :: t) = mxI a b :: t := by subst h; rfl
theorem stp_dv {lf : Int32 → Int32} {x nx a b : Int32} {t : List Int32} (h : x = nI 47) : stp lf x nx (a :: b :: t) = (a + b) / nI 2 :: t := by subst h; rfl
theorem stp_tl {lf : Int32 → Int32} {x nx a : Int32} {t : List Int32} (h : x = nI 126) : stp lf x nx (a :: t) = (nI 23 - a) :: t := by subst h; rfl
theorem stp_mi {lf : Int32 → Int32} {x nx a : Int32} {t : List Int32} (h : x = nI 45) : stp lf x nx (a :: t) = (a - (nx - nI 48)) :: t := by subst h; rfl
theorem stp_pl {lf : Int32 → Int32} {x nx a : Int32} {t : List Int32} (h : x = nI 43) : stp lf x nx (a :: t) = (a + (nx - nI 48)) :: t := by subst h; rfl
theorem stp_lf {lf : Int32 → Int32} {x nx : Int32} {t : List Int32} (h : isLf x) : stp lf x nx t = lf x :: t := by
  rcases h with h | h | h | h | h <;> (subst h; rfl)
theorem stp_dg {lf : Int32 → Int32} {x nx : Int32} {t : List Int32} (h : dgt x) : stp lf x nx t = t := by
  unfold stp
  rw [if_neg (dgt_ne h (by omega)), if_neg (dgt_ne h (by omega)), if_neg (dgt_ne h (by omega)), if_neg (dgt_ne h (by omega)), if_neg (dgt_ne h (by omega)), if_neg (dgt_ne h (by omega)), if_neg]
  rintro (e | e | e | e | e) <;> exact dgt_ne h (by omega) e
/-- the stack behind r signs from the q-th on, read from the right -/
def ev (sg : Nat → Int32) (lf : Int32 → Int32) : Nat → Nat → List Int32
  | 0, _ => []
  | r + 1, q => stp lf (sg q) (sg (q + 1)) (ev sg lf r (q + 1))
theorem len2 {L : List Int32} (h : 2 ≤ L.length) : ∃ a b t, L = a :: b :: t := by
  match L, h with
  | a :: b :: t, _ => exact ⟨a, b, t, rfl⟩
theorem len1 {L : List Int32} (h : 1 ≤ L.length) : ∃ a t, L = a :: t := by
  match L, h with
  | a :: t, _ => exact ⟨a, t, rfl⟩
theorem ev_len {sg : Nat → Int32} {lf : Int32 → Int32} {n : Nat} (hV : VL sg n) : ∀ (r q : Nat), q + r = n → (ev sg lf r q).length = (ps sg q).1
  | 0, q, h => by
    have : q = n := by omega
    subst this
    exact hV.2.2.symm
  | r + 1, q, h => by
    have ih := ev_len (lf := lf) hV r (q + 1) (by omega)
    obtain ⟨h1, h2, h3⟩ := hV.2.1 q (by omega)
    show (stp lf (sg q) (sg (q + 1)) (ev sg lf r (q + 1))).length = _
    cases e : (ps sg q).2 with
    | true => rw [stp_dg (h2 e), ih, ps_t e]
    | false =>
      rw [ps_f e] at ih
      rcases h3 e with g | g | g | g
      · rw [stp_lf g, List.length_cons, ih]
        have : pN (sg q) = 0 := by rcases g with g | g | g | g | g <;> (rw [g]; decide)
        simp only [this]
        omega
      · have hp : pN (sg q) = 2 := by rcases g with g | g | g <;> (rw [g]; decide)
        simp only [hp] at ih
        obtain ⟨a, b, t, ht⟩ := len2 (L := ev sg lf r (q + 1)) (by omega)
        rw [ht] at ih ⊢
        simp only [List.length_cons] at ih
        rcases g with g | g | g
        · rw [stp_lt g, List.length_cons]; omega
        · rw [stp_gt g, List.length_cons]; omega
        · rw [stp_dv g, List.length_cons]; omega
      · have hp : pN (sg q) = 1 := pN_sh g
        simp only [hp] at ih
        obtain ⟨a, t, ht⟩ := len1 (L := ev sg lf r (q + 1)) (by omega)
        rw [ht] at ih ⊢
        simp only [List.length_cons] at ih
        rcases g with g | g
        · rw [stp_mi g, List.length_cons]; omega
        · rw [stp_pl g, List.length_cons]; omega
      · have hp : pN (sg q) = 1 := by rw [g]; decide
        simp only [hp] at ih
        obtain ⟨a, t, ht⟩ := len1 (L := ev sg lf r (q + 1)) (by omega)
        rw [ht] at ih ⊢
        simp only [List.length_cons] at ih
        rw [stp_tl g, List.length_cons]; omega
theorem stp_le {lf : Int32 → Int32} {x nx : Int32} {t : List Int32} : (stp lf x nx t).length ≤ t.length + 1 := by
  unfold stp
  repeat' split
  all_goals first
    | omega
    | (simp only [List.length_cons]; omega)
theorem ev_le {sg : Nat → Int32} {lf : Int32 → Int32} : ∀ (r q : Nat), (ev sg lf r q).length ≤ r
  | 0, _ => Nat.le_refl 0
  | r + 1, q => Nat.le_trans stp_le (Nat.succ_le_succ (ev_le r (q + 1)))
/-- a row that holds a stack, its top at the list's head -/
def stk (f : Nat → Int32) : List Int32 → Prop
  | [] => True
  | a :: t => f t.length = a ∧ stk f t
theorem stk_up {f : Nat → Int32} {x : Int32} : ∀ {t : List Int32} {k : Nat}, t.length ≤ k → stk f t → stk (upd f k x) t
  | [], _, _, _ => trivial
  | a :: t, k, h, hs => by
    simp only [List.length_cons] at h
    exact ⟨(pk_un (by omega)).trans hs.1, stk_up (by omega) hs.2⟩
theorem stk_push {f : Nat → Int32} {x : Int32} {t : List Int32} (hs : stk f t) : stk (upd f t.length x) (x :: t) := ⟨pk_us, stk_up (Nat.le_refl _) hs⟩
/-- what a leaf is: the hour itself, or when one of the row came -/
def lfC (cm : Nat → Int32) (n : Nat) (h : Int32) (x : Int32) : Int32 := if x = nI 104 then h else cm (plc x n)
theorem plc_lt (x : Int32) {n : Nat} (h : 1 ≤ n) : plc x n < n := by
  unfold plc
  split
  · omega
  · split
    · omega
    · split <;> omega
theorem lfC_cong {c1 c2 : Nat → Int32} {n : Nat} (h : 1 ≤ n) (hc : ∀ j, j < n → c1 j = c2 j) (hh : Int32) : lfC c1 n hh = lfC c2 n hh := by
  funext x
  unfold lfC
  rw [hc _ (plc_lt x h)]
/-- the row of those who came, in order, the first k of them -/
def arrS (g0 : Nat → Int32) (tm : Nat → Int32) : Nat → (Nat → Int32)
  | 0 => g0
  | k + 1 => insG (arrS g0 tm k) (tm k) k
theorem insG_out (t : Int32) : ∀ (k : Nat) (g : Nat → Int32) (j : Nat), k < j → insG g t k j = g j
  | 0, g, j, h => pk_un (by omega)
  | k + 1, g, j, h => by
    show (if g k ≤ t then upd g (k + 1) t else insG (upd g (k + 1) (g k)) t k) j = g j
    split
    · exact pk_un (by omega)
    · rw [insG_out t k _ j (by omega)]; exact pk_un (by omega)
theorem insG_cong (t : Int32) : ∀ (k : Nat) (g1 g2 : Nat → Int32), (∀ j, j < k → g1 j = g2 j) → ∀ j, j ≤ k → insG g1 t k j = insG g2 t k j
  | 0, g1, g2, _, j, hj => by
    have : j = 0 := by omega
    subst this
    show upd g1 0 t 0 = upd g2 0 t 0
    rw [pk_us, pk_us]
  | k + 1, g1, g2, h, j, hj => by
    show (if g1 k ≤ t then upd g1 (k + 1) t else insG (upd g1 (k + 1) (g1 k)) t k) j = (if g2 k ≤ t then upd g2 (k + 1) t else insG (upd g2 (k + 1) (g2 k)) t k) j
    have e : g1 k = g2 k := h k (by omega)
    rw [e]
    by_cases c : g2 k ≤ t
    · rw [if_pos c, if_pos c]
      by_cases q : j = k + 1
      · subst q; rw [pk_us, pk_us]
      · rw [pk_un q, pk_un q]; exact h j (by omega)
    · rw [if_neg c, if_neg c]
      by_cases q : j = k + 1
      · subst q
        rw [insG_out t k _ (k + 1) (by omega), insG_out t k _ (k + 1) (by omega), pk_us, pk_us]
      · exact insG_cong t k _ _ (fun i hi => by rw [pk_un (by omega), pk_un (by omega)]; exact h i (by omega)) j (by omega)
theorem arrS_cong {tm1 tm2 : Nat → Int32} (g1 g2 : Nat → Int32) : ∀ (k : Nat), (∀ j, j < k → tm1 j = tm2 j) → ∀ j, j < k → arrS g1 tm1 k j = arrS g2 tm2 k j
  | 0, _, j, hj => absurd hj (Nat.not_lt_zero j)
  | k + 1, h, j, hj => by
    show insG (arrS g1 tm1 k) (tm1 k) k j = insG (arrS g2 tm2 k) (tm2 k) k j
    rw [h k (by omega)]
    exact insG_cong _ k _ _ (arrS_cong g1 g2 k (fun i hi => h i (by omega))) j (by omega)
def clp (v : Int32) : Int32 := mxI (nI 0) (mnI (nI 23) v)
/-- what the law makes of when all came -/
def mdB (sg : Nat → Int32) (len : Nat) (cm : Nat → Int32) (n : Nat) (h : Int32) : Int32 := (ev sg (lfC cm n h) len 0).headD 0
/-- the next hour -/
def nxH (sg : Nat → Int32) (len n : Nat) (tm : Nat → Int32) (h : Int32) : Int32 := clp (mdB sg len (arrS (fun _ => 0) tm n) n h)
theorem mdB_cong {sg : Nat → Int32} {len n : Nat} {c1 c2 : Nat → Int32} (h : 1 ≤ n) (hc : ∀ j, j < n → c1 j = c2 j) (hh : Int32) : mdB sg len c1 n hh = mdB sg len c2 n hh := by
  unfold mdB
  rw [lfC_cong h hc]
theorem nxH_of {sg : Nat → Int32} {len n : Nat} {tm : Nat → Int32} (g0 : Nat → Int32) (h : 1 ≤ n) (hh : Int32) : clp (mdB sg len (arrS g0 tm n) n hh) = nxH sg len n tm hh := by
  unfold nxH
  rw [mdB_cong h (arrS_cong g0 (fun _ => 0) n (fun _ _ => rfl))]
theorem nxH_cong {sg : Nat → Int32} {len n : Nat} {t1 t2 : Nat → Int32} (h : 1 ≤ n) (ht : ∀ j, j < n → t1 j = t2 j) (hh : Int32) : nxH sg len n t1 hh = nxH sg len n t2 hh := by
  unfold nxH
  rw [mdB_cong h (arrS_cong _ _ n ht)]
theorem clp_rng (v : Int32) : ∃ k : Nat, k ≤ 23 ∧ clp v = nI k := by
  have key : nI 0 ≤ clp v ∧ clp v ≤ nI 23 := by
    unfold clp mxI mnI
    simp only [Int32.lt_iff_toInt_lt, Int32.le_iff_toInt_le]
    have a0 : (nI 0).toInt = 0 := nI_toInt (by omega)
    have a23 : (nI 23).toInt = 23 := nI_toInt (by omega)
    split <;> split <;> simp only [a0, a23] at * <;> omega
  obtain ⟨k, -, h2, h3⟩ := nI_rng (by omega) (by omega) key.1 key.2
  exact ⟨k, h2, h3⟩
theorem nxH_rng (sg : Nat → Int32) (len n : Nat) (tm : Nat → Int32) (h : Int32) : ∃ k : Nat, k ≤ 23 ∧ nxH sg len n tm h = nI k := clp_rng _
end
section

abbrev rm_X0_madeBy : Room := { frames := 2, cells := 0, slots := 0, locals := 43 }
set_option maxHeartbeats 4000000 in
set_option maxRecDepth 100000 in
theorem c_madeBy (l : Launch) (D : va_G) (cI cJ cZ cG cM : ClassId) (b bt bc bs : Nat) (g ge gl gb gw gsw gsh : Nat) (si fi : Int32) (n : Nat) (w sg nl : Nat) (hg h : Int32) (cm fk fs : Nat → Int32) (hV : VL fs nl) (h1 : 1 ≤ n) (h6 : n ≤ 6) :
    CI l yX0_madeBy wsX0_madeBy rm_X0_madeBy D [(cI, .int), (cJ, .long), (cZ, .boolean), (cG, .object "LatestSets$Guild"), (cM, .array .int)] [(b, .inr (0, [.ref g, .ref bt, .ref bc, .ref bs, .int hg])), (g, .inr (3, [.ref ge, .ref gl, .ref gb, .ref gw, .ref gsw, .ref gsh, .int si, .int (nI n), .int fi])), (bc, .inl (cI, 6, .inl cm)), (bs, .inl (cI, 20, .inl fk)), (w, .inr (4, [.ref sg, .int (nI nl)])), (sg, .inl (cI, 20, .inl fs))] [.ref b, .ref w, .int h] (S := ((Nat → Int32) × Int32)) (fun r u => r = mdB fs nl cm n h) (fun u => [(b, .inr (0, [.ref g, .ref bt, .ref bc, .ref bs, .int u.2])), (g, .inr (3, [.ref ge, .ref gl, .ref gb, .ref gw, .ref gsw, .ref gsh, .int si, .int (nI n), .int fi])), (bc, .inl (cI, 6, .inl cm)), (bs, .inl (cI, 20, .inl u.1)), (w, .inr (4, [.ref sg, .int (nI nl)])), (sg, .inl (cI, 20, .inl fs))]) := by
  refine si_of (cc := cX0_madeBy) (maxL := 6) (by decide) rfl (Nat.le_of_ble_eq_true rfl) ?_
  intro p e s m args below meth c A ls Q E hret
  obtain ⟨hx, hb, -, hml, hown, hts, -, hin, hA, hK, hP, hD, hS, hl, hN⟩ := E
  have hown : s.vm.findClass RX0 = some m.cls := hown
  have hl : lv_has ls 6 [(0, .ref b), (1, .ref w), (2, .int h)] := hl
  have SF : CallFix p m c cX0_madeBy 6 s args wsX0_madeBy RX0 := ⟨hx, hb, hml, hown, hts⟩
  have hw0 := hts (.fieldLink RX0 92 "LatestSets$Board" "height" "I") (by decide +kernel)
  have hi0 : ∀ x ∈ wsX00, x ∈ wsX0_madeBy := by decide +kernel
  have hw2 := hts (.fieldLink RX0 95 "LatestSets$Law" "length" "I") (by decide +kernel)
  have hi4 : ∀ x ∈ wsX40, x ∈ wsX0_madeBy := by decide +kernel
  have hw4 := hts (.fieldLink RX0 100 "LatestSets$Law" "signs" "[I") (by decide +kernel)
  have hw5 := hts (.methodLink RX0 55 Lib.Math.min.name) (by decide +kernel)
  have hw6 := hts (.static Lib.Math.min.name) (by decide +kernel)
  have hw7 := hts (.initialized "java/lang/Math") (by decide +kernel)
  have hw8 := hts (.code Lib.Math.min.name Lib.Math.min.code 2 (some .int)) (by decide +kernel)
  have hw9 := hts (.methodLink RX0 61 Lib.Math.max.name) (by decide +kernel)
  have hw10 := hts (.static Lib.Math.max.name) (by decide +kernel)
  have hw11 := hts (.code Lib.Math.max.name Lib.Math.max.code 2 (some .int)) (by decide +kernel)
  have hw12 := hts (.fieldLink RX0 15 "LatestSets$Board" "came" "[I") (by decide +kernel)
  refine lv_aload_n hx hb dX0_madeBy_0 rfl (lv_at hl 0 rfl) ?_
  refine lv_iconst (v := nI 0) hx hb dX0_madeBy_1 (by decide) ?_
  refine va_put (D := D) (ci := 0) (v := .int (nI 0)) (ty := .int) (C := RX0) (T := TX0) (N := 5) hx hb hts hi0 tyX0 tyX0_ok nmX0 hown hK hP hD hS 0 rfl rfl 4 (by decide) hw0 (fun _ h9 => h9) rfl (by decide +kernel) rfl rfl (Nat.le_of_ble_eq_true rfl) dX0_madeBy_2 (fun H locs hP hD hS => ?_)
  have hP : va_P D vwCl [(b, .inr (0, [.ref g, .ref bt, .ref bc, .ref bs, .int (nI 0)])), (g, .inr (3, [.ref ge, .ref gl, .ref gb, .ref gw, .ref gsw, .ref gsh, .int si, .int (nI n), .int fi])), (bc, .inl (cI, 6, .inl cm)), (bs, .inl (cI, 20, .inl fk)), (w, .inr (4, [.ref sg, .int (nI nl)])), (sg, .inl (cI, 20, .inl fs))] H := hP
  have hD : va_D A [(b, .inr (0, [.ref g, .ref bt, .ref bc, .ref bs, .int (nI 0)])), (g, .inr (3, [.ref ge, .ref gl, .ref gb, .ref gw, .ref gsw, .ref gsh, .int si, .int (nI n), .int fi])), (bc, .inl (cI, 6, .inl cm)), (bs, .inl (cI, 20, .inl fk)), (w, .inr (4, [.ref sg, .int (nI nl)])), (sg, .inl (cI, 20, .inl fs))] := hD
  refine lv_iconst (v := nI 0) hx hb dX0_madeBy_5 (by decide) ?_
  refine lv_istore_n (lv' := [(3, .int (nI 0)), (0, .ref b), (1, .ref w), (2, .int h)]) hx hb dX0_madeBy_6 rfl hl (by decide) rfl (fun ls hl => ?_)
  have hn20 := hV.1
  have hnp := VL_pos hV
  refine lv_aload_n hx hb dX0_madeBy_7 rfl (lv_at hl 2 rfl) ?_
  refine va_get (D := D) (ci := 4) (v := .int (nI nl)) (C := RX4) (T := TX4) (N := 2) hx hb hts hi4 hown hK hP 4 rfl rfl 1 (by decide) hw2 (fun _ h9 => h9) rfl dX0_madeBy_8 ?_
  refine lv_iconst (v := nI 1) hx hb dX0_madeBy_11 (by decide) ?_
  refine lv_isub hx hb dX0_madeBy_12 ?_
  refine lv_topi (fun y9 e9 => ?_)
  have e9 : nI nl + (-1) = y9 := (e9.trans (i_sub1 _)).symm
  subst e9
  refine lv_istore (lv' := [(4, .int (nI nl + (-1))), (3, .int (nI 0)), (0, .ref b), (1, .ref w), (2, .int h)]) hx hb dX0_madeBy_13 hl (by decide) rfl (fun ls hl => ?_)
  have L15 : ∀ (n9 : Nat) (q r : Nat) (L : List Int32) (f : Nat → Int32) (dg : Int32) (hq : q + r = nl) (hL : L = ev fs (lfC cm n h) r q) (hs : stk f L) (hd : (ps fs q).2 = true → dg = fs q - nI 48), q < n9 → ∀ (H : Heap) (locs : List Loc), va_P D vwCl [(b, .inr (0, [.ref g, .ref bt, .ref bc, .ref bs, .int (nI L.length)])), (g, .inr (3, [.ref ge, .ref gl, .ref gb, .ref gw, .ref gsw, .ref gsh, .int si, .int (nI n), .int fi])), (bc, .inl (cI, 6, .inl cm)), (bs, .inl (cI, 20, .inl f)), (w, .inr (4, [.ref sg, .int (nI nl)])), (sg, .inl (cI, 20, .inl fs))] H → va_D A [(b, .inr (0, [.ref g, .ref bt, .ref bc, .ref bs, .int (nI L.length)])), (g, .inr (3, [.ref ge, .ref gl, .ref gb, .ref gw, .ref gsw, .ref gsh, .int si, .int (nI n), .int fi])), (bc, .inl (cI, 6, .inl cm)), (bs, .inl (cI, 20, .inl f)), (w, .inr (4, [.ref sg, .int (nI nl)])), (sg, .inl (cI, 20, .inl fs))] → va_S A s.heap H locs → ∀ (ls : Array Slot), lv_has ls 6 [(0, .ref b), (1, .ref w), (2, .int h), (3, .int dg), (4, .int (nI q + (-1)))] → W p l e rm_X0_madeBy s m args below meth c H locs 0 0 Q (F0 m 15 ls []) := by
    intro n9
    induction n9 with
    | zero => intro q r L f dg hq hL hs hd hm; exact absurd hm (Nat.not_lt_zero _)
    | succ n9 ih15 =>
      intro q r L f dg hq hL hs hd hm15 H locs hP hD hS ls hl
      rcases Nat.eq_zero_or_pos q with e9 | e9
      · subst e9
        have e8 : nI 0 + (-1) = (-1 : Int32) := by decide
        rw [e8] at hl
        refine lv_iload hx hb dX0_madeBy_15 (lv_at hl 4 rfl) ?_
        refine lv_if_lt (tgt := 260) hx hb dX0_madeBy_17 (by decide) (fun _ => ?_) (fun c9 => absurd (by decide) c9)
        refine lv_aload_n hx hb dX0_madeBy_260 rfl (lv_at hl 0 rfl) ?_
        have hlen := ev_len (lf := lfC cm n h) hV r 0 (by omega)
        rw [← hL] at hlen
        have hle := ev_le (sg := fs) (lf := lfC cm n h) r 0
        rw [← hL] at hle
        obtain ⟨a1, t1, rfl⟩ := len1 (L := L) (by rw [hlen]; exact Nat.le_of_eq rfl)
        simp only [List.length_cons] at hle
        refine cal_i (run_V (As := []) (rest := []) SF (c_pop l D cI cJ cZ cG cM b bt bc bs g t1.length f (by omega)) (cwV 0 hts gX0_madeBy_X0_pop rfl rfl rfl (by decide +kernel) ⟨Nat.le_of_ble_eq_true rfl, Nat.le_of_ble_eq_true rfl⟩) hN hK hP hD [0, 3] rfl (by decide) 0 0 rfl rfl rfl rfl hl.1 rfl (Nat.le_of_ble_eq_true rfl) dX0_madeBy_261 ⟨Nat.le_of_ble_eq_true rfl, Nat.le_of_ble_eq_true rfl⟩) ⟨rfl, rfl⟩ hP hD hS hA [0, 3] rfl (fun _ => rfl) (fun r9 _ H locs hw hP hD hS => ?_)
        have hP : va_P D vwCl [(b, .inr (0, [.ref g, .ref bt, .ref bc, .ref bs, .int (nI t1.length)])), (g, .inr (3, [.ref ge, .ref gl, .ref gb, .ref gw, .ref gsw, .ref gsh, .int si, .int (nI n), .int fi])), (bc, .inl (cI, 6, .inl cm)), (bs, .inl (cI, 20, .inl f)), (w, .inr (4, [.ref sg, .int (nI nl)])), (sg, .inl (cI, 20, .inl fs))] H := hP
        have hD : va_D A [(b, .inr (0, [.ref g, .ref bt, .ref bc, .ref bs, .int (nI t1.length)])), (g, .inr (3, [.ref ge, .ref gl, .ref gb, .ref gw, .ref gsw, .ref gsh, .int si, .int (nI n), .int fi])), (bc, .inl (cI, 6, .inl cm)), (bs, .inl (cI, 20, .inl f)), (w, .inr (4, [.ref sg, .int (nI nl)])), (sg, .inl (cI, 20, .inl fs))] := hD
        have hw := (hw.trans hs.1).symm
        subst hw
        have hs261 := hs.2
        have e8 : r = nl := by omega
        subst e8
        exact hret a1 ((f, nI t1.length)) _ _ _ _ dX0_madeBy_264 (by show a1 = (ev fs (lfC cm n h) _ 0).headD 0; rw [← hL]; rfl) hP hD hS
      · obtain ⟨q, rfl⟩ : ∃ i, q = i + 1 := ⟨q - 1, by omega⟩
        rw [pk_m1] at hl
        obtain ⟨v1, v2, v3⟩ := hV.2.1 q (by omega)
        have hlen := ev_len (lf := lfC cm n h) hV r (q + 1) (by omega)
        have hle := ev_le (sg := fs) (lf := lfC cm n h) r (q + 1)
        rw [← hL] at hlen hle
        refine lv_iload hx hb dX0_madeBy_15 (lv_at hl 4 rfl) ?_
        refine lv_if_lt (tgt := 260) hx hb dX0_madeBy_17 (by decide) (fun c17 => ?_) (fun c17 => ?_)
        · exact absurd c17 (nI_pos (by omega))
        · refine lv_aload_n hx hb dX0_madeBy_20 rfl (lv_at hl 1 rfl) ?_
          refine va_get (D := D) (ci := 4) (v := .ref sg) (C := RX4) (T := TX4) (N := 2) hx hb hts hi4 hown hK hP 4 rfl rfl 0 (by decide) hw4 (fun _ h9 => h9) rfl dX0_madeBy_21 ?_
          refine lv_iload hx hb dX0_madeBy_24 (lv_at hl 4 rfl) ?_
          refine iald_n (k := q) hx hb hK hP 5 0 rfl rfl (by omega) (by omega) dX0_madeBy_26 ?_
          refine lv_istore (lv' := [(5, .int (fs q)), (0, .ref b), (1, .ref w), (2, .int h), (3, .int dg), (4, .int (nI q))]) hx hb dX0_madeBy_27 hl (by decide) rfl (fun ls hl => ?_)
          refine lv_iload hx hb dX0_madeBy_29 (lv_at hl 0 rfl) ?_
          by_cases e43 : fs q = nI 43
          · refine lv_lookup (off := 178) (tgt := 209) hx hb dX0_madeBy_31 (by decide +kernel) (by rw [e43]; decide +kernel) (by decide) ?_
            have hf : (ps fs q).2 = false := by cases e9 : (ps fs q).2 with | false => rfl | true => exact absurd e43 (dgt_ne (v2 e9) (by omega))
            rw [ps_f hf] at hlen
            have hp : pN (fs q) = 1 := by rw [e43]; decide
            simp only [hp] at hlen
            obtain ⟨a1, t1, rfl⟩ := len1 (L := L) (by omega)
            simp only [List.length_cons] at hlen hle
            have hdg := hd (VL_sh hV (by omega) (by rw [e43]; decide))
            subst hdg
            refine lv_aload_n hx hb dX0_madeBy_209 rfl (lv_at hl 1 rfl) ?_
            refine lv_aload_n hx hb dX0_madeBy_210 rfl (lv_at hl 1 rfl) ?_
            refine cal_i (run_V (As := []) (rest := [.ref b]) SF (c_pop l D cI cJ cZ cG cM b bt bc bs g t1.length f (by omega)) (cwV 0 hts gX0_madeBy_X0_pop rfl rfl rfl (by decide +kernel) ⟨Nat.le_of_ble_eq_true rfl, Nat.le_of_ble_eq_true rfl⟩) hN hK hP hD [0, 3] rfl (by decide) 0 0 rfl rfl rfl rfl hl.1 rfl (Nat.le_of_ble_eq_true rfl) dX0_madeBy_211 ⟨Nat.le_of_ble_eq_true rfl, Nat.le_of_ble_eq_true rfl⟩) ⟨rfl, rfl⟩ hP hD hS hA [0, 3] rfl (fun _ => rfl) (fun r9 _ H locs hw hP hD hS => ?_)
            have hP : va_P D vwCl [(b, .inr (0, [.ref g, .ref bt, .ref bc, .ref bs, .int (nI t1.length)])), (g, .inr (3, [.ref ge, .ref gl, .ref gb, .ref gw, .ref gsw, .ref gsh, .int si, .int (nI n), .int fi])), (bc, .inl (cI, 6, .inl cm)), (bs, .inl (cI, 20, .inl f)), (w, .inr (4, [.ref sg, .int (nI nl)])), (sg, .inl (cI, 20, .inl fs))] H := hP
            have hD : va_D A [(b, .inr (0, [.ref g, .ref bt, .ref bc, .ref bs, .int (nI t1.length)])), (g, .inr (3, [.ref ge, .ref gl, .ref gb, .ref gw, .ref gsw, .ref gsh, .int si, .int (nI n), .int fi])), (bc, .inl (cI, 6, .inl cm)), (bs, .inl (cI, 20, .inl f)), (w, .inr (4, [.ref sg, .int (nI nl)])), (sg, .inl (cI, 20, .inl fs))] := hD
            have hw := (hw.trans hs.1).symm
            subst hw
            have hs211 := hs.2
            refine lv_iload_n hx hb dX0_madeBy_214 rfl (lv_at hl 4 rfl) ?_
            refine lv_iadd hx hb dX0_madeBy_215 ?_
            refine cal_v (run_V (As := [.int (a1 + (fs (q + 1) - nI 48))]) (rest := []) SF (c_push l D cI cJ cZ cG cM b bt bc bs g t1.length f (a1 + (fs (q + 1) - nI 48)) (by omega)) (cwV 1 hts gX0_madeBy_X0_push rfl rfl rfl (by decide +kernel) ⟨Nat.le_of_ble_eq_true rfl, Nat.le_of_ble_eq_true rfl⟩) hN hK hP hD [0, 3] rfl (by decide) 0 0 rfl rfl rfl rfl hl.1 rfl (Nat.le_of_ble_eq_true rfl) dX0_madeBy_216 ⟨Nat.le_of_ble_eq_true rfl, Nat.le_of_ble_eq_true rfl⟩) ⟨rfl, rfl⟩ hP hD hS hA [0, 3] rfl (fun _ => rfl) (fun _ H locs hw hP hD hS => ?_)
            have hP : va_P D vwCl [(b, .inr (0, [.ref g, .ref bt, .ref bc, .ref bs, .int (nI (t1.length + 1))])), (g, .inr (3, [.ref ge, .ref gl, .ref gb, .ref gw, .ref gsw, .ref gsh, .int si, .int (nI n), .int fi])), (bc, .inl (cI, 6, .inl cm)), (bs, .inl (cI, 20, .inl (upd f t1.length (a1 + (fs (q + 1) - nI 48))))), (w, .inr (4, [.ref sg, .int (nI nl)])), (sg, .inl (cI, 20, .inl fs))] H := hP
            have hD : va_D A [(b, .inr (0, [.ref g, .ref bt, .ref bc, .ref bs, .int (nI (t1.length + 1))])), (g, .inr (3, [.ref ge, .ref gl, .ref gb, .ref gw, .ref gsw, .ref gsh, .int si, .int (nI n), .int fi])), (bc, .inl (cI, 6, .inl cm)), (bs, .inl (cI, 20, .inl (upd f t1.length (a1 + (fs (q + 1) - nI 48))))), (w, .inr (4, [.ref sg, .int (nI nl)])), (sg, .inl (cI, 20, .inl fs))] := hD
            have hs216 := stk_push (x := a1 + (fs (q + 1) - nI 48)) hs211
            refine lv_goto (tgt := 254) hx hb dX0_madeBy_219 (by decide) ?_
            refine lv_iinc (v := nI q + (-1)) (lv' := [(4, .int (nI q + (-1))), (5, .int (fs q)), (0, .ref b), (1, .ref w), (2, .int h), (3, .int (fs (q + 1) - nI 48))]) hx hb dX0_madeBy_254 hl (k := 5) rfl rfl (by decide) rfl (fun ls hl => ?_)
            refine lv_goto (tgt := 15) hx hb dX0_madeBy_257 (by decide) ?_
            exact ih15 q (r + 1) ((a1 + (fs (q + 1) - nI 48)) :: t1) (upd f t1.length (a1 + (fs (q + 1) - nI 48))) (fs (q + 1) - nI 48) ((by omega)) ((by show _ = stp _ (fs q) (fs (q + 1)) (ev fs _ r (q + 1)); rw [← hL, stp_pl e43])) hs216 ((fun e9 => absurd e9 (by rw [hf]; decide))) (by omega) _ _ hP hD hS _ (lv_sub hl [2, 3, 4, 5, 0] rfl)
          · skip
            by_cases e45 : fs q = nI 45
            · refine lv_lookup (off := 165) (tgt := 196) hx hb dX0_madeBy_31 (by decide +kernel) (by rw [e45]; decide +kernel) (by decide) ?_
              have hf : (ps fs q).2 = false := by cases e9 : (ps fs q).2 with | false => rfl | true => exact absurd e45 (dgt_ne (v2 e9) (by omega))
              rw [ps_f hf] at hlen
              have hp : pN (fs q) = 1 := by rw [e45]; decide
              simp only [hp] at hlen
              obtain ⟨a1, t1, rfl⟩ := len1 (L := L) (by omega)
              simp only [List.length_cons] at hlen hle
              have hdg := hd (VL_sh hV (by omega) (by rw [e45]; decide))
              subst hdg
              refine lv_aload_n hx hb dX0_madeBy_196 rfl (lv_at hl 1 rfl) ?_
              refine lv_aload_n hx hb dX0_madeBy_197 rfl (lv_at hl 1 rfl) ?_
              refine cal_i (run_V (As := []) (rest := [.ref b]) SF (c_pop l D cI cJ cZ cG cM b bt bc bs g t1.length f (by omega)) (cwV 0 hts gX0_madeBy_X0_pop rfl rfl rfl (by decide +kernel) ⟨Nat.le_of_ble_eq_true rfl, Nat.le_of_ble_eq_true rfl⟩) hN hK hP hD [0, 3] rfl (by decide) 0 0 rfl rfl rfl rfl hl.1 rfl (Nat.le_of_ble_eq_true rfl) dX0_madeBy_198 ⟨Nat.le_of_ble_eq_true rfl, Nat.le_of_ble_eq_true rfl⟩) ⟨rfl, rfl⟩ hP hD hS hA [0, 3] rfl (fun _ => rfl) (fun r9 _ H locs hw hP hD hS => ?_)
              have hP : va_P D vwCl [(b, .inr (0, [.ref g, .ref bt, .ref bc, .ref bs, .int (nI t1.length)])), (g, .inr (3, [.ref ge, .ref gl, .ref gb, .ref gw, .ref gsw, .ref gsh, .int si, .int (nI n), .int fi])), (bc, .inl (cI, 6, .inl cm)), (bs, .inl (cI, 20, .inl f)), (w, .inr (4, [.ref sg, .int (nI nl)])), (sg, .inl (cI, 20, .inl fs))] H := hP
              have hD : va_D A [(b, .inr (0, [.ref g, .ref bt, .ref bc, .ref bs, .int (nI t1.length)])), (g, .inr (3, [.ref ge, .ref gl, .ref gb, .ref gw, .ref gsw, .ref gsh, .int si, .int (nI n), .int fi])), (bc, .inl (cI, 6, .inl cm)), (bs, .inl (cI, 20, .inl f)), (w, .inr (4, [.ref sg, .int (nI nl)])), (sg, .inl (cI, 20, .inl fs))] := hD
              have hw := (hw.trans hs.1).symm
              subst hw
              have hs198 := hs.2
              refine lv_iload_n hx hb dX0_madeBy_201 rfl (lv_at hl 4 rfl) ?_
              refine lv_isub hx hb dX0_madeBy_202 ?_
              refine cal_v (run_V (As := [.int (a1 - (fs (q + 1) - nI 48))]) (rest := []) SF (c_push l D cI cJ cZ cG cM b bt bc bs g t1.length f (a1 - (fs (q + 1) - nI 48)) (by omega)) (cwV 1 hts gX0_madeBy_X0_push rfl rfl rfl (by decide +kernel) ⟨Nat.le_of_ble_eq_true rfl, Nat.le_of_ble_eq_true rfl⟩) hN hK hP hD [0, 3] rfl (by decide) 0 0 rfl rfl rfl rfl hl.1 rfl (Nat.le_of_ble_eq_true rfl) dX0_madeBy_203 ⟨Nat.le_of_ble_eq_true rfl, Nat.le_of_ble_eq_true rfl⟩) ⟨rfl, rfl⟩ hP hD hS hA [0, 3] rfl (fun _ => rfl) (fun _ H locs hw hP hD hS => ?_)
              have hP : va_P D vwCl [(b, .inr (0, [.ref g, .ref bt, .ref bc, .ref bs, .int (nI (t1.length + 1))])), (g, .inr (3, [.ref ge, .ref gl, .ref gb, .ref gw, .ref gsw, .ref gsh, .int si, .int (nI n), .int fi])), (bc, .inl (cI, 6, .inl cm)), (bs, .inl (cI, 20, .inl (upd f t1.length (a1 - (fs (q + 1) - nI 48))))), (w, .inr (4, [.ref sg, .int (nI nl)])), (sg, .inl (cI, 20, .inl fs))] H := hP
              have hD : va_D A [(b, .inr (0, [.ref g, .ref bt, .ref bc, .ref bs, .int (nI (t1.length + 1))])), (g, .inr (3, [.ref ge, .ref gl, .ref gb, .ref gw, .ref gsw, .ref gsh, .int si, .int (nI n), .int fi])), (bc, .inl (cI, 6, .inl cm)), (bs, .inl (cI, 20, .inl (upd f t1.length (a1 - (fs (q + 1) - nI 48))))), (w, .inr (4, [.ref sg, .int (nI nl)])), (sg, .inl (cI, 20, .inl fs))] := hD
              have hs203 := stk_push (x := a1 - (fs (q + 1) - nI 48)) hs198
              refine lv_goto (tgt := 254) hx hb dX0_madeBy_206 (by decide) ?_
              refine lv_iinc (v := nI q + (-1)) (lv' := [(4, .int (nI q + (-1))), (5, .int (fs q)), (0, .ref b), (1, .ref w), (2, .int h), (3, .int (fs (q + 1) - nI 48))]) hx hb dX0_madeBy_254 hl (k := 5) rfl rfl (by decide) rfl (fun ls hl => ?_)
              refine lv_goto (tgt := 15) hx hb dX0_madeBy_257 (by decide) ?_
              exact ih15 q (r + 1) ((a1 - (fs (q + 1) - nI 48)) :: t1) (upd f t1.length (a1 - (fs (q + 1) - nI 48))) (fs (q + 1) - nI 48) ((by omega)) ((by show _ = stp _ (fs q) (fs (q + 1)) (ev fs _ r (q + 1)); rw [← hL, stp_mi e45])) hs203 ((fun e9 => absurd e9 (by rw [hf]; decide))) (by omega) _ _ hP hD hS _ (lv_sub hl [2, 3, 4, 5, 0] rfl)
            · skip
              by_cases e47 : fs q = nI 47
              · refine lv_lookup (off := 133) (tgt := 164) hx hb dX0_madeBy_31 (by decide +kernel) (by rw [e47]; decide +kernel) (by decide) ?_
                have hf : (ps fs q).2 = false := by cases e9 : (ps fs q).2 with | false => rfl | true => exact absurd e47 (dgt_ne (v2 e9) (by omega))
                rw [ps_f hf] at hlen
                have hp : pN (fs q) = 2 := by rw [e47]; decide
                simp only [hp] at hlen
                obtain ⟨a1, a2, t1, rfl⟩ := len2 (L := L) (by omega)
                simp only [List.length_cons] at hlen hle
                refine lv_aload_n hx hb dX0_madeBy_164 rfl (lv_at hl 1 rfl) ?_
                refine lv_aload_n hx hb dX0_madeBy_165 rfl (lv_at hl 1 rfl) ?_
                refine cal_i (run_V (As := []) (rest := [.ref b]) SF (c_pop l D cI cJ cZ cG cM b bt bc bs g (t1.length + 1) f (by omega)) (cwV 0 hts gX0_madeBy_X0_pop rfl rfl rfl (by decide +kernel) ⟨Nat.le_of_ble_eq_true rfl, Nat.le_of_ble_eq_true rfl⟩) hN hK hP hD [0, 3] rfl (by decide) 0 0 rfl rfl rfl rfl hl.1 rfl (Nat.le_of_ble_eq_true rfl) dX0_madeBy_166 ⟨Nat.le_of_ble_eq_true rfl, Nat.le_of_ble_eq_true rfl⟩) ⟨rfl, rfl⟩ hP hD hS hA [0, 3] rfl (fun _ => rfl) (fun r9 _ H locs hw hP hD hS => ?_)
                have hP : va_P D vwCl [(b, .inr (0, [.ref g, .ref bt, .ref bc, .ref bs, .int (nI (t1.length + 1))])), (g, .inr (3, [.ref ge, .ref gl, .ref gb, .ref gw, .ref gsw, .ref gsh, .int si, .int (nI n), .int fi])), (bc, .inl (cI, 6, .inl cm)), (bs, .inl (cI, 20, .inl f)), (w, .inr (4, [.ref sg, .int (nI nl)])), (sg, .inl (cI, 20, .inl fs))] H := hP
                have hD : va_D A [(b, .inr (0, [.ref g, .ref bt, .ref bc, .ref bs, .int (nI (t1.length + 1))])), (g, .inr (3, [.ref ge, .ref gl, .ref gb, .ref gw, .ref gsw, .ref gsh, .int si, .int (nI n), .int fi])), (bc, .inl (cI, 6, .inl cm)), (bs, .inl (cI, 20, .inl f)), (w, .inr (4, [.ref sg, .int (nI nl)])), (sg, .inl (cI, 20, .inl fs))] := hD
                have hw := (hw.trans hs.1).symm
                subst hw
                have hs166 := hs.2
                refine lv_aload_n hx hb dX0_madeBy_169 rfl (lv_at hl 1 rfl) ?_
                refine cal_i (run_V (As := []) (rest := [.int a1, .ref b]) SF (c_pop l D cI cJ cZ cG cM b bt bc bs g t1.length f (by omega)) (cwV 0 hts gX0_madeBy_X0_pop rfl rfl rfl (by decide +kernel) ⟨Nat.le_of_ble_eq_true rfl, Nat.le_of_ble_eq_true rfl⟩) hN hK hP hD [0, 3] rfl (by decide) 0 0 rfl rfl rfl rfl hl.1 rfl (Nat.le_of_ble_eq_true rfl) dX0_madeBy_170 ⟨Nat.le_of_ble_eq_true rfl, Nat.le_of_ble_eq_true rfl⟩) ⟨rfl, rfl⟩ hP hD hS hA [0, 3] rfl (fun _ => rfl) (fun r9 _ H locs hw hP hD hS => ?_)
                have hP : va_P D vwCl [(b, .inr (0, [.ref g, .ref bt, .ref bc, .ref bs, .int (nI t1.length)])), (g, .inr (3, [.ref ge, .ref gl, .ref gb, .ref gw, .ref gsw, .ref gsh, .int si, .int (nI n), .int fi])), (bc, .inl (cI, 6, .inl cm)), (bs, .inl (cI, 20, .inl f)), (w, .inr (4, [.ref sg, .int (nI nl)])), (sg, .inl (cI, 20, .inl fs))] H := hP
                have hD : va_D A [(b, .inr (0, [.ref g, .ref bt, .ref bc, .ref bs, .int (nI t1.length)])), (g, .inr (3, [.ref ge, .ref gl, .ref gb, .ref gw, .ref gsw, .ref gsh, .int si, .int (nI n), .int fi])), (bc, .inl (cI, 6, .inl cm)), (bs, .inl (cI, 20, .inl f)), (w, .inr (4, [.ref sg, .int (nI nl)])), (sg, .inl (cI, 20, .inl fs))] := hD
                have hw := (hw.trans hs166.1).symm
                subst hw
                have hs170 := hs166.2
                refine lv_iadd hx hb dX0_madeBy_173 ?_
                refine lv_iconst (v := nI 2) hx hb dX0_madeBy_174 (by decide) ?_
                refine lv_idiv hx hb dX0_madeBy_175 (by decide) ?_
                refine cal_v (run_V (As := [.int ((a1 + a2) / (nI 2))]) (rest := []) SF (c_push l D cI cJ cZ cG cM b bt bc bs g t1.length f ((a1 + a2) / (nI 2)) (by omega)) (cwV 1 hts gX0_madeBy_X0_push rfl rfl rfl (by decide +kernel) ⟨Nat.le_of_ble_eq_true rfl, Nat.le_of_ble_eq_true rfl⟩) hN hK hP hD [0, 3] rfl (by decide) 0 0 rfl rfl rfl rfl hl.1 rfl (Nat.le_of_ble_eq_true rfl) dX0_madeBy_176 ⟨Nat.le_of_ble_eq_true rfl, Nat.le_of_ble_eq_true rfl⟩) ⟨rfl, rfl⟩ hP hD hS hA [0, 3] rfl (fun _ => rfl) (fun _ H locs hw hP hD hS => ?_)
                have hP : va_P D vwCl [(b, .inr (0, [.ref g, .ref bt, .ref bc, .ref bs, .int (nI (t1.length + 1))])), (g, .inr (3, [.ref ge, .ref gl, .ref gb, .ref gw, .ref gsw, .ref gsh, .int si, .int (nI n), .int fi])), (bc, .inl (cI, 6, .inl cm)), (bs, .inl (cI, 20, .inl (upd f t1.length ((a1 + a2) / (nI 2))))), (w, .inr (4, [.ref sg, .int (nI nl)])), (sg, .inl (cI, 20, .inl fs))] H := hP
                have hD : va_D A [(b, .inr (0, [.ref g, .ref bt, .ref bc, .ref bs, .int (nI (t1.length + 1))])), (g, .inr (3, [.ref ge, .ref gl, .ref gb, .ref gw, .ref gsw, .ref gsh, .int si, .int (nI n), .int fi])), (bc, .inl (cI, 6, .inl cm)), (bs, .inl (cI, 20, .inl (upd f t1.length ((a1 + a2) / (nI 2))))), (w, .inr (4, [.ref sg, .int (nI nl)])), (sg, .inl (cI, 20, .inl fs))] := hD
                have hs176 := stk_push (x := (a1 + a2) / (nI 2)) hs170
                refine lv_goto (tgt := 254) hx hb dX0_madeBy_179 (by decide) ?_
                refine lv_iinc (v := nI q + (-1)) (lv' := [(4, .int (nI q + (-1))), (5, .int (fs q)), (0, .ref b), (1, .ref w), (2, .int h), (3, .int dg)]) hx hb dX0_madeBy_254 hl (k := 5) rfl rfl (by decide) rfl (fun ls hl => ?_)
                refine lv_goto (tgt := 15) hx hb dX0_madeBy_257 (by decide) ?_
                exact ih15 q (r + 1) (((a1 + a2) / (nI 2)) :: t1) (upd f t1.length ((a1 + a2) / (nI 2))) dg ((by omega)) ((by show _ = stp _ (fs q) (fs (q + 1)) (ev fs _ r (q + 1)); rw [← hL, stp_dv e47])) hs176 ((fun e9 => absurd e9 (by rw [hf]; decide))) (by omega) _ _ hP hD hS _ (lv_sub hl [2, 3, 4, 5, 0] rfl)
              · skip
                by_cases e60 : fs q = nI 60
                · refine lv_lookup (off := 97) (tgt := 128) hx hb dX0_madeBy_31 (by decide +kernel) (by rw [e60]; decide +kernel) (by decide) ?_
                  have hf : (ps fs q).2 = false := by cases e9 : (ps fs q).2 with | false => rfl | true => exact absurd e60 (dgt_ne (v2 e9) (by omega))
                  rw [ps_f hf] at hlen
                  have hp : pN (fs q) = 2 := by rw [e60]; decide
                  simp only [hp] at hlen
                  obtain ⟨a1, a2, t1, rfl⟩ := len2 (L := L) (by omega)
                  simp only [List.length_cons] at hlen hle
                  refine lv_aload_n hx hb dX0_madeBy_128 rfl (lv_at hl 1 rfl) ?_
                  refine lv_aload_n hx hb dX0_madeBy_129 rfl (lv_at hl 1 rfl) ?_
                  refine cal_i (run_V (As := []) (rest := [.ref b]) SF (c_pop l D cI cJ cZ cG cM b bt bc bs g (t1.length + 1) f (by omega)) (cwV 0 hts gX0_madeBy_X0_pop rfl rfl rfl (by decide +kernel) ⟨Nat.le_of_ble_eq_true rfl, Nat.le_of_ble_eq_true rfl⟩) hN hK hP hD [0, 3] rfl (by decide) 0 0 rfl rfl rfl rfl hl.1 rfl (Nat.le_of_ble_eq_true rfl) dX0_madeBy_130 ⟨Nat.le_of_ble_eq_true rfl, Nat.le_of_ble_eq_true rfl⟩) ⟨rfl, rfl⟩ hP hD hS hA [0, 3] rfl (fun _ => rfl) (fun r9 _ H locs hw hP hD hS => ?_)
                  have hP : va_P D vwCl [(b, .inr (0, [.ref g, .ref bt, .ref bc, .ref bs, .int (nI (t1.length + 1))])), (g, .inr (3, [.ref ge, .ref gl, .ref gb, .ref gw, .ref gsw, .ref gsh, .int si, .int (nI n), .int fi])), (bc, .inl (cI, 6, .inl cm)), (bs, .inl (cI, 20, .inl f)), (w, .inr (4, [.ref sg, .int (nI nl)])), (sg, .inl (cI, 20, .inl fs))] H := hP
                  have hD : va_D A [(b, .inr (0, [.ref g, .ref bt, .ref bc, .ref bs, .int (nI (t1.length + 1))])), (g, .inr (3, [.ref ge, .ref gl, .ref gb, .ref gw, .ref gsw, .ref gsh, .int si, .int (nI n), .int fi])), (bc, .inl (cI, 6, .inl cm)), (bs, .inl (cI, 20, .inl f)), (w, .inr (4, [.ref sg, .int (nI nl)])), (sg, .inl (cI, 20, .inl fs))] := hD
                  have hw := (hw.trans hs.1).symm
                  subst hw
                  have hs130 := hs.2
                  refine lv_aload_n hx hb dX0_madeBy_133 rfl (lv_at hl 1 rfl) ?_
                  refine cal_i (run_V (As := []) (rest := [.int a1, .ref b]) SF (c_pop l D cI cJ cZ cG cM b bt bc bs g t1.length f (by omega)) (cwV 0 hts gX0_madeBy_X0_pop rfl rfl rfl (by decide +kernel) ⟨Nat.le_of_ble_eq_true rfl, Nat.le_of_ble_eq_true rfl⟩) hN hK hP hD [0, 3] rfl (by decide) 0 0 rfl rfl rfl rfl hl.1 rfl (Nat.le_of_ble_eq_true rfl) dX0_madeBy_134 ⟨Nat.le_of_ble_eq_true rfl, Nat.le_of_ble_eq_true rfl⟩) ⟨rfl, rfl⟩ hP hD hS hA [0, 3] rfl (fun _ => rfl) (fun r9 _ H locs hw hP hD hS => ?_)
                  have hP : va_P D vwCl [(b, .inr (0, [.ref g, .ref bt, .ref bc, .ref bs, .int (nI t1.length)])), (g, .inr (3, [.ref ge, .ref gl, .ref gb, .ref gw, .ref gsw, .ref gsh, .int si, .int (nI n), .int fi])), (bc, .inl (cI, 6, .inl cm)), (bs, .inl (cI, 20, .inl f)), (w, .inr (4, [.ref sg, .int (nI nl)])), (sg, .inl (cI, 20, .inl fs))] H := hP
                  have hD : va_D A [(b, .inr (0, [.ref g, .ref bt, .ref bc, .ref bs, .int (nI t1.length)])), (g, .inr (3, [.ref ge, .ref gl, .ref gb, .ref gw, .ref gsw, .ref gsh, .int si, .int (nI n), .int fi])), (bc, .inl (cI, 6, .inl cm)), (bs, .inl (cI, 20, .inl f)), (w, .inr (4, [.ref sg, .int (nI nl)])), (sg, .inl (cI, 20, .inl fs))] := hD
                  have hw := (hw.trans hs130.1).symm
                  subst hw
                  have hs134 := hs130.2
                  refine va_mmin hx hb (by rw [hml]; exact hl.1.symm) hown hw5 hw6 hw7 hw8 (Nat.le_of_ble_eq_true rfl) (Nat.le_of_ble_eq_true rfl) (Nat.zero_le _) (Nat.zero_le _) dX0_madeBy_137 ?_
                  refine cal_v (run_V (As := [.int (mnI a1 a2)]) (rest := []) SF (c_push l D cI cJ cZ cG cM b bt bc bs g t1.length f (mnI a1 a2) (by omega)) (cwV 1 hts gX0_madeBy_X0_push rfl rfl rfl (by decide +kernel) ⟨Nat.le_of_ble_eq_true rfl, Nat.le_of_ble_eq_true rfl⟩) hN hK hP hD [0, 3] rfl (by decide) 0 0 rfl rfl rfl rfl hl.1 rfl (Nat.le_of_ble_eq_true rfl) dX0_madeBy_140 ⟨Nat.le_of_ble_eq_true rfl, Nat.le_of_ble_eq_true rfl⟩) ⟨rfl, rfl⟩ hP hD hS hA [0, 3] rfl (fun _ => rfl) (fun _ H locs hw hP hD hS => ?_)
                  have hP : va_P D vwCl [(b, .inr (0, [.ref g, .ref bt, .ref bc, .ref bs, .int (nI (t1.length + 1))])), (g, .inr (3, [.ref ge, .ref gl, .ref gb, .ref gw, .ref gsw, .ref gsh, .int si, .int (nI n), .int fi])), (bc, .inl (cI, 6, .inl cm)), (bs, .inl (cI, 20, .inl (upd f t1.length (mnI a1 a2)))), (w, .inr (4, [.ref sg, .int (nI nl)])), (sg, .inl (cI, 20, .inl fs))] H := hP
                  have hD : va_D A [(b, .inr (0, [.ref g, .ref bt, .ref bc, .ref bs, .int (nI (t1.length + 1))])), (g, .inr (3, [.ref ge, .ref gl, .ref gb, .ref gw, .ref gsw, .ref gsh, .int si, .int (nI n), .int fi])), (bc, .inl (cI, 6, .inl cm)), (bs, .inl (cI, 20, .inl (upd f t1.length (mnI a1 a2)))), (w, .inr (4, [.ref sg, .int (nI nl)])), (sg, .inl (cI, 20, .inl fs))] := hD
                  have hs140 := stk_push (x := mnI a1 a2) hs134
                  refine lv_goto (tgt := 254) hx hb dX0_madeBy_143 (by decide) ?_
                  refine lv_iinc (v := nI q + (-1)) (lv' := [(4, .int (nI q + (-1))), (5, .int (fs q)), (0, .ref b), (1, .ref w), (2, .int h), (3, .int dg)]) hx hb dX0_madeBy_254 hl (k := 5) rfl rfl (by decide) rfl (fun ls hl => ?_)
                  refine lv_goto (tgt := 15) hx hb dX0_madeBy_257 (by decide) ?_
                  exact ih15 q (r + 1) ((mnI a1 a2) :: t1) (upd f t1.length (mnI a1 a2)) dg ((by omega)) ((by show _ = stp _ (fs q) (fs (q + 1)) (ev fs _ r (q + 1)); rw [← hL, stp_lt e60])) hs140 ((fun e9 => absurd e9 (by rw [hf]; decide))) (by omega) _ _ hP hD hS _ (lv_sub hl [2, 3, 4, 5, 0] rfl)
                · skip
                  by_cases e62 : fs q = nI 62
                  · refine lv_lookup (off := 115) (tgt := 146) hx hb dX0_madeBy_31 (by decide +kernel) (by rw [e62]; decide +kernel) (by decide) ?_
                    have hf : (ps fs q).2 = false := by cases e9 : (ps fs q).2 with | false => rfl | true => exact absurd e62 (dgt_ne (v2 e9) (by omega))
                    rw [ps_f hf] at hlen
                    have hp : pN (fs q) = 2 := by rw [e62]; decide
                    simp only [hp] at hlen
                    obtain ⟨a1, a2, t1, rfl⟩ := len2 (L := L) (by omega)
                    simp only [List.length_cons] at hlen hle
                    refine lv_aload_n hx hb dX0_madeBy_146 rfl (lv_at hl 1 rfl) ?_
                    refine lv_aload_n hx hb dX0_madeBy_147 rfl (lv_at hl 1 rfl) ?_
                    refine cal_i (run_V (As := []) (rest := [.ref b]) SF (c_pop l D cI cJ cZ cG cM b bt bc bs g (t1.length + 1) f (by omega)) (cwV 0 hts gX0_madeBy_X0_pop rfl rfl rfl (by decide +kernel) ⟨Nat.le_of_ble_eq_true rfl, Nat.le_of_ble_eq_true rfl⟩) hN hK hP hD [0, 3] rfl (by decide) 0 0 rfl rfl rfl rfl hl.1 rfl (Nat.le_of_ble_eq_true rfl) dX0_madeBy_148 ⟨Nat.le_of_ble_eq_true rfl, Nat.le_of_ble_eq_true rfl⟩) ⟨rfl, rfl⟩ hP hD hS hA [0, 3] rfl (fun _ => rfl) (fun r9 _ H locs hw hP hD hS => ?_)
                    have hP : va_P D vwCl [(b, .inr (0, [.ref g, .ref bt, .ref bc, .ref bs, .int (nI (t1.length + 1))])), (g, .inr (3, [.ref ge, .ref gl, .ref gb, .ref gw, .ref gsw, .ref gsh, .int si, .int (nI n), .int fi])), (bc, .inl (cI, 6, .inl cm)), (bs, .inl (cI, 20, .inl f)), (w, .inr (4, [.ref sg, .int (nI nl)])), (sg, .inl (cI, 20, .inl fs))] H := hP
                    have hD : va_D A [(b, .inr (0, [.ref g, .ref bt, .ref bc, .ref bs, .int (nI (t1.length + 1))])), (g, .inr (3, [.ref ge, .ref gl, .ref gb, .ref gw, .ref gsw, .ref gsh, .int si, .int (nI n), .int fi])), (bc, .inl (cI, 6, .inl cm)), (bs, .inl (cI, 20, .inl f)), (w, .inr (4, [.ref sg, .int (nI nl)])), (sg, .inl (cI, 20, .inl fs))] := hD
                    have hw := (hw.trans hs.1).symm
                    subst hw
                    have hs148 := hs.2
                    refine lv_aload_n hx hb dX0_madeBy_151 rfl (lv_at hl 1 rfl) ?_
                    refine cal_i (run_V (As := []) (rest := [.int a1, .ref b]) SF (c_pop l D cI cJ cZ cG cM b bt bc bs g t1.length f (by omega)) (cwV 0 hts gX0_madeBy_X0_pop rfl rfl rfl (by decide +kernel) ⟨Nat.le_of_ble_eq_true rfl, Nat.le_of_ble_eq_true rfl⟩) hN hK hP hD [0, 3] rfl (by decide) 0 0 rfl rfl rfl rfl hl.1 rfl (Nat.le_of_ble_eq_true rfl) dX0_madeBy_152 ⟨Nat.le_of_ble_eq_true rfl, Nat.le_of_ble_eq_true rfl⟩) ⟨rfl, rfl⟩ hP hD hS hA [0, 3] rfl (fun _ => rfl) (fun r9 _ H locs hw hP hD hS => ?_)
                    have hP : va_P D vwCl [(b, .inr (0, [.ref g, .ref bt, .ref bc, .ref bs, .int (nI t1.length)])), (g, .inr (3, [.ref ge, .ref gl, .ref gb, .ref gw, .ref gsw, .ref gsh, .int si, .int (nI n), .int fi])), (bc, .inl (cI, 6, .inl cm)), (bs, .inl (cI, 20, .inl f)), (w, .inr (4, [.ref sg, .int (nI nl)])), (sg, .inl (cI, 20, .inl fs))] H := hP
                    have hD : va_D A [(b, .inr (0, [.ref g, .ref bt, .ref bc, .ref bs, .int (nI t1.length)])), (g, .inr (3, [.ref ge, .ref gl, .ref gb, .ref gw, .ref gsw, .ref gsh, .int si, .int (nI n), .int fi])), (bc, .inl (cI, 6, .inl cm)), (bs, .inl (cI, 20, .inl f)), (w, .inr (4, [.ref sg, .int (nI nl)])), (sg, .inl (cI, 20, .inl fs))] := hD
                    have hw := (hw.trans hs148.1).symm
                    subst hw
                    have hs152 := hs148.2
                    refine va_mmax hx hb (by rw [hml]; exact hl.1.symm) hown hw9 hw10 hw7 hw11 (Nat.le_of_ble_eq_true rfl) (Nat.le_of_ble_eq_true rfl) (Nat.zero_le _) (Nat.zero_le _) dX0_madeBy_155 ?_
                    refine cal_v (run_V (As := [.int (mxI a1 a2)]) (rest := []) SF (c_push l D cI cJ cZ cG cM b bt bc bs g t1.length f (mxI a1 a2) (by omega)) (cwV 1 hts gX0_madeBy_X0_push rfl rfl rfl (by decide +kernel) ⟨Nat.le_of_ble_eq_true rfl, Nat.le_of_ble_eq_true rfl⟩) hN hK hP hD [0, 3] rfl (by decide) 0 0 rfl rfl rfl rfl hl.1 rfl (Nat.le_of_ble_eq_true rfl) dX0_madeBy_158 ⟨Nat.le_of_ble_eq_true rfl, Nat.le_of_ble_eq_true rfl⟩) ⟨rfl, rfl⟩ hP hD hS hA [0, 3] rfl (fun _ => rfl) (fun _ H locs hw hP hD hS => ?_)
                    have hP : va_P D vwCl [(b, .inr (0, [.ref g, .ref bt, .ref bc, .ref bs, .int (nI (t1.length + 1))])), (g, .inr (3, [.ref ge, .ref gl, .ref gb, .ref gw, .ref gsw, .ref gsh, .int si, .int (nI n), .int fi])), (bc, .inl (cI, 6, .inl cm)), (bs, .inl (cI, 20, .inl (upd f t1.length (mxI a1 a2)))), (w, .inr (4, [.ref sg, .int (nI nl)])), (sg, .inl (cI, 20, .inl fs))] H := hP
                    have hD : va_D A [(b, .inr (0, [.ref g, .ref bt, .ref bc, .ref bs, .int (nI (t1.length + 1))])), (g, .inr (3, [.ref ge, .ref gl, .ref gb, .ref gw, .ref gsw, .ref gsh, .int si, .int (nI n), .int fi])), (bc, .inl (cI, 6, .inl cm)), (bs, .inl (cI, 20, .inl (upd f t1.length (mxI a1 a2)))), (w, .inr (4, [.ref sg, .int (nI nl)])), (sg, .inl (cI, 20, .inl fs))] := hD
                    have hs158 := stk_push (x := mxI a1 a2) hs152
                    refine lv_goto (tgt := 254) hx hb dX0_madeBy_161 (by decide) ?_
                    refine lv_iinc (v := nI q + (-1)) (lv' := [(4, .int (nI q + (-1))), (5, .int (fs q)), (0, .ref b), (1, .ref w), (2, .int h), (3, .int dg)]) hx hb dX0_madeBy_254 hl (k := 5) rfl rfl (by decide) rfl (fun ls hl => ?_)
                    refine lv_goto (tgt := 15) hx hb dX0_madeBy_257 (by decide) ?_
                    exact ih15 q (r + 1) ((mxI a1 a2) :: t1) (upd f t1.length (mxI a1 a2)) dg ((by omega)) ((by show _ = stp _ (fs q) (fs (q + 1)) (ev fs _ r (q + 1)); rw [← hL, stp_gt e62])) hs158 ((fun e9 => absurd e9 (by rw [hf]; decide))) (by omega) _ _ hP hD hS _ (lv_sub hl [2, 3, 4, 5, 0] rfl)
                  · skip
                    by_cases e102 : fs q = nI 102
                    · refine lv_lookup (off := 199) (tgt := 230) hx hb dX0_madeBy_31 (by decide +kernel) (by rw [e102]; decide +kernel) (by decide) ?_
                      have hf : (ps fs q).2 = false := by cases e9 : (ps fs q).2 with | false => rfl | true => exact absurd e102 (dgt_ne (v2 e9) (by omega))
                      rw [ps_f hf] at hlen
                      refine lv_aload_n hx hb dX0_madeBy_230 rfl (lv_at hl 1 rfl) ?_
                      refine lv_aload_n hx hb dX0_madeBy_231 rfl (lv_at hl 1 rfl) ?_
                      refine va_get (D := D) (ci := 0) (v := .ref bc) (C := RX0) (T := TX0) (N := 5) hx hb hts hi0 hown hK hP 0 rfl rfl 2 (by decide) hw12 (fun _ h9 => h9) rfl dX0_madeBy_232 ?_
                      refine lv_aload_n hx hb dX0_madeBy_235 rfl (lv_at hl 1 rfl) ?_
                      refine lv_iload hx hb dX0_madeBy_236 (lv_at hl 0 rfl) ?_
                      refine cal_i (run_V (As := [.int (fs q)]) (rest := [.ref bc, .ref b]) SF (c_placeOf l D cI cJ cZ cG cM b bt bc bs g ge gl gb gw gsw gsh si fi n (nI L.length) (fs q) h1 h6) (cwV 1 hts gX0_madeBy_X0_placeOf rfl rfl rfl (by decide +kernel) ⟨Nat.le_of_ble_eq_true rfl, Nat.le_of_ble_eq_true rfl⟩) hN hK hP hD [0, 1] rfl (by decide) 0 0 rfl rfl rfl rfl hl.1 rfl (Nat.le_of_ble_eq_true rfl) dX0_madeBy_238 ⟨Nat.le_of_ble_eq_true rfl, Nat.le_of_ble_eq_true rfl⟩) ⟨rfl, rfl⟩ hP hD hS hA [0, 1] rfl (fun _ => rfl) (fun r9 _ H locs hw hP hD hS => ?_)
                      have hP : va_P D vwCl [(b, .inr (0, [.ref g, .ref bt, .ref bc, .ref bs, .int (nI L.length)])), (g, .inr (3, [.ref ge, .ref gl, .ref gb, .ref gw, .ref gsw, .ref gsh, .int si, .int (nI n), .int fi])), (bc, .inl (cI, 6, .inl cm)), (bs, .inl (cI, 20, .inl f)), (w, .inr (4, [.ref sg, .int (nI nl)])), (sg, .inl (cI, 20, .inl fs))] H := hP
                      have hD : va_D A [(b, .inr (0, [.ref g, .ref bt, .ref bc, .ref bs, .int (nI L.length)])), (g, .inr (3, [.ref ge, .ref gl, .ref gb, .ref gw, .ref gsw, .ref gsh, .int si, .int (nI n), .int fi])), (bc, .inl (cI, 6, .inl cm)), (bs, .inl (cI, 20, .inl f)), (w, .inr (4, [.ref sg, .int (nI nl)])), (sg, .inl (cI, 20, .inl fs))] := hD
                      subst hw
                      have hpl := plc_lt (fs q) h1
                      refine iald_n (k := plc (fs q) n) hx hb hK hP 2 0 rfl rfl (by omega) (by omega) dX0_madeBy_241 ?_
                      refine cal_v (run_V (As := [.int (cm (plc (fs q) n))]) (rest := []) SF (c_push l D cI cJ cZ cG cM b bt bc bs g L.length f (cm (plc (fs q) n)) (by omega)) (cwV 1 hts gX0_madeBy_X0_push rfl rfl rfl (by decide +kernel) ⟨Nat.le_of_ble_eq_true rfl, Nat.le_of_ble_eq_true rfl⟩) hN hK hP hD [0, 3] rfl (by decide) 0 0 rfl rfl rfl rfl hl.1 rfl (Nat.le_of_ble_eq_true rfl) dX0_madeBy_242 ⟨Nat.le_of_ble_eq_true rfl, Nat.le_of_ble_eq_true rfl⟩) ⟨rfl, rfl⟩ hP hD hS hA [0, 3] rfl (fun _ => rfl) (fun _ H locs hw hP hD hS => ?_)
                      have hP : va_P D vwCl [(b, .inr (0, [.ref g, .ref bt, .ref bc, .ref bs, .int (nI (L.length + 1))])), (g, .inr (3, [.ref ge, .ref gl, .ref gb, .ref gw, .ref gsw, .ref gsh, .int si, .int (nI n), .int fi])), (bc, .inl (cI, 6, .inl cm)), (bs, .inl (cI, 20, .inl (upd f L.length (cm (plc (fs q) n))))), (w, .inr (4, [.ref sg, .int (nI nl)])), (sg, .inl (cI, 20, .inl fs))] H := hP
                      have hD : va_D A [(b, .inr (0, [.ref g, .ref bt, .ref bc, .ref bs, .int (nI (L.length + 1))])), (g, .inr (3, [.ref ge, .ref gl, .ref gb, .ref gw, .ref gsw, .ref gsh, .int si, .int (nI n), .int fi])), (bc, .inl (cI, 6, .inl cm)), (bs, .inl (cI, 20, .inl (upd f L.length (cm (plc (fs q) n))))), (w, .inr (4, [.ref sg, .int (nI nl)])), (sg, .inl (cI, 20, .inl fs))] := hD
                      have hs242 := stk_push (x := cm (plc (fs q) n)) hs
                      refine lv_goto (tgt := 254) hx hb dX0_madeBy_245 (by decide) ?_
                      refine lv_iinc (v := nI q + (-1)) (lv' := [(4, .int (nI q + (-1))), (5, .int (fs q)), (0, .ref b), (1, .ref w), (2, .int h), (3, .int dg)]) hx hb dX0_madeBy_254 hl (k := 5) rfl rfl (by decide) rfl (fun ls hl => ?_)
                      refine lv_goto (tgt := 15) hx hb dX0_madeBy_257 (by decide) ?_
                      exact ih15 q (r + 1) ((cm (plc (fs q) n)) :: L) (upd f L.length (cm (plc (fs q) n))) dg ((by omega)) ((by show _ = stp _ (fs q) (fs (q + 1)) (ev fs _ r (q + 1)); rw [← hL, stp_lf (by rw [e102]; decide), e102]; rfl)) hs242 ((fun e9 => absurd e9 (by rw [hf]; decide))) (by omega) _ _ hP hD hS _ (lv_sub hl [2, 3, 4, 5, 0] rfl)
                    · skip
                      by_cases e104 : fs q = nI 104
                      · refine lv_lookup (off := 191) (tgt := 222) hx hb dX0_madeBy_31 (by decide +kernel) (by rw [e104]; decide +kernel) (by decide) ?_
                        have hf : (ps fs q).2 = false := by cases e9 : (ps fs q).2 with | false => rfl | true => exact absurd e104 (dgt_ne (v2 e9) (by omega))
                        rw [ps_f hf] at hlen
                        refine lv_aload_n hx hb dX0_madeBy_222 rfl (lv_at hl 1 rfl) ?_
                        refine lv_iload_n hx hb dX0_madeBy_223 rfl (lv_at hl 3 rfl) ?_
                        refine cal_v (run_V (As := [.int h]) (rest := []) SF (c_push l D cI cJ cZ cG cM b bt bc bs g L.length f h (by omega)) (cwV 1 hts gX0_madeBy_X0_push rfl rfl rfl (by decide +kernel) ⟨Nat.le_of_ble_eq_true rfl, Nat.le_of_ble_eq_true rfl⟩) hN hK hP hD [0, 3] rfl (by decide) 0 0 rfl rfl rfl rfl hl.1 rfl (Nat.le_of_ble_eq_true rfl) dX0_madeBy_224 ⟨Nat.le_of_ble_eq_true rfl, Nat.le_of_ble_eq_true rfl⟩) ⟨rfl, rfl⟩ hP hD hS hA [0, 3] rfl (fun _ => rfl) (fun _ H locs hw hP hD hS => ?_)
                        have hP : va_P D vwCl [(b, .inr (0, [.ref g, .ref bt, .ref bc, .ref bs, .int (nI (L.length + 1))])), (g, .inr (3, [.ref ge, .ref gl, .ref gb, .ref gw, .ref gsw, .ref gsh, .int si, .int (nI n), .int fi])), (bc, .inl (cI, 6, .inl cm)), (bs, .inl (cI, 20, .inl (upd f L.length h))), (w, .inr (4, [.ref sg, .int (nI nl)])), (sg, .inl (cI, 20, .inl fs))] H := hP
                        have hD : va_D A [(b, .inr (0, [.ref g, .ref bt, .ref bc, .ref bs, .int (nI (L.length + 1))])), (g, .inr (3, [.ref ge, .ref gl, .ref gb, .ref gw, .ref gsw, .ref gsh, .int si, .int (nI n), .int fi])), (bc, .inl (cI, 6, .inl cm)), (bs, .inl (cI, 20, .inl (upd f L.length h))), (w, .inr (4, [.ref sg, .int (nI nl)])), (sg, .inl (cI, 20, .inl fs))] := hD
                        have hs224 := stk_push (x := h) hs
                        refine lv_goto (tgt := 254) hx hb dX0_madeBy_227 (by decide) ?_
                        refine lv_iinc (v := nI q + (-1)) (lv' := [(4, .int (nI q + (-1))), (5, .int (fs q)), (0, .ref b), (1, .ref w), (2, .int h), (3, .int dg)]) hx hb dX0_madeBy_254 hl (k := 5) rfl rfl (by decide) rfl (fun ls hl => ?_)
                        refine lv_goto (tgt := 15) hx hb dX0_madeBy_257 (by decide) ?_
                        exact ih15 q (r + 1) (h :: L) (upd f L.length h) dg ((by omega)) ((by show _ = stp _ (fs q) (fs (q + 1)) (ev fs _ r (q + 1)); rw [← hL, stp_lf (by rw [e104]; decide), e104]; rfl)) hs224 ((fun e9 => absurd e9 (by rw [hf]; decide))) (by omega) _ _ hP hD hS _ (lv_sub hl [2, 3, 4, 5, 0] rfl)
                      · skip
                        by_cases e108 : fs q = nI 108
                        · refine lv_lookup (off := 199) (tgt := 230) hx hb dX0_madeBy_31 (by decide +kernel) (by rw [e108]; decide +kernel) (by decide) ?_
                          have hf : (ps fs q).2 = false := by cases e9 : (ps fs q).2 with | false => rfl | true => exact absurd e108 (dgt_ne (v2 e9) (by omega))
                          rw [ps_f hf] at hlen
                          refine lv_aload_n hx hb dX0_madeBy_230 rfl (lv_at hl 1 rfl) ?_
                          refine lv_aload_n hx hb dX0_madeBy_231 rfl (lv_at hl 1 rfl) ?_
                          refine va_get (D := D) (ci := 0) (v := .ref bc) (C := RX0) (T := TX0) (N := 5) hx hb hts hi0 hown hK hP 0 rfl rfl 2 (by decide) hw12 (fun _ h9 => h9) rfl dX0_madeBy_232 ?_
                          refine lv_aload_n hx hb dX0_madeBy_235 rfl (lv_at hl 1 rfl) ?_
                          refine lv_iload hx hb dX0_madeBy_236 (lv_at hl 0 rfl) ?_
                          refine cal_i (run_V (As := [.int (fs q)]) (rest := [.ref bc, .ref b]) SF (c_placeOf l D cI cJ cZ cG cM b bt bc bs g ge gl gb gw gsw gsh si fi n (nI L.length) (fs q) h1 h6) (cwV 1 hts gX0_madeBy_X0_placeOf rfl rfl rfl (by decide +kernel) ⟨Nat.le_of_ble_eq_true rfl, Nat.le_of_ble_eq_true rfl⟩) hN hK hP hD [0, 1] rfl (by decide) 0 0 rfl rfl rfl rfl hl.1 rfl (Nat.le_of_ble_eq_true rfl) dX0_madeBy_238 ⟨Nat.le_of_ble_eq_true rfl, Nat.le_of_ble_eq_true rfl⟩) ⟨rfl, rfl⟩ hP hD hS hA [0, 1] rfl (fun _ => rfl) (fun r9 _ H locs hw hP hD hS => ?_)
                          have hP : va_P D vwCl [(b, .inr (0, [.ref g, .ref bt, .ref bc, .ref bs, .int (nI L.length)])), (g, .inr (3, [.ref ge, .ref gl, .ref gb, .ref gw, .ref gsw, .ref gsh, .int si, .int (nI n), .int fi])), (bc, .inl (cI, 6, .inl cm)), (bs, .inl (cI, 20, .inl f)), (w, .inr (4, [.ref sg, .int (nI nl)])), (sg, .inl (cI, 20, .inl fs))] H := hP
                          have hD : va_D A [(b, .inr (0, [.ref g, .ref bt, .ref bc, .ref bs, .int (nI L.length)])), (g, .inr (3, [.ref ge, .ref gl, .ref gb, .ref gw, .ref gsw, .ref gsh, .int si, .int (nI n), .int fi])), (bc, .inl (cI, 6, .inl cm)), (bs, .inl (cI, 20, .inl f)), (w, .inr (4, [.ref sg, .int (nI nl)])), (sg, .inl (cI, 20, .inl fs))] := hD
                          subst hw
                          have hpl := plc_lt (fs q) h1
                          refine iald_n (k := plc (fs q) n) hx hb hK hP 2 0 rfl rfl (by omega) (by omega) dX0_madeBy_241 ?_
                          refine cal_v (run_V (As := [.int (cm (plc (fs q) n))]) (rest := []) SF (c_push l D cI cJ cZ cG cM b bt bc bs g L.length f (cm (plc (fs q) n)) (by omega)) (cwV 1 hts gX0_madeBy_X0_push rfl rfl rfl (by decide +kernel) ⟨Nat.le_of_ble_eq_true rfl, Nat.le_of_ble_eq_true rfl⟩) hN hK hP hD [0, 3] rfl (by decide) 0 0 rfl rfl rfl rfl hl.1 rfl (Nat.le_of_ble_eq_true rfl) dX0_madeBy_242 ⟨Nat.le_of_ble_eq_true rfl, Nat.le_of_ble_eq_true rfl⟩) ⟨rfl, rfl⟩ hP hD hS hA [0, 3] rfl (fun _ => rfl) (fun _ H locs hw hP hD hS => ?_)
                          have hP : va_P D vwCl [(b, .inr (0, [.ref g, .ref bt, .ref bc, .ref bs, .int (nI (L.length + 1))])), (g, .inr (3, [.ref ge, .ref gl, .ref gb, .ref gw, .ref gsw, .ref gsh, .int si, .int (nI n), .int fi])), (bc, .inl (cI, 6, .inl cm)), (bs, .inl (cI, 20, .inl (upd f L.length (cm (plc (fs q) n))))), (w, .inr (4, [.ref sg, .int (nI nl)])), (sg, .inl (cI, 20, .inl fs))] H := hP
                          have hD : va_D A [(b, .inr (0, [.ref g, .ref bt, .ref bc, .ref bs, .int (nI (L.length + 1))])), (g, .inr (3, [.ref ge, .ref gl, .ref gb, .ref gw, .ref gsw, .ref gsh, .int si, .int (nI n), .int fi])), (bc, .inl (cI, 6, .inl cm)), (bs, .inl (cI, 20, .inl (upd f L.length (cm (plc (fs q) n))))), (w, .inr (4, [.ref sg, .int (nI nl)])), (sg, .inl (cI, 20, .inl fs))] := hD
                          have hs242 := stk_push (x := cm (plc (fs q) n)) hs
                          refine lv_goto (tgt := 254) hx hb dX0_madeBy_245 (by decide) ?_
                          refine lv_iinc (v := nI q + (-1)) (lv' := [(4, .int (nI q + (-1))), (5, .int (fs q)), (0, .ref b), (1, .ref w), (2, .int h), (3, .int dg)]) hx hb dX0_madeBy_254 hl (k := 5) rfl rfl (by decide) rfl (fun ls hl => ?_)
                          refine lv_goto (tgt := 15) hx hb dX0_madeBy_257 (by decide) ?_
                          exact ih15 q (r + 1) ((cm (plc (fs q) n)) :: L) (upd f L.length (cm (plc (fs q) n))) dg ((by omega)) ((by show _ = stp _ (fs q) (fs (q + 1)) (ev fs _ r (q + 1)); rw [← hL, stp_lf (by rw [e108]; decide), e108]; rfl)) hs242 ((fun e9 => absurd e9 (by rw [hf]; decide))) (by omega) _ _ hP hD hS _ (lv_sub hl [2, 3, 4, 5, 0] rfl)
                        · skip
                          by_cases e109 : fs q = nI 109
                          · refine lv_lookup (off := 199) (tgt := 230) hx hb dX0_madeBy_31 (by decide +kernel) (by rw [e109]; decide +kernel) (by decide) ?_
                            have hf : (ps fs q).2 = false := by cases e9 : (ps fs q).2 with | false => rfl | true => exact absurd e109 (dgt_ne (v2 e9) (by omega))
                            rw [ps_f hf] at hlen
                            refine lv_aload_n hx hb dX0_madeBy_230 rfl (lv_at hl 1 rfl) ?_
                            refine lv_aload_n hx hb dX0_madeBy_231 rfl (lv_at hl 1 rfl) ?_
                            refine va_get (D := D) (ci := 0) (v := .ref bc) (C := RX0) (T := TX0) (N := 5) hx hb hts hi0 hown hK hP 0 rfl rfl 2 (by decide) hw12 (fun _ h9 => h9) rfl dX0_madeBy_232 ?_
                            refine lv_aload_n hx hb dX0_madeBy_235 rfl (lv_at hl 1 rfl) ?_
                            refine lv_iload hx hb dX0_madeBy_236 (lv_at hl 0 rfl) ?_
                            refine cal_i (run_V (As := [.int (fs q)]) (rest := [.ref bc, .ref b]) SF (c_placeOf l D cI cJ cZ cG cM b bt bc bs g ge gl gb gw gsw gsh si fi n (nI L.length) (fs q) h1 h6) (cwV 1 hts gX0_madeBy_X0_placeOf rfl rfl rfl (by decide +kernel) ⟨Nat.le_of_ble_eq_true rfl, Nat.le_of_ble_eq_true rfl⟩) hN hK hP hD [0, 1] rfl (by decide) 0 0 rfl rfl rfl rfl hl.1 rfl (Nat.le_of_ble_eq_true rfl) dX0_madeBy_238 ⟨Nat.le_of_ble_eq_true rfl, Nat.le_of_ble_eq_true rfl⟩) ⟨rfl, rfl⟩ hP hD hS hA [0, 1] rfl (fun _ => rfl) (fun r9 _ H locs hw hP hD hS => ?_)
                            have hP : va_P D vwCl [(b, .inr (0, [.ref g, .ref bt, .ref bc, .ref bs, .int (nI L.length)])), (g, .inr (3, [.ref ge, .ref gl, .ref gb, .ref gw, .ref gsw, .ref gsh, .int si, .int (nI n), .int fi])), (bc, .inl (cI, 6, .inl cm)), (bs, .inl (cI, 20, .inl f)), (w, .inr (4, [.ref sg, .int (nI nl)])), (sg, .inl (cI, 20, .inl fs))] H := hP
                            have hD : va_D A [(b, .inr (0, [.ref g, .ref bt, .ref bc, .ref bs, .int (nI L.length)])), (g, .inr (3, [.ref ge, .ref gl, .ref gb, .ref gw, .ref gsw, .ref gsh, .int si, .int (nI n), .int fi])), (bc, .inl (cI, 6, .inl cm)), (bs, .inl (cI, 20, .inl f)), (w, .inr (4, [.ref sg, .int (nI nl)])), (sg, .inl (cI, 20, .inl fs))] := hD
                            subst hw
                            have hpl := plc_lt (fs q) h1
                            refine iald_n (k := plc (fs q) n) hx hb hK hP 2 0 rfl rfl (by omega) (by omega) dX0_madeBy_241 ?_
                            refine cal_v (run_V (As := [.int (cm (plc (fs q) n))]) (rest := []) SF (c_push l D cI cJ cZ cG cM b bt bc bs g L.length f (cm (plc (fs q) n)) (by omega)) (cwV 1 hts gX0_madeBy_X0_push rfl rfl rfl (by decide +kernel) ⟨Nat.le_of_ble_eq_true rfl, Nat.le_of_ble_eq_true rfl⟩) hN hK hP hD [0, 3] rfl (by decide) 0 0 rfl rfl rfl rfl hl.1 rfl (Nat.le_of_ble_eq_true rfl) dX0_madeBy_242 ⟨Nat.le_of_ble_eq_true rfl, Nat.le_of_ble_eq_true rfl⟩) ⟨rfl, rfl⟩ hP hD hS hA [0, 3] rfl (fun _ => rfl) (fun _ H locs hw hP hD hS => ?_)
                            have hP : va_P D vwCl [(b, .inr (0, [.ref g, .ref bt, .ref bc, .ref bs, .int (nI (L.length + 1))])), (g, .inr (3, [.ref ge, .ref gl, .ref gb, .ref gw, .ref gsw, .ref gsh, .int si, .int (nI n), .int fi])), (bc, .inl (cI, 6, .inl cm)), (bs, .inl (cI, 20, .inl (upd f L.length (cm (plc (fs q) n))))), (w, .inr (4, [.ref sg, .int (nI nl)])), (sg, .inl (cI, 20, .inl fs))] H := hP
                            have hD : va_D A [(b, .inr (0, [.ref g, .ref bt, .ref bc, .ref bs, .int (nI (L.length + 1))])), (g, .inr (3, [.ref ge, .ref gl, .ref gb, .ref gw, .ref gsw, .ref gsh, .int si, .int (nI n), .int fi])), (bc, .inl (cI, 6, .inl cm)), (bs, .inl (cI, 20, .inl (upd f L.length (cm (plc (fs q) n))))), (w, .inr (4, [.ref sg, .int (nI nl)])), (sg, .inl (cI, 20, .inl fs))] := hD
                            have hs242 := stk_push (x := cm (plc (fs q) n)) hs
                            refine lv_goto (tgt := 254) hx hb dX0_madeBy_245 (by decide) ?_
                            refine lv_iinc (v := nI q + (-1)) (lv' := [(4, .int (nI q + (-1))), (5, .int (fs q)), (0, .ref b), (1, .ref w), (2, .int h), (3, .int dg)]) hx hb dX0_madeBy_254 hl (k := 5) rfl rfl (by decide) rfl (fun ls hl => ?_)
                            refine lv_goto (tgt := 15) hx hb dX0_madeBy_257 (by decide) ?_
                            exact ih15 q (r + 1) ((cm (plc (fs q) n)) :: L) (upd f L.length (cm (plc (fs q) n))) dg ((by omega)) ((by show _ = stp _ (fs q) (fs (q + 1)) (ev fs _ r (q + 1)); rw [← hL, stp_lf (by rw [e109]; decide), e109]; rfl)) hs242 ((fun e9 => absurd e9 (by rw [hf]; decide))) (by omega) _ _ hP hD hS _ (lv_sub hl [2, 3, 4, 5, 0] rfl)
                          · skip
                            by_cases e112 : fs q = nI 112
                            · refine lv_lookup (off := 199) (tgt := 230) hx hb dX0_madeBy_31 (by decide +kernel) (by rw [e112]; decide +kernel) (by decide) ?_
                              have hf : (ps fs q).2 = false := by cases e9 : (ps fs q).2 with | false => rfl | true => exact absurd e112 (dgt_ne (v2 e9) (by omega))
                              rw [ps_f hf] at hlen
                              refine lv_aload_n hx hb dX0_madeBy_230 rfl (lv_at hl 1 rfl) ?_
                              refine lv_aload_n hx hb dX0_madeBy_231 rfl (lv_at hl 1 rfl) ?_
                              refine va_get (D := D) (ci := 0) (v := .ref bc) (C := RX0) (T := TX0) (N := 5) hx hb hts hi0 hown hK hP 0 rfl rfl 2 (by decide) hw12 (fun _ h9 => h9) rfl dX0_madeBy_232 ?_
                              refine lv_aload_n hx hb dX0_madeBy_235 rfl (lv_at hl 1 rfl) ?_
                              refine lv_iload hx hb dX0_madeBy_236 (lv_at hl 0 rfl) ?_
                              refine cal_i (run_V (As := [.int (fs q)]) (rest := [.ref bc, .ref b]) SF (c_placeOf l D cI cJ cZ cG cM b bt bc bs g ge gl gb gw gsw gsh si fi n (nI L.length) (fs q) h1 h6) (cwV 1 hts gX0_madeBy_X0_placeOf rfl rfl rfl (by decide +kernel) ⟨Nat.le_of_ble_eq_true rfl, Nat.le_of_ble_eq_true rfl⟩) hN hK hP hD [0, 1] rfl (by decide) 0 0 rfl rfl rfl rfl hl.1 rfl (Nat.le_of_ble_eq_true rfl) dX0_madeBy_238 ⟨Nat.le_of_ble_eq_true rfl, Nat.le_of_ble_eq_true rfl⟩) ⟨rfl, rfl⟩ hP hD hS hA [0, 1] rfl (fun _ => rfl) (fun r9 _ H locs hw hP hD hS => ?_)
                              have hP : va_P D vwCl [(b, .inr (0, [.ref g, .ref bt, .ref bc, .ref bs, .int (nI L.length)])), (g, .inr (3, [.ref ge, .ref gl, .ref gb, .ref gw, .ref gsw, .ref gsh, .int si, .int (nI n), .int fi])), (bc, .inl (cI, 6, .inl cm)), (bs, .inl (cI, 20, .inl f)), (w, .inr (4, [.ref sg, .int (nI nl)])), (sg, .inl (cI, 20, .inl fs))] H := hP
                              have hD : va_D A [(b, .inr (0, [.ref g, .ref bt, .ref bc, .ref bs, .int (nI L.length)])), (g, .inr (3, [.ref ge, .ref gl, .ref gb, .ref gw, .ref gsw, .ref gsh, .int si, .int (nI n), .int fi])), (bc, .inl (cI, 6, .inl cm)), (bs, .inl (cI, 20, .inl f)), (w, .inr (4, [.ref sg, .int (nI nl)])), (sg, .inl (cI, 20, .inl fs))] := hD
                              subst hw
                              have hpl := plc_lt (fs q) h1
                              refine iald_n (k := plc (fs q) n) hx hb hK hP 2 0 rfl rfl (by omega) (by omega) dX0_madeBy_241 ?_
                              refine cal_v (run_V (As := [.int (cm (plc (fs q) n))]) (rest := []) SF (c_push l D cI cJ cZ cG cM b bt bc bs g L.length f (cm (plc (fs q) n)) (by omega)) (cwV 1 hts gX0_madeBy_X0_push rfl rfl rfl (by decide +kernel) ⟨Nat.le_of_ble_eq_true rfl, Nat.le_of_ble_eq_true rfl⟩) hN hK hP hD [0, 3] rfl (by decide) 0 0 rfl rfl rfl rfl hl.1 rfl (Nat.le_of_ble_eq_true rfl) dX0_madeBy_242 ⟨Nat.le_of_ble_eq_true rfl, Nat.le_of_ble_eq_true rfl⟩) ⟨rfl, rfl⟩ hP hD hS hA [0, 3] rfl (fun _ => rfl) (fun _ H locs hw hP hD hS => ?_)
                              have hP : va_P D vwCl [(b, .inr (0, [.ref g, .ref bt, .ref bc, .ref bs, .int (nI (L.length + 1))])), (g, .inr (3, [.ref ge, .ref gl, .ref gb, .ref gw, .ref gsw, .ref gsh, .int si, .int (nI n), .int fi])), (bc, .inl (cI, 6, .inl cm)), (bs, .inl (cI, 20, .inl (upd f L.length (cm (plc (fs q) n))))), (w, .inr (4, [.ref sg, .int (nI nl)])), (sg, .inl (cI, 20, .inl fs))] H := hP
                              have hD : va_D A [(b, .inr (0, [.ref g, .ref bt, .ref bc, .ref bs, .int (nI (L.length + 1))])), (g, .inr (3, [.ref ge, .ref gl, .ref gb, .ref gw, .ref gsw, .ref gsh, .int si, .int (nI n), .int fi])), (bc, .inl (cI, 6, .inl cm)), (bs, .inl (cI, 20, .inl (upd f L.length (cm (plc (fs q) n))))), (w, .inr (4, [.ref sg, .int (nI nl)])), (sg, .inl (cI, 20, .inl fs))] := hD
                              have hs242 := stk_push (x := cm (plc (fs q) n)) hs
                              refine lv_goto (tgt := 254) hx hb dX0_madeBy_245 (by decide) ?_
                              refine lv_iinc (v := nI q + (-1)) (lv' := [(4, .int (nI q + (-1))), (5, .int (fs q)), (0, .ref b), (1, .ref w), (2, .int h), (3, .int dg)]) hx hb dX0_madeBy_254 hl (k := 5) rfl rfl (by decide) rfl (fun ls hl => ?_)
                              refine lv_goto (tgt := 15) hx hb dX0_madeBy_257 (by decide) ?_
                              exact ih15 q (r + 1) ((cm (plc (fs q) n)) :: L) (upd f L.length (cm (plc (fs q) n))) dg ((by omega)) ((by show _ = stp _ (fs q) (fs (q + 1)) (ev fs _ r (q + 1)); rw [← hL, stp_lf (by rw [e112]; decide), e112]; rfl)) hs242 ((fun e9 => absurd e9 (by rw [hf]; decide))) (by omega) _ _ hP hD hS _ (lv_sub hl [2, 3, 4, 5, 0] rfl)
                            · skip
                              by_cases e126 : fs q = nI 126
                              · refine lv_lookup (off := 151) (tgt := 182) hx hb dX0_madeBy_31 (by decide +kernel) (by rw [e126]; decide +kernel) (by decide) ?_
                                have hf : (ps fs q).2 = false := by cases e9 : (ps fs q).2 with | false => rfl | true => exact absurd e126 (dgt_ne (v2 e9) (by omega))
                                rw [ps_f hf] at hlen
                                have hp : pN (fs q) = 1 := by rw [e126]; decide
                                simp only [hp] at hlen
                                obtain ⟨a1, t1, rfl⟩ := len1 (L := L) (by omega)
                                simp only [List.length_cons] at hlen hle
                                refine lv_aload_n hx hb dX0_madeBy_182 rfl (lv_at hl 1 rfl) ?_
                                refine lv_bipush (v := nI 23) hx hb dX0_madeBy_183 (by decide) ?_
                                refine lv_aload_n hx hb dX0_madeBy_185 rfl (lv_at hl 1 rfl) ?_
                                refine cal_i (run_V (As := []) (rest := [.int (nI 23), .ref b]) SF (c_pop l D cI cJ cZ cG cM b bt bc bs g t1.length f (by omega)) (cwV 0 hts gX0_madeBy_X0_pop rfl rfl rfl (by decide +kernel) ⟨Nat.le_of_ble_eq_true rfl, Nat.le_of_ble_eq_true rfl⟩) hN hK hP hD [0, 3] rfl (by decide) 0 0 rfl rfl rfl rfl hl.1 rfl (Nat.le_of_ble_eq_true rfl) dX0_madeBy_186 ⟨Nat.le_of_ble_eq_true rfl, Nat.le_of_ble_eq_true rfl⟩) ⟨rfl, rfl⟩ hP hD hS hA [0, 3] rfl (fun _ => rfl) (fun r9 _ H locs hw hP hD hS => ?_)
                                have hP : va_P D vwCl [(b, .inr (0, [.ref g, .ref bt, .ref bc, .ref bs, .int (nI t1.length)])), (g, .inr (3, [.ref ge, .ref gl, .ref gb, .ref gw, .ref gsw, .ref gsh, .int si, .int (nI n), .int fi])), (bc, .inl (cI, 6, .inl cm)), (bs, .inl (cI, 20, .inl f)), (w, .inr (4, [.ref sg, .int (nI nl)])), (sg, .inl (cI, 20, .inl fs))] H := hP
                                have hD : va_D A [(b, .inr (0, [.ref g, .ref bt, .ref bc, .ref bs, .int (nI t1.length)])), (g, .inr (3, [.ref ge, .ref gl, .ref gb, .ref gw, .ref gsw, .ref gsh, .int si, .int (nI n), .int fi])), (bc, .inl (cI, 6, .inl cm)), (bs, .inl (cI, 20, .inl f)), (w, .inr (4, [.ref sg, .int (nI nl)])), (sg, .inl (cI, 20, .inl fs))] := hD
                                have hw := (hw.trans hs.1).symm
                                subst hw
                                have hs186 := hs.2
                                refine lv_isub hx hb dX0_madeBy_189 ?_
                                refine cal_v (run_V (As := [.int ((nI 23) - a1)]) (rest := []) SF (c_push l D cI cJ cZ cG cM b bt bc bs g t1.length f ((nI 23) - a1) (by omega)) (cwV 1 hts gX0_madeBy_X0_push rfl rfl rfl (by decide +kernel) ⟨Nat.le_of_ble_eq_true rfl, Nat.le_of_ble_eq_true rfl⟩) hN hK hP hD [0, 3] rfl (by decide) 0 0 rfl rfl rfl rfl hl.1 rfl (Nat.le_of_ble_eq_true rfl) dX0_madeBy_190 ⟨Nat.le_of_ble_eq_true rfl, Nat.le_of_ble_eq_true rfl⟩) ⟨rfl, rfl⟩ hP hD hS hA [0, 3] rfl (fun _ => rfl) (fun _ H locs hw hP hD hS => ?_)
                                have hP : va_P D vwCl [(b, .inr (0, [.ref g, .ref bt, .ref bc, .ref bs, .int (nI (t1.length + 1))])), (g, .inr (3, [.ref ge, .ref gl, .ref gb, .ref gw, .ref gsw, .ref gsh, .int si, .int (nI n), .int fi])), (bc, .inl (cI, 6, .inl cm)), (bs, .inl (cI, 20, .inl (upd f t1.length ((nI 23) - a1)))), (w, .inr (4, [.ref sg, .int (nI nl)])), (sg, .inl (cI, 20, .inl fs))] H := hP
                                have hD : va_D A [(b, .inr (0, [.ref g, .ref bt, .ref bc, .ref bs, .int (nI (t1.length + 1))])), (g, .inr (3, [.ref ge, .ref gl, .ref gb, .ref gw, .ref gsw, .ref gsh, .int si, .int (nI n), .int fi])), (bc, .inl (cI, 6, .inl cm)), (bs, .inl (cI, 20, .inl (upd f t1.length ((nI 23) - a1)))), (w, .inr (4, [.ref sg, .int (nI nl)])), (sg, .inl (cI, 20, .inl fs))] := hD
                                have hs190 := stk_push (x := (nI 23) - a1) hs186
                                refine lv_goto (tgt := 254) hx hb dX0_madeBy_193 (by decide) ?_
                                refine lv_iinc (v := nI q + (-1)) (lv' := [(4, .int (nI q + (-1))), (5, .int (fs q)), (0, .ref b), (1, .ref w), (2, .int h), (3, .int dg)]) hx hb dX0_madeBy_254 hl (k := 5) rfl rfl (by decide) rfl (fun ls hl => ?_)
                                refine lv_goto (tgt := 15) hx hb dX0_madeBy_257 (by decide) ?_
                                exact ih15 q (r + 1) (((nI 23) - a1) :: t1) (upd f t1.length ((nI 23) - a1)) dg ((by omega)) ((by show _ = stp _ (fs q) (fs (q + 1)) (ev fs _ r (q + 1)); rw [← hL, stp_tl e126])) hs190 ((fun e9 => absurd e9 (by rw [hf]; decide))) (by omega) _ _ hP hD hS _ (lv_sub hl [2, 3, 4, 5, 0] rfl)
                              · skip
                                refine lv_lookup (off := 217) (tgt := 248) hx hb dX0_madeBy_31 (by decide +kernel) (by show Op.lookupswitch.offset [(43, 178), (45, 165), (47, 133), (60, 97), (62, 115), (102, 199), (104, 191), (108, 199), (109, 199), (112, 199), (126, 151)] (217) _ = _; rw [Op.lookupswitch.offset_cons, if_neg (show ¬ ((43 : Int) = _) from ne_toI (c := 43) (by decide) e43), Op.lookupswitch.offset_cons, if_neg (show ¬ ((45 : Int) = _) from ne_toI (c := 45) (by decide) e45), Op.lookupswitch.offset_cons, if_neg (show ¬ ((47 : Int) = _) from ne_toI (c := 47) (by decide) e47), Op.lookupswitch.offset_cons, if_neg (show ¬ ((60 : Int) = _) from ne_toI (c := 60) (by decide) e60), Op.lookupswitch.offset_cons, if_neg (show ¬ ((62 : Int) = _) from ne_toI (c := 62) (by decide) e62), Op.lookupswitch.offset_cons, if_neg (show ¬ ((102 : Int) = _) from ne_toI (c := 102) (by decide) e102), Op.lookupswitch.offset_cons, if_neg (show ¬ ((104 : Int) = _) from ne_toI (c := 104) (by decide) e104), Op.lookupswitch.offset_cons, if_neg (show ¬ ((108 : Int) = _) from ne_toI (c := 108) (by decide) e108), Op.lookupswitch.offset_cons, if_neg (show ¬ ((109 : Int) = _) from ne_toI (c := 109) (by decide) e109), Op.lookupswitch.offset_cons, if_neg (show ¬ ((112 : Int) = _) from ne_toI (c := 112) (by decide) e112), Op.lookupswitch.offset_cons, if_neg (show ¬ ((126 : Int) = _) from ne_toI (c := 126) (by decide) e126), Op.lookupswitch.offset_nil]) (by decide) ?_
                                have hdq : dgt (fs q) := by
                                  cases e9 : (ps fs q).2 with
                                  | true => exact v2 e9
                                  | false => exact absurd (v3 e9) (by rintro ((z | z | z | z | z) | (z | z | z) | (z | z) | z) <;> first | exact e108 z | exact e102 z | exact e109 z | exact e112 z | exact e104 z | exact e60 z | exact e62 z | exact e47 z | exact e45 z | exact e43 z | exact e126 z)
                                refine lv_iload hx hb dX0_madeBy_248 (lv_at hl 0 rfl) ?_
                                refine lv_bipush (v := nI 48) hx hb dX0_madeBy_250 (by decide) ?_
                                refine lv_isub hx hb dX0_madeBy_252 ?_
                                refine lv_istore_n (lv' := [(3, .int ((fs q) - (nI 48))), (5, .int (fs q)), (0, .ref b), (1, .ref w), (2, .int h), (4, .int (nI q))]) hx hb dX0_madeBy_253 rfl hl (by decide) rfl (fun ls hl => ?_)
                                refine lv_iinc (v := nI q + (-1)) (lv' := [(4, .int (nI q + (-1))), (3, .int ((fs q) - (nI 48))), (5, .int (fs q)), (0, .ref b), (1, .ref w), (2, .int h)]) hx hb dX0_madeBy_254 hl (k := 5) rfl rfl (by decide) rfl (fun ls hl => ?_)
                                refine lv_goto (tgt := 15) hx hb dX0_madeBy_257 (by decide) ?_
                                exact ih15 q (r + 1) L f (fs q - nI 48) ((by omega)) ((by show L = stp _ (fs q) (fs (q + 1)) (ev fs _ r (q + 1)); rw [stp_dg hdq, ← hL])) hs ((fun _ => rfl)) (by omega) _ _ hP hD hS _ (lv_sub hl [3, 4, 5, 1, 0] rfl)
  exact L15 _ nl 0 ([]) fk (nI 0) ((by omega)) rfl trivial ((fun e9 => absurd e9 (by rw [VL_end hV]; decide))) (Nat.lt_succ_self _) _ _ hP hD hS _ (lv_sub hl [2, 3, 4, 1, 0] rfl)

abbrev rm_X0_nextHour : Room := { frames := 3, cells := 0, slots := 0, locals := 68 }
set_option maxHeartbeats 4000000 in
set_option maxRecDepth 100000 in
theorem c_nextHour (l : Launch) (D : va_G) (cI cJ cZ cG cM : ClassId) (b bt bc bs : Nat) (g ge gl gb gw gsw gsh : Nat) (si fi : Int32) (n : Nat) (w sg nl lt : Nat) (hg h la : Int32) (cm fk fs fe fl : Nat → Int32) (hV : VL fs nl) (h1 : 1 ≤ n) (h6 : n ≤ 6) :
    CI l yX0_nextHour wsX0_nextHour rm_X0_nextHour D [(cI, .int), (cJ, .long), (cZ, .boolean), (cG, .object "LatestSets$Guild"), (cM, .array .int)] [(b, .inr (0, [.ref g, .ref bt, .ref bc, .ref bs, .int hg])), (g, .inr (3, [.ref ge, .ref gl, .ref gb, .ref gw, .ref gsw, .ref gsh, .int si, .int (nI n), .int fi])), (ge, .inl (cI, 6, .inl fe)), (lt, .inl (cI, 6, .inl fl)), (bc, .inl (cI, 6, .inl cm)), (bs, .inl (cI, 20, .inl fk)), (w, .inr (4, [.ref sg, .int (nI nl)])), (sg, .inl (cI, 20, .inl fs))] [.ref b, .ref w, .int h, .ref lt, .int la] (S := ((Nat → Int32) × (Nat → Int32) × Int32)) (fun r u => r = nxH fs nl n (fun m9 => cmA h (fe m9 + la) (fl m9)) h) (fun u => [(b, .inr (0, [.ref g, .ref bt, .ref bc, .ref bs, .int u.2.2])), (g, .inr (3, [.ref ge, .ref gl, .ref gb, .ref gw, .ref gsw, .ref gsh, .int si, .int (nI n), .int fi])), (ge, .inl (cI, 6, .inl fe)), (lt, .inl (cI, 6, .inl fl)), (bc, .inl (cI, 6, .inl u.1)), (bs, .inl (cI, 20, .inl u.2.1)), (w, .inr (4, [.ref sg, .int (nI nl)])), (sg, .inl (cI, 20, .inl fs))]) := by
  refine si_of (cc := cX0_nextHour) (maxL := 6) (by decide) rfl (Nat.le_of_ble_eq_true rfl) ?_
  intro p e s m args below meth c A ls Q E hret
  obtain ⟨hx, hb, -, hml, hown, hts, -, hin, hA, hK, hP, hD, hS, hl, hN⟩ := E
  have hown : s.vm.findClass RX0 = some m.cls := hown
  have hl : lv_has ls 6 [(0, .ref b), (1, .ref w), (2, .int h), (3, .ref lt), (4, .int la)] := hl
  have SF : CallFix p m c cX0_nextHour 6 s args wsX0_nextHour RX0 := ⟨hx, hb, hml, hown, hts⟩
  have hw0 := hts (.fieldLink RX0 21 "LatestSets$Board" "guild" "LLatestSets$Guild;") (by decide +kernel)
  have hi0 : ∀ x ∈ wsX00, x ∈ wsX0_nextHour := by decide +kernel
  have hw2 := hts (.fieldLink RX0 36 "LatestSets$Guild" "count" "I") (by decide +kernel)
  have hi3 : ∀ x ∈ wsX30, x ∈ wsX0_nextHour := by decide +kernel
  have hw4 := hts (.methodLink RX0 55 Lib.Math.min.name) (by decide +kernel)
  have hw5 := hts (.static Lib.Math.min.name) (by decide +kernel)
  have hw6 := hts (.initialized "java/lang/Math") (by decide +kernel)
  have hw7 := hts (.code Lib.Math.min.name Lib.Math.min.code 2 (some .int)) (by decide +kernel)
  have hw8 := hts (.methodLink RX0 61 Lib.Math.max.name) (by decide +kernel)
  have hw9 := hts (.static Lib.Math.max.name) (by decide +kernel)
  have hw10 := hts (.code Lib.Math.max.name Lib.Math.max.code 2 (some .int)) (by decide +kernel)
  have hw11 := hts (.fieldLink RX0 40 "LatestSets$Guild" "early" "[I") (by decide +kernel)
  have hw12 := hts (.initialized RX7) (by decide +kernel)
  have hw13 := hts (.static yX7_comingAt) (by decide +kernel)
  refine lv_iconst (v := nI 0) hx hb dX0_nextHour_0 (by decide) ?_
  refine lv_istore (lv' := [(5, .int (nI 0)), (0, .ref b), (1, .ref w), (2, .int h), (3, .ref lt), (4, .int la)]) hx hb dX0_nextHour_1 hl (by decide) rfl (fun ls hl => ?_)
  have L3 : ∀ (n9 : Nat) (k : Nat) (hk : k ≤ n), n - k < n9 → ∀ (H : Heap) (locs : List Loc), va_P D vwCl [(b, .inr (0, [.ref g, .ref bt, .ref bc, .ref bs, .int hg])), (g, .inr (3, [.ref ge, .ref gl, .ref gb, .ref gw, .ref gsw, .ref gsh, .int si, .int (nI n), .int fi])), (ge, .inl (cI, 6, .inl fe)), (lt, .inl (cI, 6, .inl fl)), (bc, .inl (cI, 6, .inl (arrS cm (fun m9 => cmA h (fe m9 + la) (fl m9)) k))), (bs, .inl (cI, 20, .inl fk)), (w, .inr (4, [.ref sg, .int (nI nl)])), (sg, .inl (cI, 20, .inl fs))] H → va_D A [(b, .inr (0, [.ref g, .ref bt, .ref bc, .ref bs, .int hg])), (g, .inr (3, [.ref ge, .ref gl, .ref gb, .ref gw, .ref gsw, .ref gsh, .int si, .int (nI n), .int fi])), (ge, .inl (cI, 6, .inl fe)), (lt, .inl (cI, 6, .inl fl)), (bc, .inl (cI, 6, .inl (arrS cm (fun m9 => cmA h (fe m9 + la) (fl m9)) k))), (bs, .inl (cI, 20, .inl fk)), (w, .inr (4, [.ref sg, .int (nI nl)])), (sg, .inl (cI, 20, .inl fs))] → va_S A s.heap H locs → ∀ (ls : Array Slot), lv_has ls 6 [(0, .ref b), (1, .ref w), (2, .int h), (3, .ref lt), (4, .int la), (5, .int (nI k))] → W p l e rm_X0_nextHour s m args below meth c H locs 0 0 Q (F0 m 3 ls []) := by
    intro n9
    induction n9 with
    | zero => intro k hk hm; exact absurd hm (Nat.not_lt_zero _)
    | succ n9 ih3 =>
      intro k hk hm3 H locs hP hD hS ls hl
      refine lv_iload hx hb dX0_nextHour_3 (lv_at hl 5 rfl) ?_
      refine lv_aload_n hx hb dX0_nextHour_5 rfl (lv_at hl 0 rfl) ?_
      refine va_get (D := D) (ci := 0) (v := .ref g) (C := RX0) (T := TX0) (N := 5) hx hb hts hi0 hown hK hP 0 rfl rfl 0 (by decide) hw0 (fun _ h9 => h9) rfl dX0_nextHour_6 ?_
      refine va_get (D := D) (ci := 3) (v := .int (nI n)) (C := RX3) (T := TX3) (N := 9) hx hb hts hi3 hown hK hP 1 rfl rfl 7 (by decide) hw2 (fun _ h9 => h9) rfl dX0_nextHour_9 ?_
      refine icmp_ge_n (a := k) (b := n) (tgt := 48) hx hb dX0_nextHour_12 (by decide) (by omega) (by omega) (fun c12 => ?_) (fun c12 => ?_)
      · refine lv_aload_n hx hb dX0_nextHour_48 rfl (lv_at hl 0 rfl) ?_
        refine lv_aload_n hx hb dX0_nextHour_49 rfl (lv_at hl 1 rfl) ?_
        refine lv_iload_n hx hb dX0_nextHour_50 rfl (lv_at hl 2 rfl) ?_
        refine cal_i (run_V (As := [.ref w, .int h]) (rest := []) SF (c_madeBy l D cI cJ cZ cG cM b bt bc bs g ge gl gb gw gsw gsh si fi n w sg nl hg h (arrS cm (fun m9 => cmA h (fe m9 + la) (fl m9)) k) fk fs hV h1 h6) (cwV 2 hts gX0_nextHour_X0_madeBy rfl rfl rfl (by decide +kernel) ⟨Nat.le_of_ble_eq_true rfl, Nat.le_of_ble_eq_true rfl⟩) hN hK hP hD [0, 1, 4, 5, 6, 7] rfl (by decide) 0 0 rfl rfl rfl rfl hl.1 rfl (Nat.le_of_ble_eq_true rfl) dX0_nextHour_51 ⟨Nat.le_of_ble_eq_true rfl, Nat.le_of_ble_eq_true rfl⟩) ⟨rfl, rfl⟩ hP hD hS hA [0, 1, 4, 5, 6, 7] rfl (fun _ => rfl) (fun r51 u51 H locs hw hP hD hS => ?_)
        have hP : va_P D vwCl [(b, .inr (0, [.ref g, .ref bt, .ref bc, .ref bs, .int u51.2])), (g, .inr (3, [.ref ge, .ref gl, .ref gb, .ref gw, .ref gsw, .ref gsh, .int si, .int (nI n), .int fi])), (ge, .inl (cI, 6, .inl fe)), (lt, .inl (cI, 6, .inl fl)), (bc, .inl (cI, 6, .inl (arrS cm (fun m9 => cmA h (fe m9 + la) (fl m9)) k))), (bs, .inl (cI, 20, .inl u51.1)), (w, .inr (4, [.ref sg, .int (nI nl)])), (sg, .inl (cI, 20, .inl fs))] H := hP
        have hD : va_D A [(b, .inr (0, [.ref g, .ref bt, .ref bc, .ref bs, .int u51.2])), (g, .inr (3, [.ref ge, .ref gl, .ref gb, .ref gw, .ref gsw, .ref gsh, .int si, .int (nI n), .int fi])), (ge, .inl (cI, 6, .inl fe)), (lt, .inl (cI, 6, .inl fl)), (bc, .inl (cI, 6, .inl (arrS cm (fun m9 => cmA h (fe m9 + la) (fl m9)) k))), (bs, .inl (cI, 20, .inl u51.1)), (w, .inr (4, [.ref sg, .int (nI nl)])), (sg, .inl (cI, 20, .inl fs))] := hD
        refine lv_istore (lv' := [(5, .int r51), (0, .ref b), (1, .ref w), (2, .int h), (3, .ref lt), (4, .int la)]) hx hb dX0_nextHour_54 hl (by decide) rfl (fun ls hl => ?_)
        refine lv_iconst (v := nI 0) hx hb dX0_nextHour_56 (by decide) ?_
        refine lv_bipush (v := nI 23) hx hb dX0_nextHour_57 (by decide) ?_
        refine lv_iload hx hb dX0_nextHour_59 (lv_at hl 0 rfl) ?_
        refine va_mmin hx hb (by rw [hml]; exact hl.1.symm) hown hw4 hw5 hw6 hw7 (Nat.le_of_ble_eq_true rfl) (Nat.le_of_ble_eq_true rfl) (Nat.zero_le _) (Nat.zero_le _) dX0_nextHour_61 ?_
        refine va_mmax hx hb (by rw [hml]; exact hl.1.symm) hown hw8 hw9 hw6 hw10 (Nat.le_of_ble_eq_true rfl) (Nat.le_of_ble_eq_true rfl) (Nat.zero_le _) (Nat.zero_le _) dX0_nextHour_64 ?_
        have e9 : k = n := by omega
        subst e9
        exact hret (mxI (nI 0) (mnI (nI 23) r51)) ((arrS cm (fun m9 => cmA h (fe m9 + la) (fl m9)) k, u51.1, u51.2)) _ _ _ _ dX0_nextHour_67 (by rw [hw]; exact nxH_of cm h1 h) hP hD hS
      · refine lv_aload_n hx hb dX0_nextHour_15 rfl (lv_at hl 0 rfl) ?_
        refine lv_iload hx hb dX0_nextHour_16 (lv_at hl 5 rfl) ?_
        refine lv_iload_n hx hb dX0_nextHour_18 rfl (lv_at hl 2 rfl) ?_
        refine lv_aload_n hx hb dX0_nextHour_19 rfl (lv_at hl 0 rfl) ?_
        refine va_get (D := D) (ci := 0) (v := .ref g) (C := RX0) (T := TX0) (N := 5) hx hb hts hi0 hown hK hP 0 rfl rfl 0 (by decide) hw0 (fun _ h9 => h9) rfl dX0_nextHour_20 ?_
        refine va_get (D := D) (ci := 3) (v := .ref ge) (C := RX3) (T := TX3) (N := 9) hx hb hts hi3 hown hK hP 1 rfl rfl 0 (by decide) hw11 (fun _ h9 => h9) rfl dX0_nextHour_23 ?_
        refine lv_iload hx hb dX0_nextHour_26 (lv_at hl 5 rfl) ?_
        refine iald_n (k := k) hx hb hK hP 2 0 rfl rfl (by omega) (by omega) dX0_nextHour_28 ?_
        refine lv_iload hx hb dX0_nextHour_29 (lv_at hl 4 rfl) ?_
        refine lv_iadd hx hb dX0_nextHour_31 ?_
        refine lv_aload_n hx hb dX0_nextHour_32 rfl (lv_at hl 3 rfl) ?_
        refine lv_iload hx hb dX0_nextHour_33 (lv_at hl 5 rfl) ?_
        refine iald_n (k := k) hx hb hK hP 3 0 rfl rfl (by omega) (by omega) dX0_nextHour_35 ?_
        refine cal_i (run_SN (As := [.int h, .int ((fe k) + la), .int (fl k)]) (rest := [.int (nI k), .ref b]) SF (c_comingAt l D cI cJ cZ cG cM h ((fe k) + la) (fl k)) ⟨(va_cnB 3 hts gX0_nextHour_X7_comingAt_n43 rfl rfl rfl hN hw12 (by decide +kernel) ⟨Nat.le_of_ble_eq_true rfl, Nat.le_of_ble_eq_true rfl⟩), hw13, trivial⟩ hN hK hP hD [] rfl (by decide) rfl hl.1 rfl (Nat.le_of_ble_eq_true rfl) dX0_nextHour_36 ⟨Nat.le_of_ble_eq_true rfl, Nat.le_of_ble_eq_true rfl⟩) ⟨rfl, rfl⟩ hP hD hS hA [] rfl (fun _ => rfl) (fun r9 _ H locs hw hP hD hS => ?_)
        have hP : va_P D vwCl [(b, .inr (0, [.ref g, .ref bt, .ref bc, .ref bs, .int hg])), (g, .inr (3, [.ref ge, .ref gl, .ref gb, .ref gw, .ref gsw, .ref gsh, .int si, .int (nI n), .int fi])), (ge, .inl (cI, 6, .inl fe)), (lt, .inl (cI, 6, .inl fl)), (bc, .inl (cI, 6, .inl (arrS cm (fun m9 => cmA h (fe m9 + la) (fl m9)) k))), (bs, .inl (cI, 20, .inl fk)), (w, .inr (4, [.ref sg, .int (nI nl)])), (sg, .inl (cI, 20, .inl fs))] H := hP
        have hD : va_D A [(b, .inr (0, [.ref g, .ref bt, .ref bc, .ref bs, .int hg])), (g, .inr (3, [.ref ge, .ref gl, .ref gb, .ref gw, .ref gsw, .ref gsh, .int si, .int (nI n), .int fi])), (ge, .inl (cI, 6, .inl fe)), (lt, .inl (cI, 6, .inl fl)), (bc, .inl (cI, 6, .inl (arrS cm (fun m9 => cmA h (fe m9 + la) (fl m9)) k))), (bs, .inl (cI, 20, .inl fk)), (w, .inr (4, [.ref sg, .int (nI nl)])), (sg, .inl (cI, 20, .inl fs))] := hD
        subst hw
        refine cal_v (run_V (As := [.int (nI k), .int (cmA h ((fe k) + la) (fl k))]) (rest := []) SF (c_insert l D cI cJ cZ cG cM b bt bc bs g hg k (arrS cm (fun m9 => cmA h (fe m9 + la) (fl m9)) k) (cmA h ((fe k) + la) (fl k)) (by omega)) (cwV 2 hts gX0_nextHour_X0_insert rfl rfl rfl (by decide +kernel) ⟨Nat.le_of_ble_eq_true rfl, Nat.le_of_ble_eq_true rfl⟩) hN hK hP hD [0, 4] rfl (by decide) 0 0 rfl rfl rfl rfl hl.1 rfl (Nat.le_of_ble_eq_true rfl) dX0_nextHour_39 ⟨Nat.le_of_ble_eq_true rfl, Nat.le_of_ble_eq_true rfl⟩) ⟨rfl, rfl⟩ hP hD hS hA [0, 4] rfl (fun _ => rfl) (fun _ H locs hw hP hD hS => ?_)
        have hP : va_P D vwCl [(b, .inr (0, [.ref g, .ref bt, .ref bc, .ref bs, .int hg])), (g, .inr (3, [.ref ge, .ref gl, .ref gb, .ref gw, .ref gsw, .ref gsh, .int si, .int (nI n), .int fi])), (ge, .inl (cI, 6, .inl fe)), (lt, .inl (cI, 6, .inl fl)), (bc, .inl (cI, 6, .inl (insG (arrS cm (fun m9 => cmA h (fe m9 + la) (fl m9)) k) (cmA h ((fe k) + la) (fl k)) k))), (bs, .inl (cI, 20, .inl fk)), (w, .inr (4, [.ref sg, .int (nI nl)])), (sg, .inl (cI, 20, .inl fs))] H := hP
        have hD : va_D A [(b, .inr (0, [.ref g, .ref bt, .ref bc, .ref bs, .int hg])), (g, .inr (3, [.ref ge, .ref gl, .ref gb, .ref gw, .ref gsw, .ref gsh, .int si, .int (nI n), .int fi])), (ge, .inl (cI, 6, .inl fe)), (lt, .inl (cI, 6, .inl fl)), (bc, .inl (cI, 6, .inl (insG (arrS cm (fun m9 => cmA h (fe m9 + la) (fl m9)) k) (cmA h ((fe k) + la) (fl k)) k))), (bs, .inl (cI, 20, .inl fk)), (w, .inr (4, [.ref sg, .int (nI nl)])), (sg, .inl (cI, 20, .inl fs))] := hD
        refine lv_iinc (v := nI (k + 1)) (lv' := [(5, .int (nI (k + 1))), (0, .ref b), (1, .ref w), (2, .int h), (3, .ref lt), (4, .int la)]) hx hb dX0_nextHour_42 hl (k := 5) rfl (nI_1 k) (by decide) rfl (fun ls hl => ?_)
        refine lv_goto (tgt := 3) hx hb dX0_nextHour_45 (by decide) ?_
        exact ih3 (k + 1) ((by omega)) (by omega) _ _ hP hD hS _ (lv_sub hl [1, 2, 3, 4, 5, 0] rfl)
  exact L3 _ 0 ((Nat.zero_le _)) (Nat.lt_succ_self _) _ _ hP hD hS _ (lv_sub hl [1, 2, 3, 4, 5, 0] rfl)
end
section
/-! PURE WORDS, third: weeks, what was seen; the check's own forms of the same -/
/-- the next hour as a function of the hour: early, late, and how much later all early are -/
def nxF (fs : Nat → Int32) (nl n : Nat) (fe fl : Nat → Int32) (la : Int32) : Int32 → Int32 := fun h => nxH fs nl n (fun m9 => cmA h (fe m9 + la) (fl m9)) h
theorem nxF_cong {fs : Nat → Int32} {nl n : Nat} {fe f1 f2 : Nat → Int32} {la : Int32} (h : 1 ≤ n) (hf : ∀ j, j < n → f1 j = f2 j) : nxF fs nl n fe f1 la = nxF fs nl n fe f2 la := by
  funext x
  exact nxH_cong h (fun j hj => by rw [hf j hj]) x
theorem nxF_rng (fs : Nat → Int32) (nl n : Nat) (fe fl : Nat → Int32) (la h : Int32) : ∃ k : Nat, k ≤ 23 ∧ nxF fs nl n fe fl la h = nI k := clp_rng _
def itH (F : Int32 → Int32) : Nat → Int32 → Int32
  | 0, h => h
  | k + 1, h => F (itH F k h)
theorem itH_fix {F : Int32 → Int32} {h : Int32} {k : Nat} (e : F (itH F k h) = itH F k h) : ∀ d, itH F (k + d) h = itH F k h
  | 0 => rfl
  | d + 1 => by
    show F (itH F (k + d) h) = _
    rw [itH_fix e d, e]
theorem itH_stay {F : Int32 → Int32} {h : Int32} {k w : Nat} (e : F (itH F k h) = itH F k h) (hk : k ≤ w) : itH F k h = itH F w h := by
  have := itH_fix e (w - k)
  rw [show k + (w - k) = w by omega] at this
  exact this.symm
theorem itH_rng {F : Int32 → Int32} (hF : ∀ h, ∃ k : Nat, k ≤ 23 ∧ F h = nI k) : ∀ (w : Nat) {h : Nat}, h ≤ 23 → ∃ k : Nat, k ≤ 23 ∧ itH F w (nI h) = nI k
  | 0, h, hh => ⟨h, hh, rfl⟩
  | w + 1, h, _ => hF _
/-- the first k of what was seen hold -/
def SHb (F : Int32 → Int32) (fw fh : Nat → Int32) (from_ : Int32) : Nat → Bool
  | 0 => true
  | k + 1 => SHb F fw fh from_ k && decide (itH F (fw k).toNatClampNeg from_ = fh k)
theorem SHb_mono {F : Int32 → Int32} {fw fh : Nat → Int32} {x : Int32} : ∀ (d k : Nat), SHb F fw fh x k = false → SHb F fw fh x (k + d) = false
  | 0, _, h => h
  | d + 1, k, h => by
    show (SHb F fw fh x (k + d) && _) = false
    rw [SHb_mono d k h]; rfl
/-- the bits of those k below n that P has -/
def cdB (P : Nat → Bool) : Nat → Int32
  | 0 => nI 0
  | k + 1 => if P k = true then cdB P k ||| (nI 1 <<< (nI k &&& 31)) else cdB P k
def cut23 (x : Int32) : Int32 := if x ≤ nI 23 then x else nI 23
def mx2 (h f : Int32) : Int32 := if h ≤ f then f else h
/-- when one comes, in the check's words -/
def cmB (h e la b : Int32) : Int32 := cut23 (mx2 h (cut23 (e + la)) + b)
theorem mn_ge {a b : Int32} (h : b ≤ a) : b = mnI a b := by
  unfold mnI
  by_cases e : b < a
  · rw [if_pos e]
  · rw [if_neg e]
    rw [Int32.le_iff_toInt_le] at h; rw [Int32.lt_iff_toInt_lt] at e
    exact Int32.toInt_inj.mp (by omega)
theorem mn_lt {a b : Int32} (h : ¬ b ≤ a) : a = mnI a b := by
  unfold mnI
  rw [if_neg (fun e => h (by rw [Int32.le_iff_toInt_le]; rw [Int32.lt_iff_toInt_lt] at e; omega))]
theorem mx_le {a b : Int32} (h : a ≤ b) : b = mxI a b := by
  unfold mxI
  by_cases e : a < b
  · rw [if_pos e]
  · rw [if_neg e]
    rw [Int32.le_iff_toInt_le] at h; rw [Int32.lt_iff_toInt_lt] at e
    exact Int32.toInt_inj.mp (by omega)
theorem mx_gt {a b : Int32} (h : ¬ a ≤ b) : a = mxI a b := by
  unfold mxI
  rw [if_neg (fun e => h (by rw [Int32.le_iff_toInt_le]; rw [Int32.lt_iff_toInt_lt] at e; omega))]
theorem nI0I : (nI 0).toInt = 0 := nI_toInt (by omega)
theorem nI23I : (nI 23).toInt = 23 := nI_toInt (by omega)
theorem i0I : (0 : Int32).toInt = 0 := rfl
theorem clp_neg {v : Int32} (h : ¬ 0 ≤ v) : nI 0 = clp v := by
  rw [Int32.le_iff_toInt_le, i0I] at h
  unfold clp mxI mnI
  simp only [Int32.lt_iff_toInt_lt, nI0I, nI23I]
  apply Int32.toInt_inj.mp
  split <;> split <;> simp only [nI0I, nI23I] at * <;> omega
theorem clp_mid {v : Int32} (h : 0 ≤ v) (h2 : v ≤ nI 23) : v = clp v := by
  rw [Int32.le_iff_toInt_le, i0I] at h
  rw [Int32.le_iff_toInt_le, nI23I] at h2
  unfold clp mxI mnI
  simp only [Int32.lt_iff_toInt_lt, nI0I, nI23I]
  apply Int32.toInt_inj.mp
  split <;> split <;> simp only [nI0I, nI23I] at * <;> omega
theorem clp_hi {v : Int32} (h2 : ¬ v ≤ nI 23) : nI 23 = clp v := by
  rw [Int32.le_iff_toInt_le, nI23I] at h2
  unfold clp mxI mnI
  simp only [Int32.lt_iff_toInt_lt, nI0I, nI23I]
  apply Int32.toInt_inj.mp
  split <;> split <;> simp only [nI0I, nI23I] at * <;> omega
theorem ps_sh {sg : Nat → Int32} {q : Nat} (h : (ps sg q).2 = true) : ∃ k, q = k + 1 ∧ isSh (sg k) := by
  match q, h with
  | 0, h => exact absurd h Bool.false_ne_true
  | k + 1, h =>
    cases e : (ps sg k).2 with
    | true => rw [ps_t e] at h; exact absurd h Bool.false_ne_true
    | false => rw [ps_f e] at h; exact ⟨k, rfl, of_decide_eq_true h⟩
/-- the next hour, in the check's words -/
def nxG (fs : Nat → Int32) (nl n : Nat) (fe fb : Nat → Int32) (la : Int32) : Int32 → Int32 := fun h => nxH fs nl n (fun m9 => cmB h (fe m9) la (fb m9)) h
theorem nxG_cong {fs : Nat → Int32} {nl n : Nat} {fe f1 f2 : Nat → Int32} {la : Int32} (h : 1 ≤ n) (hf : ∀ j, j < n → f1 j = f2 j) : nxG fs nl n fe f1 la = nxG fs nl n fe f2 la := by
  funext x
  exact nxH_cong h (fun j hj => by rw [hf j hj]) x
theorem nxG_rng (fs : Nat → Int32) (nl n : Nat) (fe fl : Nat → Int32) (la h : Int32) : ∃ k : Nat, k ≤ 23 ∧ nxG fs nl n fe fl la h = nI k := clp_rng _
theorem upd_cong {f g : Nat → Int32} {mm n : Nat} {v : Int32} (h : ∀ j, j < n → j ≠ mm → f j = g j) : ∀ j, j < n → upd f mm v j = upd g mm v j := fun j hj => by
  by_cases e : j = mm
  · subst e; rw [pk_us, pk_us]
  · rw [pk_un e, pk_un e]; exact h j hj e
end
section
abbrev rm_X0_hourAfter : Room := { frames := 4, cells := 0, slots := 0, locals := 93 }
set_option maxHeartbeats 4000000 in
set_option maxRecDepth 100000 in
theorem c_hourAfter (l : Launch) (D : va_G) (cI cJ cZ cG cM : ClassId) (b bt bc bs : Nat) (g ge gl gb gw gsw gsh : Nat) (si fi : Int32) (n : Nat) (sg nl lt : Nat) (hg : Int32) (cm fk fs fe fl : Nat → Int32) (hV : VL fs nl) (h1 : 1 ≤ n) (h6 : n ≤ 6) (h : Int32) (wk : Nat) (hwk : wk < 1000) :
    CI l yX0_hourAfter wsX0_hourAfter rm_X0_hourAfter D [(cI, .int), (cJ, .long), (cZ, .boolean), (cG, .object "LatestSets$Guild"), (cM, .array .int)] [(b, .inr (0, [.ref g, .ref bt, .ref bc, .ref bs, .int hg])), (g, .inr (3, [.ref ge, .ref gl, .ref gb, .ref gw, .ref gsw, .ref gsh, .int si, .int (nI n), .int fi])), (ge, .inl (cI, 6, .inl fe)), (lt, .inl (cI, 6, .inl fl)), (bc, .inl (cI, 6, .inl cm)), (bs, .inl (cI, 20, .inl fk)), (gw, .inr (4, [.ref sg, .int (nI nl)])), (sg, .inl (cI, 20, .inl fs))] [.ref b, .int h, .int (nI wk), .ref lt] (S := ((Nat → Int32) × (Nat → Int32) × Int32)) (fun r u => r = itH (nxF fs nl n fe fl (nI 0)) wk h) (fun u => [(b, .inr (0, [.ref g, .ref bt, .ref bc, .ref bs, .int u.2.2])), (g, .inr (3, [.ref ge, .ref gl, .ref gb, .ref gw, .ref gsw, .ref gsh, .int si, .int (nI n), .int fi])), (ge, .inl (cI, 6, .inl fe)), (lt, .inl (cI, 6, .inl fl)), (bc, .inl (cI, 6, .inl u.1)), (bs, .inl (cI, 20, .inl u.2.1)), (gw, .inr (4, [.ref sg, .int (nI nl)])), (sg, .inl (cI, 20, .inl fs))]) := by
  refine si_of (cc := cX0_hourAfter) (maxL := 7) (by decide) rfl (Nat.le_of_ble_eq_true rfl) ?_
  intro p e s m args below meth c A ls Q E hret
  obtain ⟨hx, hb, -, hml, hown, hts, -, hin, hA, hK, hP, hD, hS, hl, hN⟩ := E
  have hown : s.vm.findClass RX0 = some m.cls := hown
  have hl : lv_has ls 7 [(0, .ref b), (1, .int h), (2, .int (nI wk)), (3, .ref lt)] := hl
  have SF : CallFix p m c cX0_hourAfter 7 s args wsX0_hourAfter RX0 := ⟨hx, hb, hml, hown, hts⟩
  have hw0 := hts (.fieldLink RX0 21 "LatestSets$Board" "guild" "LLatestSets$Guild;") (by decide +kernel)
  have hi0 : ∀ x ∈ wsX00, x ∈ wsX0_hourAfter := by decide +kernel
  have hw2 := hts (.fieldLink RX0 64 "LatestSets$Guild" "law" "LLatestSets$Law;") (by decide +kernel)
  have hi3 : ∀ x ∈ wsX30, x ∈ wsX0_hourAfter := by decide +kernel
  refine lv_iload_n hx hb dX0_hourAfter_0 rfl (lv_at hl 1 rfl) ?_
  refine lv_istore (lv' := [(4, .int h), (0, .ref b), (1, .int h), (2, .int (nI wk)), (3, .ref lt)]) hx hb dX0_hourAfter_1 hl (by decide) rfl (fun ls hl => ?_)
  refine lv_iconst (v := nI 0) hx hb dX0_hourAfter_3 (by decide) ?_
  refine lv_istore (lv' := [(5, .int (nI 0)), (4, .int h), (0, .ref b), (1, .int h), (2, .int (nI wk)), (3, .ref lt)]) hx hb dX0_hourAfter_4 hl (by decide) rfl (fun ls hl => ?_)
  have L6 : ∀ (n9 : Nat) (k : Nat) (cm fk : Nat → Int32) (hg : Int32) (hk : k ≤ wk), wk - k < n9 → ∀ (H : Heap) (locs : List Loc), va_P D vwCl [(b, .inr (0, [.ref g, .ref bt, .ref bc, .ref bs, .int hg])), (g, .inr (3, [.ref ge, .ref gl, .ref gb, .ref gw, .ref gsw, .ref gsh, .int si, .int (nI n), .int fi])), (ge, .inl (cI, 6, .inl fe)), (lt, .inl (cI, 6, .inl fl)), (bc, .inl (cI, 6, .inl cm)), (bs, .inl (cI, 20, .inl fk)), (gw, .inr (4, [.ref sg, .int (nI nl)])), (sg, .inl (cI, 20, .inl fs))] H → va_D A [(b, .inr (0, [.ref g, .ref bt, .ref bc, .ref bs, .int hg])), (g, .inr (3, [.ref ge, .ref gl, .ref gb, .ref gw, .ref gsw, .ref gsh, .int si, .int (nI n), .int fi])), (ge, .inl (cI, 6, .inl fe)), (lt, .inl (cI, 6, .inl fl)), (bc, .inl (cI, 6, .inl cm)), (bs, .inl (cI, 20, .inl fk)), (gw, .inr (4, [.ref sg, .int (nI nl)])), (sg, .inl (cI, 20, .inl fs))] → va_S A s.heap H locs → ∀ (ls : Array Slot), lv_has ls 7 [(0, .ref b), (1, .int h), (2, .int (nI wk)), (3, .ref lt), (4, .int (itH (nxF fs nl n fe fl (nI 0)) k h)), (5, .int (nI k))] → W p l e rm_X0_hourAfter s m args below meth c H locs 0 0 Q (F0 m 6 ls []) := by
    intro n9
    induction n9 with
    | zero => intro k cm fk hg hk hm; exact absurd hm (Nat.not_lt_zero _)
    | succ n9 ih6 =>
      intro k cm fk hg hk hm6 H locs hP hD hS ls hl
      refine lv_iload hx hb dX0_hourAfter_6 (lv_at hl 5 rfl) ?_
      refine lv_iload_n hx hb dX0_hourAfter_8 rfl (lv_at hl 2 rfl) ?_
      refine icmp_ge_n (a := k) (b := wk) (tgt := 49) hx hb dX0_hourAfter_9 (by decide) (by omega) (by omega) (fun c9 => ?_) (fun c9 => ?_)
      · refine lv_iload hx hb dX0_hourAfter_49 (lv_at hl 4 rfl) ?_
        have e9 : k = wk := by omega
        exact hret (itH (nxF fs nl n fe fl (nI 0)) k h) ((cm, fk, hg)) _ _ _ _ dX0_hourAfter_51 (by rw [← e9]) hP hD hS
      · refine lv_aload_n hx hb dX0_hourAfter_12 rfl (lv_at hl 0 rfl) ?_
        refine lv_aload_n hx hb dX0_hourAfter_13 rfl (lv_at hl 0 rfl) ?_
        refine va_get (D := D) (ci := 0) (v := .ref g) (C := RX0) (T := TX0) (N := 5) hx hb hts hi0 hown hK hP 0 rfl rfl 0 (by decide) hw0 (fun _ h9 => h9) rfl dX0_hourAfter_14 ?_
        refine va_get (D := D) (ci := 3) (v := .ref gw) (C := RX3) (T := TX3) (N := 9) hx hb hts hi3 hown hK hP 1 rfl rfl 3 (by decide) hw2 (fun _ h9 => h9) rfl dX0_hourAfter_17 ?_
        refine lv_iload hx hb dX0_hourAfter_20 (lv_at hl 4 rfl) ?_
        refine lv_aload_n hx hb dX0_hourAfter_22 rfl (lv_at hl 3 rfl) ?_
        refine lv_iconst (v := nI 0) hx hb dX0_hourAfter_23 (by decide) ?_
        refine cal_i (run_V (As := [.ref gw, .int (itH (nxF fs nl n fe fl (nI 0)) k h), .ref lt, .int (nI 0)]) (rest := []) SF (c_nextHour l D cI cJ cZ cG cM b bt bc bs g ge gl gb gw gsw gsh si fi n gw sg nl lt hg (itH (nxF fs nl n fe fl (nI 0)) k h) (nI 0) cm fk fs fe fl hV h1 h6) (cwV 4 hts gX0_hourAfter_X0_nextHour rfl rfl rfl (by decide +kernel) ⟨Nat.le_of_ble_eq_true rfl, Nat.le_of_ble_eq_true rfl⟩) hN hK hP hD [0, 1, 2, 3, 4, 5, 6, 7] rfl (by decide) 0 0 rfl rfl rfl rfl hl.1 rfl (Nat.le_of_ble_eq_true rfl) dX0_hourAfter_24 ⟨Nat.le_of_ble_eq_true rfl, Nat.le_of_ble_eq_true rfl⟩) ⟨rfl, rfl⟩ hP hD hS hA [0, 1, 2, 3, 4, 5, 6, 7] rfl (fun _ => rfl) (fun r24 u24 H locs hw hP hD hS => ?_)
        have hP : va_P D vwCl [(b, .inr (0, [.ref g, .ref bt, .ref bc, .ref bs, .int u24.2.2])), (g, .inr (3, [.ref ge, .ref gl, .ref gb, .ref gw, .ref gsw, .ref gsh, .int si, .int (nI n), .int fi])), (ge, .inl (cI, 6, .inl fe)), (lt, .inl (cI, 6, .inl fl)), (bc, .inl (cI, 6, .inl u24.1)), (bs, .inl (cI, 20, .inl u24.2.1)), (gw, .inr (4, [.ref sg, .int (nI nl)])), (sg, .inl (cI, 20, .inl fs))] H := hP
        have hD : va_D A [(b, .inr (0, [.ref g, .ref bt, .ref bc, .ref bs, .int u24.2.2])), (g, .inr (3, [.ref ge, .ref gl, .ref gb, .ref gw, .ref gsw, .ref gsh, .int si, .int (nI n), .int fi])), (ge, .inl (cI, 6, .inl fe)), (lt, .inl (cI, 6, .inl fl)), (bc, .inl (cI, 6, .inl u24.1)), (bs, .inl (cI, 20, .inl u24.2.1)), (gw, .inr (4, [.ref sg, .int (nI nl)])), (sg, .inl (cI, 20, .inl fs))] := hD
        change r24 = itH (nxF fs nl n fe fl (nI 0)) (k + 1) h at hw
        refine lv_istore (lv' := [(6, .int r24), (0, .ref b), (1, .int h), (2, .int (nI wk)), (3, .ref lt), (4, .int (itH (nxF fs nl n fe fl (nI 0)) k h)), (5, .int (nI k))]) hx hb dX0_hourAfter_27 hl (by decide) rfl (fun ls hl => ?_)
        refine lv_iload hx hb dX0_hourAfter_29 (lv_at hl 0 rfl) ?_
        refine lv_iload hx hb dX0_hourAfter_31 (lv_at hl 5 rfl) ?_
        refine lv_icmp_ne (tgt := 39) hx hb dX0_hourAfter_33 (by decide) (fun c33 => ?_) (fun c33 => ?_)
        · refine lv_iload hx hb dX0_hourAfter_39 (lv_at hl 0 rfl) ?_
          refine lv_istore (lv' := [(4, .int r24), (6, .int r24), (0, .ref b), (1, .int h), (2, .int (nI wk)), (3, .ref lt), (5, .int (nI k))]) hx hb dX0_hourAfter_41 hl (by decide) rfl (fun ls hl => ?_)
          refine lv_iinc (v := nI (k + 1)) (lv' := [(5, .int (nI (k + 1))), (4, .int r24), (6, .int r24), (0, .ref b), (1, .int h), (2, .int (nI wk)), (3, .ref lt)]) hx hb dX0_hourAfter_43 hl (k := 6) rfl (nI_1 k) (by decide) rfl (fun ls hl => ?_)
          refine lv_goto (tgt := 6) hx hb dX0_hourAfter_46 (by decide) ?_
          rw [hw] at hl
          exact ih6 (k + 1) u24.1 u24.2.1 u24.2.2 ((by omega)) (by omega) _ _ hP hD hS _ (lv_sub hl [3, 4, 5, 6, 1, 0] rfl)
        · refine lv_iload hx hb dX0_hourAfter_36 (lv_at hl 5 rfl) ?_
          exact hret (itH (nxF fs nl n fe fl (nI 0)) k h) ((u24.1, u24.2.1, u24.2.2)) _ _ _ _ dX0_hourAfter_38 (itH_stay (F := (nxF fs nl n fe fl (nI 0))) (hw.symm.trans c33) hk) hP hD hS
  exact L6 _ 0 cm fk hg ((Nat.zero_le _)) (Nat.lt_succ_self _) _ _ hP hD hS _ (lv_sub hl [2, 3, 4, 5, 1, 0] rfl)

abbrev rm_X0_allSightsHold : Room := { frames := 5, cells := 0, slots := 0, locals := 119 }
set_option maxHeartbeats 4000000 in
set_option maxRecDepth 100000 in
theorem c_allSights (l : Launch) (D : va_G) (cI cJ cZ cG cM : ClassId) (b bt bc bs : Nat) (g ge gl gb gw gsw gsh : Nat) (fi : Int32) (n ns : Nat) (sg nl : Nat) (hg : Int32) (cm fk fs fe ft fw fh : Nat → Int32) (hV : VL fs nl) (h1 : 1 ≤ n) (h6 : n ≤ 6) (hns : ns ≤ 6) (hsw : ∀ j, j < ns → ∃ k : Nat, k ≤ 30 ∧ fw j = nI k) (h : Int32) :
    CI l yX0_allSightsHold wsX0_allSightsHold rm_X0_allSightsHold D [(cI, .int), (cJ, .long), (cZ, .boolean), (cG, .object "LatestSets$Guild"), (cM, .array .int)] [(b, .inr (0, [.ref g, .ref bt, .ref bc, .ref bs, .int hg])), (g, .inr (3, [.ref ge, .ref gl, .ref gb, .ref gw, .ref gsw, .ref gsh, .int (nI ns), .int (nI n), .int fi])), (ge, .inl (cI, 6, .inl fe)), (bt, .inl (cI, 6, .inl ft)), (bc, .inl (cI, 6, .inl cm)), (bs, .inl (cI, 20, .inl fk)), (gw, .inr (4, [.ref sg, .int (nI nl)])), (sg, .inl (cI, 20, .inl fs)), (gsw, .inl (cI, 6, .inl fw)), (gsh, .inl (cI, 6, .inl fh))] [.ref b, .int h] (S := ((Nat → Int32) × (Nat → Int32) × Int32)) (fun r u => bz (SHb (nxF fs nl n fe ft (nI 0)) fw fh h ns = true) r) (fun u => [(b, .inr (0, [.ref g, .ref bt, .ref bc, .ref bs, .int u.2.2])), (g, .inr (3, [.ref ge, .ref gl, .ref gb, .ref gw, .ref gsw, .ref gsh, .int (nI ns), .int (nI n), .int fi])), (ge, .inl (cI, 6, .inl fe)), (bt, .inl (cI, 6, .inl ft)), (bc, .inl (cI, 6, .inl u.1)), (bs, .inl (cI, 20, .inl u.2.1)), (gw, .inr (4, [.ref sg, .int (nI nl)])), (sg, .inl (cI, 20, .inl fs)), (gsw, .inl (cI, 6, .inl fw)), (gsh, .inl (cI, 6, .inl fh))]) := by
  refine sz_of (cc := cX0_allSightsHold) (maxL := 3) (by decide) rfl (Nat.le_of_ble_eq_true rfl) ?_
  intro p e s m args below meth c A ls Q E hret
  obtain ⟨hx, hb, -, hml, hown, hts, -, hin, hA, hK, hP, hD, hS, hl, hN⟩ := E
  have hown : s.vm.findClass RX0 = some m.cls := hown
  have hl : lv_has ls 3 [(0, .ref b), (1, .int h)] := hl
  have SF : CallFix p m c cX0_allSightsHold 3 s args wsX0_allSightsHold RX0 := ⟨hx, hb, hml, hown, hts⟩
  have hw0 := hts (.fieldLink RX0 21 "LatestSets$Board" "guild" "LLatestSets$Guild;") (by decide +kernel)
  have hi0 : ∀ x ∈ wsX00, x ∈ wsX0_allSightsHold := by decide +kernel
  have hw2 := hts (.fieldLink RX0 79 "LatestSets$Guild" "sights" "I") (by decide +kernel)
  have hi3 : ∀ x ∈ wsX30, x ∈ wsX0_allSightsHold := by decide +kernel
  have hw4 := hts (.fieldLink RX0 82 "LatestSets$Guild" "sightWeek" "[I") (by decide +kernel)
  have hw5 := hts (.fieldLink RX0 9 "LatestSets$Board" "trial" "[I") (by decide +kernel)
  have hw6 := hts (.fieldLink RX0 89 "LatestSets$Guild" "sightHour" "[I") (by decide +kernel)
  refine lv_iconst (v := nI 0) hx hb dX0_allSightsHold_0 (by decide) ?_
  refine lv_istore_n (lv' := [(2, .int (nI 0)), (0, .ref b), (1, .int h)]) hx hb dX0_allSightsHold_1 rfl hl (by decide) rfl (fun ls hl => ?_)
  have L2 : ∀ (n9 : Nat) (k : Nat) (cm fk : Nat → Int32) (hg : Int32) (hk : k ≤ ns) (hin2 : SHb (nxF fs nl n fe ft (nI 0)) fw fh h k = true), ns - k < n9 → ∀ (H : Heap) (locs : List Loc), va_P D vwCl [(b, .inr (0, [.ref g, .ref bt, .ref bc, .ref bs, .int hg])), (g, .inr (3, [.ref ge, .ref gl, .ref gb, .ref gw, .ref gsw, .ref gsh, .int (nI ns), .int (nI n), .int fi])), (ge, .inl (cI, 6, .inl fe)), (bt, .inl (cI, 6, .inl ft)), (bc, .inl (cI, 6, .inl cm)), (bs, .inl (cI, 20, .inl fk)), (gw, .inr (4, [.ref sg, .int (nI nl)])), (sg, .inl (cI, 20, .inl fs)), (gsw, .inl (cI, 6, .inl fw)), (gsh, .inl (cI, 6, .inl fh))] H → va_D A [(b, .inr (0, [.ref g, .ref bt, .ref bc, .ref bs, .int hg])), (g, .inr (3, [.ref ge, .ref gl, .ref gb, .ref gw, .ref gsw, .ref gsh, .int (nI ns), .int (nI n), .int fi])), (ge, .inl (cI, 6, .inl fe)), (bt, .inl (cI, 6, .inl ft)), (bc, .inl (cI, 6, .inl cm)), (bs, .inl (cI, 20, .inl fk)), (gw, .inr (4, [.ref sg, .int (nI nl)])), (sg, .inl (cI, 20, .inl fs)), (gsw, .inl (cI, 6, .inl fw)), (gsh, .inl (cI, 6, .inl fh))] → va_S A s.heap H locs → ∀ (ls : Array Slot), lv_has ls 3 [(0, .ref b), (1, .int h), (2, .int (nI k))] → W p l e rm_X0_allSightsHold s m args below meth c H locs 0 0 Q (F0 m 2 ls []) := by
    intro n9
    induction n9 with
    | zero => intro k cm fk hg hk hin2 hm; exact absurd hm (Nat.not_lt_zero _)
    | succ n9 ih2 =>
      intro k cm fk hg hk hin2 hm2 H locs hP hD hS ls hl
      refine lv_iload_n hx hb dX0_allSightsHold_2 rfl (lv_at hl 2 rfl) ?_
      refine lv_aload_n hx hb dX0_allSightsHold_3 rfl (lv_at hl 0 rfl) ?_
      refine va_get (D := D) (ci := 0) (v := .ref g) (C := RX0) (T := TX0) (N := 5) hx hb hts hi0 hown hK hP 0 rfl rfl 0 (by decide) hw0 (fun _ h9 => h9) rfl dX0_allSightsHold_4 ?_
      refine va_get (D := D) (ci := 3) (v := .int (nI ns)) (C := RX3) (T := TX3) (N := 9) hx hb hts hi3 hown hK hP 1 rfl rfl 6 (by decide) hw2 (fun _ h9 => h9) rfl dX0_allSightsHold_7 ?_
      refine icmp_ge_n (a := k) (b := ns) (tgt := 51) hx hb dX0_allSightsHold_10 (by decide) (by omega) (by omega) (fun c10 => ?_) (fun c10 => ?_)
      · refine lv_iconst (v := nI 1) hx hb dX0_allSightsHold_51 (by decide) ?_
        have e9 : k = ns := by omega
        exact hret (nI 1) ((cm, fk, hg)) _ _ _ _ dX0_allSightsHold_52 rfl (bz1 (by rw [← e9]; exact hin2)) hP hD hS
      · refine lv_aload_n hx hb dX0_allSightsHold_13 rfl (lv_at hl 0 rfl) ?_
        refine lv_iload_n hx hb dX0_allSightsHold_14 rfl (lv_at hl 1 rfl) ?_
        refine lv_aload_n hx hb dX0_allSightsHold_15 rfl (lv_at hl 0 rfl) ?_
        refine va_get (D := D) (ci := 0) (v := .ref g) (C := RX0) (T := TX0) (N := 5) hx hb hts hi0 hown hK hP 0 rfl rfl 0 (by decide) hw0 (fun _ h9 => h9) rfl dX0_allSightsHold_16 ?_
        refine va_get (D := D) (ci := 3) (v := .ref gsw) (C := RX3) (T := TX3) (N := 9) hx hb hts hi3 hown hK hP 1 rfl rfl 4 (by decide) hw4 (fun _ h9 => h9) rfl dX0_allSightsHold_19 ?_
        refine lv_iload_n hx hb dX0_allSightsHold_22 rfl (lv_at hl 2 rfl) ?_
        refine iald_n (k := k) hx hb hK hP 8 0 rfl rfl (by omega) (by omega) dX0_allSightsHold_23 ?_
        obtain ⟨wk, hwk, hwe⟩ := hsw k (by omega)
        refine lv_topi (fun y9 e9 => ?_)
        have e9 : nI wk = y9 := (e9.trans (hwe)).symm
        subst e9
        refine lv_aload_n hx hb dX0_allSightsHold_24 rfl (lv_at hl 0 rfl) ?_
        refine va_get (D := D) (ci := 0) (v := .ref bt) (C := RX0) (T := TX0) (N := 5) hx hb hts hi0 hown hK hP 0 rfl rfl 1 (by decide) hw5 (fun _ h9 => h9) rfl dX0_allSightsHold_25 ?_
        refine cal_i (run_V (As := [.int h, .int (nI wk), .ref bt]) (rest := []) SF (c_hourAfter l D cI cJ cZ cG cM b bt bc bs g ge gl gb gw gsw gsh (nI ns) fi n sg nl bt hg cm fk fs fe ft hV h1 h6 h wk (by omega)) (cwV 3 hts gX0_allSightsHold_X0_hourAfter rfl rfl rfl (by decide +kernel) ⟨Nat.le_of_ble_eq_true rfl, Nat.le_of_ble_eq_true rfl⟩) hN hK hP hD [0, 1, 2, 3, 4, 5, 6, 7] rfl (by decide) 0 0 rfl rfl rfl rfl hl.1 rfl (Nat.le_of_ble_eq_true rfl) dX0_allSightsHold_28 ⟨Nat.le_of_ble_eq_true rfl, Nat.le_of_ble_eq_true rfl⟩) ⟨rfl, rfl⟩ hP hD hS hA [0, 1, 2, 3, 4, 5, 6, 7] rfl (fun _ => rfl) (fun r28 u28 H locs hw hP hD hS => ?_)
        have hP : va_P D vwCl [(b, .inr (0, [.ref g, .ref bt, .ref bc, .ref bs, .int u28.2.2])), (g, .inr (3, [.ref ge, .ref gl, .ref gb, .ref gw, .ref gsw, .ref gsh, .int (nI ns), .int (nI n), .int fi])), (ge, .inl (cI, 6, .inl fe)), (bt, .inl (cI, 6, .inl ft)), (bc, .inl (cI, 6, .inl u28.1)), (bs, .inl (cI, 20, .inl u28.2.1)), (gw, .inr (4, [.ref sg, .int (nI nl)])), (sg, .inl (cI, 20, .inl fs)), (gsw, .inl (cI, 6, .inl fw)), (gsh, .inl (cI, 6, .inl fh))] H := hP
        have hD : va_D A [(b, .inr (0, [.ref g, .ref bt, .ref bc, .ref bs, .int u28.2.2])), (g, .inr (3, [.ref ge, .ref gl, .ref gb, .ref gw, .ref gsw, .ref gsh, .int (nI ns), .int (nI n), .int fi])), (ge, .inl (cI, 6, .inl fe)), (bt, .inl (cI, 6, .inl ft)), (bc, .inl (cI, 6, .inl u28.1)), (bs, .inl (cI, 20, .inl u28.2.1)), (gw, .inr (4, [.ref sg, .int (nI nl)])), (sg, .inl (cI, 20, .inl fs)), (gsw, .inl (cI, 6, .inl fw)), (gsh, .inl (cI, 6, .inl fh))] := hD
        refine lv_aload_n hx hb dX0_allSightsHold_31 rfl (lv_at hl 0 rfl) ?_
        refine va_get (D := D) (ci := 0) (v := .ref g) (C := RX0) (T := TX0) (N := 5) hx hb hts hi0 hown hK hP 0 rfl rfl 0 (by decide) hw0 (fun _ h9 => h9) rfl dX0_allSightsHold_32 ?_
        refine va_get (D := D) (ci := 3) (v := .ref gsh) (C := RX3) (T := TX3) (N := 9) hx hb hts hi3 hown hK hP 1 rfl rfl 5 (by decide) hw6 (fun _ h9 => h9) rfl dX0_allSightsHold_35 ?_
        refine lv_iload_n hx hb dX0_allSightsHold_38 rfl (lv_at hl 2 rfl) ?_
        refine iald_n (k := k) hx hb hK hP 9 0 rfl rfl (by omega) (by omega) dX0_allSightsHold_39 ?_
        refine lv_icmp_eq (tgt := 45) hx hb dX0_allSightsHold_40 (by decide) (fun c40 => ?_) (fun c40 => ?_)
        · refine lv_iinc (v := nI (k + 1)) (lv' := [(2, .int (nI (k + 1))), (0, .ref b), (1, .int h)]) hx hb dX0_allSightsHold_45 hl (k := 2) rfl (nI_1 k) (by decide) rfl (fun ls hl => ?_)
          refine lv_goto (tgt := 2) hx hb dX0_allSightsHold_48 (by decide) ?_
          exact ih2 (k + 1) u28.1 u28.2.1 u28.2.2 ((by omega)) ((by show (SHb _ _ _ _ k && decide _) = true; rw [hin2, hwe, nI_clamp (by omega), ← hw, c40]; simp)) (by omega) _ _ hP hD hS _ (lv_sub hl [1, 2, 0] rfl)
        · refine lv_iconst (v := nI 0) hx hb dX0_allSightsHold_43 (by decide) ?_
          exact hret (nI 0) ((u28.1, u28.2.1, u28.2.2)) _ _ _ _ dX0_allSightsHold_44 rfl (bz0 (by rw [show ns = (k + 1) + (ns - (k + 1)) by omega, SHb_mono (ns - (k + 1)) (k + 1) (by show (SHb _ _ _ _ k && decide _) = false; rw [hin2, hwe, nI_clamp (by omega), ← hw]; simp [c40])]; decide)) hP hD hS
  exact L2 _ 0 cm fk hg ((Nat.zero_le _)) rfl (Nat.lt_succ_self _) _ _ hP hD hS _ (lv_sub hl [1, 2, 0] rfl)

abbrev rm_X0_latesThatFit : Room := { frames := 6, cells := 0, slots := 0, locals := 141 }
set_option maxHeartbeats 4000000 in
set_option maxRecDepth 100000 in
theorem c_latesThatFit (l : Launch) (D : va_G) (cI cJ cZ cG cM : ClassId) (b bt bc bs : Nat) (g ge gl gb gw gsw gsh : Nat) (fi : Int32) (n ns : Nat) (sg nl : Nat) (hg : Int32) (cm fk fs fe ft fw fh : Nat → Int32) (hV : VL fs nl) (h1 : 1 ≤ n) (h6 : n ≤ 6) (hns : ns ≤ 6) (hsw : ∀ j, j < ns → ∃ k : Nat, k ≤ 30 ∧ fw j = nI k) (fl : Nat → Int32) (mm : Nat) (hmm : mm < n) (h : Int32) :
    CI l yX0_latesThatFit wsX0_latesThatFit rm_X0_latesThatFit D [(cI, .int), (cJ, .long), (cZ, .boolean), (cG, .object "LatestSets$Guild"), (cM, .array .int)] [(b, .inr (0, [.ref g, .ref bt, .ref bc, .ref bs, .int hg])), (g, .inr (3, [.ref ge, .ref gl, .ref gb, .ref gw, .ref gsw, .ref gsh, .int (nI ns), .int (nI n), .int fi])), (ge, .inl (cI, 6, .inl fe)), (bt, .inl (cI, 6, .inl ft)), (bc, .inl (cI, 6, .inl cm)), (bs, .inl (cI, 20, .inl fk)), (gw, .inr (4, [.ref sg, .int (nI nl)])), (sg, .inl (cI, 20, .inl fs)), (gsw, .inl (cI, 6, .inl fw)), (gsh, .inl (cI, 6, .inl fh)), (gl, .inl (cI, 6, .inl fl))] [.ref b, .int (nI mm), .int h] (S := ((Nat → Int32) × (Nat → Int32) × (Nat → Int32) × Int32)) (fun r u => r = cdB (fun k => SHb (nxF fs nl n fe (upd fl mm (nI k)) (nI 0)) fw fh h ns) 6) (fun u => [(b, .inr (0, [.ref g, .ref bt, .ref bc, .ref bs, .int u.2.2.2])), (g, .inr (3, [.ref ge, .ref gl, .ref gb, .ref gw, .ref gsw, .ref gsh, .int (nI ns), .int (nI n), .int fi])), (ge, .inl (cI, 6, .inl fe)), (bt, .inl (cI, 6, .inl u.1)), (bc, .inl (cI, 6, .inl u.2.1)), (bs, .inl (cI, 20, .inl u.2.2.1)), (gw, .inr (4, [.ref sg, .int (nI nl)])), (sg, .inl (cI, 20, .inl fs)), (gsw, .inl (cI, 6, .inl fw)), (gsh, .inl (cI, 6, .inl fh)), (gl, .inl (cI, 6, .inl fl))]) := by
  refine si_of (cc := cX0_latesThatFit) (maxL := 5) (by decide) rfl (Nat.le_of_ble_eq_true rfl) ?_
  intro p e s m args below meth c A ls Q E hret
  obtain ⟨hx, hb, -, hml, hown, hts, -, hin, hA, hK, hP, hD, hS, hl, hN⟩ := E
  have hown : s.vm.findClass RX0 = some m.cls := hown
  have hl : lv_has ls 5 [(0, .ref b), (1, .int (nI mm)), (2, .int h)] := hl
  have SF : CallFix p m c cX0_latesThatFit 5 s args wsX0_latesThatFit RX0 := ⟨hx, hb, hml, hown, hts⟩
  have hw0 := hts (.fieldLink RX0 9 "LatestSets$Board" "trial" "[I") (by decide +kernel)
  have hi0 : ∀ x ∈ wsX00, x ∈ wsX0_latesThatFit := by decide +kernel
  refine lv_aload_n hx hb dX0_latesThatFit_0 rfl (lv_at hl 0 rfl) ?_
  refine cal_v (run_V (As := []) (rest := []) SF (c_tryAsTold l D cI cJ cZ cG cM b bt bc bs g ge gl gb gw gsw gsh (nI ns) fi n hg ft fl) (cwV 0 hts gX0_latesThatFit_X0_tryAsTold rfl rfl rfl (by decide +kernel) ⟨Nat.le_of_ble_eq_true rfl, Nat.le_of_ble_eq_true rfl⟩) hN hK hP hD [0, 1, 3, 10] rfl (by decide) 0 0 rfl rfl rfl rfl hl.1 rfl (Nat.le_of_ble_eq_true rfl) dX0_latesThatFit_1 ⟨Nat.le_of_ble_eq_true rfl, Nat.le_of_ble_eq_true rfl⟩) ⟨rfl, rfl⟩ hP hD hS hA [0, 1, 3, 10] rfl (fun _ => rfl) (fun _ H locs hw hP hD hS => ?_)
  have hP : va_P D vwCl [(b, .inr (0, [.ref g, .ref bt, .ref bc, .ref bs, .int hg])), (g, .inr (3, [.ref ge, .ref gl, .ref gb, .ref gw, .ref gsw, .ref gsh, .int (nI ns), .int (nI n), .int fi])), (ge, .inl (cI, 6, .inl fe)), (bt, .inl (cI, 6, .inl (va_cpy fl ft 0 0 6))), (bc, .inl (cI, 6, .inl cm)), (bs, .inl (cI, 20, .inl fk)), (gw, .inr (4, [.ref sg, .int (nI nl)])), (sg, .inl (cI, 20, .inl fs)), (gsw, .inl (cI, 6, .inl fw)), (gsh, .inl (cI, 6, .inl fh)), (gl, .inl (cI, 6, .inl fl))] H := hP
  have hD : va_D A [(b, .inr (0, [.ref g, .ref bt, .ref bc, .ref bs, .int hg])), (g, .inr (3, [.ref ge, .ref gl, .ref gb, .ref gw, .ref gsw, .ref gsh, .int (nI ns), .int (nI n), .int fi])), (ge, .inl (cI, 6, .inl fe)), (bt, .inl (cI, 6, .inl (va_cpy fl ft 0 0 6))), (bc, .inl (cI, 6, .inl cm)), (bs, .inl (cI, 20, .inl fk)), (gw, .inr (4, [.ref sg, .int (nI nl)])), (sg, .inl (cI, 20, .inl fs)), (gsw, .inl (cI, 6, .inl fw)), (gsh, .inl (cI, 6, .inl fh)), (gl, .inl (cI, 6, .inl fl))] := hD
  refine lv_iconst (v := nI 0) hx hb dX0_latesThatFit_4 (by decide) ?_
  refine lv_istore_n (lv' := [(3, .int (nI 0)), (0, .ref b), (1, .int (nI mm)), (2, .int h)]) hx hb dX0_latesThatFit_5 rfl hl (by decide) rfl (fun ls hl => ?_)
  refine lv_iconst (v := nI 0) hx hb dX0_latesThatFit_6 (by decide) ?_
  refine lv_istore (lv' := [(4, .int (nI 0)), (3, .int (nI 0)), (0, .ref b), (1, .int (nI mm)), (2, .int h)]) hx hb dX0_latesThatFit_7 hl (by decide) rfl (fun ls hl => ?_)
  have L9 : ∀ (n9 : Nat) (k : Nat) (ft cm fk : Nat → Int32) (hg : Int32) (hk : k ≤ 6) (hT : ∀ j, j < 6 → j ≠ mm → ft j = fl j), 6 - k < n9 → ∀ (H : Heap) (locs : List Loc), va_P D vwCl [(b, .inr (0, [.ref g, .ref bt, .ref bc, .ref bs, .int hg])), (g, .inr (3, [.ref ge, .ref gl, .ref gb, .ref gw, .ref gsw, .ref gsh, .int (nI ns), .int (nI n), .int fi])), (ge, .inl (cI, 6, .inl fe)), (bt, .inl (cI, 6, .inl ft)), (bc, .inl (cI, 6, .inl cm)), (bs, .inl (cI, 20, .inl fk)), (gw, .inr (4, [.ref sg, .int (nI nl)])), (sg, .inl (cI, 20, .inl fs)), (gsw, .inl (cI, 6, .inl fw)), (gsh, .inl (cI, 6, .inl fh)), (gl, .inl (cI, 6, .inl fl))] H → va_D A [(b, .inr (0, [.ref g, .ref bt, .ref bc, .ref bs, .int hg])), (g, .inr (3, [.ref ge, .ref gl, .ref gb, .ref gw, .ref gsw, .ref gsh, .int (nI ns), .int (nI n), .int fi])), (ge, .inl (cI, 6, .inl fe)), (bt, .inl (cI, 6, .inl ft)), (bc, .inl (cI, 6, .inl cm)), (bs, .inl (cI, 20, .inl fk)), (gw, .inr (4, [.ref sg, .int (nI nl)])), (sg, .inl (cI, 20, .inl fs)), (gsw, .inl (cI, 6, .inl fw)), (gsh, .inl (cI, 6, .inl fh)), (gl, .inl (cI, 6, .inl fl))] → va_S A s.heap H locs → ∀ (ls : Array Slot), lv_has ls 5 [(0, .ref b), (1, .int (nI mm)), (2, .int h), (3, .int (cdB (fun k => SHb (nxF fs nl n fe (upd fl mm (nI k)) (nI 0)) fw fh h ns) k)), (4, .int (nI k))] → W p l e rm_X0_latesThatFit s m args below meth c H locs 0 0 Q (F0 m 9 ls []) := by
    intro n9
    induction n9 with
    | zero => intro k ft cm fk hg hk hT hm; exact absurd hm (Nat.not_lt_zero _)
    | succ n9 ih9 =>
      intro k ft cm fk hg hk hT hm9 H locs hP hD hS ls hl
      refine lv_iload hx hb dX0_latesThatFit_9 (lv_at hl 4 rfl) ?_
      refine lv_iconst (v := nI 5) hx hb dX0_latesThatFit_11 (by decide) ?_
      refine icmp_gt_n (a := k) (b := 5) (tgt := 44) hx hb dX0_latesThatFit_12 (by decide) (by omega) (by omega) (fun c12 => ?_) (fun c12 => ?_)
      · refine lv_iload_n hx hb dX0_latesThatFit_44 rfl (lv_at hl 3 rfl) ?_
        exact hret (cdB (fun k => SHb (nxF fs nl n fe (upd fl mm (nI k)) (nI 0)) fw fh h ns) k) ((ft, cm, fk, hg)) _ _ _ _ dX0_latesThatFit_45 (by rw [show k = 6 by omega]) hP hD hS
      · refine lv_aload_n hx hb dX0_latesThatFit_15 rfl (lv_at hl 0 rfl) ?_
        refine va_get (D := D) (ci := 0) (v := .ref bt) (C := RX0) (T := TX0) (N := 5) hx hb hts hi0 hown hK hP 0 rfl rfl 1 (by decide) hw0 (fun _ h9 => h9) rfl dX0_latesThatFit_16 ?_
        refine lv_iload_n hx hb dX0_latesThatFit_19 rfl (lv_at hl 1 rfl) ?_
        refine lv_iload hx hb dX0_latesThatFit_20 (lv_at hl 4 rfl) ?_
        refine iast_n (k := mm) hx hb hK hP hD hS 3 0 rfl rfl (by omega) (by omega) dX0_latesThatFit_22 (fun H locs hP hD hS => ?_)
        have hP : va_P D vwCl [(b, .inr (0, [.ref g, .ref bt, .ref bc, .ref bs, .int hg])), (g, .inr (3, [.ref ge, .ref gl, .ref gb, .ref gw, .ref gsw, .ref gsh, .int (nI ns), .int (nI n), .int fi])), (ge, .inl (cI, 6, .inl fe)), (bt, .inl (cI, 6, .inl (upd ft mm (nI k)))), (bc, .inl (cI, 6, .inl cm)), (bs, .inl (cI, 20, .inl fk)), (gw, .inr (4, [.ref sg, .int (nI nl)])), (sg, .inl (cI, 20, .inl fs)), (gsw, .inl (cI, 6, .inl fw)), (gsh, .inl (cI, 6, .inl fh)), (gl, .inl (cI, 6, .inl fl))] H := hP
        have hD : va_D A [(b, .inr (0, [.ref g, .ref bt, .ref bc, .ref bs, .int hg])), (g, .inr (3, [.ref ge, .ref gl, .ref gb, .ref gw, .ref gsw, .ref gsh, .int (nI ns), .int (nI n), .int fi])), (ge, .inl (cI, 6, .inl fe)), (bt, .inl (cI, 6, .inl (upd ft mm (nI k)))), (bc, .inl (cI, 6, .inl cm)), (bs, .inl (cI, 20, .inl fk)), (gw, .inr (4, [.ref sg, .int (nI nl)])), (sg, .inl (cI, 20, .inl fs)), (gsw, .inl (cI, 6, .inl fw)), (gsh, .inl (cI, 6, .inl fh)), (gl, .inl (cI, 6, .inl fl))] := hD
        refine lv_aload_n hx hb dX0_latesThatFit_23 rfl (lv_at hl 0 rfl) ?_
        refine lv_iload_n hx hb dX0_latesThatFit_24 rfl (lv_at hl 2 rfl) ?_
        refine cal_i (run_V (As := [.int h]) (rest := []) SF (c_allSights l D cI cJ cZ cG cM b bt bc bs g ge gl gb gw gsw gsh fi n ns sg nl hg cm fk fs fe (upd ft mm (nI k)) fw fh hV h1 h6 hns hsw h) (cwV 1 hts gX0_latesThatFit_X0_allSightsHold rfl rfl rfl (by decide +kernel) ⟨Nat.le_of_ble_eq_true rfl, Nat.le_of_ble_eq_true rfl⟩) hN hK hP hD [0, 1, 2, 3, 4, 5, 6, 7, 8, 9] rfl (by decide) 0 0 rfl rfl rfl rfl hl.1 rfl (Nat.le_of_ble_eq_true rfl) dX0_latesThatFit_25 ⟨Nat.le_of_ble_eq_true rfl, Nat.le_of_ble_eq_true rfl⟩) ⟨rfl, rfl⟩ hP hD hS hA [0, 1, 2, 3, 4, 5, 6, 7, 8, 9] rfl (fun _ => rfl) (fun r9 u25 H locs hw hP hD hS => ?_)
        have hP : va_P D vwCl [(b, .inr (0, [.ref g, .ref bt, .ref bc, .ref bs, .int u25.2.2])), (g, .inr (3, [.ref ge, .ref gl, .ref gb, .ref gw, .ref gsw, .ref gsh, .int (nI ns), .int (nI n), .int fi])), (ge, .inl (cI, 6, .inl fe)), (bt, .inl (cI, 6, .inl (upd ft mm (nI k)))), (bc, .inl (cI, 6, .inl u25.1)), (bs, .inl (cI, 20, .inl u25.2.1)), (gw, .inr (4, [.ref sg, .int (nI nl)])), (sg, .inl (cI, 20, .inl fs)), (gsw, .inl (cI, 6, .inl fw)), (gsh, .inl (cI, 6, .inl fh)), (gl, .inl (cI, 6, .inl fl))] H := hP
        have hD : va_D A [(b, .inr (0, [.ref g, .ref bt, .ref bc, .ref bs, .int u25.2.2])), (g, .inr (3, [.ref ge, .ref gl, .ref gb, .ref gw, .ref gsw, .ref gsh, .int (nI ns), .int (nI n), .int fi])), (ge, .inl (cI, 6, .inl fe)), (bt, .inl (cI, 6, .inl (upd ft mm (nI k)))), (bc, .inl (cI, 6, .inl u25.1)), (bs, .inl (cI, 20, .inl u25.2.1)), (gw, .inr (4, [.ref sg, .int (nI nl)])), (sg, .inl (cI, 20, .inl fs)), (gsw, .inl (cI, 6, .inl fw)), (gsh, .inl (cI, 6, .inl fh)), (gl, .inl (cI, 6, .inl fl))] := hD
        rw [nxF_cong (f1 := upd ft mm (nI k)) (f2 := upd fl mm (nI k)) h1 (fun j hj => upd_cong hT j (by omega))] at hw
        rcases hw with ⟨b25, rfl⟩ | ⟨b25, rfl⟩
        · refine lv_if_eq (tgt := 38) hx hb dX0_latesThatFit_28 (by decide) (fun c9 => absurd c9 (by decide)) (fun _ => ?_)
          refine lv_iload_n hx hb dX0_latesThatFit_31 rfl (lv_at hl 3 rfl) ?_
          refine lv_iconst (v := nI 1) hx hb dX0_latesThatFit_32 (by decide) ?_
          refine lv_iload hx hb dX0_latesThatFit_33 (lv_at hl 4 rfl) ?_
          refine lv_ishl hx hb dX0_latesThatFit_35 ?_
          refine lv_ior hx hb dX0_latesThatFit_36 ?_
          refine lv_istore_n (lv' := [(3, .int ((cdB (fun k => SHb (nxF fs nl n fe (upd fl mm (nI k)) (nI 0)) fw fh h ns) k) ||| ((nI 1) <<< ((nI k) &&& 31)))), (0, .ref b), (1, .int (nI mm)), (2, .int h), (4, .int (nI k))]) hx hb dX0_latesThatFit_37 rfl hl (by decide) rfl (fun ls hl => ?_)
          refine lv_iinc (v := nI (k + 1)) (lv' := [(4, .int (nI (k + 1))), (3, .int ((cdB (fun k => SHb (nxF fs nl n fe (upd fl mm (nI k)) (nI 0)) fw fh h ns) k) ||| ((nI 1) <<< ((nI k) &&& 31)))), (0, .ref b), (1, .int (nI mm)), (2, .int h)]) hx hb dX0_latesThatFit_38 hl (k := 4) rfl (nI_1 k) (by decide) rfl (fun ls hl => ?_)
          refine lv_goto (tgt := 9) hx hb dX0_latesThatFit_41 (by decide) ?_
          have e8 := congrArg (fun z => z) (show cdB (fun k => SHb (nxF fs nl n fe (upd fl mm (nI k)) (nI 0)) fw fh h ns) (k + 1) = _ from if_pos b25)
          rw [← e8] at hl
          exact ih9 (k + 1) (upd ft mm (nI k)) u25.1 u25.2.1 u25.2.2 ((by omega)) ((fun j hj e9 => by rw [pk_un e9]; exact hT j hj e9)) (by omega) _ _ hP hD hS _ (lv_sub hl [2, 3, 4, 1, 0] rfl)
        · refine lv_if_eq (tgt := 38) hx hb dX0_latesThatFit_28 (by decide) (fun _ => ?_) (fun c9 => absurd (by decide) c9)
          refine lv_iinc (v := nI (k + 1)) (lv' := [(4, .int (nI (k + 1))), (0, .ref b), (1, .int (nI mm)), (2, .int h), (3, .int (cdB (fun k => SHb (nxF fs nl n fe (upd fl mm (nI k)) (nI 0)) fw fh h ns) k))]) hx hb dX0_latesThatFit_38 hl (k := 4) rfl (nI_1 k) (by decide) rfl (fun ls hl => ?_)
          refine lv_goto (tgt := 9) hx hb dX0_latesThatFit_41 (by decide) ?_
          have e8 := congrArg (fun z => z) (show cdB (fun k => SHb (nxF fs nl n fe (upd fl mm (nI k)) (nI 0)) fw fh h ns) (k + 1) = _ from if_neg b25)
          rw [← e8] at hl
          exact ih9 (k + 1) (upd ft mm (nI k)) u25.1 u25.2.1 u25.2.2 ((by omega)) ((fun j hj e9 => by rw [pk_un e9]; exact hT j hj e9)) (by omega) _ _ hP hD hS _ (lv_sub hl [1, 2, 3, 4, 0] rfl)
  exact L9 _ 0 (va_cpy fl ft 0 0 6) cm fk hg ((by omega)) ((fun j hj _ => by rw [pk_cpy_in (by omega) (by omega), Nat.zero_add, Nat.sub_zero])) (Nat.lt_succ_self _) _ _ hP hD hS _ (lv_sub hl [2, 3, 4, 1, 0] rfl)
end

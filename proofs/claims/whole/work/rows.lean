section
-- ===== PART A: goes FIRST, ahead of the names: the tables' words, and 'selects' of the private methods out of them =====
/-- a private method of a class that the tables say can be made, by its rows of tables_1 -/
def lw_okq (q : MethodName × Nat) : Prop := (q.1.cls ≠ "java/lang/invoke/MethodHandle" ∧ q.1.cls ≠ "java/lang/invoke/VarHandle") ∧ Cond.instantiable q.1.cls q.2 ∈ tables_1 ∧ Cond.privateMethod q.1 ∈ tables_1 ∧ Cond.instanceMethod q.1 ∈ tables_1
theorem lw_p0 : lw_okq (⟨"LeastRights", "noPerson", "(I)Z"⟩, 13) := ⟨⟨by decide +kernel, by decide +kernel⟩, List.mem_of_getElem? (i := 16) (by decide +kernel), List.mem_of_getElem? (i := 272) (by decide +kernel), List.mem_of_getElem? (i := 273) (by decide +kernel)⟩
theorem lw_p1 : lw_okq (⟨"LeastRights", "keptOf", "(I)I"⟩, 13) := ⟨⟨by decide +kernel, by decide +kernel⟩, List.mem_of_getElem? (i := 16) (by decide +kernel), List.mem_of_getElem? (i := 288) (by decide +kernel), List.mem_of_getElem? (i := 289) (by decide +kernel)⟩
theorem lw_p2 : lw_okq (⟨"LeastRights", "kindOf", "(II)I"⟩, 13) := ⟨⟨by decide +kernel, by decide +kernel⟩, List.mem_of_getElem? (i := 16) (by decide +kernel), List.mem_of_getElem? (i := 343) (by decide +kernel), List.mem_of_getElem? (i := 344) (by decide +kernel)⟩
theorem lw_p3 : lw_okq (⟨"LeastRights", "lookAtKept", "()V"⟩, 13) := ⟨⟨by decide +kernel, by decide +kernel⟩, List.mem_of_getElem? (i := 16) (by decide +kernel), List.mem_of_getElem? (i := 397) (by decide +kernel), List.mem_of_getElem? (i := 398) (by decide +kernel)⟩
theorem lw_p4 : lw_okq (⟨"LeastRights$Candidates", "note", "(I)V"⟩, 3) := ⟨⟨by decide +kernel, by decide +kernel⟩, List.mem_of_getElem? (i := 98) (by decide +kernel), List.mem_of_getElem? (i := 405) (by decide +kernel), List.mem_of_getElem? (i := 406) (by decide +kernel)⟩
theorem lw_p5 : lw_okq (⟨"LeastRights$Candidates", "isNoted", "(I)Z"⟩, 3) := ⟨⟨by decide +kernel, by decide +kernel⟩, List.mem_of_getElem? (i := 98) (by decide +kernel), List.mem_of_getElem? (i := 409) (by decide +kernel), List.mem_of_getElem? (i := 410) (by decide +kernel)⟩
theorem lw_p6 : lw_okq (⟨"LeastRights$Candidates", "putInOrder", "()V"⟩, 3) := ⟨⟨by decide +kernel, by decide +kernel⟩, List.mem_of_getElem? (i := 98) (by decide +kernel), List.mem_of_getElem? (i := 413) (by decide +kernel), List.mem_of_getElem? (i := 414) (by decide +kernel)⟩
theorem lw_p7 : lw_okq (⟨"LeastRights$RoleTree", "begin", "()V"⟩, 9) := ⟨⟨by decide +kernel, by decide +kernel⟩, List.mem_of_getElem? (i := 118) (by decide +kernel), List.mem_of_getElem? (i := 425) (by decide +kernel), List.mem_of_getElem? (i := 426) (by decide +kernel)⟩
theorem lw_p8 : lw_okq (⟨"LeastRights$RoleTree", "openPlace", "(I[II)Z"⟩, 9) := ⟨⟨by decide +kernel, by decide +kernel⟩, List.mem_of_getElem? (i := 118) (by decide +kernel), List.mem_of_getElem? (i := 429) (by decide +kernel), List.mem_of_getElem? (i := 430) (by decide +kernel)⟩
theorem lw_p9 : lw_okq (⟨"LeastRights$RoleTree", "nextOf", "(ILLeastRights$Candidates;)I"⟩, 9) := ⟨⟨by decide +kernel, by decide +kernel⟩, List.mem_of_getElem? (i := 118) (by decide +kernel), List.mem_of_getElem? (i := 434) (by decide +kernel), List.mem_of_getElem? (i := 435) (by decide +kernel)⟩
theorem lw_p10 : lw_okq (⟨"LeastRights$RoleTree", "cover", "(II[II)V"⟩, 9) := ⟨⟨by decide +kernel, by decide +kernel⟩, List.mem_of_getElem? (i := 118) (by decide +kernel), List.mem_of_getElem? (i := 438) (by decide +kernel), List.mem_of_getElem? (i := 439) (by decide +kernel)⟩
theorem lw_p11 : lw_okq (⟨"LeastRights$RoleTree", "keepIfFewer", "(I)V"⟩, 9) := ⟨⟨by decide +kernel, by decide +kernel⟩, List.mem_of_getElem? (i := 118) (by decide +kernel), List.mem_of_getElem? (i := 442) (by decide +kernel), List.mem_of_getElem? (i := 443) (by decide +kernel)⟩
theorem lw_p12 : lw_okq (⟨"LeastRights", "isStopped", "(II)Z"⟩, 13) := ⟨⟨by decide +kernel, by decide +kernel⟩, List.mem_of_getElem? (i := 16) (by decide +kernel), List.mem_of_getElem? (i := 529) (by decide +kernel), List.mem_of_getElem? (i := 530) (by decide +kernel)⟩
theorem lw_p13 : lw_okq (⟨"LeastRights", "digestOfPeople", "(J)J"⟩, 13) := ⟨⟨by decide +kernel, by decide +kernel⟩, List.mem_of_getElem? (i := 16) (by decide +kernel), List.mem_of_getElem? (i := 625) (by decide +kernel), List.mem_of_getElem? (i := 626) (by decide +kernel)⟩
theorem lw_p14 : lw_okq (⟨"LeastRights", "digestOfSheets", "(J)J"⟩, 13) := ⟨⟨by decide +kernel, by decide +kernel⟩, List.mem_of_getElem? (i := 16) (by decide +kernel), List.mem_of_getElem? (i := 630) (by decide +kernel), List.mem_of_getElem? (i := 631) (by decide +kernel)⟩
theorem lw_p15 : lw_okq (⟨"LeastRightsModel", "isPerson", "(I)Z"⟩, 32) := ⟨⟨by decide +kernel, by decide +kernel⟩, List.mem_of_getElem? (i := 634) (by decide +kernel), List.mem_of_getElem? (i := 749) (by decide +kernel), List.mem_of_getElem? (i := 750) (by decide +kernel)⟩
def lw_privs_1 : List (MethodName × Nat) := [(⟨"LeastRights", "noPerson", "(I)Z"⟩, 13), (⟨"LeastRights", "keptOf", "(I)I"⟩, 13), (⟨"LeastRights", "kindOf", "(II)I"⟩, 13), (⟨"LeastRights", "lookAtKept", "()V"⟩, 13), (⟨"LeastRights$Candidates", "note", "(I)V"⟩, 3), (⟨"LeastRights$Candidates", "isNoted", "(I)Z"⟩, 3), (⟨"LeastRights$Candidates", "putInOrder", "()V"⟩, 3), (⟨"LeastRights$RoleTree", "begin", "()V"⟩, 9), (⟨"LeastRights$RoleTree", "openPlace", "(I[II)Z"⟩, 9), (⟨"LeastRights$RoleTree", "nextOf", "(ILLeastRights$Candidates;)I"⟩, 9), (⟨"LeastRights$RoleTree", "cover", "(II[II)V"⟩, 9), (⟨"LeastRights$RoleTree", "keepIfFewer", "(I)V"⟩, 9), (⟨"LeastRights", "isStopped", "(II)Z"⟩, 13), (⟨"LeastRights", "digestOfPeople", "(J)J"⟩, 13), (⟨"LeastRights", "digestOfSheets", "(J)J"⟩, 13), (⟨"LeastRightsModel", "isPerson", "(I)Z"⟩, 32)]
theorem lw_r1 : ∀ q ∈ lw_privs_1, lw_okq q := List.forall_mem_cons.mpr ⟨lw_p0, List.forall_mem_cons.mpr ⟨lw_p1, List.forall_mem_cons.mpr ⟨lw_p2, List.forall_mem_cons.mpr ⟨lw_p3, List.forall_mem_cons.mpr ⟨lw_p4, List.forall_mem_cons.mpr ⟨lw_p5, List.forall_mem_cons.mpr ⟨lw_p6, List.forall_mem_cons.mpr ⟨lw_p7, List.forall_mem_cons.mpr ⟨lw_p8, List.forall_mem_cons.mpr ⟨lw_p9, List.forall_mem_cons.mpr ⟨lw_p10, List.forall_mem_cons.mpr ⟨lw_p11, List.forall_mem_cons.mpr ⟨lw_p12, List.forall_mem_cons.mpr ⟨lw_p13, List.forall_mem_cons.mpr ⟨lw_p14, List.forall_mem_cons.mpr ⟨lw_p15, fun _ h => absurd h List.not_mem_nil⟩⟩⟩⟩⟩⟩⟩⟩⟩⟩⟩⟩⟩⟩⟩⟩
theorem lw_p16 : lw_okq (⟨"LeastRightsModel", "give", "(II)I"⟩, 32) := ⟨⟨by decide +kernel, by decide +kernel⟩, List.mem_of_getElem? (i := 634) (by decide +kernel), List.mem_of_getElem? (i := 753) (by decide +kernel), List.mem_of_getElem? (i := 754) (by decide +kernel)⟩
theorem lw_p17 : lw_okq (⟨"LeastRightsModel", "tells", "(II)I"⟩, 32) := ⟨⟨by decide +kernel, by decide +kernel⟩, List.mem_of_getElem? (i := 634) (by decide +kernel), List.mem_of_getElem? (i := 764) (by decide +kernel), List.mem_of_getElem? (i := 765) (by decide +kernel)⟩
theorem lw_p18 : lw_okq (⟨"LeastRightsModel", "keptOf", "(I)I"⟩, 32) := ⟨⟨by decide +kernel, by decide +kernel⟩, List.mem_of_getElem? (i := 634) (by decide +kernel), List.mem_of_getElem? (i := 768) (by decide +kernel), List.mem_of_getElem? (i := 769) (by decide +kernel)⟩
theorem lw_p19 : lw_okq (⟨"LeastRightsModel", "kindOf", "(II)I"⟩, 32) := ⟨⟨by decide +kernel, by decide +kernel⟩, List.mem_of_getElem? (i := 634) (by decide +kernel), List.mem_of_getElem? (i := 772) (by decide +kernel), List.mem_of_getElem? (i := 773) (by decide +kernel)⟩
theorem lw_p20 : lw_okq (⟨"LeastRightsModel", "meets", "(I)I"⟩, 32) := ⟨⟨by decide +kernel, by decide +kernel⟩, List.mem_of_getElem? (i := 634) (by decide +kernel), List.mem_of_getElem? (i := 803) (by decide +kernel), List.mem_of_getElem? (i := 804) (by decide +kernel)⟩
theorem lw_p21 : lw_okq (⟨"LeastRightsModel", "strikeBut", "(II)I"⟩, 32) := ⟨⟨by decide +kernel, by decide +kernel⟩, List.mem_of_getElem? (i := 634) (by decide +kernel), List.mem_of_getElem? (i := 811) (by decide +kernel), List.mem_of_getElem? (i := 812) (by decide +kernel)⟩
theorem lw_p22 : lw_okq (⟨"LeastRightsModel", "setCandidates", "()I"⟩, 32) := ⟨⟨by decide +kernel, by decide +kernel⟩, List.mem_of_getElem? (i := 634) (by decide +kernel), List.mem_of_getElem? (i := 827) (by decide +kernel), List.mem_of_getElem? (i := 828) (by decide +kernel)⟩
theorem lw_p23 : lw_okq (⟨"LeastRightsModel", "open", "(I)I"⟩, 32) := ⟨⟨by decide +kernel, by decide +kernel⟩, List.mem_of_getElem? (i := 634) (by decide +kernel), List.mem_of_getElem? (i := 835) (by decide +kernel), List.mem_of_getElem? (i := 836) (by decide +kernel)⟩
theorem lw_p24 : lw_okq (⟨"LeastRightsModel", "level", "(II)V"⟩, 32) := ⟨⟨by decide +kernel, by decide +kernel⟩, List.mem_of_getElem? (i := 634) (by decide +kernel), List.mem_of_getElem? (i := 839) (by decide +kernel), List.mem_of_getElem? (i := 840) (by decide +kernel)⟩
theorem lw_p25 : lw_okq (⟨"LeastRightsModel", "isNext", "(I)Z"⟩, 32) := ⟨⟨by decide +kernel, by decide +kernel⟩, List.mem_of_getElem? (i := 634) (by decide +kernel), List.mem_of_getElem? (i := 843) (by decide +kernel), List.mem_of_getElem? (i := 844) (by decide +kernel)⟩
theorem lw_p26 : lw_okq (⟨"LeastRightsModel", "exceptionsTo", "(II)I"⟩, 32) := ⟨⟨by decide +kernel, by decide +kernel⟩, List.mem_of_getElem? (i := 634) (by decide +kernel), List.mem_of_getElem? (i := 863) (by decide +kernel), List.mem_of_getElem? (i := 864) (by decide +kernel)⟩
theorem lw_p27 : lw_okq (⟨"LeastRightsModel", "isBad", "(I)Z"⟩, 32) := ⟨⟨by decide +kernel, by decide +kernel⟩, List.mem_of_getElem? (i := 634) (by decide +kernel), List.mem_of_getElem? (i := 882) (by decide +kernel), List.mem_of_getElem? (i := 883) (by decide +kernel)⟩
theorem lw_p28 : lw_okq (⟨"LeastRightsModel", "isStopped", "(II)Z"⟩, 32) := ⟨⟨by decide +kernel, by decide +kernel⟩, List.mem_of_getElem? (i := 634) (by decide +kernel), List.mem_of_getElem? (i := 906) (by decide +kernel), List.mem_of_getElem? (i := 907) (by decide +kernel)⟩
def lw_privs_2 : List (MethodName × Nat) := [(⟨"LeastRightsModel", "give", "(II)I"⟩, 32), (⟨"LeastRightsModel", "tells", "(II)I"⟩, 32), (⟨"LeastRightsModel", "keptOf", "(I)I"⟩, 32), (⟨"LeastRightsModel", "kindOf", "(II)I"⟩, 32), (⟨"LeastRightsModel", "meets", "(I)I"⟩, 32), (⟨"LeastRightsModel", "strikeBut", "(II)I"⟩, 32), (⟨"LeastRightsModel", "setCandidates", "()I"⟩, 32), (⟨"LeastRightsModel", "open", "(I)I"⟩, 32), (⟨"LeastRightsModel", "level", "(II)V"⟩, 32), (⟨"LeastRightsModel", "isNext", "(I)Z"⟩, 32), (⟨"LeastRightsModel", "exceptionsTo", "(II)I"⟩, 32), (⟨"LeastRightsModel", "isBad", "(I)Z"⟩, 32), (⟨"LeastRightsModel", "isStopped", "(II)Z"⟩, 32)]
theorem lw_r2 : ∀ q ∈ lw_privs_2, lw_okq q := List.forall_mem_cons.mpr ⟨lw_p16, List.forall_mem_cons.mpr ⟨lw_p17, List.forall_mem_cons.mpr ⟨lw_p18, List.forall_mem_cons.mpr ⟨lw_p19, List.forall_mem_cons.mpr ⟨lw_p20, List.forall_mem_cons.mpr ⟨lw_p21, List.forall_mem_cons.mpr ⟨lw_p22, List.forall_mem_cons.mpr ⟨lw_p23, List.forall_mem_cons.mpr ⟨lw_p24, List.forall_mem_cons.mpr ⟨lw_p25, List.forall_mem_cons.mpr ⟨lw_p26, List.forall_mem_cons.mpr ⟨lw_p27, List.forall_mem_cons.mpr ⟨lw_p28, fun _ h => absurd h List.not_mem_nil⟩⟩⟩⟩⟩⟩⟩⟩⟩⟩⟩⟩⟩
def lw_privs : List (MethodName × Nat) := lw_privs_1 ++ (lw_privs_2)
def lw_tbl : List Cond := k2_sels lw_privs ++ tables_1
theorem lw_privs_ok : ∀ q ∈ lw_privs, lw_okq q := by
  show ∀ q ∈ lw_privs_1 ++ (lw_privs_2), lw_okq q
  exact List.forall_mem_append.mpr ⟨lw_r1, lw_r2⟩
-- ===== end of PART A; then your names; then what follows =====
end
section
/-! ===== BEGIN words of one list among another's, by their places ===== -/
theorem goodIn_r {big : List Cond} (ws : List Cond) (ps : List Nat) (hp : ws = ps.filterMap (fun i => big[i]?)) (h : ws.all goodWord = true) : GoodIn big ws := by
  intro w hw
  have h1 := List.all_eq_true.mp h w hw
  rw [hp] at hw
  obtain ⟨i, -, hi⟩ := List.mem_filterMap.mp hw
  have hm : w ∈ big := by first | exact List.mem_of_getElem? hi | exact List.getElem?_mem hi
  exact ⟨hm, good_of_word h1⟩
theorem goodIn_app {big a b : List Cond} (ha : GoodIn big a) (hb : GoodIn big b) : GoodIn big (a ++ b) := fun w h => (List.mem_append.mp h).elim (ha w) (hb w)
theorem goodIn_ca {big a b : List Cond} {c : Cond} (ha : GoodIn big (c :: a)) (hb : GoodIn big b) : GoodIn big (c :: (a ++ b)) := fun w h => (List.mem_cons.mp h).elim (fun e => ha w (List.mem_cons.mpr (Or.inl e))) (fun h => (List.mem_append.mp h).elim (fun h => ha w (List.mem_cons.mpr (Or.inr h))) (hb w))
theorem goodIn_sub {big ws : List Cond} (hm : ∀ w ∈ ws, w ∈ big) (h : ws.all goodWord = true) : GoodIn big ws := fun w hw => ⟨hm w hw, good_of_word (List.all_eq_true.mp h w hw)⟩
/-! ===== END ===== -/

/-! ===== BEGIN printed: names, fields, word lists, decode rows ===== -/
def RX0 : String := "LeastRights$Bans"
def TX0 : u_T := fun k => match k with
  | _ => ("LeastRights$Bans", "with", "[I", true)
def tyX0 : Nat → FieldType := fun k => match k with
  | _ => .array .int
abbrev wsX00 : List Cond := u_ws RX0 TX0 1
theorem nmX0 : ∀ a, a < 1 → ∀ b, b < 1 → a ≠ b → (TX0 a).2.1 ≠ (TX0 b).2.1 := by decide +kernel
theorem tyX0_ok : ∀ k, k < 1 → parseFieldDescriptor (TX0 k).2.2.1 = some (tyX0 k) := by decide +kernel
abbrev cX0_init : ByteArray := prog_2_method_1_code
def yX0_init : MethodName := ⟨RX0, "<init>", "()V"⟩
abbrev cX0_put : ByteArray := prog_2_method_2_code
def yX0_put : MethodName := ⟨RX0, "put", "(IIZ)I"⟩
abbrev cX0_clashing : ByteArray := prog_2_method_3_code
def yX0_clashing : MethodName := ⟨RX0, "clashing", "(I)I"⟩
def RX1 : String := "LeastRights$Candidates"
def TX1 : u_T := fun k => match k with
  | 0 => ("LeastRights$Candidates", "size", "I", false)
  | 1 => ("LeastRights$Candidates", "sets", "[I", true)
  | _ => ("LeastRights$Candidates", "noted", "[J", true)
def tyX1 : Nat → FieldType := fun k => match k with
  | 0 => .int
  | 1 => .array .int
  | _ => .array .long
abbrev wsX10 : List Cond := u_ws RX1 TX1 3
theorem nmX1 : ∀ a, a < 3 → ∀ b, b < 3 → a ≠ b → (TX1 a).2.1 ≠ (TX1 b).2.1 := by decide +kernel
theorem tyX1_ok : ∀ k, k < 3 → parseFieldDescriptor (TX1 k).2.2.1 = some (tyX1 k) := by decide +kernel
abbrev cX1_init : ByteArray := prog_3_method_1_code
def yX1_init : MethodName := ⟨RX1, "<init>", "()V"⟩
abbrev cX1_gather : ByteArray := prog_3_method_2_code
def yX1_gather : MethodName := ⟨RX1, "gather", "([II)V"⟩
abbrev cX1_note : ByteArray := prog_3_method_3_code
def yX1_note : MethodName := ⟨RX1, "note", "(I)V"⟩
abbrev cX1_isNoted : ByteArray := prog_3_method_4_code
def yX1_isNoted : MethodName := ⟨RX1, "isNoted", "(I)Z"⟩
abbrev cX1_putInOrder : ByteArray := prog_3_method_5_code
def yX1_putInOrder : MethodName := ⟨RX1, "putInOrder", "()V"⟩
def RX2 : String := "LeastRights$Days"
def TX2 : u_T := fun k => match k with
  | 0 => ("LeastRights$Days", "present", "I", false)
  | 1 => ("LeastRights$Days", "span", "I", false)
  | 2 => ("LeastRights$Days", "season", "I", false)
  | _ => ("LeastRights$Days", "grace", "I", false)
def tyX2 : Nat → FieldType := fun k => match k with
  | 0 => .int
  | 1 => .int
  | 2 => .int
  | _ => .int
abbrev wsX20 : List Cond := u_ws RX2 TX2 4
theorem nmX2 : ∀ a, a < 4 → ∀ b, b < 4 → a ≠ b → (TX2 a).2.1 ≠ (TX2 b).2.1 := by decide +kernel
theorem tyX2_ok : ∀ k, k < 4 → parseFieldDescriptor (TX2 k).2.2.1 = some (tyX2 k) := by decide +kernel
abbrev cX2_init : ByteArray := prog_4_method_1_code
def yX2_init : MethodName := ⟨RX2, "<init>", "()V"⟩
abbrev cX2_isWithinLast : ByteArray := prog_4_method_2_code
def yX2_isWithinLast : MethodName := ⟨RX2, "isWithinLast", "(II)Z"⟩
abbrev cX2_comesRound : ByteArray := prog_4_method_3_code
def yX2_comesRound : MethodName := ⟨RX2, "comesRound", "(I)Z"⟩
abbrev cX2_isInGrace : ByteArray := prog_4_method_4_code
def yX2_isInGrace : MethodName := ⟨RX2, "isInGrace", "(I)Z"⟩
def RX3 : String := "LeastRights$Draft"
def TX3 : u_T := fun k => match k with
  | 0 => ("LeastRights$Draft", "made", "Z", false)
  | 1 => ("LeastRights$Draft", "size", "I", false)
  | _ => ("LeastRights$Draft", "rights", "[I", true)
def tyX3 : Nat → FieldType := fun k => match k with
  | 0 => .boolean
  | 1 => .int
  | _ => .array .int
abbrev wsX30 : List Cond := u_ws RX3 TX3 3
theorem nmX3 : ∀ a, a < 3 → ∀ b, b < 3 → a ≠ b → (TX3 a).2.1 ≠ (TX3 b).2.1 := by decide +kernel
theorem tyX3_ok : ∀ k, k < 3 → parseFieldDescriptor (TX3 k).2.2.1 = some (tyX3 k) := by decide +kernel
abbrev cX3_init : ByteArray := prog_5_method_1_code
def yX3_init : MethodName := ⟨RX3, "<init>", "()V"⟩
abbrev cX3_make : ByteArray := prog_5_method_2_code
def yX3_make : MethodName := ⟨RX3, "make", "([II)I"⟩
abbrev cX3_drop : ByteArray := prog_5_method_3_code
def yX3_drop : MethodName := ⟨RX3, "drop", "(II)I"⟩
abbrev cX3_allows : ByteArray := prog_5_method_4_code
def yX3_allows : MethodName := ⟨RX3, "allows", "(II)Z"⟩
def RX4 : String := "LeastRights$Findings"
def TX4 : u_T := fun k => match k with
  | 0 => ("LeastRights$Findings", "latest", "I", false)
  | _ => ("LeastRights$Findings", "times", "[I", true)
def tyX4 : Nat → FieldType := fun k => match k with
  | 0 => .int
  | _ => .array .int
abbrev wsX40 : List Cond := u_ws RX4 TX4 2
theorem nmX4 : ∀ a, a < 2 → ∀ b, b < 2 → a ≠ b → (TX4 a).2.1 ≠ (TX4 b).2.1 := by decide +kernel
theorem tyX4_ok : ∀ k, k < 2 → parseFieldDescriptor (TX4 k).2.2.1 = some (tyX4 k) := by decide +kernel
abbrev cX4_init : ByteArray := prog_6_method_1_code
def yX4_init : MethodName := ⟨RX4, "<init>", "()V"⟩
abbrev cX4_answer : ByteArray := prog_6_method_2_code
def yX4_answer : MethodName := ⟨RX4, "answer", "(I)I"⟩
def RX5 : String := "LeastRights$Folk"
def TX5 : u_T := fun k => match k with
  | 0 => ("LeastRights$Folk", "size", "I", false)
  | 1 => ("LeastRights$Folk", "marks", "[I", true)
  | 2 => ("LeastRights$Folk", "rights", "[I", true)
  | 3 => ("LeastRights$Folk", "struck", "[I", true)
  | _ => ("LeastRights$Folk", "struckOn", "[I", true)
def tyX5 : Nat → FieldType := fun k => match k with
  | 0 => .int
  | 1 => .array .int
  | 2 => .array .int
  | 3 => .array .int
  | _ => .array .int
abbrev wsX50 : List Cond := u_ws RX5 TX5 5
theorem nmX5 : ∀ a, a < 5 → ∀ b, b < 5 → a ≠ b → (TX5 a).2.1 ≠ (TX5 b).2.1 := by decide +kernel
theorem tyX5_ok : ∀ k, k < 5 → parseFieldDescriptor (TX5 k).2.2.1 = some (tyX5 k) := by decide +kernel
abbrev cX5_init : ByteArray := prog_7_method_1_code
def yX5_init : MethodName := ⟨RX5, "<init>", "()V"⟩
abbrev cX5_join : ByteArray := prog_7_method_2_code
def yX5_join : MethodName := ⟨RX5, "join", "(II)I"⟩
abbrev cX5_has : ByteArray := prog_7_method_3_code
def yX5_has : MethodName := ⟨RX5, "has", "(II)Z"⟩
abbrev cX5_remark : ByteArray := prog_7_method_4_code
def yX5_remark : MethodName := ⟨RX5, "remark", "(II)I"⟩
abbrev cX5_give : ByteArray := prog_7_method_5_code
def yX5_give : MethodName := ⟨RX5, "give", "(II)I"⟩
abbrev cX5_strikeAllBut : ByteArray := prog_7_method_6_code
def yX5_strikeAllBut : MethodName := ⟨RX5, "strikeAllBut", "(III)I"⟩
abbrev cX5_request : ByteArray := prog_7_method_7_code
def yX5_request : MethodName := ⟨RX5, "request", "(IILLeastRights$Days;)I"⟩
abbrev cX5_mistold : ByteArray := prog_7_method_8_code
def yX5_mistold : MethodName := ⟨RX5, "mistold", "(II)I"⟩
def RX6 : String := "LeastRights$RoleTree"
def TX6 : u_T := fun k => match k with
  | 0 => ("LeastRights$RoleTree", "size", "I", false)
  | 1 => ("LeastRights$RoleTree", "tried", "I", false)
  | 2 => ("LeastRights$RoleTree", "fewest", "I", false)
  | 3 => ("LeastRights$RoleTree", "fewestRow", "[I", true)
  | 4 => ("LeastRights$RoleTree", "way", "[I", true)
  | 5 => ("LeastRights$RoleTree", "bound", "[I", true)
  | 6 => ("LeastRights$RoleTree", "rightBit", "[I", true)
  | 7 => ("LeastRights$RoleTree", "next", "[I", true)
  | _ => ("LeastRights$RoleTree", "covered", "[I", true)
def tyX6 : Nat → FieldType := fun k => match k with
  | 0 => .int
  | 1 => .int
  | 2 => .int
  | 3 => .array .int
  | 4 => .array .int
  | 5 => .array .int
  | 6 => .array .int
  | 7 => .array .int
  | _ => .array .int
abbrev wsX60 : List Cond := u_ws RX6 TX6 9
theorem nmX6 : ∀ a, a < 9 → ∀ b, b < 9 → a ≠ b → (TX6 a).2.1 ≠ (TX6 b).2.1 := by decide +kernel
theorem tyX6_ok : ∀ k, k < 9 → parseFieldDescriptor (TX6 k).2.2.1 = some (tyX6 k) := by decide +kernel
abbrev cX6_init : ByteArray := prog_8_method_1_code
def yX6_init : MethodName := ⟨RX6, "<init>", "()V"⟩
abbrev cX6_search : ByteArray := prog_8_method_2_code
def yX6_search : MethodName := ⟨RX6, "search", "([IILLeastRights$Candidates;I)Z"⟩
abbrev cX6_rolesWithin : ByteArray := prog_8_method_3_code
def yX6_rolesWithin : MethodName := ⟨RX6, "rolesWithin", "(I)I"⟩
abbrev cX6_begin : ByteArray := prog_8_method_4_code
def yX6_begin : MethodName := ⟨RX6, "begin", "()V"⟩
abbrev cX6_openPlace : ByteArray := prog_8_method_5_code
def yX6_openPlace : MethodName := ⟨RX6, "openPlace", "(I[II)Z"⟩
abbrev cX6_nextOf : ByteArray := prog_8_method_6_code
def yX6_nextOf : MethodName := ⟨RX6, "nextOf", "(ILLeastRights$Candidates;)I"⟩
abbrev cX6_cover : ByteArray := prog_8_method_7_code
def yX6_cover : MethodName := ⟨RX6, "cover", "(II[II)V"⟩
abbrev cX6_keepIfFewer : ByteArray := prog_8_method_8_code
def yX6_keepIfFewer : MethodName := ⟨RX6, "keepIfFewer", "(I)V"⟩
def RX7 : String := "LeastRights$Sheets"
def TX7 : u_T := fun k => match k with
  | 0 => ("LeastRights$Sheets", "sizes", "[I", true)
  | _ => ("LeastRights$Sheets", "ints", "[I", true)
def tyX7 : Nat → FieldType := fun k => match k with
  | 0 => .array .int
  | _ => .array .int
abbrev wsX70 : List Cond := u_ws RX7 TX7 2
theorem nmX7 : ∀ a, a < 2 → ∀ b, b < 2 → a ≠ b → (TX7 a).2.1 ≠ (TX7 b).2.1 := by decide +kernel
theorem tyX7_ok : ∀ k, k < 2 → parseFieldDescriptor (TX7 k).2.2.1 = some (tyX7 k) := by decide +kernel
abbrev cX7_init : ByteArray := prog_9_method_1_code
def yX7_init : MethodName := ⟨RX7, "<init>", "()V"⟩
abbrev cX7_isMissing : ByteArray := prog_9_method_2_code
def yX7_isMissing : MethodName := ⟨RX7, "isMissing", "(I)Z"⟩
abbrev cX7_at : ByteArray := prog_9_method_3_code
def yX7_at : MethodName := ⟨RX7, "at", "(II)I"⟩
abbrev cX7_lay : ByteArray := prog_9_method_4_code
def yX7_lay : MethodName := ⟨RX7, "lay", "(II)I"⟩
abbrev cX7_write : ByteArray := prog_9_method_5_code
def yX7_write : MethodName := ⟨RX7, "write", "(I[II)I"⟩
abbrev cX7_spans : ByteArray := prog_9_method_6_code
def yX7_spans : MethodName := ⟨RX7, "spans", "(III)Z"⟩
abbrev cX7_move : ByteArray := prog_9_method_7_code
def yX7_move : MethodName := ⟨RX7, "move", "(IIIII)V"⟩
def RX8 : String := "LeastRights$UseLog"
def TX8 : u_T := fun k => match k with
  | 0 => ("LeastRights$UseLog", "size", "I", false)
  | 1 => ("LeastRights$UseLog", "who", "[I", true)
  | 2 => ("LeastRights$UseLog", "which", "[I", true)
  | _ => ("LeastRights$UseLog", "when", "[I", true)
def tyX8 : Nat → FieldType := fun k => match k with
  | 0 => .int
  | 1 => .array .int
  | 2 => .array .int
  | _ => .array .int
abbrev wsX80 : List Cond := u_ws RX8 TX8 4
theorem nmX8 : ∀ a, a < 4 → ∀ b, b < 4 → a ≠ b → (TX8 a).2.1 ≠ (TX8 b).2.1 := by decide +kernel
theorem tyX8_ok : ∀ k, k < 4 → parseFieldDescriptor (TX8 k).2.2.1 = some (tyX8 k) := by decide +kernel
abbrev cX8_init : ByteArray := prog_10_method_1_code
def yX8_init : MethodName := ⟨RX8, "<init>", "()V"⟩
abbrev cX8_enter : ByteArray := prog_10_method_2_code
def yX8_enter : MethodName := ⟨RX8, "enter", "(III)I"⟩
abbrev cX8_ofPerson : ByteArray := prog_10_method_3_code
def yX8_ofPerson : MethodName := ⟨RX8, "ofPerson", "(I)I"⟩
abbrev cX8_ofHolding : ByteArray := prog_10_method_4_code
def yX8_ofHolding : MethodName := ⟨RX8, "ofHolding", "(II)I"⟩
abbrev cX8_recent : ByteArray := prog_10_method_5_code
def yX8_recent : MethodName := ⟨RX8, "recent", "(ILLeastRights$Days;)I"⟩
abbrev cX8_seasonal : ByteArray := prog_10_method_6_code
def yX8_seasonal : MethodName := ⟨RX8, "seasonal", "(ILLeastRights$Days;)I"⟩
def RX9 : String := "LeastRights"
def TX9 : u_T := fun k => match k with
  | 0 => ("LeastRights", "days", "LLeastRights$Days;", true)
  | 1 => ("LeastRights", "folk", "LLeastRights$Folk;", true)
  | 2 => ("LeastRights", "log", "LLeastRights$UseLog;", true)
  | 3 => ("LeastRights", "choice", "LLeastRights$Candidates;", true)
  | 4 => ("LeastRights", "tree", "LLeastRights$RoleTree;", true)
  | 5 => ("LeastRights", "bans", "LLeastRights$Bans;", true)
  | 6 => ("LeastRights", "draft", "LLeastRights$Draft;", true)
  | 7 => ("LeastRights", "sheets", "LLeastRights$Sheets;", true)
  | 8 => ("LeastRights", "tally", "LLeastRights$Findings;", true)
  | 9 => ("LeastRights", "keptRow", "[I", true)
  | 10 => ("LeastRights", "askAnswers", "[I", true)
  | 11 => ("LeastRights", "standbyRights", "I", false)
  | _ => ("LeastRights", "exceptionsTold", "I", false)
def tyX9 : Nat → FieldType := fun k => match k with
  | 0 => .object "LeastRights$Days"
  | 1 => .object "LeastRights$Folk"
  | 2 => .object "LeastRights$UseLog"
  | 3 => .object "LeastRights$Candidates"
  | 4 => .object "LeastRights$RoleTree"
  | 5 => .object "LeastRights$Bans"
  | 6 => .object "LeastRights$Draft"
  | 7 => .object "LeastRights$Sheets"
  | 8 => .object "LeastRights$Findings"
  | 9 => .array .int
  | 10 => .array .int
  | 11 => .int
  | _ => .int
abbrev wsX90 : List Cond := u_ws RX9 TX9 13
theorem nmX9 : ∀ a, a < 13 → ∀ b, b < 13 → a ≠ b → (TX9 a).2.1 ≠ (TX9 b).2.1 := by decide +kernel
theorem tyX9_ok : ∀ k, k < 13 → parseFieldDescriptor (TX9 k).2.2.1 = some (tyX9 k) := by decide +kernel
abbrev cX9_init : ByteArray := prog_1_method_1_code
def yX9_init : MethodName := ⟨RX9, "<init>", "()V"⟩
abbrev cX9_person : ByteArray := prog_1_method_2_code
def yX9_person : MethodName := ⟨RX9, "person", "(II)I"⟩
abbrev cX9_change : ByteArray := prog_1_method_3_code
def yX9_change : MethodName := ⟨RX9, "change", "(III)I"⟩
abbrev cX9_told : ByteArray := prog_1_method_4_code
def yX9_told : MethodName := ⟨RX9, "told", "(II)I"⟩
abbrev cX9_standby : ByteArray := prog_1_method_5_code
def yX9_standby : MethodName := ⟨RX9, "standby", "(I)I"⟩
abbrev cX9_rule : ByteArray := prog_1_method_6_code
def yX9_rule : MethodName := ⟨RX9, "rule", "(III)I"⟩
abbrev cX9_later : ByteArray := prog_1_method_7_code
def yX9_later : MethodName := ⟨RX9, "later", "(I)I"⟩
abbrev cX9_use : ByteArray := prog_1_method_8_code
def yX9_use : MethodName := ⟨RX9, "use", "(III)I"⟩
abbrev cX9_kind : ByteArray := prog_1_method_9_code
def yX9_kind : MethodName := ⟨RX9, "kind", "(II)I"⟩
abbrev cX9_uses : ByteArray := prog_1_method_10_code
def yX9_uses : MethodName := ⟨RX9, "uses", "(III)I"⟩
abbrev cX9_strike : ByteArray := prog_1_method_11_code
def yX9_strike : MethodName := ⟨RX9, "strike", "(I)I"⟩
abbrev cX9_ask : ByteArray := prog_1_method_12_code
def yX9_ask : MethodName := ⟨RX9, "ask", "(II)I"⟩
abbrev cX9_asks : ByteArray := prog_1_method_13_code
def yX9_asks : MethodName := ⟨RX9, "asks", "(I)I"⟩
abbrev cX9_candidates : ByteArray := prog_1_method_14_code
def yX9_candidates : MethodName := ⟨RX9, "candidates", "()I"⟩
abbrev cX9_roles : ByteArray := prog_1_method_15_code
def yX9_roles : MethodName := ⟨RX9, "roles", "(I)I"⟩
abbrev cX9_tries : ByteArray := prog_1_method_16_code
def yX9_tries : MethodName := ⟨RX9, "tries", "()I"⟩
abbrev cX9_role : ByteArray := prog_1_method_17_code
def yX9_role : MethodName := ⟨RX9, "role", "(I)I"⟩
abbrev cX9_rolesOf : ByteArray := prog_1_method_18_code
def yX9_rolesOf : MethodName := ⟨RX9, "rolesOf", "(I)I"⟩
abbrev cX9_marksOf : ByteArray := prog_1_method_19_code
def yX9_marksOf : MethodName := ⟨RX9, "marksOf", "(I)I"⟩
abbrev cX9_exceptions : ByteArray := prog_1_method_20_code
def yX9_exceptions : MethodName := ⟨RX9, "exceptions", "(II)I"⟩
abbrev cX9_ban : ByteArray := prog_1_method_21_code
def yX9_ban : MethodName := ⟨RX9, "ban", "(IIZ)I"⟩
abbrev cX9_breach : ByteArray := prog_1_method_22_code
def yX9_breach : MethodName := ⟨RX9, "breach", "()I"⟩
abbrev cX9_least : ByteArray := prog_1_method_23_code
def yX9_least : MethodName := ⟨RX9, "least", "(I)I"⟩
abbrev cX9_badRole : ByteArray := prog_1_method_24_code
def yX9_badRole : MethodName := ⟨RX9, "badRole", "()I"⟩
abbrev cX9_plan : ByteArray := prog_1_method_25_code
def yX9_plan : MethodName := ⟨RX9, "plan", "(Z)I"⟩
abbrev cX9_takeOut : ByteArray := prog_1_method_26_code
def yX9_takeOut : MethodName := ⟨RX9, "takeOut", "(II)I"⟩
abbrev cX9_stopped : ByteArray := prog_1_method_27_code
def yX9_stopped : MethodName := ⟨RX9, "stopped", "(I)I"⟩
abbrev cX9_stop : ByteArray := prog_1_method_28_code
def yX9_stop : MethodName := ⟨RX9, "stop", "(II)I"⟩
abbrev cX9_used : ByteArray := prog_1_method_29_code
def yX9_used : MethodName := ⟨RX9, "used", "(II)I"⟩
abbrev cX9_apply : ByteArray := prog_1_method_30_code
def yX9_apply : MethodName := ⟨RX9, "apply", "()I"⟩
abbrev cX9_sheet : ByteArray := prog_1_method_31_code
def yX9_sheet : MethodName := ⟨RX9, "sheet", "(II)I"⟩
abbrev cX9_save : ByteArray := prog_1_method_32_code
def yX9_save : MethodName := ⟨RX9, "save", "(I)I"⟩
abbrev cX9_load : ByteArray := prog_1_method_33_code
def yX9_load : MethodName := ⟨RX9, "load", "(III)I"⟩
abbrev cX9_tear : ByteArray := prog_1_method_34_code
def yX9_tear : MethodName := ⟨RX9, "tear", "(I)I"⟩
abbrev cX9_copy : ByteArray := prog_1_method_35_code
def yX9_copy : MethodName := ⟨RX9, "copy", "(IIIII)I"⟩
abbrev cX9_asked : ByteArray := prog_1_method_36_code
def yX9_asked : MethodName := ⟨RX9, "asked", "()I"⟩
abbrev cX9_count : ByteArray := prog_1_method_37_code
def yX9_count : MethodName := ⟨RX9, "count", "(I)I"⟩
abbrev cX9_finding : ByteArray := prog_1_method_38_code
def yX9_finding : MethodName := ⟨RX9, "finding", "()I"⟩
abbrev cX9_findings : ByteArray := prog_1_method_39_code
def yX9_findings : MethodName := ⟨RX9, "findings", "(I)I"⟩
abbrev cX9_digest : ByteArray := prog_1_method_40_code
def yX9_digest : MethodName := ⟨RX9, "digest", "()J"⟩
abbrev cX9_digestOfPeople : ByteArray := prog_1_method_41_code
def yX9_digestOfPeople : MethodName := ⟨RX9, "digestOfPeople", "(J)J"⟩
abbrev cX9_digestOfSheets : ByteArray := prog_1_method_42_code
def yX9_digestOfSheets : MethodName := ⟨RX9, "digestOfSheets", "(J)J"⟩
abbrev cX9_noPerson : ByteArray := prog_1_method_43_code
def yX9_noPerson : MethodName := ⟨RX9, "noPerson", "(I)Z"⟩
abbrev cX9_noRight : ByteArray := prog_1_method_44_code
def yX9_noRight : MethodName := ⟨RX9, "noRight", "(I)Z"⟩
abbrev cX9_noMarkSet : ByteArray := prog_1_method_45_code
def yX9_noMarkSet : MethodName := ⟨RX9, "noMarkSet", "(I)Z"⟩
abbrev cX9_noRightSet : ByteArray := prog_1_method_46_code
def yX9_noRightSet : MethodName := ⟨RX9, "noRightSet", "(I)Z"⟩
abbrev cX9_noSheet : ByteArray := prog_1_method_47_code
def yX9_noSheet : MethodName := ⟨RX9, "noSheet", "(I)Z"⟩
abbrev cX9_noLastDays : ByteArray := prog_1_method_48_code
def yX9_noLastDays : MethodName := ⟨RX9, "noLastDays", "(I)Z"⟩
abbrev cX9_keptOf : ByteArray := prog_1_method_49_code
def yX9_keptOf : MethodName := ⟨RX9, "keptOf", "(I)I"⟩
abbrev cX9_lookAtKept : ByteArray := prog_1_method_50_code
def yX9_lookAtKept : MethodName := ⟨RX9, "lookAtKept", "()V"⟩
abbrev cX9_kindOf : ByteArray := prog_1_method_51_code
def yX9_kindOf : MethodName := ⟨RX9, "kindOf", "(II)I"⟩
abbrev cX9_isOfKind : ByteArray := prog_1_method_52_code
def yX9_isOfKind : MethodName := ⟨RX9, "isOfKind", "(II)Z"⟩
abbrev cX9_isStopped : ByteArray := prog_1_method_53_code
def yX9_isStopped : MethodName := ⟨RX9, "isStopped", "(II)Z"⟩
abbrev cX9_isLighter : ByteArray := prog_1_method_54_code
def yX9_isLighter : MethodName := ⟨RX9, "isLighter", "(III)Z"⟩
abbrev cX9_totalOf : ByteArray := prog_1_method_55_code
def yX9_totalOf : MethodName := ⟨RX9, "totalOf", "([II)I"⟩
def RX10 : String := "LeastRightsModel"
def TX10 : u_T := fun k => match k with
  | 0 => ("LeastRightsModel", "finding", "I", false)
  | 1 => ("LeastRightsModel", "findings", "[I", true)
  | 2 => ("LeastRightsModel", "people", "I", false)
  | 3 => ("LeastRightsModel", "marks", "[I", true)
  | 4 => ("LeastRightsModel", "rights", "[I", true)
  | 5 => ("LeastRightsModel", "struck", "[I", true)
  | 6 => ("LeastRightsModel", "standby", "I", false)
  | 7 => ("LeastRightsModel", "span", "I", false)
  | 8 => ("LeastRightsModel", "season", "I", false)
  | 9 => ("LeastRightsModel", "grace", "I", false)
  | 10 => ("LeastRightsModel", "day", "I", false)
  | 11 => ("LeastRightsModel", "uses", "I", false)
  | 12 => ("LeastRightsModel", "usePerson", "[I", true)
  | 13 => ("LeastRightsModel", "useRight", "[I", true)
  | 14 => ("LeastRightsModel", "useDay", "[I", true)
  | 15 => ("LeastRightsModel", "askCounts", "[I", true)
  | 16 => ("LeastRightsModel", "asked", "I", false)
  | 17 => ("LeastRightsModel", "kept", "[I", true)
  | 18 => ("LeastRightsModel", "isCandidate", "[Z", true)
  | 19 => ("LeastRightsModel", "tries", "I", false)
  | 20 => ("LeastRightsModel", "roleMany", "I", false)
  | 21 => ("LeastRightsModel", "roles", "[I", true)
  | 22 => ("LeastRightsModel", "path", "[I", true)
  | 23 => ("LeastRightsModel", "wants", "[I", true)
  | 24 => ("LeastRightsModel", "wanters", "[I", true)
  | 25 => ("LeastRightsModel", "bestMany", "I", false)
  | 26 => ("LeastRightsModel", "banned", "[I", true)
  | 27 => ("LeastRightsModel", "planned", "I", false)
  | 28 => ("LeastRightsModel", "plans", "[I", true)
  | 29 => ("LeastRightsModel", "sizes", "[I", true)
  | 30 => ("LeastRightsModel", "sheets", "[I", true)
  | _ => ("LeastRightsModel", "moving", "[I", true)
def tyX10 : Nat → FieldType := fun k => match k with
  | 0 => .int
  | 1 => .array .int
  | 2 => .int
  | 3 => .array .int
  | 4 => .array .int
  | 5 => .array .int
  | 6 => .int
  | 7 => .int
  | 8 => .int
  | 9 => .int
  | 10 => .int
  | 11 => .int
  | 12 => .array .int
  | 13 => .array .int
  | 14 => .array .int
  | 15 => .array .int
  | 16 => .int
  | 17 => .array .int
  | 18 => .array .boolean
  | 19 => .int
  | 20 => .int
  | 21 => .array .int
  | 22 => .array .int
  | 23 => .array .int
  | 24 => .array .int
  | 25 => .int
  | 26 => .array .int
  | 27 => .int
  | 28 => .array .int
  | 29 => .array .int
  | 30 => .array .int
  | _ => .array .int
abbrev wsX100 : List Cond := u_ws RX10 TX10 32
theorem nmX10 : ∀ a, a < 32 → ∀ b, b < 32 → a ≠ b → (TX10 a).2.1 ≠ (TX10 b).2.1 := by decide +kernel
theorem tyX10_ok : ∀ k, k < 32 → parseFieldDescriptor (TX10 k).2.2.1 = some (tyX10 k) := by decide +kernel
abbrev cX10_init : ByteArray := prog_12_method_1_code
def yX10_init : MethodName := ⟨RX10, "<init>", "()V"⟩
abbrev cX10_in : ByteArray := prog_12_method_3_code
def yX10_in : MethodName := ⟨RX10, "in", "(III)Z"⟩
abbrev cX10_meets : ByteArray := prog_12_method_4_code
def yX10_meets : MethodName := ⟨RX10, "meets", "(I)I"⟩
abbrev cX10_has : ByteArray := prog_12_method_5_code
def yX10_has : MethodName := ⟨RX10, "has", "(II)Z"⟩
abbrev cX10_bits : ByteArray := prog_12_method_6_code
def yX10_bits : MethodName := ⟨RX10, "bits", "(I)I"⟩
abbrev cX10_isPerson : ByteArray := prog_12_method_7_code
def yX10_isPerson : MethodName := ⟨RX10, "isPerson", "(I)Z"⟩
abbrev cX10_isRight : ByteArray := prog_12_method_8_code
def yX10_isRight : MethodName := ⟨RX10, "isRight", "(I)Z"⟩
abbrev cX10_person : ByteArray := prog_12_method_9_code
def yX10_person : MethodName := ⟨RX10, "person", "(II)I"⟩
abbrev cX10_give : ByteArray := prog_12_method_10_code
def yX10_give : MethodName := ⟨RX10, "give", "(II)I"⟩
abbrev cX10_change : ByteArray := prog_12_method_11_code
def yX10_change : MethodName := ⟨RX10, "change", "(III)I"⟩
abbrev cX10_kindOf : ByteArray := prog_12_method_12_code
def yX10_kindOf : MethodName := ⟨RX10, "kindOf", "(II)I"⟩
abbrev cX10_keptOf : ByteArray := prog_12_method_13_code
def yX10_keptOf : MethodName := ⟨RX10, "keptOf", "(I)I"⟩
abbrev cX10_tells : ByteArray := prog_12_method_14_code
def yX10_tells : MethodName := ⟨RX10, "tells", "(II)I"⟩
abbrev cX10_told : ByteArray := prog_12_method_15_code
def yX10_told : MethodName := ⟨RX10, "told", "(II)I"⟩
abbrev cX10_standby : ByteArray := prog_12_method_16_code
def yX10_standby : MethodName := ⟨RX10, "standby", "(I)I"⟩
abbrev cX10_rule : ByteArray := prog_12_method_17_code
def yX10_rule : MethodName := ⟨RX10, "rule", "(III)I"⟩
abbrev cX10_later : ByteArray := prog_12_method_18_code
def yX10_later : MethodName := ⟨RX10, "later", "(I)I"⟩
abbrev cX10_use : ByteArray := prog_12_method_19_code
def yX10_use : MethodName := ⟨RX10, "use", "(III)I"⟩
abbrev cX10_kind : ByteArray := prog_12_method_20_code
def yX10_kind : MethodName := ⟨RX10, "kind", "(II)I"⟩
abbrev cX10_uses : ByteArray := prog_12_method_21_code
def yX10_uses : MethodName := ⟨RX10, "uses", "(III)I"⟩
abbrev cX10_strikeBut : ByteArray := prog_12_method_22_code
def yX10_strikeBut : MethodName := ⟨RX10, "strikeBut", "(II)I"⟩
abbrev cX10_strike : ByteArray := prog_12_method_23_code
def yX10_strike : MethodName := ⟨RX10, "strike", "(I)I"⟩
abbrev cX10_ask : ByteArray := prog_12_method_24_code
def yX10_ask : MethodName := ⟨RX10, "ask", "(II)I"⟩
abbrev cX10_asks : ByteArray := prog_12_method_25_code
def yX10_asks : MethodName := ⟨RX10, "asks", "(I)I"⟩
abbrev cX10_setCandidates : ByteArray := prog_12_method_26_code
def yX10_setCandidates : MethodName := ⟨RX10, "setCandidates", "()I"⟩
abbrev cX10_candidates : ByteArray := prog_12_method_27_code
def yX10_candidates : MethodName := ⟨RX10, "candidates", "()I"⟩
abbrev cX10_open : ByteArray := prog_12_method_28_code
def yX10_open : MethodName := ⟨RX10, "open", "(I)I"⟩
abbrev cX10_level : ByteArray := prog_12_method_29_code
def yX10_level : MethodName := ⟨RX10, "level", "(II)V"⟩
abbrev cX10_isNext : ByteArray := prog_12_method_30_code
def yX10_isNext : MethodName := ⟨RX10, "isNext", "(I)Z"⟩
abbrev cX10_roles : ByteArray := prog_12_method_31_code
def yX10_roles : MethodName := ⟨RX10, "roles", "(I)I"⟩
abbrev cX10_tries : ByteArray := prog_12_method_32_code
def yX10_tries : MethodName := ⟨RX10, "tries", "()I"⟩
abbrev cX10_role : ByteArray := prog_12_method_33_code
def yX10_role : MethodName := ⟨RX10, "role", "(I)I"⟩
abbrev cX10_rolesOf : ByteArray := prog_12_method_34_code
def yX10_rolesOf : MethodName := ⟨RX10, "rolesOf", "(I)I"⟩
abbrev cX10_exceptionsTo : ByteArray := prog_12_method_35_code
def yX10_exceptionsTo : MethodName := ⟨RX10, "exceptionsTo", "(II)I"⟩
abbrev cX10_marksOf : ByteArray := prog_12_method_36_code
def yX10_marksOf : MethodName := ⟨RX10, "marksOf", "(I)I"⟩
abbrev cX10_exceptions : ByteArray := prog_12_method_37_code
def yX10_exceptions : MethodName := ⟨RX10, "exceptions", "(II)I"⟩
abbrev cX10_ban : ByteArray := prog_12_method_38_code
def yX10_ban : MethodName := ⟨RX10, "ban", "(IIZ)I"⟩
abbrev cX10_isBad : ByteArray := prog_12_method_39_code
def yX10_isBad : MethodName := ⟨RX10, "isBad", "(I)Z"⟩
abbrev cX10_breach : ByteArray := prog_12_method_40_code
def yX10_breach : MethodName := ⟨RX10, "breach", "()I"⟩
abbrev cX10_least : ByteArray := prog_12_method_41_code
def yX10_least : MethodName := ⟨RX10, "least", "(I)I"⟩
abbrev cX10_badRole : ByteArray := prog_12_method_42_code
def yX10_badRole : MethodName := ⟨RX10, "badRole", "()I"⟩
abbrev cX10_plan : ByteArray := prog_12_method_43_code
def yX10_plan : MethodName := ⟨RX10, "plan", "(Z)I"⟩
abbrev cX10_takeOut : ByteArray := prog_12_method_44_code
def yX10_takeOut : MethodName := ⟨RX10, "takeOut", "(II)I"⟩
abbrev cX10_isStopped : ByteArray := prog_12_method_45_code
def yX10_isStopped : MethodName := ⟨RX10, "isStopped", "(II)Z"⟩
abbrev cX10_stopped : ByteArray := prog_12_method_46_code
def yX10_stopped : MethodName := ⟨RX10, "stopped", "(I)I"⟩
abbrev cX10_stop : ByteArray := prog_12_method_47_code
def yX10_stop : MethodName := ⟨RX10, "stop", "(II)I"⟩
abbrev cX10_used : ByteArray := prog_12_method_48_code
def yX10_used : MethodName := ⟨RX10, "used", "(II)I"⟩
abbrev cX10_apply : ByteArray := prog_12_method_49_code
def yX10_apply : MethodName := ⟨RX10, "apply", "()I"⟩
abbrev cX10_isSheet : ByteArray := prog_12_method_50_code
def yX10_isSheet : MethodName := ⟨RX10, "isSheet", "(I)Z"⟩
abbrev cX10_sheet : ByteArray := prog_12_method_51_code
def yX10_sheet : MethodName := ⟨RX10, "sheet", "(II)I"⟩
abbrev cX10_save : ByteArray := prog_12_method_52_code
def yX10_save : MethodName := ⟨RX10, "save", "(I)I"⟩
abbrev cX10_load : ByteArray := prog_12_method_53_code
def yX10_load : MethodName := ⟨RX10, "load", "(III)I"⟩
abbrev cX10_tear : ByteArray := prog_12_method_54_code
def yX10_tear : MethodName := ⟨RX10, "tear", "(I)I"⟩
abbrev cX10_copy : ByteArray := prog_12_method_55_code
def yX10_copy : MethodName := ⟨RX10, "copy", "(IIIII)I"⟩
abbrev cX10_asked : ByteArray := prog_12_method_56_code
def yX10_asked : MethodName := ⟨RX10, "asked", "()I"⟩
abbrev cX10_count : ByteArray := prog_12_method_57_code
def yX10_count : MethodName := ⟨RX10, "count", "(I)I"⟩
abbrev cX10_finding : ByteArray := prog_12_method_58_code
def yX10_finding : MethodName := ⟨RX10, "finding", "()I"⟩
abbrev cX10_findings : ByteArray := prog_12_method_59_code
def yX10_findings : MethodName := ⟨RX10, "findings", "(I)I"⟩
abbrev cX10_digest : ByteArray := prog_12_method_60_code
def yX10_digest : MethodName := ⟨RX10, "digest", "()J"⟩
def RJ6 : String := "java/lang/Integer"
def TJ6 : u_T := fun k => match k with
  | _ => ("", "", "", false)
def tyJ6 : Nat → FieldType := fun k => match k with
  | _ => .int
abbrev wsJ60 : List Cond := u_ws RJ6 TJ6 0
theorem nmJ6 : ∀ a, a < 0 → ∀ b, b < 0 → a ≠ b → (TJ6 a).2.1 ≠ (TJ6 b).2.1 := by decide +kernel
theorem tyJ6_ok : ∀ k, k < 0 → parseFieldDescriptor (TJ6 k).2.2.1 = some (tyJ6 k) := by decide +kernel
abbrev cJ6_bitCount_0f7a4 : ByteArray := prog_13_method_49_code
def yJ6_bitCount_0f7a4 : MethodName := ⟨RJ6, "bitCount", "(I)I"⟩
def RJ9 : String := "java/lang/Math"
def TJ9 : u_T := fun k => match k with
  | _ => ("", "", "", false)
def tyJ9 : Nat → FieldType := fun k => match k with
  | _ => .int
abbrev wsJ90 : List Cond := u_ws RJ9 TJ9 0
theorem nmJ9 : ∀ a, a < 0 → ∀ b, b < 0 → a ≠ b → (TJ9 a).2.1 ≠ (TJ9 b).2.1 := by decide +kernel
theorem tyJ9_ok : ∀ k, k < 0 → parseFieldDescriptor (TJ9 k).2.2.1 = some (tyJ9 k) := by decide +kernel
abbrev cJ9_min_7cf53 : ByteArray := prog_14_method_69_code
def yJ9_min_7cf53 : MethodName := ⟨RJ9, "min", "(II)I"⟩
def RJ10 : String := "java/lang/System"
def TJ10 : u_T := fun k => match k with
  | _ => ("", "", "", false)
def tyJ10 : Nat → FieldType := fun k => match k with
  | _ => .int
abbrev wsJ100 : List Cond := u_ws RJ10 TJ10 0
theorem nmJ10 : ∀ a, a < 0 → ∀ b, b < 0 → a ≠ b → (TJ10 a).2.1 ≠ (TJ10 b).2.1 := by decide +kernel
theorem tyJ10_ok : ∀ k, k < 0 → parseFieldDescriptor (TJ10 k).2.2.1 = some (tyJ10 k) := by decide +kernel
def RL : String := "LeastRightsLaw"
abbrev cL_law : ByteArray := code
def yL_law : MethodName := ⟨RL, "law", "([I)Z"⟩
def wsX0_init : List Cond := .code yX0_init cX0_init 1 none :: ([.methodLink RX0 3 objectInit, .instanceMethod objectInit, .code objectInit ⟨#[0xb1]⟩ 1 none, .arrayClass .int, .fieldLink RX0 9 "LeastRights$Bans" "with" "[I"] ++ wsX00)
def wsX0_put : List Cond := .code yX0_put cX0_put 5 (some .int) :: ([.fieldLink RX0 9 "LeastRights$Bans" "with" "[I"] ++ wsX00)
def wsX0_clashing : List Cond := .code yX0_clashing cX0_clashing 4 (some .int) :: ([.fieldLink RX0 9 "LeastRights$Bans" "with" "[I"] ++ wsX00)
def wsX1_init : List Cond := .code yX1_init cX1_init 1 none :: ([.methodLink RX1 3 objectInit, .instanceMethod objectInit, .code objectInit ⟨#[0xb1]⟩ 1 none, .fieldLink RX1 9 "LeastRights$Candidates" "size" "I", .arrayClass .int, .fieldLink RX1 15 "LeastRights$Candidates" "sets" "[I", .arrayClass .long, .fieldLink RX1 19 "LeastRights$Candidates" "noted" "[J"] ++ wsX10)
def wsX1_isNoted : List Cond := .code yX1_isNoted cX1_isNoted 2 (some .boolean) :: ([.fieldLink RX1 19 "LeastRights$Candidates" "noted" "[J"] ++ wsX10)
def wsX1_note : List Cond := .code yX1_note cX1_note 2 none :: ([.fieldLink RX1 9 "LeastRights$Candidates" "size" "I", .fieldLink RX1 15 "LeastRights$Candidates" "sets" "[I", .fieldLink RX1 19 "LeastRights$Candidates" "noted" "[J", .methodLink RX1 30 yX1_isNoted, .instanceMethod yX1_isNoted, .selects RX1 yX1_isNoted yX1_isNoted, .initialized RX1, .code yX1_isNoted cX1_isNoted 2 (some .boolean)] ++ wsX10)
def wsX1_putInOrder : List Cond := .code yX1_putInOrder cX1_putInOrder 3 none :: ([.fieldLink RX1 9 "LeastRights$Candidates" "size" "I", .fieldLink RX1 15 "LeastRights$Candidates" "sets" "[I", .methodLink RX1 30 yX1_isNoted, .instanceMethod yX1_isNoted, .selects RX1 yX1_isNoted yX1_isNoted, .initialized RX1, .code yX1_isNoted cX1_isNoted 2 (some .boolean), .fieldLink RX1 19 "LeastRights$Candidates" "noted" "[J"] ++ wsX10)
def wsX1_gather : List Cond := .code yX1_gather cX1_gather 6 none :: ([.fieldLink RX1 19 "LeastRights$Candidates" "noted" "[J", .fieldLink RX1 9 "LeastRights$Candidates" "size" "I", .fieldLink RX1 15 "LeastRights$Candidates" "sets" "[I", .methodLink RX1 23 yX1_note, .instanceMethod yX1_note, .selects RX1 yX1_note yX1_note, .initialized RX1, .code yX1_note cX1_note 2 none, .methodLink RX1 30 yX1_isNoted, .instanceMethod yX1_isNoted, .selects RX1 yX1_isNoted yX1_isNoted, .code yX1_isNoted cX1_isNoted 2 (some .boolean), .methodLink RX1 27 yX1_putInOrder, .instanceMethod yX1_putInOrder, .selects RX1 yX1_putInOrder yX1_putInOrder, .code yX1_putInOrder cX1_putInOrder 3 none] ++ wsX10)
def wsX2_init : List Cond := .code yX2_init cX2_init 1 none :: ([.methodLink RX2 1 objectInit, .instanceMethod objectInit, .code objectInit ⟨#[0xb1]⟩ 1 none, .fieldLink RX2 7 "LeastRights$Days" "present" "I", .fieldLink RX2 13 "LeastRights$Days" "span" "I", .fieldLink RX2 16 "LeastRights$Days" "season" "I", .fieldLink RX2 19 "LeastRights$Days" "grace" "I"] ++ wsX20)
def wsX2_isWithinLast : List Cond := .code yX2_isWithinLast cX2_isWithinLast 3 (some .boolean) :: ([.fieldLink RX2 7 "LeastRights$Days" "present" "I"] ++ wsX20)
def wsX2_comesRound : List Cond := .code yX2_comesRound cX2_comesRound 4 (some .boolean) :: ([.fieldLink RX2 16 "LeastRights$Days" "season" "I", .fieldLink RX2 7 "LeastRights$Days" "present" "I", .fieldLink RX2 13 "LeastRights$Days" "span" "I"] ++ wsX20)
def wsX2_isInGrace : List Cond := .code yX2_isInGrace cX2_isInGrace 2 (some .boolean) :: ([.fieldLink RX2 7 "LeastRights$Days" "present" "I", .fieldLink RX2 19 "LeastRights$Days" "grace" "I"] ++ wsX20)
def wsX3_init : List Cond := .code yX3_init cX3_init 1 none :: ([.methodLink RX3 3 objectInit, .instanceMethod objectInit, .code objectInit ⟨#[0xb1]⟩ 1 none, .fieldLink RX3 9 "LeastRights$Draft" "made" "Z", .fieldLink RX3 15 "LeastRights$Draft" "size" "I", .arrayClass .int, .fieldLink RX3 19 "LeastRights$Draft" "rights" "[I"] ++ wsX30)
def wsJ6_bitCount_0f7a4 : List Cond := .code yJ6_bitCount_0f7a4 cJ6_bitCount_0f7a4 1 (some .int) :: ([.constant RJ6 265 (1431655765), .constant RJ6 266 (858993459), .constant RJ6 267 (252645135)])
def wsX9_totalOf : List Cond := .code yX9_totalOf cX9_totalOf 4 (some .int) :: ([.methodLink RX9 193 yJ6_bitCount_0f7a4, .static yJ6_bitCount_0f7a4, .initialized RJ6, .code yJ6_bitCount_0f7a4 cJ6_bitCount_0f7a4 1 (some .int), .constant RJ6 265 (1431655765), .constant RJ6 266 (858993459), .constant RJ6 267 (252645135)])
def wsX3_make : List Cond := .code yX3_make cX3_make 4 (some .int) :: ([.fieldLink RX3 9 "LeastRights$Draft" "made" "Z", .fieldLink RX3 15 "LeastRights$Draft" "size" "I", .fieldLink RX3 19 "LeastRights$Draft" "rights" "[I", .static yX9_totalOf, .initialized RX9, .code yX9_totalOf cX9_totalOf 4 (some .int), .methodLink RX9 193 yJ6_bitCount_0f7a4, .static yJ6_bitCount_0f7a4, .initialized RJ6, .code yJ6_bitCount_0f7a4 cJ6_bitCount_0f7a4 1 (some .int), .constant RJ6 265 (1431655765), .constant RJ6 266 (858993459), .constant RJ6 267 (252645135)] ++ wsX30)
def wsX3_drop : List Cond := .code yX3_drop cX3_drop 4 (some .int) :: ([.fieldLink RX3 19 "LeastRights$Draft" "rights" "[I"] ++ wsX30)
def wsX3_allows : List Cond := .code yX3_allows cX3_allows 3 (some .boolean) :: ([.fieldLink RX3 15 "LeastRights$Draft" "size" "I", .fieldLink RX3 19 "LeastRights$Draft" "rights" "[I"] ++ wsX30)
def wsX4_init : List Cond := .code yX4_init cX4_init 1 none :: ([.methodLink RX4 3 objectInit, .instanceMethod objectInit, .code objectInit ⟨#[0xb1]⟩ 1 none, .fieldLink RX4 9 "LeastRights$Findings" "latest" "I", .arrayClass .int, .fieldLink RX4 15 "LeastRights$Findings" "times" "[I"] ++ wsX40)
def wsX4_answer : List Cond := .code yX4_answer cX4_answer 2 (some .int) :: ([.fieldLink RX4 9 "LeastRights$Findings" "latest" "I", .fieldLink RX4 15 "LeastRights$Findings" "times" "[I"] ++ wsX40)
def wsX5_init : List Cond := .code yX5_init cX5_init 1 none :: ([.methodLink RX5 3 objectInit, .instanceMethod objectInit, .code objectInit ⟨#[0xb1]⟩ 1 none, .fieldLink RX5 9 "LeastRights$Folk" "size" "I", .arrayClass .int, .fieldLink RX5 15 "LeastRights$Folk" "marks" "[I", .fieldLink RX5 19 "LeastRights$Folk" "rights" "[I", .fieldLink RX5 22 "LeastRights$Folk" "struck" "[I", .fieldLink RX5 25 "LeastRights$Folk" "struckOn" "[I"] ++ wsX50)
def wsX5_join : List Cond := .code yX5_join cX5_join 3 (some .int) :: ([.fieldLink RX5 15 "LeastRights$Folk" "marks" "[I", .fieldLink RX5 9 "LeastRights$Folk" "size" "I", .fieldLink RX5 19 "LeastRights$Folk" "rights" "[I"] ++ wsX50)
def wsX5_has : List Cond := .code yX5_has cX5_has 3 (some .boolean) :: ([.fieldLink RX5 19 "LeastRights$Folk" "rights" "[I"] ++ wsX50)
def wsX5_remark : List Cond := .code yX5_remark cX5_remark 4 (some .int) :: ([.fieldLink RX5 15 "LeastRights$Folk" "marks" "[I"] ++ wsX50)
def wsX5_give : List Cond := .code yX5_give cX5_give 4 (some .int) :: ([.fieldLink RX5 19 "LeastRights$Folk" "rights" "[I", .fieldLink RX5 22 "LeastRights$Folk" "struck" "[I"] ++ wsX50)
def wsX5_strikeAllBut : List Cond := .code yX5_strikeAllBut cX5_strikeAllBut 6 (some .int) :: ([.fieldLink RX5 19 "LeastRights$Folk" "rights" "[I", .fieldLink RX5 22 "LeastRights$Folk" "struck" "[I", .fieldLink RX5 25 "LeastRights$Folk" "struckOn" "[I", .methodLink RX5 28 yJ6_bitCount_0f7a4, .static yJ6_bitCount_0f7a4, .initialized RJ6, .code yJ6_bitCount_0f7a4 cJ6_bitCount_0f7a4 1 (some .int), .constant RJ6 265 (1431655765), .constant RJ6 266 (858993459), .constant RJ6 267 (252645135)] ++ wsX50)
def wsX5_request : List Cond := .code yX5_request cX5_request 5 (some .int) :: ([.fieldLink RX5 19 "LeastRights$Folk" "rights" "[I", .fieldLink RX5 22 "LeastRights$Folk" "struck" "[I", .fieldLink RX5 25 "LeastRights$Folk" "struckOn" "[I", .methodLink RX5 34 yX2_isInGrace, .instanceMethod yX2_isInGrace, .selects RX2 yX2_isInGrace yX2_isInGrace, .initialized RX2, .code yX2_isInGrace cX2_isInGrace 2 (some .boolean), .fieldLink RX2 7 "LeastRights$Days" "present" "I", .fieldLink RX2 19 "LeastRights$Days" "grace" "I", .methodLink RX5 40 yX5_give, .instanceMethod yX5_give, .selects RX5 yX5_give yX5_give, .initialized RX5, .code yX5_give cX5_give 4 (some .int)] ++ wsX50 ++ wsX20)
def wsX5_mistold : List Cond := .code yX5_mistold cX5_mistold 6 (some .int) :: ([.fieldLink RX5 9 "LeastRights$Folk" "size" "I", .fieldLink RX5 15 "LeastRights$Folk" "marks" "[I", .methodLink RX5 44 yX5_has, .instanceMethod yX5_has, .selects RX5 yX5_has yX5_has, .initialized RX5, .code yX5_has cX5_has 3 (some .boolean), .fieldLink RX5 19 "LeastRights$Folk" "rights" "[I"] ++ wsX50)
def wsX6_init : List Cond := .code yX6_init cX6_init 1 none :: ([.methodLink RX6 5 objectInit, .instanceMethod objectInit, .code objectInit ⟨#[0xb1]⟩ 1 none, .fieldLink RX6 11 "LeastRights$RoleTree" "size" "I", .fieldLink RX6 15 "LeastRights$RoleTree" "tried" "I", .fieldLink RX6 18 "LeastRights$RoleTree" "fewest" "I", .arrayClass .int, .fieldLink RX6 21 "LeastRights$RoleTree" "fewestRow" "[I", .fieldLink RX6 25 "LeastRights$RoleTree" "way" "[I", .fieldLink RX6 28 "LeastRights$RoleTree" "bound" "[I", .fieldLink RX6 31 "LeastRights$RoleTree" "rightBit" "[I", .fieldLink RX6 34 "LeastRights$RoleTree" "next" "[I", .fieldLink RX6 37 "LeastRights$RoleTree" "covered" "[I"] ++ wsX60)
def wsX6_begin : List Cond := .code yX6_begin cX6_begin 2 none :: ([.fieldLink RX6 11 "LeastRights$RoleTree" "size" "I", .fieldLink RX6 15 "LeastRights$RoleTree" "tried" "I", .fieldLink RX6 18 "LeastRights$RoleTree" "fewest" "I", .fieldLink RX6 37 "LeastRights$RoleTree" "covered" "[I"] ++ wsX60)
def wsX6_openPlace : List Cond := .code yX6_openPlace cX6_openPlace 6 (some .boolean) :: ([.fieldLink RX6 37 "LeastRights$RoleTree" "covered" "[I", .fieldLink RX6 28 "LeastRights$RoleTree" "bound" "[I", .fieldLink RX6 31 "LeastRights$RoleTree" "rightBit" "[I", .fieldLink RX6 34 "LeastRights$RoleTree" "next" "[I"] ++ wsX60)
def wsX6_nextOf : List Cond := .code yX6_nextOf cX6_nextOf 5 (some .int) :: ([.fieldLink RX6 34 "LeastRights$RoleTree" "next" "[I", .fieldLink RX6 28 "LeastRights$RoleTree" "bound" "[I", .fieldLink RX6 31 "LeastRights$RoleTree" "rightBit" "[I"] ++ wsX60 ++ wsX10)
def wsX6_cover : List Cond := .code yX6_cover cX6_cover 8 none :: ([.fieldLink RX6 37 "LeastRights$RoleTree" "covered" "[I"] ++ wsX60)
def wsX6_keepIfFewer : List Cond := .code yX6_keepIfFewer cX6_keepIfFewer 3 none :: ([.fieldLink RX6 18 "LeastRights$RoleTree" "fewest" "I", .fieldLink RX6 21 "LeastRights$RoleTree" "fewestRow" "[I", .fieldLink RX6 25 "LeastRights$RoleTree" "way" "[I"] ++ wsX60)
def wsX6_search_r1 : List Cond := [Cond.fieldLink RX6 18 "LeastRights$RoleTree" "fewest" "I", Cond.constant RX6 47 (40002), Cond.fieldLink RX6 15 "LeastRights$RoleTree" "tried" "I", Cond.fieldLink RX6 25 "LeastRights$RoleTree" "way" "[I", Cond.fieldLink RX6 11 "LeastRights$RoleTree" "size" "I", Cond.methodLink RX6 40 yX6_begin, Cond.instanceMethod yX6_begin, Cond.selects RX6 yX6_begin yX6_begin, Cond.initialized RX6, Cond.code yX6_begin cX6_begin 2 none, Cond.fieldLink RX6 37 "LeastRights$RoleTree" "covered" "[I", Cond.methodLink RX6 43 yX6_openPlace, Cond.instanceMethod yX6_openPlace, Cond.selects RX6 yX6_openPlace yX6_openPlace, Cond.code yX6_openPlace cX6_openPlace 6 (some .boolean), Cond.fieldLink RX6 28 "LeastRights$RoleTree" "bound" "[I", Cond.fieldLink RX6 31 "LeastRights$RoleTree" "rightBit" "[I", Cond.fieldLink RX6 34 "LeastRights$RoleTree" "next" "[I", Cond.methodLink RX6 48 yX6_nextOf, Cond.instanceMethod yX6_nextOf, Cond.selects RX6 yX6_nextOf yX6_nextOf, Cond.code yX6_nextOf cX6_nextOf 5 (some .int), Cond.methodLink RX6 52 yX6_cover, Cond.instanceMethod yX6_cover]
def wsX6_search_r2 : List Cond := [Cond.selects RX6 yX6_cover yX6_cover, Cond.code yX6_cover cX6_cover 8 none, Cond.methodLink RX6 56 yX6_keepIfFewer, Cond.instanceMethod yX6_keepIfFewer, Cond.selects RX6 yX6_keepIfFewer yX6_keepIfFewer, Cond.code yX6_keepIfFewer cX6_keepIfFewer 3 none, Cond.fieldLink RX6 21 "LeastRights$RoleTree" "fewestRow" "[I"]
def wsX6_search : List Cond := .code yX6_search cX6_search 9 (some .boolean) :: ((wsX6_search_r1 ++ wsX6_search_r2) ++ wsX60 ++ wsX10)
def wsX6_rolesWithin : List Cond := .code yX6_rolesWithin cX6_rolesWithin 4 (some .int) :: ([.fieldLink RX6 11 "LeastRights$RoleTree" "size" "I", .fieldLink RX6 21 "LeastRights$RoleTree" "fewestRow" "[I"] ++ wsX60)
def wsX7_init : List Cond := .code yX7_init cX7_init 1 none :: ([.methodLink RX7 3 objectInit, .instanceMethod objectInit, .code objectInit ⟨#[0xb1]⟩ 1 none, .arrayClass .int, .fieldLink RX7 11 "LeastRights$Sheets" "sizes" "[I", .fieldLink RX7 15 "LeastRights$Sheets" "ints" "[I"] ++ wsX70)
def wsX7_isMissing : List Cond := .code yX7_isMissing cX7_isMissing 2 (some .boolean) :: ([.fieldLink RX7 11 "LeastRights$Sheets" "sizes" "[I"] ++ wsX70)
def wsX7_at : List Cond := .code yX7_at cX7_at 3 (some .int) :: ([.fieldLink RX7 15 "LeastRights$Sheets" "ints" "[I"] ++ wsX70)
def wsX7_lay : List Cond := .code yX7_lay cX7_lay 4 (some .int) :: ([.fieldLink RX7 11 "LeastRights$Sheets" "sizes" "[I", .fieldLink RX7 15 "LeastRights$Sheets" "ints" "[I"] ++ wsX70)
def wsX7_write : List Cond := .code yX7_write cX7_write 6 (some .int) :: ([.fieldLink RX7 11 "LeastRights$Sheets" "sizes" "[I", .methodLink RX7 18 Lib.Math.min.name, .static Lib.Math.min.name, .initialized "java/lang/Math", .code Lib.Math.min.name Lib.Math.min.code 2 (some .int), .fieldLink RX7 15 "LeastRights$Sheets" "ints" "[I"] ++ wsX70)
def wsX7_spans : List Cond := .code yX7_spans cX7_spans 4 (some .boolean) :: ([.fieldLink RX7 11 "LeastRights$Sheets" "sizes" "[I"] ++ wsX70)
def wsX7_move : List Cond := .code yX7_move cX7_move 6 none :: ([.fieldLink RX7 15 "LeastRights$Sheets" "ints" "[I", .methodLink RX7 24 arraycopyName, .native arraycopyName, .static arraycopyName, .initialized "java/lang/System"] ++ wsX70)
def wsX8_init : List Cond := .code yX8_init cX8_init 1 none :: ([.methodLink RX8 3 objectInit, .instanceMethod objectInit, .code objectInit ⟨#[0xb1]⟩ 1 none, .fieldLink RX8 9 "LeastRights$UseLog" "size" "I", .arrayClass .int, .fieldLink RX8 15 "LeastRights$UseLog" "who" "[I", .fieldLink RX8 19 "LeastRights$UseLog" "which" "[I", .fieldLink RX8 22 "LeastRights$UseLog" "when" "[I"] ++ wsX80)
def wsX8_enter : List Cond := .code yX8_enter cX8_enter 4 (some .int) :: ([.fieldLink RX8 15 "LeastRights$UseLog" "who" "[I", .fieldLink RX8 9 "LeastRights$UseLog" "size" "I", .fieldLink RX8 19 "LeastRights$UseLog" "which" "[I", .fieldLink RX8 22 "LeastRights$UseLog" "when" "[I"] ++ wsX80)
def wsX8_ofPerson : List Cond := .code yX8_ofPerson cX8_ofPerson 4 (some .int) :: ([.fieldLink RX8 9 "LeastRights$UseLog" "size" "I", .fieldLink RX8 15 "LeastRights$UseLog" "who" "[I"] ++ wsX80)
def wsX8_ofHolding : List Cond := .code yX8_ofHolding cX8_ofHolding 5 (some .int) :: ([.fieldLink RX8 9 "LeastRights$UseLog" "size" "I", .fieldLink RX8 15 "LeastRights$UseLog" "who" "[I", .fieldLink RX8 19 "LeastRights$UseLog" "which" "[I"] ++ wsX80)
def wsX8_recent : List Cond := .code yX8_recent cX8_recent 5 (some .int) :: ([.fieldLink RX8 9 "LeastRights$UseLog" "size" "I", .fieldLink RX8 15 "LeastRights$UseLog" "who" "[I", .fieldLink RX8 22 "LeastRights$UseLog" "when" "[I", .fieldLink RX8 19 "LeastRights$UseLog" "which" "[I", .methodLink RX8 30 yX2_isWithinLast, .instanceMethod yX2_isWithinLast, .selects RX2 yX2_isWithinLast yX2_isWithinLast, .initialized RX2, .code yX2_isWithinLast cX2_isWithinLast 3 (some .boolean), .fieldLink RX2 7 "LeastRights$Days" "present" "I"] ++ wsX80 ++ wsX20)
def wsX8_seasonal : List Cond := .code yX8_seasonal cX8_seasonal 6 (some .int) :: ([.fieldLink RX8 9 "LeastRights$UseLog" "size" "I", .fieldLink RX8 15 "LeastRights$UseLog" "who" "[I", .fieldLink RX8 22 "LeastRights$UseLog" "when" "[I", .fieldLink RX8 19 "LeastRights$UseLog" "which" "[I", .methodLink RX8 30 yX2_isWithinLast, .instanceMethod yX2_isWithinLast, .selects RX2 yX2_isWithinLast yX2_isWithinLast, .initialized RX2, .code yX2_isWithinLast cX2_isWithinLast 3 (some .boolean), .fieldLink RX2 7 "LeastRights$Days" "present" "I", .methodLink RX8 34 yX2_comesRound, .instanceMethod yX2_comesRound, .selects RX2 yX2_comesRound yX2_comesRound, .code yX2_comesRound cX2_comesRound 4 (some .boolean), .fieldLink RX2 16 "LeastRights$Days" "season" "I", .fieldLink RX2 13 "LeastRights$Days" "span" "I"] ++ wsX80 ++ wsX20)
def wsX9_init_r1 : List Cond := [Cond.methodLink RX9 1 objectInit, Cond.instanceMethod objectInit, Cond.code objectInit ⟨#[0xb1]⟩ 1 none, Cond.classLink RX9 7 RX2, Cond.instantiable RX2 4, Cond.initialized RX2, Cond.fieldLink RX9 10 "LeastRights" "days" "LLeastRights$Days;", Cond.classLink RX9 16 RX5, Cond.instantiable RX5 5, Cond.initialized RX5, Cond.fieldLink RX9 19 "LeastRights" "folk" "LLeastRights$Folk;", Cond.classLink RX9 23 RX8, Cond.instantiable RX8 4, Cond.initialized RX8, Cond.fieldLink RX9 26 "LeastRights" "log" "LLeastRights$UseLog;", Cond.classLink RX9 30 RX1, Cond.instantiable RX1 3, Cond.initialized RX1, Cond.fieldLink RX9 33 "LeastRights" "choice" "LLeastRights$Candidates;", Cond.classLink RX9 37 RX6, Cond.instantiable RX6 9, Cond.initialized RX6, Cond.fieldLink RX9 40 "LeastRights" "tree" "LLeastRights$RoleTree;", Cond.classLink RX9 44 RX0]
def wsX9_init_r2 : List Cond := [Cond.instantiable RX0 1, Cond.initialized RX0, Cond.fieldLink RX9 47 "LeastRights" "bans" "LLeastRights$Bans;", Cond.classLink RX9 51 RX3, Cond.instantiable RX3 3, Cond.initialized RX3, Cond.fieldLink RX9 54 "LeastRights" "draft" "LLeastRights$Draft;", Cond.classLink RX9 58 RX7, Cond.instantiable RX7 2, Cond.initialized RX7, Cond.fieldLink RX9 61 "LeastRights" "sheets" "LLeastRights$Sheets;", Cond.classLink RX9 65 RX4, Cond.instantiable RX4 2, Cond.initialized RX4, Cond.fieldLink RX9 68 "LeastRights" "tally" "LLeastRights$Findings;", Cond.arrayClass .int, Cond.fieldLink RX9 72 "LeastRights" "keptRow" "[I", Cond.fieldLink RX9 76 "LeastRights" "askAnswers" "[I", Cond.fieldLink RX9 79 "LeastRights" "standbyRights" "I", Cond.fieldLink RX9 83 "LeastRights" "exceptionsTold" "I", Cond.instanceMethod yX2_init, Cond.code yX2_init cX2_init 1 none, Cond.methodLink RX2 1 objectInit, Cond.fieldLink RX2 7 "LeastRights$Days" "present" "I"]
def wsX9_init_r3 : List Cond := [Cond.fieldLink RX2 13 "LeastRights$Days" "span" "I", Cond.fieldLink RX2 16 "LeastRights$Days" "season" "I", Cond.fieldLink RX2 19 "LeastRights$Days" "grace" "I", Cond.instanceMethod yX5_init, Cond.code yX5_init cX5_init 1 none, Cond.methodLink RX5 3 objectInit, Cond.fieldLink RX5 9 "LeastRights$Folk" "size" "I", Cond.fieldLink RX5 15 "LeastRights$Folk" "marks" "[I", Cond.fieldLink RX5 19 "LeastRights$Folk" "rights" "[I", Cond.fieldLink RX5 22 "LeastRights$Folk" "struck" "[I", Cond.fieldLink RX5 25 "LeastRights$Folk" "struckOn" "[I", Cond.instanceMethod yX8_init, Cond.code yX8_init cX8_init 1 none, Cond.methodLink RX8 3 objectInit, Cond.fieldLink RX8 9 "LeastRights$UseLog" "size" "I", Cond.fieldLink RX8 15 "LeastRights$UseLog" "who" "[I", Cond.fieldLink RX8 19 "LeastRights$UseLog" "which" "[I", Cond.fieldLink RX8 22 "LeastRights$UseLog" "when" "[I", Cond.instanceMethod yX1_init, Cond.code yX1_init cX1_init 1 none, Cond.methodLink RX1 3 objectInit, Cond.fieldLink RX1 9 "LeastRights$Candidates" "size" "I", Cond.fieldLink RX1 15 "LeastRights$Candidates" "sets" "[I", Cond.arrayClass .long]
def wsX9_init_r4 : List Cond := [Cond.fieldLink RX1 19 "LeastRights$Candidates" "noted" "[J", Cond.instanceMethod yX6_init, Cond.code yX6_init cX6_init 1 none, Cond.methodLink RX6 5 objectInit, Cond.fieldLink RX6 11 "LeastRights$RoleTree" "size" "I", Cond.fieldLink RX6 15 "LeastRights$RoleTree" "tried" "I", Cond.fieldLink RX6 18 "LeastRights$RoleTree" "fewest" "I", Cond.fieldLink RX6 21 "LeastRights$RoleTree" "fewestRow" "[I", Cond.fieldLink RX6 25 "LeastRights$RoleTree" "way" "[I", Cond.fieldLink RX6 28 "LeastRights$RoleTree" "bound" "[I", Cond.fieldLink RX6 31 "LeastRights$RoleTree" "rightBit" "[I", Cond.fieldLink RX6 34 "LeastRights$RoleTree" "next" "[I", Cond.fieldLink RX6 37 "LeastRights$RoleTree" "covered" "[I", Cond.instanceMethod yX0_init, Cond.code yX0_init cX0_init 1 none, Cond.methodLink RX0 3 objectInit, Cond.fieldLink RX0 9 "LeastRights$Bans" "with" "[I", Cond.instanceMethod yX3_init, Cond.code yX3_init cX3_init 1 none, Cond.methodLink RX3 3 objectInit, Cond.fieldLink RX3 9 "LeastRights$Draft" "made" "Z", Cond.fieldLink RX3 15 "LeastRights$Draft" "size" "I", Cond.fieldLink RX3 19 "LeastRights$Draft" "rights" "[I", Cond.instanceMethod yX7_init]
def wsX9_init_r5 : List Cond := [Cond.code yX7_init cX7_init 1 none, Cond.methodLink RX7 3 objectInit, Cond.fieldLink RX7 11 "LeastRights$Sheets" "sizes" "[I", Cond.fieldLink RX7 15 "LeastRights$Sheets" "ints" "[I", Cond.instanceMethod yX4_init, Cond.code yX4_init cX4_init 1 none, Cond.methodLink RX4 3 objectInit, Cond.fieldLink RX4 9 "LeastRights$Findings" "latest" "I", Cond.fieldLink RX4 15 "LeastRights$Findings" "times" "[I"]
def wsX9_init : List Cond := .code yX9_init cX9_init 1 none :: ((wsX9_init_r1 ++ (wsX9_init_r2 ++ (wsX9_init_r3 ++ (wsX9_init_r4 ++ wsX9_init_r5)))) ++ wsX20 ++ wsX90 ++ wsX50 ++ wsX80 ++ wsX10 ++ wsX60 ++ wsX00 ++ wsX30 ++ wsX70 ++ wsX40)
def wsX9_noMarkSet : List Cond := .code yX9_noMarkSet cX9_noMarkSet 1 (some .boolean) :: ([])
def wsX9_noRightSet : List Cond := .code yX9_noRightSet cX9_noRightSet 1 (some .boolean) :: ([])
def wsX9_person : List Cond := .code yX9_person cX9_person 3 (some .int) :: ([.fieldLink RX9 19 "LeastRights" "folk" "LLeastRights$Folk;", .methodLink RX9 86 yX9_noMarkSet, .static yX9_noMarkSet, .initialized RX9, .code yX9_noMarkSet cX9_noMarkSet 1 (some .boolean), .methodLink RX9 90 yX9_noRightSet, .static yX9_noRightSet, .code yX9_noRightSet cX9_noRightSet 1 (some .boolean), .methodLink RX9 96 yX5_join, .instanceMethod yX5_join, .selects RX5 yX5_join yX5_join, .initialized RX5, .code yX5_join cX5_join 3 (some .int), .fieldLink RX5 15 "LeastRights$Folk" "marks" "[I", .fieldLink RX5 9 "LeastRights$Folk" "size" "I", .fieldLink RX5 19 "LeastRights$Folk" "rights" "[I"] ++ wsX90 ++ wsX50)
def wsX9_noPerson : List Cond := .code yX9_noPerson cX9_noPerson 2 (some .boolean) :: ([.fieldLink RX9 19 "LeastRights" "folk" "LLeastRights$Folk;"] ++ wsX90 ++ wsX50)
def wsX9_change : List Cond := .code yX9_change cX9_change 4 (some .int) :: ([.fieldLink RX9 19 "LeastRights" "folk" "LLeastRights$Folk;", .methodLink RX9 100 yX9_noPerson, .instanceMethod yX9_noPerson, .selects RX9 yX9_noPerson yX9_noPerson, .initialized RX9, .code yX9_noPerson cX9_noPerson 2 (some .boolean), .methodLink RX9 86 yX9_noMarkSet, .static yX9_noMarkSet, .code yX9_noMarkSet cX9_noMarkSet 1 (some .boolean), .methodLink RX9 103 yX5_remark, .instanceMethod yX5_remark, .selects RX5 yX5_remark yX5_remark, .initialized RX5, .code yX5_remark cX5_remark 4 (some .int), .fieldLink RX5 15 "LeastRights$Folk" "marks" "[I", .methodLink RX9 90 yX9_noRightSet, .static yX9_noRightSet, .code yX9_noRightSet cX9_noRightSet 1 (some .boolean), .methodLink RX9 106 yX5_give, .instanceMethod yX5_give, .selects RX5 yX5_give yX5_give, .code yX5_give cX5_give 4 (some .int), .fieldLink RX5 19 "LeastRights$Folk" "rights" "[I", .fieldLink RX5 22 "LeastRights$Folk" "struck" "[I"] ++ wsX90 ++ wsX50)
def wsX9_keptOf_r1 : List Cond := [Cond.fieldLink RX9 26 "LeastRights" "log" "LLeastRights$UseLog;", Cond.fieldLink RX9 10 "LeastRights" "days" "LLeastRights$Days;", Cond.fieldLink RX9 79 "LeastRights" "standbyRights" "I", Cond.fieldLink RX9 19 "LeastRights" "folk" "LLeastRights$Folk;", Cond.methodLink RX9 286 yX8_recent, Cond.instanceMethod yX8_recent, Cond.selects RX8 yX8_recent yX8_recent, Cond.initialized RX8, Cond.code yX8_recent cX8_recent 5 (some .int), Cond.fieldLink RX8 9 "LeastRights$UseLog" "size" "I", Cond.fieldLink RX8 15 "LeastRights$UseLog" "who" "[I", Cond.fieldLink RX8 22 "LeastRights$UseLog" "when" "[I", Cond.fieldLink RX8 19 "LeastRights$UseLog" "which" "[I", Cond.methodLink RX8 30 yX2_isWithinLast, Cond.instanceMethod yX2_isWithinLast, Cond.selects RX2 yX2_isWithinLast yX2_isWithinLast, Cond.initialized RX2, Cond.code yX2_isWithinLast cX2_isWithinLast 3 (some .boolean), Cond.fieldLink RX2 7 "LeastRights$Days" "present" "I", Cond.methodLink RX9 290 yX8_seasonal, Cond.instanceMethod yX8_seasonal, Cond.selects RX8 yX8_seasonal yX8_seasonal, Cond.code yX8_seasonal cX8_seasonal 6 (some .int), Cond.methodLink RX8 34 yX2_comesRound]
def wsX9_keptOf_r2 : List Cond := [Cond.instanceMethod yX2_comesRound, Cond.selects RX2 yX2_comesRound yX2_comesRound, Cond.code yX2_comesRound cX2_comesRound 4 (some .boolean), Cond.fieldLink RX2 16 "LeastRights$Days" "season" "I", Cond.fieldLink RX2 13 "LeastRights$Days" "span" "I"]
def wsX9_keptOf : List Cond := .code yX9_keptOf cX9_keptOf 3 (some .int) :: ((wsX9_keptOf_r1 ++ wsX9_keptOf_r2) ++ wsX90 ++ wsX50 ++ wsX80 ++ wsX20)
def wsX9_told_r1 : List Cond := [Cond.fieldLink RX9 19 "LeastRights" "folk" "LLeastRights$Folk;", Cond.fieldLink RX9 26 "LeastRights" "log" "LLeastRights$UseLog;", Cond.methodLink RX9 100 yX9_noPerson, Cond.instanceMethod yX9_noPerson, Cond.selects RX9 yX9_noPerson yX9_noPerson, Cond.initialized RX9, Cond.code yX9_noPerson cX9_noPerson 2 (some .boolean), Cond.methodLink RX9 115 yX9_keptOf, Cond.instanceMethod yX9_keptOf, Cond.selects RX9 yX9_keptOf yX9_keptOf, Cond.code yX9_keptOf cX9_keptOf 3 (some .int), Cond.fieldLink RX9 10 "LeastRights" "days" "LLeastRights$Days;", Cond.fieldLink RX9 79 "LeastRights" "standbyRights" "I", Cond.methodLink RX9 286 yX8_recent, Cond.instanceMethod yX8_recent, Cond.selects RX8 yX8_recent yX8_recent, Cond.initialized RX8, Cond.code yX8_recent cX8_recent 5 (some .int), Cond.fieldLink RX8 9 "LeastRights$UseLog" "size" "I", Cond.fieldLink RX8 15 "LeastRights$UseLog" "who" "[I", Cond.fieldLink RX8 22 "LeastRights$UseLog" "when" "[I", Cond.fieldLink RX8 19 "LeastRights$UseLog" "which" "[I", Cond.methodLink RX8 30 yX2_isWithinLast, Cond.instanceMethod yX2_isWithinLast]
def wsX9_told_r2 : List Cond := [Cond.selects RX2 yX2_isWithinLast yX2_isWithinLast, Cond.initialized RX2, Cond.code yX2_isWithinLast cX2_isWithinLast 3 (some .boolean), Cond.fieldLink RX2 7 "LeastRights$Days" "present" "I", Cond.methodLink RX9 290 yX8_seasonal, Cond.instanceMethod yX8_seasonal, Cond.selects RX8 yX8_seasonal yX8_seasonal, Cond.code yX8_seasonal cX8_seasonal 6 (some .int), Cond.methodLink RX8 34 yX2_comesRound, Cond.instanceMethod yX2_comesRound, Cond.selects RX2 yX2_comesRound yX2_comesRound, Cond.code yX2_comesRound cX2_comesRound 4 (some .boolean), Cond.fieldLink RX2 16 "LeastRights$Days" "season" "I", Cond.fieldLink RX2 13 "LeastRights$Days" "span" "I", Cond.methodLink RX9 122 yX8_ofPerson, Cond.instanceMethod yX8_ofPerson, Cond.selects RX8 yX8_ofPerson yX8_ofPerson, Cond.code yX8_ofPerson cX8_ofPerson 4 (some .int)]
def wsX9_told : List Cond := .code yX9_told cX9_told 3 (some .int) :: ((wsX9_told_r1 ++ wsX9_told_r2) ++ wsX90 ++ wsX50 ++ wsX80 ++ wsX20)
def wsX9_standby : List Cond := .code yX9_standby cX9_standby 3 (some .int) :: ([.fieldLink RX9 79 "LeastRights" "standbyRights" "I", .methodLink RX9 90 yX9_noRightSet, .static yX9_noRightSet, .initialized RX9, .code yX9_noRightSet cX9_noRightSet 1 (some .boolean)] ++ wsX90)
def wsX9_rule : List Cond := .code yX9_rule cX9_rule 4 (some .int) :: ([.fieldLink RX9 10 "LeastRights" "days" "LLeastRights$Days;"] ++ wsX90 ++ wsX20)
def wsX9_later : List Cond := .code yX9_later cX9_later 2 (some .int) :: ([.fieldLink RX9 10 "LeastRights" "days" "LLeastRights$Days;"] ++ wsX90 ++ wsX20)
def wsX9_noRight : List Cond := .code yX9_noRight cX9_noRight 1 (some .boolean) :: ([])
def wsX9_use_r1 : List Cond := [Cond.fieldLink RX9 10 "LeastRights" "days" "LLeastRights$Days;", Cond.fieldLink RX9 26 "LeastRights" "log" "LLeastRights$UseLog;", Cond.fieldLink RX9 19 "LeastRights" "folk" "LLeastRights$Folk;", Cond.methodLink RX9 100 yX9_noPerson, Cond.instanceMethod yX9_noPerson, Cond.selects RX9 yX9_noPerson yX9_noPerson, Cond.initialized RX9, Cond.code yX9_noPerson cX9_noPerson 2 (some .boolean), Cond.methodLink RX9 137 yX9_noRight, Cond.static yX9_noRight, Cond.code yX9_noRight cX9_noRight 1 (some .boolean), Cond.methodLink RX9 141 yX5_has, Cond.instanceMethod yX5_has, Cond.selects RX5 yX5_has yX5_has, Cond.initialized RX5, Cond.code yX5_has cX5_has 3 (some .boolean), Cond.fieldLink RX5 19 "LeastRights$Folk" "rights" "[I", Cond.methodLink RX9 145 yX8_enter, Cond.instanceMethod yX8_enter, Cond.selects RX8 yX8_enter yX8_enter, Cond.initialized RX8, Cond.code yX8_enter cX8_enter 4 (some .int), Cond.fieldLink RX8 15 "LeastRights$UseLog" "who" "[I", Cond.fieldLink RX8 9 "LeastRights$UseLog" "size" "I"]
def wsX9_use_r2 : List Cond := [Cond.fieldLink RX8 19 "LeastRights$UseLog" "which" "[I", Cond.fieldLink RX8 22 "LeastRights$UseLog" "when" "[I"]
def wsX9_use : List Cond := .code yX9_use cX9_use 4 (some .int) :: ((wsX9_use_r1 ++ wsX9_use_r2) ++ wsX90 ++ wsX20 ++ wsX80 ++ wsX50)
def wsX9_kindOf_r1 : List Cond := [Cond.fieldLink RX9 26 "LeastRights" "log" "LLeastRights$UseLog;", Cond.fieldLink RX9 10 "LeastRights" "days" "LLeastRights$Days;", Cond.fieldLink RX9 79 "LeastRights" "standbyRights" "I", Cond.methodLink RX9 286 yX8_recent, Cond.instanceMethod yX8_recent, Cond.selects RX8 yX8_recent yX8_recent, Cond.initialized RX8, Cond.code yX8_recent cX8_recent 5 (some .int), Cond.fieldLink RX8 9 "LeastRights$UseLog" "size" "I", Cond.fieldLink RX8 15 "LeastRights$UseLog" "who" "[I", Cond.fieldLink RX8 22 "LeastRights$UseLog" "when" "[I", Cond.fieldLink RX8 19 "LeastRights$UseLog" "which" "[I", Cond.methodLink RX8 30 yX2_isWithinLast, Cond.instanceMethod yX2_isWithinLast, Cond.selects RX2 yX2_isWithinLast yX2_isWithinLast, Cond.initialized RX2, Cond.code yX2_isWithinLast cX2_isWithinLast 3 (some .boolean), Cond.fieldLink RX2 7 "LeastRights$Days" "present" "I", Cond.methodLink RX9 290 yX8_seasonal, Cond.instanceMethod yX8_seasonal, Cond.selects RX8 yX8_seasonal yX8_seasonal, Cond.code yX8_seasonal cX8_seasonal 6 (some .int), Cond.methodLink RX8 34 yX2_comesRound, Cond.instanceMethod yX2_comesRound]
def wsX9_kindOf_r2 : List Cond := [Cond.selects RX2 yX2_comesRound yX2_comesRound, Cond.code yX2_comesRound cX2_comesRound 4 (some .boolean), Cond.fieldLink RX2 16 "LeastRights$Days" "season" "I", Cond.fieldLink RX2 13 "LeastRights$Days" "span" "I"]
def wsX9_kindOf : List Cond := .code yX9_kindOf cX9_kindOf 4 (some .int) :: ((wsX9_kindOf_r1 ++ wsX9_kindOf_r2) ++ wsX90 ++ wsX80 ++ wsX20)
def wsX9_kind_r1 : List Cond := [Cond.fieldLink RX9 19 "LeastRights" "folk" "LLeastRights$Folk;", Cond.methodLink RX9 100 yX9_noPerson, Cond.instanceMethod yX9_noPerson, Cond.selects RX9 yX9_noPerson yX9_noPerson, Cond.initialized RX9, Cond.code yX9_noPerson cX9_noPerson 2 (some .boolean), Cond.methodLink RX9 137 yX9_noRight, Cond.static yX9_noRight, Cond.code yX9_noRight cX9_noRight 1 (some .boolean), Cond.methodLink RX9 141 yX5_has, Cond.instanceMethod yX5_has, Cond.selects RX5 yX5_has yX5_has, Cond.initialized RX5, Cond.code yX5_has cX5_has 3 (some .boolean), Cond.fieldLink RX5 19 "LeastRights$Folk" "rights" "[I", Cond.methodLink RX9 149 yX9_kindOf, Cond.instanceMethod yX9_kindOf, Cond.selects RX9 yX9_kindOf yX9_kindOf, Cond.code yX9_kindOf cX9_kindOf 4 (some .int), Cond.fieldLink RX9 26 "LeastRights" "log" "LLeastRights$UseLog;", Cond.fieldLink RX9 10 "LeastRights" "days" "LLeastRights$Days;", Cond.fieldLink RX9 79 "LeastRights" "standbyRights" "I", Cond.methodLink RX9 286 yX8_recent, Cond.instanceMethod yX8_recent]
def wsX9_kind_r2 : List Cond := [Cond.selects RX8 yX8_recent yX8_recent, Cond.initialized RX8, Cond.code yX8_recent cX8_recent 5 (some .int), Cond.fieldLink RX8 9 "LeastRights$UseLog" "size" "I", Cond.fieldLink RX8 15 "LeastRights$UseLog" "who" "[I", Cond.fieldLink RX8 22 "LeastRights$UseLog" "when" "[I", Cond.fieldLink RX8 19 "LeastRights$UseLog" "which" "[I", Cond.methodLink RX8 30 yX2_isWithinLast, Cond.instanceMethod yX2_isWithinLast, Cond.selects RX2 yX2_isWithinLast yX2_isWithinLast, Cond.initialized RX2, Cond.code yX2_isWithinLast cX2_isWithinLast 3 (some .boolean), Cond.fieldLink RX2 7 "LeastRights$Days" "present" "I", Cond.methodLink RX9 290 yX8_seasonal, Cond.instanceMethod yX8_seasonal, Cond.selects RX8 yX8_seasonal yX8_seasonal, Cond.code yX8_seasonal cX8_seasonal 6 (some .int), Cond.methodLink RX8 34 yX2_comesRound, Cond.instanceMethod yX2_comesRound, Cond.selects RX2 yX2_comesRound yX2_comesRound, Cond.code yX2_comesRound cX2_comesRound 4 (some .boolean), Cond.fieldLink RX2 16 "LeastRights$Days" "season" "I", Cond.fieldLink RX2 13 "LeastRights$Days" "span" "I"]
def wsX9_kind : List Cond := .code yX9_kind cX9_kind 3 (some .int) :: ((wsX9_kind_r1 ++ wsX9_kind_r2) ++ wsX90 ++ wsX50 ++ wsX80 ++ wsX20)
def wsX9_isOfKind : List Cond := .code yX9_isOfKind cX9_isOfKind 2 (some .boolean) :: ([])
def wsX9_uses_r1 : List Cond := [Cond.fieldLink RX9 19 "LeastRights" "folk" "LLeastRights$Folk;", Cond.fieldLink RX9 68 "LeastRights" "tally" "LLeastRights$Findings;", Cond.fieldLink RX9 26 "LeastRights" "log" "LLeastRights$UseLog;", Cond.methodLink RX9 100 yX9_noPerson, Cond.instanceMethod yX9_noPerson, Cond.selects RX9 yX9_noPerson yX9_noPerson, Cond.initialized RX9, Cond.code yX9_noPerson cX9_noPerson 2 (some .boolean), Cond.methodLink RX9 137 yX9_noRight, Cond.static yX9_noRight, Cond.code yX9_noRight cX9_noRight 1 (some .boolean), Cond.methodLink RX9 141 yX5_has, Cond.instanceMethod yX5_has, Cond.selects RX5 yX5_has yX5_has, Cond.initialized RX5, Cond.code yX5_has cX5_has 3 (some .boolean), Cond.fieldLink RX5 19 "LeastRights$Folk" "rights" "[I", Cond.methodLink RX9 149 yX9_kindOf, Cond.instanceMethod yX9_kindOf, Cond.selects RX9 yX9_kindOf yX9_kindOf, Cond.code yX9_kindOf cX9_kindOf 4 (some .int), Cond.fieldLink RX9 10 "LeastRights" "days" "LLeastRights$Days;", Cond.fieldLink RX9 79 "LeastRights" "standbyRights" "I", Cond.methodLink RX9 286 yX8_recent]
def wsX9_uses_r2 : List Cond := [Cond.instanceMethod yX8_recent, Cond.selects RX8 yX8_recent yX8_recent, Cond.initialized RX8, Cond.code yX8_recent cX8_recent 5 (some .int), Cond.fieldLink RX8 9 "LeastRights$UseLog" "size" "I", Cond.fieldLink RX8 15 "LeastRights$UseLog" "who" "[I", Cond.fieldLink RX8 22 "LeastRights$UseLog" "when" "[I", Cond.fieldLink RX8 19 "LeastRights$UseLog" "which" "[I", Cond.methodLink RX8 30 yX2_isWithinLast, Cond.instanceMethod yX2_isWithinLast, Cond.selects RX2 yX2_isWithinLast yX2_isWithinLast, Cond.initialized RX2, Cond.code yX2_isWithinLast cX2_isWithinLast 3 (some .boolean), Cond.fieldLink RX2 7 "LeastRights$Days" "present" "I", Cond.methodLink RX9 290 yX8_seasonal, Cond.instanceMethod yX8_seasonal, Cond.selects RX8 yX8_seasonal yX8_seasonal, Cond.code yX8_seasonal cX8_seasonal 6 (some .int), Cond.methodLink RX8 34 yX2_comesRound, Cond.instanceMethod yX2_comesRound, Cond.selects RX2 yX2_comesRound yX2_comesRound, Cond.code yX2_comesRound cX2_comesRound 4 (some .boolean), Cond.fieldLink RX2 16 "LeastRights$Days" "season" "I", Cond.fieldLink RX2 13 "LeastRights$Days" "span" "I"]
def wsX9_uses_r3 : List Cond := [Cond.methodLink RX9 152 yX9_isOfKind, Cond.static yX9_isOfKind, Cond.code yX9_isOfKind cX9_isOfKind 2 (some .boolean), Cond.methodLink RX9 155 yX4_answer, Cond.instanceMethod yX4_answer, Cond.selects RX4 yX4_answer yX4_answer, Cond.initialized RX4, Cond.code yX4_answer cX4_answer 2 (some .int), Cond.fieldLink RX4 9 "LeastRights$Findings" "latest" "I", Cond.fieldLink RX4 15 "LeastRights$Findings" "times" "[I", Cond.methodLink RX9 158 yX8_ofHolding, Cond.instanceMethod yX8_ofHolding, Cond.selects RX8 yX8_ofHolding yX8_ofHolding, Cond.code yX8_ofHolding cX8_ofHolding 5 (some .int)]
def wsX9_uses : List Cond := .code yX9_uses cX9_uses 4 (some .int) :: ((wsX9_uses_r1 ++ (wsX9_uses_r2 ++ wsX9_uses_r3)) ++ wsX90 ++ wsX50 ++ wsX80 ++ wsX20 ++ wsX40)
def wsX9_strike_r1 : List Cond := [Cond.fieldLink RX9 19 "LeastRights" "folk" "LLeastRights$Folk;", Cond.fieldLink RX9 10 "LeastRights" "days" "LLeastRights$Days;", Cond.methodLink RX9 100 yX9_noPerson, Cond.instanceMethod yX9_noPerson, Cond.selects RX9 yX9_noPerson yX9_noPerson, Cond.initialized RX9, Cond.code yX9_noPerson cX9_noPerson 2 (some .boolean), Cond.methodLink RX9 115 yX9_keptOf, Cond.instanceMethod yX9_keptOf, Cond.selects RX9 yX9_keptOf yX9_keptOf, Cond.code yX9_keptOf cX9_keptOf 3 (some .int), Cond.fieldLink RX9 26 "LeastRights" "log" "LLeastRights$UseLog;", Cond.fieldLink RX9 79 "LeastRights" "standbyRights" "I", Cond.methodLink RX9 286 yX8_recent, Cond.instanceMethod yX8_recent, Cond.selects RX8 yX8_recent yX8_recent, Cond.initialized RX8, Cond.code yX8_recent cX8_recent 5 (some .int), Cond.fieldLink RX8 9 "LeastRights$UseLog" "size" "I", Cond.fieldLink RX8 15 "LeastRights$UseLog" "who" "[I", Cond.fieldLink RX8 22 "LeastRights$UseLog" "when" "[I", Cond.fieldLink RX8 19 "LeastRights$UseLog" "which" "[I", Cond.methodLink RX8 30 yX2_isWithinLast, Cond.instanceMethod yX2_isWithinLast]
def wsX9_strike_r2 : List Cond := [Cond.selects RX2 yX2_isWithinLast yX2_isWithinLast, Cond.initialized RX2, Cond.code yX2_isWithinLast cX2_isWithinLast 3 (some .boolean), Cond.fieldLink RX2 7 "LeastRights$Days" "present" "I", Cond.methodLink RX9 290 yX8_seasonal, Cond.instanceMethod yX8_seasonal, Cond.selects RX8 yX8_seasonal yX8_seasonal, Cond.code yX8_seasonal cX8_seasonal 6 (some .int), Cond.methodLink RX8 34 yX2_comesRound, Cond.instanceMethod yX2_comesRound, Cond.selects RX2 yX2_comesRound yX2_comesRound, Cond.code yX2_comesRound cX2_comesRound 4 (some .boolean), Cond.fieldLink RX2 16 "LeastRights$Days" "season" "I", Cond.fieldLink RX2 13 "LeastRights$Days" "span" "I", Cond.methodLink RX9 161 yX5_strikeAllBut, Cond.instanceMethod yX5_strikeAllBut, Cond.selects RX5 yX5_strikeAllBut yX5_strikeAllBut, Cond.initialized RX5, Cond.code yX5_strikeAllBut cX5_strikeAllBut 6 (some .int), Cond.fieldLink RX5 19 "LeastRights$Folk" "rights" "[I", Cond.fieldLink RX5 22 "LeastRights$Folk" "struck" "[I", Cond.fieldLink RX5 25 "LeastRights$Folk" "struckOn" "[I", Cond.methodLink RX5 28 yJ6_bitCount_0f7a4, Cond.static yJ6_bitCount_0f7a4]
def wsX9_strike_r3 : List Cond := [Cond.initialized RJ6, Cond.code yJ6_bitCount_0f7a4 cJ6_bitCount_0f7a4 1 (some .int), Cond.constant RJ6 265 (1431655765), Cond.constant RJ6 266 (858993459), Cond.constant RJ6 267 (252645135)]
def wsX9_strike : List Cond := .code yX9_strike cX9_strike 2 (some .int) :: ((wsX9_strike_r1 ++ (wsX9_strike_r2 ++ wsX9_strike_r3)) ++ wsX90 ++ wsX20 ++ wsX50 ++ wsX80)
def wsX9_ask_r1 : List Cond := [Cond.fieldLink RX9 19 "LeastRights" "folk" "LLeastRights$Folk;", Cond.fieldLink RX9 10 "LeastRights" "days" "LLeastRights$Days;", Cond.fieldLink RX9 76 "LeastRights" "askAnswers" "[I", Cond.methodLink RX9 100 yX9_noPerson, Cond.instanceMethod yX9_noPerson, Cond.selects RX9 yX9_noPerson yX9_noPerson, Cond.initialized RX9, Cond.code yX9_noPerson cX9_noPerson 2 (some .boolean), Cond.methodLink RX9 137 yX9_noRight, Cond.static yX9_noRight, Cond.code yX9_noRight cX9_noRight 1 (some .boolean), Cond.methodLink RX9 164 yX5_request, Cond.instanceMethod yX5_request, Cond.selects RX5 yX5_request yX5_request, Cond.initialized RX5, Cond.code yX5_request cX5_request 5 (some .int), Cond.fieldLink RX5 19 "LeastRights$Folk" "rights" "[I", Cond.fieldLink RX5 22 "LeastRights$Folk" "struck" "[I", Cond.fieldLink RX5 25 "LeastRights$Folk" "struckOn" "[I", Cond.methodLink RX5 34 yX2_isInGrace, Cond.instanceMethod yX2_isInGrace, Cond.selects RX2 yX2_isInGrace yX2_isInGrace, Cond.initialized RX2, Cond.code yX2_isInGrace cX2_isInGrace 2 (some .boolean)]
def wsX9_ask_r2 : List Cond := [Cond.fieldLink RX2 7 "LeastRights$Days" "present" "I", Cond.fieldLink RX2 19 "LeastRights$Days" "grace" "I", Cond.methodLink RX5 40 yX5_give, Cond.instanceMethod yX5_give, Cond.selects RX5 yX5_give yX5_give, Cond.code yX5_give cX5_give 4 (some .int)]
def wsX9_ask : List Cond := .code yX9_ask cX9_ask 4 (some .int) :: ((wsX9_ask_r1 ++ wsX9_ask_r2) ++ wsX90 ++ wsX50 ++ wsX20)
def wsX9_asks : List Cond := .code yX9_asks cX9_asks 2 (some .int) :: ([.fieldLink RX9 76 "LeastRights" "askAnswers" "[I"] ++ wsX90)
def wsX9_lookAtKept_r1 : List Cond := [Cond.fieldLink RX9 19 "LeastRights" "folk" "LLeastRights$Folk;", Cond.fieldLink RX9 72 "LeastRights" "keptRow" "[I", Cond.methodLink RX9 115 yX9_keptOf, Cond.instanceMethod yX9_keptOf, Cond.selects RX9 yX9_keptOf yX9_keptOf, Cond.initialized RX9, Cond.code yX9_keptOf cX9_keptOf 3 (some .int), Cond.fieldLink RX9 26 "LeastRights" "log" "LLeastRights$UseLog;", Cond.fieldLink RX9 10 "LeastRights" "days" "LLeastRights$Days;", Cond.fieldLink RX9 79 "LeastRights" "standbyRights" "I", Cond.methodLink RX9 286 yX8_recent, Cond.instanceMethod yX8_recent, Cond.selects RX8 yX8_recent yX8_recent, Cond.initialized RX8, Cond.code yX8_recent cX8_recent 5 (some .int), Cond.fieldLink RX8 9 "LeastRights$UseLog" "size" "I", Cond.fieldLink RX8 15 "LeastRights$UseLog" "who" "[I", Cond.fieldLink RX8 22 "LeastRights$UseLog" "when" "[I", Cond.fieldLink RX8 19 "LeastRights$UseLog" "which" "[I", Cond.methodLink RX8 30 yX2_isWithinLast, Cond.instanceMethod yX2_isWithinLast, Cond.selects RX2 yX2_isWithinLast yX2_isWithinLast, Cond.initialized RX2, Cond.code yX2_isWithinLast cX2_isWithinLast 3 (some .boolean)]
def wsX9_lookAtKept_r2 : List Cond := [Cond.fieldLink RX2 7 "LeastRights$Days" "present" "I", Cond.methodLink RX9 290 yX8_seasonal, Cond.instanceMethod yX8_seasonal, Cond.selects RX8 yX8_seasonal yX8_seasonal, Cond.code yX8_seasonal cX8_seasonal 6 (some .int), Cond.methodLink RX8 34 yX2_comesRound, Cond.instanceMethod yX2_comesRound, Cond.selects RX2 yX2_comesRound yX2_comesRound, Cond.code yX2_comesRound cX2_comesRound 4 (some .boolean), Cond.fieldLink RX2 16 "LeastRights$Days" "season" "I", Cond.fieldLink RX2 13 "LeastRights$Days" "span" "I"]
def wsX9_lookAtKept : List Cond := .code yX9_lookAtKept cX9_lookAtKept 2 none :: ((wsX9_lookAtKept_r1 ++ wsX9_lookAtKept_r2) ++ wsX90 ++ wsX50 ++ wsX80 ++ wsX20)
def wsX9_candidates_r1 : List Cond := [Cond.fieldLink RX9 33 "LeastRights" "choice" "LLeastRights$Candidates;", Cond.fieldLink RX9 72 "LeastRights" "keptRow" "[I", Cond.fieldLink RX9 19 "LeastRights" "folk" "LLeastRights$Folk;", Cond.methodLink RX9 168 yX9_lookAtKept, Cond.instanceMethod yX9_lookAtKept, Cond.selects RX9 yX9_lookAtKept yX9_lookAtKept, Cond.initialized RX9, Cond.code yX9_lookAtKept cX9_lookAtKept 2 none, Cond.methodLink RX9 115 yX9_keptOf, Cond.instanceMethod yX9_keptOf, Cond.selects RX9 yX9_keptOf yX9_keptOf, Cond.code yX9_keptOf cX9_keptOf 3 (some .int), Cond.fieldLink RX9 26 "LeastRights" "log" "LLeastRights$UseLog;", Cond.fieldLink RX9 10 "LeastRights" "days" "LLeastRights$Days;", Cond.fieldLink RX9 79 "LeastRights" "standbyRights" "I", Cond.methodLink RX9 286 yX8_recent, Cond.instanceMethod yX8_recent, Cond.selects RX8 yX8_recent yX8_recent, Cond.initialized RX8, Cond.code yX8_recent cX8_recent 5 (some .int), Cond.fieldLink RX8 9 "LeastRights$UseLog" "size" "I", Cond.fieldLink RX8 15 "LeastRights$UseLog" "who" "[I", Cond.fieldLink RX8 22 "LeastRights$UseLog" "when" "[I", Cond.fieldLink RX8 19 "LeastRights$UseLog" "which" "[I"]
def wsX9_candidates_r2 : List Cond := [Cond.methodLink RX8 30 yX2_isWithinLast, Cond.instanceMethod yX2_isWithinLast, Cond.selects RX2 yX2_isWithinLast yX2_isWithinLast, Cond.initialized RX2, Cond.code yX2_isWithinLast cX2_isWithinLast 3 (some .boolean), Cond.fieldLink RX2 7 "LeastRights$Days" "present" "I", Cond.methodLink RX9 290 yX8_seasonal, Cond.instanceMethod yX8_seasonal, Cond.selects RX8 yX8_seasonal yX8_seasonal, Cond.code yX8_seasonal cX8_seasonal 6 (some .int), Cond.methodLink RX8 34 yX2_comesRound, Cond.instanceMethod yX2_comesRound, Cond.selects RX2 yX2_comesRound yX2_comesRound, Cond.code yX2_comesRound cX2_comesRound 4 (some .boolean), Cond.fieldLink RX2 16 "LeastRights$Days" "season" "I", Cond.fieldLink RX2 13 "LeastRights$Days" "span" "I", Cond.methodLink RX9 171 yX1_gather, Cond.instanceMethod yX1_gather, Cond.selects RX1 yX1_gather yX1_gather, Cond.initialized RX1, Cond.code yX1_gather cX1_gather 6 none, Cond.fieldLink RX1 19 "LeastRights$Candidates" "noted" "[J", Cond.fieldLink RX1 9 "LeastRights$Candidates" "size" "I", Cond.fieldLink RX1 15 "LeastRights$Candidates" "sets" "[I"]
def wsX9_candidates_r3 : List Cond := [Cond.methodLink RX1 23 yX1_note, Cond.instanceMethod yX1_note, Cond.selects RX1 yX1_note yX1_note, Cond.code yX1_note cX1_note 2 none, Cond.methodLink RX1 30 yX1_isNoted, Cond.instanceMethod yX1_isNoted, Cond.selects RX1 yX1_isNoted yX1_isNoted, Cond.code yX1_isNoted cX1_isNoted 2 (some .boolean), Cond.methodLink RX1 27 yX1_putInOrder, Cond.instanceMethod yX1_putInOrder, Cond.selects RX1 yX1_putInOrder yX1_putInOrder, Cond.code yX1_putInOrder cX1_putInOrder 3 none]
def wsX9_candidates : List Cond := .code yX9_candidates cX9_candidates 1 (some .int) :: ((wsX9_candidates_r1 ++ (wsX9_candidates_r2 ++ wsX9_candidates_r3)) ++ wsX90 ++ wsX50 ++ wsX10 ++ wsX80 ++ wsX20)
def wsX9_roles_r1 : List Cond := [Cond.fieldLink RX9 33 "LeastRights" "choice" "LLeastRights$Candidates;", Cond.fieldLink RX9 72 "LeastRights" "keptRow" "[I", Cond.fieldLink RX9 19 "LeastRights" "folk" "LLeastRights$Folk;", Cond.fieldLink RX9 40 "LeastRights" "tree" "LLeastRights$RoleTree;", Cond.methodLink RX9 168 yX9_lookAtKept, Cond.instanceMethod yX9_lookAtKept, Cond.selects RX9 yX9_lookAtKept yX9_lookAtKept, Cond.initialized RX9, Cond.code yX9_lookAtKept cX9_lookAtKept 2 none, Cond.methodLink RX9 115 yX9_keptOf, Cond.instanceMethod yX9_keptOf, Cond.selects RX9 yX9_keptOf yX9_keptOf, Cond.code yX9_keptOf cX9_keptOf 3 (some .int), Cond.fieldLink RX9 26 "LeastRights" "log" "LLeastRights$UseLog;", Cond.fieldLink RX9 10 "LeastRights" "days" "LLeastRights$Days;", Cond.fieldLink RX9 79 "LeastRights" "standbyRights" "I", Cond.methodLink RX9 286 yX8_recent, Cond.instanceMethod yX8_recent, Cond.selects RX8 yX8_recent yX8_recent, Cond.initialized RX8, Cond.code yX8_recent cX8_recent 5 (some .int), Cond.fieldLink RX8 9 "LeastRights$UseLog" "size" "I", Cond.fieldLink RX8 15 "LeastRights$UseLog" "who" "[I", Cond.fieldLink RX8 22 "LeastRights$UseLog" "when" "[I"]
def wsX9_roles_r2 : List Cond := [Cond.fieldLink RX8 19 "LeastRights$UseLog" "which" "[I", Cond.methodLink RX8 30 yX2_isWithinLast, Cond.instanceMethod yX2_isWithinLast, Cond.selects RX2 yX2_isWithinLast yX2_isWithinLast, Cond.initialized RX2, Cond.code yX2_isWithinLast cX2_isWithinLast 3 (some .boolean), Cond.fieldLink RX2 7 "LeastRights$Days" "present" "I", Cond.methodLink RX9 290 yX8_seasonal, Cond.instanceMethod yX8_seasonal, Cond.selects RX8 yX8_seasonal yX8_seasonal, Cond.code yX8_seasonal cX8_seasonal 6 (some .int), Cond.methodLink RX8 34 yX2_comesRound, Cond.instanceMethod yX2_comesRound, Cond.selects RX2 yX2_comesRound yX2_comesRound, Cond.code yX2_comesRound cX2_comesRound 4 (some .boolean), Cond.fieldLink RX2 16 "LeastRights$Days" "season" "I", Cond.fieldLink RX2 13 "LeastRights$Days" "span" "I", Cond.methodLink RX9 171 yX1_gather, Cond.instanceMethod yX1_gather, Cond.selects RX1 yX1_gather yX1_gather, Cond.initialized RX1, Cond.code yX1_gather cX1_gather 6 none, Cond.fieldLink RX1 19 "LeastRights$Candidates" "noted" "[J", Cond.fieldLink RX1 9 "LeastRights$Candidates" "size" "I"]
def wsX9_roles_r3 : List Cond := [Cond.fieldLink RX1 15 "LeastRights$Candidates" "sets" "[I", Cond.methodLink RX1 23 yX1_note, Cond.instanceMethod yX1_note, Cond.selects RX1 yX1_note yX1_note, Cond.code yX1_note cX1_note 2 none, Cond.methodLink RX1 30 yX1_isNoted, Cond.instanceMethod yX1_isNoted, Cond.selects RX1 yX1_isNoted yX1_isNoted, Cond.code yX1_isNoted cX1_isNoted 2 (some .boolean), Cond.methodLink RX1 27 yX1_putInOrder, Cond.instanceMethod yX1_putInOrder, Cond.selects RX1 yX1_putInOrder yX1_putInOrder, Cond.code yX1_putInOrder cX1_putInOrder 3 none, Cond.methodLink RX9 176 yX6_search, Cond.instanceMethod yX6_search, Cond.selects RX6 yX6_search yX6_search, Cond.initialized RX6, Cond.code yX6_search cX6_search 9 (some .boolean), Cond.fieldLink RX6 18 "LeastRights$RoleTree" "fewest" "I", Cond.constant RX6 47 (40002), Cond.fieldLink RX6 15 "LeastRights$RoleTree" "tried" "I", Cond.fieldLink RX6 25 "LeastRights$RoleTree" "way" "[I", Cond.fieldLink RX6 11 "LeastRights$RoleTree" "size" "I", Cond.methodLink RX6 40 yX6_begin]
def wsX9_roles_r4 : List Cond := [Cond.instanceMethod yX6_begin, Cond.selects RX6 yX6_begin yX6_begin, Cond.code yX6_begin cX6_begin 2 none, Cond.fieldLink RX6 37 "LeastRights$RoleTree" "covered" "[I", Cond.methodLink RX6 43 yX6_openPlace, Cond.instanceMethod yX6_openPlace, Cond.selects RX6 yX6_openPlace yX6_openPlace, Cond.code yX6_openPlace cX6_openPlace 6 (some .boolean), Cond.fieldLink RX6 28 "LeastRights$RoleTree" "bound" "[I", Cond.fieldLink RX6 31 "LeastRights$RoleTree" "rightBit" "[I", Cond.fieldLink RX6 34 "LeastRights$RoleTree" "next" "[I", Cond.methodLink RX6 48 yX6_nextOf, Cond.instanceMethod yX6_nextOf, Cond.selects RX6 yX6_nextOf yX6_nextOf, Cond.code yX6_nextOf cX6_nextOf 5 (some .int), Cond.methodLink RX6 52 yX6_cover, Cond.instanceMethod yX6_cover, Cond.selects RX6 yX6_cover yX6_cover, Cond.code yX6_cover cX6_cover 8 none, Cond.methodLink RX6 56 yX6_keepIfFewer, Cond.instanceMethod yX6_keepIfFewer, Cond.selects RX6 yX6_keepIfFewer yX6_keepIfFewer, Cond.code yX6_keepIfFewer cX6_keepIfFewer 3 none, Cond.fieldLink RX6 21 "LeastRights$RoleTree" "fewestRow" "[I"]
def wsX9_roles : List Cond := .code yX9_roles cX9_roles 2 (some .int) :: ((wsX9_roles_r1 ++ (wsX9_roles_r2 ++ (wsX9_roles_r3 ++ wsX9_roles_r4))) ++ wsX90 ++ wsX50 ++ wsX60 ++ wsX80 ++ wsX20 ++ wsX10)
def wsX9_tries : List Cond := .code yX9_tries cX9_tries 1 (some .int) :: ([.fieldLink RX9 40 "LeastRights" "tree" "LLeastRights$RoleTree;"] ++ wsX90 ++ wsX60)
def wsX9_role : List Cond := .code yX9_role cX9_role 2 (some .int) :: ([.fieldLink RX9 40 "LeastRights" "tree" "LLeastRights$RoleTree;"] ++ wsX90 ++ wsX60)
def wsX9_rolesOf_r1 : List Cond := [Cond.fieldLink RX9 40 "LeastRights" "tree" "LLeastRights$RoleTree;", Cond.methodLink RX9 100 yX9_noPerson, Cond.instanceMethod yX9_noPerson, Cond.selects RX9 yX9_noPerson yX9_noPerson, Cond.initialized RX9, Cond.code yX9_noPerson cX9_noPerson 2 (some .boolean), Cond.fieldLink RX9 19 "LeastRights" "folk" "LLeastRights$Folk;", Cond.methodLink RX9 115 yX9_keptOf, Cond.instanceMethod yX9_keptOf, Cond.selects RX9 yX9_keptOf yX9_keptOf, Cond.code yX9_keptOf cX9_keptOf 3 (some .int), Cond.fieldLink RX9 26 "LeastRights" "log" "LLeastRights$UseLog;", Cond.fieldLink RX9 10 "LeastRights" "days" "LLeastRights$Days;", Cond.fieldLink RX9 79 "LeastRights" "standbyRights" "I", Cond.methodLink RX9 286 yX8_recent, Cond.instanceMethod yX8_recent, Cond.selects RX8 yX8_recent yX8_recent, Cond.initialized RX8, Cond.code yX8_recent cX8_recent 5 (some .int), Cond.fieldLink RX8 9 "LeastRights$UseLog" "size" "I", Cond.fieldLink RX8 15 "LeastRights$UseLog" "who" "[I", Cond.fieldLink RX8 22 "LeastRights$UseLog" "when" "[I", Cond.fieldLink RX8 19 "LeastRights$UseLog" "which" "[I", Cond.methodLink RX8 30 yX2_isWithinLast]
def wsX9_rolesOf_r2 : List Cond := [Cond.instanceMethod yX2_isWithinLast, Cond.selects RX2 yX2_isWithinLast yX2_isWithinLast, Cond.initialized RX2, Cond.code yX2_isWithinLast cX2_isWithinLast 3 (some .boolean), Cond.fieldLink RX2 7 "LeastRights$Days" "present" "I", Cond.methodLink RX9 290 yX8_seasonal, Cond.instanceMethod yX8_seasonal, Cond.selects RX8 yX8_seasonal yX8_seasonal, Cond.code yX8_seasonal cX8_seasonal 6 (some .int), Cond.methodLink RX8 34 yX2_comesRound, Cond.instanceMethod yX2_comesRound, Cond.selects RX2 yX2_comesRound yX2_comesRound, Cond.code yX2_comesRound cX2_comesRound 4 (some .boolean), Cond.fieldLink RX2 16 "LeastRights$Days" "season" "I", Cond.fieldLink RX2 13 "LeastRights$Days" "span" "I", Cond.methodLink RX9 187 yX6_rolesWithin, Cond.instanceMethod yX6_rolesWithin, Cond.selects RX6 yX6_rolesWithin yX6_rolesWithin, Cond.initialized RX6, Cond.code yX6_rolesWithin cX6_rolesWithin 4 (some .int), Cond.fieldLink RX6 11 "LeastRights$RoleTree" "size" "I", Cond.fieldLink RX6 21 "LeastRights$RoleTree" "fewestRow" "[I"]
def wsX9_rolesOf : List Cond := .code yX9_rolesOf cX9_rolesOf 2 (some .int) :: ((wsX9_rolesOf_r1 ++ wsX9_rolesOf_r2) ++ wsX90 ++ wsX50 ++ wsX80 ++ wsX20 ++ wsX60)
def wsX9_marksOf_r1 : List Cond := [Cond.fieldLink RX9 19 "LeastRights" "folk" "LLeastRights$Folk;", Cond.fieldLink RX9 83 "LeastRights" "exceptionsTold" "I", Cond.methodLink RX9 137 yX9_noRight, Cond.static yX9_noRight, Cond.initialized RX9, Cond.code yX9_noRight cX9_noRight 1 (some .boolean), Cond.methodLink RX9 190 yX5_mistold, Cond.instanceMethod yX5_mistold, Cond.selects RX5 yX5_mistold yX5_mistold, Cond.initialized RX5, Cond.code yX5_mistold cX5_mistold 6 (some .int), Cond.fieldLink RX5 9 "LeastRights$Folk" "size" "I", Cond.fieldLink RX5 15 "LeastRights$Folk" "marks" "[I", Cond.methodLink RX5 44 yX5_has, Cond.instanceMethod yX5_has, Cond.selects RX5 yX5_has yX5_has, Cond.code yX5_has cX5_has 3 (some .boolean), Cond.fieldLink RX5 19 "LeastRights$Folk" "rights" "[I", Cond.methodLink RX9 193 yJ6_bitCount_0f7a4, Cond.static yJ6_bitCount_0f7a4, Cond.initialized RJ6, Cond.code yJ6_bitCount_0f7a4 cJ6_bitCount_0f7a4 1 (some .int), Cond.constant RJ6 265 (1431655765), Cond.constant RJ6 266 (858993459)]
def wsX9_marksOf_r2 : List Cond := [Cond.constant RJ6 267 (252645135)]
def wsX9_marksOf : List Cond := .code yX9_marksOf cX9_marksOf 7 (some .int) :: ((wsX9_marksOf_r1 ++ wsX9_marksOf_r2) ++ wsX90 ++ wsX50)
def wsX9_exceptions : List Cond := .code yX9_exceptions cX9_exceptions 3 (some .int) :: ([.fieldLink RX9 19 "LeastRights" "folk" "LLeastRights$Folk;", .methodLink RX9 137 yX9_noRight, .static yX9_noRight, .initialized RX9, .code yX9_noRight cX9_noRight 1 (some .boolean), .methodLink RX9 86 yX9_noMarkSet, .static yX9_noMarkSet, .code yX9_noMarkSet cX9_noMarkSet 1 (some .boolean), .methodLink RX9 190 yX5_mistold, .instanceMethod yX5_mistold, .selects RX5 yX5_mistold yX5_mistold, .initialized RX5, .code yX5_mistold cX5_mistold 6 (some .int), .fieldLink RX5 9 "LeastRights$Folk" "size" "I", .fieldLink RX5 15 "LeastRights$Folk" "marks" "[I", .methodLink RX5 44 yX5_has, .instanceMethod yX5_has, .selects RX5 yX5_has yX5_has, .code yX5_has cX5_has 3 (some .boolean), .fieldLink RX5 19 "LeastRights$Folk" "rights" "[I"] ++ wsX90 ++ wsX50)
def wsX9_ban : List Cond := .code yX9_ban cX9_ban 4 (some .int) :: ([.fieldLink RX9 47 "LeastRights" "bans" "LLeastRights$Bans;", .methodLink RX9 137 yX9_noRight, .static yX9_noRight, .initialized RX9, .code yX9_noRight cX9_noRight 1 (some .boolean), .methodLink RX9 198 yX0_put, .instanceMethod yX0_put, .selects RX0 yX0_put yX0_put, .initialized RX0, .code yX0_put cX0_put 5 (some .int), .fieldLink RX0 9 "LeastRights$Bans" "with" "[I"] ++ wsX90 ++ wsX00)
def wsX9_breach : List Cond := .code yX9_breach cX9_breach 3 (some .int) :: ([.fieldLink RX9 19 "LeastRights" "folk" "LLeastRights$Folk;", .fieldLink RX9 47 "LeastRights" "bans" "LLeastRights$Bans;", .methodLink RX9 202 yX0_clashing, .instanceMethod yX0_clashing, .selects RX0 yX0_clashing yX0_clashing, .initialized RX0, .code yX0_clashing cX0_clashing 4 (some .int), .fieldLink RX0 9 "LeastRights$Bans" "with" "[I"] ++ wsX90 ++ wsX50 ++ wsX00)
def wsX9_isLighter : List Cond := .code yX9_isLighter cX9_isLighter 4 (some .boolean) :: ([.methodLink RX9 193 yJ6_bitCount_0f7a4, .static yJ6_bitCount_0f7a4, .initialized RJ6, .code yJ6_bitCount_0f7a4 cJ6_bitCount_0f7a4 1 (some .int), .constant RJ6 265 (1431655765), .constant RJ6 266 (858993459), .constant RJ6 267 (252645135)])
def wsX9_least_r1 : List Cond := [Cond.fieldLink RX9 19 "LeastRights" "folk" "LLeastRights$Folk;", Cond.fieldLink RX9 47 "LeastRights" "bans" "LLeastRights$Bans;", Cond.methodLink RX9 100 yX9_noPerson, Cond.instanceMethod yX9_noPerson, Cond.selects RX9 yX9_noPerson yX9_noPerson, Cond.initialized RX9, Cond.code yX9_noPerson cX9_noPerson 2 (some .boolean), Cond.methodLink RX9 202 yX0_clashing, Cond.instanceMethod yX0_clashing, Cond.selects RX0 yX0_clashing yX0_clashing, Cond.initialized RX0, Cond.code yX0_clashing cX0_clashing 4 (some .int), Cond.fieldLink RX0 9 "LeastRights$Bans" "with" "[I", Cond.methodLink RX9 115 yX9_keptOf, Cond.instanceMethod yX9_keptOf, Cond.selects RX9 yX9_keptOf yX9_keptOf, Cond.code yX9_keptOf cX9_keptOf 3 (some .int), Cond.fieldLink RX9 26 "LeastRights" "log" "LLeastRights$UseLog;", Cond.fieldLink RX9 10 "LeastRights" "days" "LLeastRights$Days;", Cond.fieldLink RX9 79 "LeastRights" "standbyRights" "I", Cond.methodLink RX9 286 yX8_recent, Cond.instanceMethod yX8_recent, Cond.selects RX8 yX8_recent yX8_recent, Cond.initialized RX8]
def wsX9_least_r2 : List Cond := [Cond.code yX8_recent cX8_recent 5 (some .int), Cond.fieldLink RX8 9 "LeastRights$UseLog" "size" "I", Cond.fieldLink RX8 15 "LeastRights$UseLog" "who" "[I", Cond.fieldLink RX8 22 "LeastRights$UseLog" "when" "[I", Cond.fieldLink RX8 19 "LeastRights$UseLog" "which" "[I", Cond.methodLink RX8 30 yX2_isWithinLast, Cond.instanceMethod yX2_isWithinLast, Cond.selects RX2 yX2_isWithinLast yX2_isWithinLast, Cond.initialized RX2, Cond.code yX2_isWithinLast cX2_isWithinLast 3 (some .boolean), Cond.fieldLink RX2 7 "LeastRights$Days" "present" "I", Cond.methodLink RX9 290 yX8_seasonal, Cond.instanceMethod yX8_seasonal, Cond.selects RX8 yX8_seasonal yX8_seasonal, Cond.code yX8_seasonal cX8_seasonal 6 (some .int), Cond.methodLink RX8 34 yX2_comesRound, Cond.instanceMethod yX2_comesRound, Cond.selects RX2 yX2_comesRound yX2_comesRound, Cond.code yX2_comesRound cX2_comesRound 4 (some .boolean), Cond.fieldLink RX2 16 "LeastRights$Days" "season" "I", Cond.fieldLink RX2 13 "LeastRights$Days" "span" "I", Cond.methodLink RX9 205 yX9_isLighter, Cond.static yX9_isLighter, Cond.code yX9_isLighter cX9_isLighter 4 (some .boolean)]
def wsX9_least_r3 : List Cond := [Cond.methodLink RX9 193 yJ6_bitCount_0f7a4, Cond.static yJ6_bitCount_0f7a4, Cond.initialized RJ6, Cond.code yJ6_bitCount_0f7a4 cJ6_bitCount_0f7a4 1 (some .int), Cond.constant RJ6 265 (1431655765), Cond.constant RJ6 266 (858993459), Cond.constant RJ6 267 (252645135)]
def wsX9_least : List Cond := .code yX9_least cX9_least 7 (some .int) :: ((wsX9_least_r1 ++ (wsX9_least_r2 ++ wsX9_least_r3)) ++ wsX90 ++ wsX50 ++ wsX00 ++ wsX80 ++ wsX20)
def wsX9_badRole : List Cond := .code yX9_badRole cX9_badRole 2 (some .int) :: ([.fieldLink RX9 40 "LeastRights" "tree" "LLeastRights$RoleTree;", .fieldLink RX9 47 "LeastRights" "bans" "LLeastRights$Bans;", .methodLink RX9 202 yX0_clashing, .instanceMethod yX0_clashing, .selects RX0 yX0_clashing yX0_clashing, .initialized RX0, .code yX0_clashing cX0_clashing 4 (some .int), .fieldLink RX0 9 "LeastRights$Bans" "with" "[I"] ++ wsX90 ++ wsX60 ++ wsX00)
def wsX9_plan_r1 : List Cond := [Cond.fieldLink RX9 54 "LeastRights" "draft" "LLeastRights$Draft;", Cond.fieldLink RX9 72 "LeastRights" "keptRow" "[I", Cond.fieldLink RX9 19 "LeastRights" "folk" "LLeastRights$Folk;", Cond.methodLink RX9 168 yX9_lookAtKept, Cond.instanceMethod yX9_lookAtKept, Cond.selects RX9 yX9_lookAtKept yX9_lookAtKept, Cond.initialized RX9, Cond.code yX9_lookAtKept cX9_lookAtKept 2 none, Cond.methodLink RX9 115 yX9_keptOf, Cond.instanceMethod yX9_keptOf, Cond.selects RX9 yX9_keptOf yX9_keptOf, Cond.code yX9_keptOf cX9_keptOf 3 (some .int), Cond.fieldLink RX9 26 "LeastRights" "log" "LLeastRights$UseLog;", Cond.fieldLink RX9 10 "LeastRights" "days" "LLeastRights$Days;", Cond.fieldLink RX9 79 "LeastRights" "standbyRights" "I", Cond.methodLink RX9 286 yX8_recent, Cond.instanceMethod yX8_recent, Cond.selects RX8 yX8_recent yX8_recent, Cond.initialized RX8, Cond.code yX8_recent cX8_recent 5 (some .int), Cond.fieldLink RX8 9 "LeastRights$UseLog" "size" "I", Cond.fieldLink RX8 15 "LeastRights$UseLog" "who" "[I", Cond.fieldLink RX8 22 "LeastRights$UseLog" "when" "[I", Cond.fieldLink RX8 19 "LeastRights$UseLog" "which" "[I"]
def wsX9_plan_r2 : List Cond := [Cond.methodLink RX8 30 yX2_isWithinLast, Cond.instanceMethod yX2_isWithinLast, Cond.selects RX2 yX2_isWithinLast yX2_isWithinLast, Cond.initialized RX2, Cond.code yX2_isWithinLast cX2_isWithinLast 3 (some .boolean), Cond.fieldLink RX2 7 "LeastRights$Days" "present" "I", Cond.methodLink RX9 290 yX8_seasonal, Cond.instanceMethod yX8_seasonal, Cond.selects RX8 yX8_seasonal yX8_seasonal, Cond.code yX8_seasonal cX8_seasonal 6 (some .int), Cond.methodLink RX8 34 yX2_comesRound, Cond.instanceMethod yX2_comesRound, Cond.selects RX2 yX2_comesRound yX2_comesRound, Cond.code yX2_comesRound cX2_comesRound 4 (some .boolean), Cond.fieldLink RX2 16 "LeastRights$Days" "season" "I", Cond.fieldLink RX2 13 "LeastRights$Days" "span" "I", Cond.methodLink RX9 209 yX3_make, Cond.instanceMethod yX3_make, Cond.selects RX3 yX3_make yX3_make, Cond.initialized RX3, Cond.code yX3_make cX3_make 4 (some .int), Cond.fieldLink RX3 9 "LeastRights$Draft" "made" "Z", Cond.fieldLink RX3 15 "LeastRights$Draft" "size" "I", Cond.fieldLink RX3 19 "LeastRights$Draft" "rights" "[I"]
def wsX9_plan_r3 : List Cond := [Cond.static yX9_totalOf, Cond.code yX9_totalOf cX9_totalOf 4 (some .int), Cond.methodLink RX9 193 yJ6_bitCount_0f7a4, Cond.static yJ6_bitCount_0f7a4, Cond.initialized RJ6, Cond.code yJ6_bitCount_0f7a4 cJ6_bitCount_0f7a4 1 (some .int), Cond.constant RJ6 265 (1431655765), Cond.constant RJ6 266 (858993459), Cond.constant RJ6 267 (252645135)]
def wsX9_plan : List Cond := .code yX9_plan cX9_plan 2 (some .int) :: ((wsX9_plan_r1 ++ (wsX9_plan_r2 ++ wsX9_plan_r3)) ++ wsX90 ++ wsX50 ++ wsX80 ++ wsX20 ++ wsX30)
def wsX9_takeOut : List Cond := .code yX9_takeOut cX9_takeOut 3 (some .int) :: ([.fieldLink RX9 54 "LeastRights" "draft" "LLeastRights$Draft;", .methodLink RX9 100 yX9_noPerson, .instanceMethod yX9_noPerson, .selects RX9 yX9_noPerson yX9_noPerson, .initialized RX9, .code yX9_noPerson cX9_noPerson 2 (some .boolean), .fieldLink RX9 19 "LeastRights" "folk" "LLeastRights$Folk;", .methodLink RX9 137 yX9_noRight, .static yX9_noRight, .code yX9_noRight cX9_noRight 1 (some .boolean), .methodLink RX9 218 yX3_drop, .instanceMethod yX3_drop, .selects RX3 yX3_drop yX3_drop, .initialized RX3, .code yX3_drop cX3_drop 4 (some .int), .fieldLink RX3 19 "LeastRights$Draft" "rights" "[I"] ++ wsX90 ++ wsX30 ++ wsX50)
def wsX9_noLastDays : List Cond := .code yX9_noLastDays cX9_noLastDays 1 (some .boolean) :: ([])
def wsX9_isStopped : List Cond := .code yX9_isStopped cX9_isStopped 3 (some .boolean) :: ([.fieldLink RX9 10 "LeastRights" "days" "LLeastRights$Days;", .fieldLink RX9 26 "LeastRights" "log" "LLeastRights$UseLog;", .fieldLink RX9 54 "LeastRights" "draft" "LLeastRights$Draft;", .methodLink RX9 293 yX2_isWithinLast, .instanceMethod yX2_isWithinLast, .selects RX2 yX2_isWithinLast yX2_isWithinLast, .initialized RX2, .code yX2_isWithinLast cX2_isWithinLast 3 (some .boolean), .fieldLink RX2 7 "LeastRights$Days" "present" "I", .methodLink RX9 296 yX3_allows, .instanceMethod yX3_allows, .selects RX3 yX3_allows yX3_allows, .initialized RX3, .code yX3_allows cX3_allows 3 (some .boolean), .fieldLink RX3 15 "LeastRights$Draft" "size" "I", .fieldLink RX3 19 "LeastRights$Draft" "rights" "[I"] ++ wsX90 ++ wsX80 ++ wsX20 ++ wsX30)
def wsX9_stopped : List Cond := .code yX9_stopped cX9_stopped 4 (some .int) :: ([.fieldLink RX9 54 "LeastRights" "draft" "LLeastRights$Draft;", .fieldLink RX9 26 "LeastRights" "log" "LLeastRights$UseLog;", .methodLink RX9 221 yX9_noLastDays, .static yX9_noLastDays, .initialized RX9, .code yX9_noLastDays cX9_noLastDays 1 (some .boolean), .methodLink RX9 224 yX9_isStopped, .instanceMethod yX9_isStopped, .selects RX9 yX9_isStopped yX9_isStopped, .code yX9_isStopped cX9_isStopped 3 (some .boolean), .fieldLink RX9 10 "LeastRights" "days" "LLeastRights$Days;", .methodLink RX9 293 yX2_isWithinLast, .instanceMethod yX2_isWithinLast, .selects RX2 yX2_isWithinLast yX2_isWithinLast, .initialized RX2, .code yX2_isWithinLast cX2_isWithinLast 3 (some .boolean), .fieldLink RX2 7 "LeastRights$Days" "present" "I", .methodLink RX9 296 yX3_allows, .instanceMethod yX3_allows, .selects RX3 yX3_allows yX3_allows, .initialized RX3, .code yX3_allows cX3_allows 3 (some .boolean), .fieldLink RX3 15 "LeastRights$Draft" "size" "I", .fieldLink RX3 19 "LeastRights$Draft" "rights" "[I"] ++ wsX90 ++ wsX30 ++ wsX80 ++ wsX20)
def wsX9_stop : List Cond := .code yX9_stop cX9_stop 4 (some .int) :: ([.fieldLink RX9 54 "LeastRights" "draft" "LLeastRights$Draft;", .fieldLink RX9 26 "LeastRights" "log" "LLeastRights$UseLog;", .methodLink RX9 221 yX9_noLastDays, .static yX9_noLastDays, .initialized RX9, .code yX9_noLastDays cX9_noLastDays 1 (some .boolean), .methodLink RX9 224 yX9_isStopped, .instanceMethod yX9_isStopped, .selects RX9 yX9_isStopped yX9_isStopped, .code yX9_isStopped cX9_isStopped 3 (some .boolean), .fieldLink RX9 10 "LeastRights" "days" "LLeastRights$Days;", .methodLink RX9 293 yX2_isWithinLast, .instanceMethod yX2_isWithinLast, .selects RX2 yX2_isWithinLast yX2_isWithinLast, .initialized RX2, .code yX2_isWithinLast cX2_isWithinLast 3 (some .boolean), .fieldLink RX2 7 "LeastRights$Days" "present" "I", .methodLink RX9 296 yX3_allows, .instanceMethod yX3_allows, .selects RX3 yX3_allows yX3_allows, .initialized RX3, .code yX3_allows cX3_allows 3 (some .boolean), .fieldLink RX3 15 "LeastRights$Draft" "size" "I", .fieldLink RX3 19 "LeastRights$Draft" "rights" "[I"] ++ wsX90 ++ wsX30 ++ wsX80 ++ wsX20)
def wsX9_used : List Cond := .code yX9_used cX9_used 3 (some .int) :: ([.fieldLink RX9 26 "LeastRights" "log" "LLeastRights$UseLog;"] ++ wsX90 ++ wsX80)
def wsX9_apply : List Cond := .code yX9_apply cX9_apply 3 (some .int) :: ([.fieldLink RX9 54 "LeastRights" "draft" "LLeastRights$Draft;", .fieldLink RX9 19 "LeastRights" "folk" "LLeastRights$Folk;", .fieldLink RX9 10 "LeastRights" "days" "LLeastRights$Days;", .methodLink RX9 161 yX5_strikeAllBut, .instanceMethod yX5_strikeAllBut, .selects RX5 yX5_strikeAllBut yX5_strikeAllBut, .initialized RX5, .code yX5_strikeAllBut cX5_strikeAllBut 6 (some .int), .fieldLink RX5 19 "LeastRights$Folk" "rights" "[I", .fieldLink RX5 22 "LeastRights$Folk" "struck" "[I", .fieldLink RX5 25 "LeastRights$Folk" "struckOn" "[I", .methodLink RX5 28 yJ6_bitCount_0f7a4, .static yJ6_bitCount_0f7a4, .initialized RJ6, .code yJ6_bitCount_0f7a4 cJ6_bitCount_0f7a4 1 (some .int), .constant RJ6 265 (1431655765), .constant RJ6 266 (858993459), .constant RJ6 267 (252645135), .methodLink RX9 106 yX5_give, .instanceMethod yX5_give, .selects RX5 yX5_give yX5_give, .code yX5_give cX5_give 4 (some .int)] ++ wsX90 ++ wsX30 ++ wsX50 ++ wsX20)
def wsX9_noSheet : List Cond := .code yX9_noSheet cX9_noSheet 1 (some .boolean) :: ([])
def wsX9_sheet : List Cond := .code yX9_sheet cX9_sheet 3 (some .int) :: ([.fieldLink RX9 68 "LeastRights" "tally" "LLeastRights$Findings;", .fieldLink RX9 61 "LeastRights" "sheets" "LLeastRights$Sheets;", .methodLink RX9 237 yX9_noSheet, .static yX9_noSheet, .initialized RX9, .code yX9_noSheet cX9_noSheet 1 (some .boolean), .methodLink RX9 155 yX4_answer, .instanceMethod yX4_answer, .selects RX4 yX4_answer yX4_answer, .initialized RX4, .code yX4_answer cX4_answer 2 (some .int), .fieldLink RX4 9 "LeastRights$Findings" "latest" "I", .fieldLink RX4 15 "LeastRights$Findings" "times" "[I", .methodLink RX9 240 yX7_lay, .instanceMethod yX7_lay, .selects RX7 yX7_lay yX7_lay, .initialized RX7, .code yX7_lay cX7_lay 4 (some .int), .fieldLink RX7 11 "LeastRights$Sheets" "sizes" "[I", .fieldLink RX7 15 "LeastRights$Sheets" "ints" "[I"] ++ wsX90 ++ wsX40 ++ wsX70)
def wsX9_save_r1 : List Cond := [Cond.fieldLink RX9 61 "LeastRights" "sheets" "LLeastRights$Sheets;", Cond.fieldLink RX9 68 "LeastRights" "tally" "LLeastRights$Findings;", Cond.fieldLink RX9 19 "LeastRights" "folk" "LLeastRights$Folk;", Cond.methodLink RX9 237 yX9_noSheet, Cond.static yX9_noSheet, Cond.initialized RX9, Cond.code yX9_noSheet cX9_noSheet 1 (some .boolean), Cond.methodLink RX9 243 yX7_isMissing, Cond.instanceMethod yX7_isMissing, Cond.selects RX7 yX7_isMissing yX7_isMissing, Cond.initialized RX7, Cond.code yX7_isMissing cX7_isMissing 2 (some .boolean), Cond.fieldLink RX7 11 "LeastRights$Sheets" "sizes" "[I", Cond.methodLink RX9 155 yX4_answer, Cond.instanceMethod yX4_answer, Cond.selects RX4 yX4_answer yX4_answer, Cond.initialized RX4, Cond.code yX4_answer cX4_answer 2 (some .int), Cond.fieldLink RX4 9 "LeastRights$Findings" "latest" "I", Cond.fieldLink RX4 15 "LeastRights$Findings" "times" "[I", Cond.methodLink RX9 246 yX7_write, Cond.instanceMethod yX7_write, Cond.selects RX7 yX7_write yX7_write, Cond.code yX7_write cX7_write 6 (some .int)]
def wsX9_save_r2 : List Cond := [Cond.methodLink RX7 18 Lib.Math.min.name, Cond.static Lib.Math.min.name, Cond.initialized "java/lang/Math", Cond.code Lib.Math.min.name Lib.Math.min.code 2 (some .int), Cond.fieldLink RX7 15 "LeastRights$Sheets" "ints" "[I"]
def wsX9_save : List Cond := .code yX9_save cX9_save 2 (some .int) :: ((wsX9_save_r1 ++ wsX9_save_r2) ++ wsX90 ++ wsX50 ++ wsX70 ++ wsX40)
def wsX9_load_r1 : List Cond := [Cond.fieldLink RX9 61 "LeastRights" "sheets" "LLeastRights$Sheets;", Cond.fieldLink RX9 68 "LeastRights" "tally" "LLeastRights$Findings;", Cond.fieldLink RX9 19 "LeastRights" "folk" "LLeastRights$Folk;", Cond.methodLink RX9 237 yX9_noSheet, Cond.static yX9_noSheet, Cond.initialized RX9, Cond.code yX9_noSheet cX9_noSheet 1 (some .boolean), Cond.methodLink RX9 100 yX9_noPerson, Cond.instanceMethod yX9_noPerson, Cond.selects RX9 yX9_noPerson yX9_noPerson, Cond.code yX9_noPerson cX9_noPerson 2 (some .boolean), Cond.methodLink RX9 243 yX7_isMissing, Cond.instanceMethod yX7_isMissing, Cond.selects RX7 yX7_isMissing yX7_isMissing, Cond.initialized RX7, Cond.code yX7_isMissing cX7_isMissing 2 (some .boolean), Cond.fieldLink RX7 11 "LeastRights$Sheets" "sizes" "[I", Cond.methodLink RX9 155 yX4_answer, Cond.instanceMethod yX4_answer, Cond.selects RX4 yX4_answer yX4_answer, Cond.initialized RX4, Cond.code yX4_answer cX4_answer 2 (some .int), Cond.fieldLink RX4 9 "LeastRights$Findings" "latest" "I", Cond.fieldLink RX4 15 "LeastRights$Findings" "times" "[I"]
def wsX9_load_r2 : List Cond := [Cond.methodLink RX9 253 yX7_at, Cond.instanceMethod yX7_at, Cond.selects RX7 yX7_at yX7_at, Cond.code yX7_at cX7_at 3 (some .int), Cond.fieldLink RX7 15 "LeastRights$Sheets" "ints" "[I", Cond.methodLink RX9 106 yX5_give, Cond.instanceMethod yX5_give, Cond.selects RX5 yX5_give yX5_give, Cond.initialized RX5, Cond.code yX5_give cX5_give 4 (some .int), Cond.fieldLink RX5 19 "LeastRights$Folk" "rights" "[I", Cond.fieldLink RX5 22 "LeastRights$Folk" "struck" "[I"]
def wsX9_load : List Cond := .code yX9_load cX9_load 4 (some .int) :: ((wsX9_load_r1 ++ wsX9_load_r2) ++ wsX90 ++ wsX70 ++ wsX50 ++ wsX40)
def wsX9_tear : List Cond := .code yX9_tear cX9_tear 2 (some .int) :: ([.fieldLink RX9 61 "LeastRights" "sheets" "LLeastRights$Sheets;", .fieldLink RX9 68 "LeastRights" "tally" "LLeastRights$Findings;", .methodLink RX9 237 yX9_noSheet, .static yX9_noSheet, .initialized RX9, .code yX9_noSheet cX9_noSheet 1 (some .boolean), .methodLink RX9 243 yX7_isMissing, .instanceMethod yX7_isMissing, .selects RX7 yX7_isMissing yX7_isMissing, .initialized RX7, .code yX7_isMissing cX7_isMissing 2 (some .boolean), .fieldLink RX7 11 "LeastRights$Sheets" "sizes" "[I", .methodLink RX9 155 yX4_answer, .instanceMethod yX4_answer, .selects RX4 yX4_answer yX4_answer, .initialized RX4, .code yX4_answer cX4_answer 2 (some .int), .fieldLink RX4 9 "LeastRights$Findings" "latest" "I", .fieldLink RX4 15 "LeastRights$Findings" "times" "[I"] ++ wsX90 ++ wsX70 ++ wsX40)
def wsX9_copy_r1 : List Cond := [Cond.fieldLink RX9 68 "LeastRights" "tally" "LLeastRights$Findings;", Cond.fieldLink RX9 61 "LeastRights" "sheets" "LLeastRights$Sheets;", Cond.methodLink RX9 237 yX9_noSheet, Cond.static yX9_noSheet, Cond.initialized RX9, Cond.code yX9_noSheet cX9_noSheet 1 (some .boolean), Cond.methodLink RX9 155 yX4_answer, Cond.instanceMethod yX4_answer, Cond.selects RX4 yX4_answer yX4_answer, Cond.initialized RX4, Cond.code yX4_answer cX4_answer 2 (some .int), Cond.fieldLink RX4 9 "LeastRights$Findings" "latest" "I", Cond.fieldLink RX4 15 "LeastRights$Findings" "times" "[I", Cond.methodLink RX9 243 yX7_isMissing, Cond.instanceMethod yX7_isMissing, Cond.selects RX7 yX7_isMissing yX7_isMissing, Cond.initialized RX7, Cond.code yX7_isMissing cX7_isMissing 2 (some .boolean), Cond.fieldLink RX7 11 "LeastRights$Sheets" "sizes" "[I", Cond.methodLink RX9 256 yX7_spans, Cond.instanceMethod yX7_spans, Cond.selects RX7 yX7_spans yX7_spans, Cond.code yX7_spans cX7_spans 4 (some .boolean), Cond.methodLink RX9 259 yX7_move]
def wsX9_copy_r2 : List Cond := [Cond.instanceMethod yX7_move, Cond.selects RX7 yX7_move yX7_move, Cond.code yX7_move cX7_move 6 none, Cond.fieldLink RX7 15 "LeastRights$Sheets" "ints" "[I", Cond.methodLink RX7 24 arraycopyName, Cond.native arraycopyName, Cond.static arraycopyName, Cond.initialized "java/lang/System"]
def wsX9_copy : List Cond := .code yX9_copy cX9_copy 6 (some .int) :: ((wsX9_copy_r1 ++ wsX9_copy_r2) ++ wsX90 ++ wsX40 ++ wsX70)
def wsX9_asked : List Cond := .code yX9_asked cX9_asked 1 (some .int) :: ([.fieldLink RX9 83 "LeastRights" "exceptionsTold" "I"] ++ wsX90)
def wsX9_count_r1 : List Cond := [Cond.fieldLink RX9 19 "LeastRights" "folk" "LLeastRights$Folk;", Cond.fieldLink RX9 10 "LeastRights" "days" "LLeastRights$Days;", Cond.fieldLink RX9 26 "LeastRights" "log" "LLeastRights$UseLog;", Cond.fieldLink RX9 72 "LeastRights" "keptRow" "[I", Cond.fieldLink RX9 47 "LeastRights" "bans" "LLeastRights$Bans;", Cond.methodLink RX9 263 yX9_totalOf, Cond.static yX9_totalOf, Cond.initialized RX9, Cond.code yX9_totalOf cX9_totalOf 4 (some .int), Cond.methodLink RX9 193 yJ6_bitCount_0f7a4, Cond.static yJ6_bitCount_0f7a4, Cond.initialized RJ6, Cond.code yJ6_bitCount_0f7a4 cJ6_bitCount_0f7a4 1 (some .int), Cond.constant RJ6 265 (1431655765), Cond.constant RJ6 266 (858993459), Cond.constant RJ6 267 (252645135), Cond.methodLink RX9 168 yX9_lookAtKept, Cond.instanceMethod yX9_lookAtKept, Cond.selects RX9 yX9_lookAtKept yX9_lookAtKept, Cond.code yX9_lookAtKept cX9_lookAtKept 2 none, Cond.methodLink RX9 115 yX9_keptOf, Cond.instanceMethod yX9_keptOf, Cond.selects RX9 yX9_keptOf yX9_keptOf, Cond.code yX9_keptOf cX9_keptOf 3 (some .int)]
def wsX9_count_r2 : List Cond := [Cond.fieldLink RX9 79 "LeastRights" "standbyRights" "I", Cond.methodLink RX9 286 yX8_recent, Cond.instanceMethod yX8_recent, Cond.selects RX8 yX8_recent yX8_recent, Cond.initialized RX8, Cond.code yX8_recent cX8_recent 5 (some .int), Cond.fieldLink RX8 9 "LeastRights$UseLog" "size" "I", Cond.fieldLink RX8 15 "LeastRights$UseLog" "who" "[I", Cond.fieldLink RX8 22 "LeastRights$UseLog" "when" "[I", Cond.fieldLink RX8 19 "LeastRights$UseLog" "which" "[I", Cond.methodLink RX8 30 yX2_isWithinLast, Cond.instanceMethod yX2_isWithinLast, Cond.selects RX2 yX2_isWithinLast yX2_isWithinLast, Cond.initialized RX2, Cond.code yX2_isWithinLast cX2_isWithinLast 3 (some .boolean), Cond.fieldLink RX2 7 "LeastRights$Days" "present" "I", Cond.methodLink RX9 290 yX8_seasonal, Cond.instanceMethod yX8_seasonal, Cond.selects RX8 yX8_seasonal yX8_seasonal, Cond.code yX8_seasonal cX8_seasonal 6 (some .int), Cond.methodLink RX8 34 yX2_comesRound, Cond.instanceMethod yX2_comesRound, Cond.selects RX2 yX2_comesRound yX2_comesRound, Cond.code yX2_comesRound cX2_comesRound 4 (some .boolean)]
def wsX9_count_r3 : List Cond := [Cond.fieldLink RX2 16 "LeastRights$Days" "season" "I", Cond.fieldLink RX2 13 "LeastRights$Days" "span" "I"]
def wsX9_count : List Cond := .code yX9_count cX9_count 2 (some .int) :: ((wsX9_count_r1 ++ (wsX9_count_r2 ++ wsX9_count_r3)) ++ wsX90 ++ wsX50 ++ wsX20 ++ wsX80 ++ wsX00)
def wsX9_finding : List Cond := .code yX9_finding cX9_finding 1 (some .int) :: ([.fieldLink RX9 68 "LeastRights" "tally" "LLeastRights$Findings;"] ++ wsX90 ++ wsX40)
def wsX9_findings : List Cond := .code yX9_findings cX9_findings 2 (some .int) :: ([.fieldLink RX9 68 "LeastRights" "tally" "LLeastRights$Findings;"] ++ wsX90 ++ wsX40)
def wsX9_digestOfPeople_r1 : List Cond := [Cond.fieldLink RX9 19 "LeastRights" "folk" "LLeastRights$Folk;", Cond.constantLong RX9 281 (31), Cond.fieldLink RX9 72 "LeastRights" "keptRow" "[I", Cond.fieldLink RX9 26 "LeastRights" "log" "LLeastRights$UseLog;", Cond.methodLink RX9 168 yX9_lookAtKept, Cond.instanceMethod yX9_lookAtKept, Cond.selects RX9 yX9_lookAtKept yX9_lookAtKept, Cond.initialized RX9, Cond.code yX9_lookAtKept cX9_lookAtKept 2 none, Cond.methodLink RX9 115 yX9_keptOf, Cond.instanceMethod yX9_keptOf, Cond.selects RX9 yX9_keptOf yX9_keptOf, Cond.code yX9_keptOf cX9_keptOf 3 (some .int), Cond.fieldLink RX9 10 "LeastRights" "days" "LLeastRights$Days;", Cond.fieldLink RX9 79 "LeastRights" "standbyRights" "I", Cond.methodLink RX9 286 yX8_recent, Cond.instanceMethod yX8_recent, Cond.selects RX8 yX8_recent yX8_recent, Cond.initialized RX8, Cond.code yX8_recent cX8_recent 5 (some .int), Cond.fieldLink RX8 9 "LeastRights$UseLog" "size" "I", Cond.fieldLink RX8 15 "LeastRights$UseLog" "who" "[I", Cond.fieldLink RX8 22 "LeastRights$UseLog" "when" "[I", Cond.fieldLink RX8 19 "LeastRights$UseLog" "which" "[I"]
def wsX9_digestOfPeople_r2 : List Cond := [Cond.methodLink RX8 30 yX2_isWithinLast, Cond.instanceMethod yX2_isWithinLast, Cond.selects RX2 yX2_isWithinLast yX2_isWithinLast, Cond.initialized RX2, Cond.code yX2_isWithinLast cX2_isWithinLast 3 (some .boolean), Cond.fieldLink RX2 7 "LeastRights$Days" "present" "I", Cond.methodLink RX9 290 yX8_seasonal, Cond.instanceMethod yX8_seasonal, Cond.selects RX8 yX8_seasonal yX8_seasonal, Cond.code yX8_seasonal cX8_seasonal 6 (some .int), Cond.methodLink RX8 34 yX2_comesRound, Cond.instanceMethod yX2_comesRound, Cond.selects RX2 yX2_comesRound yX2_comesRound, Cond.code yX2_comesRound cX2_comesRound 4 (some .boolean), Cond.fieldLink RX2 16 "LeastRights$Days" "season" "I", Cond.fieldLink RX2 13 "LeastRights$Days" "span" "I", Cond.methodLink RX9 122 yX8_ofPerson, Cond.instanceMethod yX8_ofPerson, Cond.selects RX8 yX8_ofPerson yX8_ofPerson, Cond.code yX8_ofPerson cX8_ofPerson 4 (some .int)]
def wsX9_digestOfPeople : List Cond := .code yX9_digestOfPeople cX9_digestOfPeople 6 (some .long) :: ((wsX9_digestOfPeople_r1 ++ wsX9_digestOfPeople_r2) ++ wsX90 ++ wsX50 ++ wsX80 ++ wsX20)
def wsX9_digestOfSheets : List Cond := .code yX9_digestOfSheets cX9_digestOfSheets 7 (some .long) :: ([.constantLong RX9 281 (31), .fieldLink RX9 61 "LeastRights" "sheets" "LLeastRights$Sheets;", .methodLink RX9 253 yX7_at, .instanceMethod yX7_at, .selects RX7 yX7_at yX7_at, .initialized RX7, .code yX7_at cX7_at 3 (some .int), .fieldLink RX7 15 "LeastRights$Sheets" "ints" "[I"] ++ wsX90 ++ wsX70)
def wsX9_digest_r1 : List Cond := [Cond.constantLong RX9 275 (17), Cond.constantLong RX9 281 (31), Cond.fieldLink RX9 79 "LeastRights" "standbyRights" "I", Cond.fieldLink RX9 10 "LeastRights" "days" "LLeastRights$Days;", Cond.fieldLink RX9 26 "LeastRights" "log" "LLeastRights$UseLog;", Cond.fieldLink RX9 47 "LeastRights" "bans" "LLeastRights$Bans;", Cond.methodLink RX9 277 yX9_digestOfPeople, Cond.instanceMethod yX9_digestOfPeople, Cond.selects RX9 yX9_digestOfPeople yX9_digestOfPeople, Cond.initialized RX9, Cond.code yX9_digestOfPeople cX9_digestOfPeople 6 (some .long), Cond.fieldLink RX9 19 "LeastRights" "folk" "LLeastRights$Folk;", Cond.fieldLink RX9 72 "LeastRights" "keptRow" "[I", Cond.methodLink RX9 168 yX9_lookAtKept, Cond.instanceMethod yX9_lookAtKept, Cond.selects RX9 yX9_lookAtKept yX9_lookAtKept, Cond.code yX9_lookAtKept cX9_lookAtKept 2 none, Cond.methodLink RX9 115 yX9_keptOf, Cond.instanceMethod yX9_keptOf, Cond.selects RX9 yX9_keptOf yX9_keptOf, Cond.code yX9_keptOf cX9_keptOf 3 (some .int), Cond.methodLink RX9 286 yX8_recent, Cond.instanceMethod yX8_recent, Cond.selects RX8 yX8_recent yX8_recent]
def wsX9_digest_r2 : List Cond := [Cond.initialized RX8, Cond.code yX8_recent cX8_recent 5 (some .int), Cond.fieldLink RX8 9 "LeastRights$UseLog" "size" "I", Cond.fieldLink RX8 15 "LeastRights$UseLog" "who" "[I", Cond.fieldLink RX8 22 "LeastRights$UseLog" "when" "[I", Cond.fieldLink RX8 19 "LeastRights$UseLog" "which" "[I", Cond.methodLink RX8 30 yX2_isWithinLast, Cond.instanceMethod yX2_isWithinLast, Cond.selects RX2 yX2_isWithinLast yX2_isWithinLast, Cond.initialized RX2, Cond.code yX2_isWithinLast cX2_isWithinLast 3 (some .boolean), Cond.fieldLink RX2 7 "LeastRights$Days" "present" "I", Cond.methodLink RX9 290 yX8_seasonal, Cond.instanceMethod yX8_seasonal, Cond.selects RX8 yX8_seasonal yX8_seasonal, Cond.code yX8_seasonal cX8_seasonal 6 (some .int), Cond.methodLink RX8 34 yX2_comesRound, Cond.instanceMethod yX2_comesRound, Cond.selects RX2 yX2_comesRound yX2_comesRound, Cond.code yX2_comesRound cX2_comesRound 4 (some .boolean), Cond.fieldLink RX2 16 "LeastRights$Days" "season" "I", Cond.fieldLink RX2 13 "LeastRights$Days" "span" "I", Cond.methodLink RX9 122 yX8_ofPerson, Cond.instanceMethod yX8_ofPerson]
def wsX9_digest_r3 : List Cond := [Cond.selects RX8 yX8_ofPerson yX8_ofPerson, Cond.code yX8_ofPerson cX8_ofPerson 4 (some .int), Cond.methodLink RX9 283 yX9_digestOfSheets, Cond.instanceMethod yX9_digestOfSheets, Cond.selects RX9 yX9_digestOfSheets yX9_digestOfSheets, Cond.code yX9_digestOfSheets cX9_digestOfSheets 7 (some .long), Cond.fieldLink RX9 61 "LeastRights" "sheets" "LLeastRights$Sheets;", Cond.methodLink RX9 253 yX7_at, Cond.instanceMethod yX7_at, Cond.selects RX7 yX7_at yX7_at, Cond.initialized RX7, Cond.code yX7_at cX7_at 3 (some .int), Cond.fieldLink RX7 15 "LeastRights$Sheets" "ints" "[I"]
def wsX9_digest : List Cond := .code yX9_digest cX9_digest 4 (some .long) :: ((wsX9_digest_r1 ++ (wsX9_digest_r2 ++ wsX9_digest_r3)) ++ wsX90 ++ wsX20 ++ wsX80 ++ wsX00 ++ wsX50 ++ wsX70)
def wsX10_init_r1 : List Cond := [Cond.methodLink RX10 1 objectInit, Cond.instanceMethod objectInit, Cond.code objectInit ⟨#[0xb1]⟩ 1 none, Cond.arrayClass .int, Cond.fieldLink RX10 7 "LeastRightsModel" "findings" "[I", Cond.fieldLink RX10 13 "LeastRightsModel" "marks" "[I", Cond.fieldLink RX10 16 "LeastRightsModel" "rights" "[I", Cond.fieldLink RX10 19 "LeastRightsModel" "struck" "[I", Cond.fieldLink RX10 22 "LeastRightsModel" "span" "I", Cond.fieldLink RX10 26 "LeastRightsModel" "season" "I", Cond.fieldLink RX10 29 "LeastRightsModel" "grace" "I", Cond.fieldLink RX10 32 "LeastRightsModel" "usePerson" "[I", Cond.fieldLink RX10 35 "LeastRightsModel" "useRight" "[I", Cond.fieldLink RX10 38 "LeastRightsModel" "useDay" "[I", Cond.fieldLink RX10 41 "LeastRightsModel" "askCounts" "[I", Cond.fieldLink RX10 44 "LeastRightsModel" "kept" "[I", Cond.arrayClass .boolean, Cond.fieldLink RX10 47 "LeastRightsModel" "isCandidate" "[Z", Cond.fieldLink RX10 51 "LeastRightsModel" "roles" "[I", Cond.fieldLink RX10 54 "LeastRightsModel" "path" "[I", Cond.fieldLink RX10 57 "LeastRightsModel" "wants" "[I", Cond.fieldLink RX10 60 "LeastRightsModel" "wanters" "[I", Cond.fieldLink RX10 63 "LeastRightsModel" "banned" "[I", Cond.fieldLink RX10 66 "LeastRightsModel" "planned" "I"]
def wsX10_init_r2 : List Cond := [Cond.fieldLink RX10 69 "LeastRightsModel" "plans" "[I", Cond.fieldLink RX10 72 "LeastRightsModel" "sizes" "[I", Cond.fieldLink RX10 75 "LeastRightsModel" "sheets" "[I", Cond.fieldLink RX10 78 "LeastRightsModel" "moving" "[I"]
def wsX10_init : List Cond := .code yX10_init cX10_init 2 none :: ((wsX10_init_r1 ++ wsX10_init_r2) ++ wsX100)
def wsX10_in : List Cond := .code yX10_in cX10_in 3 (some .boolean) :: ([])
def wsX10_meets : List Cond := .code yX10_meets cX10_meets 2 (some .int) :: ([.fieldLink RX10 81 "LeastRightsModel" "finding" "I", .fieldLink RX10 7 "LeastRightsModel" "findings" "[I"] ++ wsX100)
def wsX10_has : List Cond := .code yX10_has cX10_has 2 (some .boolean) :: ([])
def wsX10_bits : List Cond := .code yX10_bits cX10_bits 3 (some .int) :: ([])
def wsX10_isPerson : List Cond := .code yX10_isPerson cX10_isPerson 2 (some .boolean) :: ([.fieldLink RX10 84 "LeastRightsModel" "people" "I", .methodLink RX10 87 yX10_in, .static yX10_in, .initialized RX10, .code yX10_in cX10_in 3 (some .boolean)] ++ wsX100)
def wsX10_isRight : List Cond := .code yX10_isRight cX10_isRight 1 (some .boolean) :: ([.methodLink RX10 87 yX10_in, .static yX10_in, .initialized RX10, .code yX10_in cX10_in 3 (some .boolean)])
def wsX10_person : List Cond := .code yX10_person cX10_person 3 (some .int) :: ([.fieldLink RX10 84 "LeastRightsModel" "people" "I", .fieldLink RX10 13 "LeastRightsModel" "marks" "[I", .fieldLink RX10 16 "LeastRightsModel" "rights" "[I", .methodLink RX10 87 yX10_in, .static yX10_in, .initialized RX10, .code yX10_in cX10_in 3 (some .boolean)] ++ wsX100)
def wsX10_give : List Cond := .code yX10_give cX10_give 5 (some .int) :: ([.fieldLink RX10 16 "LeastRightsModel" "rights" "[I", .fieldLink RX10 19 "LeastRightsModel" "struck" "[I", .methodLink RX10 91 yX10_has, .static yX10_has, .initialized RX10, .code yX10_has cX10_has 2 (some .boolean)] ++ wsX100)
def wsX10_change : List Cond := .code yX10_change cX10_change 5 (some .int) :: ([.fieldLink RX10 13 "LeastRightsModel" "marks" "[I", .methodLink RX10 95 yX10_isPerson, .instanceMethod yX10_isPerson, .selects RX10 yX10_isPerson yX10_isPerson, .initialized RX10, .code yX10_isPerson cX10_isPerson 2 (some .boolean), .fieldLink RX10 84 "LeastRightsModel" "people" "I", .methodLink RX10 87 yX10_in, .static yX10_in, .code yX10_in cX10_in 3 (some .boolean), .methodLink RX10 99 yX10_give, .instanceMethod yX10_give, .selects RX10 yX10_give yX10_give, .code yX10_give cX10_give 5 (some .int), .fieldLink RX10 16 "LeastRightsModel" "rights" "[I", .fieldLink RX10 19 "LeastRightsModel" "struck" "[I", .methodLink RX10 91 yX10_has, .static yX10_has, .code yX10_has cX10_has 2 (some .boolean)] ++ wsX100)
def wsX10_kindOf : List Cond := .code yX10_kindOf cX10_kindOf 8 (some .int) :: ([.fieldLink RX10 103 "LeastRightsModel" "uses" "I", .fieldLink RX10 32 "LeastRightsModel" "usePerson" "[I", .fieldLink RX10 35 "LeastRightsModel" "useRight" "[I", .fieldLink RX10 106 "LeastRightsModel" "day" "I", .fieldLink RX10 38 "LeastRightsModel" "useDay" "[I", .fieldLink RX10 22 "LeastRightsModel" "span" "I", .fieldLink RX10 26 "LeastRightsModel" "season" "I", .fieldLink RX10 109 "LeastRightsModel" "standby" "I", .methodLink RX10 91 yX10_has, .static yX10_has, .initialized RX10, .code yX10_has cX10_has 2 (some .boolean)] ++ wsX100)
def wsX10_keptOf : List Cond := .code yX10_keptOf cX10_keptOf 4 (some .int) :: ([.fieldLink RX10 16 "LeastRightsModel" "rights" "[I", .methodLink RX10 91 yX10_has, .static yX10_has, .initialized RX10, .code yX10_has cX10_has 2 (some .boolean), .methodLink RX10 112 yX10_kindOf, .instanceMethod yX10_kindOf, .selects RX10 yX10_kindOf yX10_kindOf, .code yX10_kindOf cX10_kindOf 8 (some .int), .fieldLink RX10 103 "LeastRightsModel" "uses" "I", .fieldLink RX10 32 "LeastRightsModel" "usePerson" "[I", .fieldLink RX10 35 "LeastRightsModel" "useRight" "[I", .fieldLink RX10 106 "LeastRightsModel" "day" "I", .fieldLink RX10 38 "LeastRightsModel" "useDay" "[I", .fieldLink RX10 22 "LeastRightsModel" "span" "I", .fieldLink RX10 26 "LeastRightsModel" "season" "I", .fieldLink RX10 109 "LeastRightsModel" "standby" "I"] ++ wsX100)
def wsX10_tells : List Cond := .code yX10_tells cX10_tells 5 (some .int) :: ([.fieldLink RX10 13 "LeastRightsModel" "marks" "[I", .fieldLink RX10 16 "LeastRightsModel" "rights" "[I", .fieldLink RX10 19 "LeastRightsModel" "struck" "[I", .fieldLink RX10 103 "LeastRightsModel" "uses" "I", .fieldLink RX10 32 "LeastRightsModel" "usePerson" "[I", .methodLink RX10 115 yX10_keptOf, .instanceMethod yX10_keptOf, .selects RX10 yX10_keptOf yX10_keptOf, .initialized RX10, .code yX10_keptOf cX10_keptOf 4 (some .int), .methodLink RX10 91 yX10_has, .static yX10_has, .code yX10_has cX10_has 2 (some .boolean), .methodLink RX10 112 yX10_kindOf, .instanceMethod yX10_kindOf, .selects RX10 yX10_kindOf yX10_kindOf, .code yX10_kindOf cX10_kindOf 8 (some .int), .fieldLink RX10 35 "LeastRightsModel" "useRight" "[I", .fieldLink RX10 106 "LeastRightsModel" "day" "I", .fieldLink RX10 38 "LeastRightsModel" "useDay" "[I", .fieldLink RX10 22 "LeastRightsModel" "span" "I", .fieldLink RX10 26 "LeastRightsModel" "season" "I", .fieldLink RX10 109 "LeastRightsModel" "standby" "I"] ++ wsX100)
def wsX10_told_r1 : List Cond := [Cond.methodLink RX10 95 yX10_isPerson, Cond.instanceMethod yX10_isPerson, Cond.selects RX10 yX10_isPerson yX10_isPerson, Cond.initialized RX10, Cond.code yX10_isPerson cX10_isPerson 2 (some .boolean), Cond.fieldLink RX10 84 "LeastRightsModel" "people" "I", Cond.methodLink RX10 87 yX10_in, Cond.static yX10_in, Cond.code yX10_in cX10_in 3 (some .boolean), Cond.methodLink RX10 119 yX10_tells, Cond.instanceMethod yX10_tells, Cond.selects RX10 yX10_tells yX10_tells, Cond.code yX10_tells cX10_tells 5 (some .int), Cond.fieldLink RX10 13 "LeastRightsModel" "marks" "[I", Cond.fieldLink RX10 16 "LeastRightsModel" "rights" "[I", Cond.fieldLink RX10 19 "LeastRightsModel" "struck" "[I", Cond.fieldLink RX10 103 "LeastRightsModel" "uses" "I", Cond.fieldLink RX10 32 "LeastRightsModel" "usePerson" "[I", Cond.methodLink RX10 115 yX10_keptOf, Cond.instanceMethod yX10_keptOf, Cond.selects RX10 yX10_keptOf yX10_keptOf, Cond.code yX10_keptOf cX10_keptOf 4 (some .int), Cond.methodLink RX10 91 yX10_has, Cond.static yX10_has]
def wsX10_told_r2 : List Cond := [Cond.code yX10_has cX10_has 2 (some .boolean), Cond.methodLink RX10 112 yX10_kindOf, Cond.instanceMethod yX10_kindOf, Cond.selects RX10 yX10_kindOf yX10_kindOf, Cond.code yX10_kindOf cX10_kindOf 8 (some .int), Cond.fieldLink RX10 35 "LeastRightsModel" "useRight" "[I", Cond.fieldLink RX10 106 "LeastRightsModel" "day" "I", Cond.fieldLink RX10 38 "LeastRightsModel" "useDay" "[I", Cond.fieldLink RX10 22 "LeastRightsModel" "span" "I", Cond.fieldLink RX10 26 "LeastRightsModel" "season" "I", Cond.fieldLink RX10 109 "LeastRightsModel" "standby" "I"]
def wsX10_told : List Cond := .code yX10_told cX10_told 3 (some .int) :: ((wsX10_told_r1 ++ wsX10_told_r2) ++ wsX100)
def wsX10_standby : List Cond := .code yX10_standby cX10_standby 3 (some .int) :: ([.fieldLink RX10 109 "LeastRightsModel" "standby" "I", .methodLink RX10 87 yX10_in, .static yX10_in, .initialized RX10, .code yX10_in cX10_in 3 (some .boolean)] ++ wsX100)
def wsX10_rule : List Cond := .code yX10_rule cX10_rule 4 (some .int) :: ([.fieldLink RX10 22 "LeastRightsModel" "span" "I", .fieldLink RX10 26 "LeastRightsModel" "season" "I", .fieldLink RX10 29 "LeastRightsModel" "grace" "I", .methodLink RX10 87 yX10_in, .static yX10_in, .initialized RX10, .code yX10_in cX10_in 3 (some .boolean)] ++ wsX100)
def wsX10_later : List Cond := .code yX10_later cX10_later 2 (some .int) :: ([.fieldLink RX10 106 "LeastRightsModel" "day" "I"] ++ wsX100)
def wsX10_use : List Cond := .code yX10_use cX10_use 4 (some .int) :: ([.fieldLink RX10 106 "LeastRightsModel" "day" "I", .fieldLink RX10 103 "LeastRightsModel" "uses" "I", .fieldLink RX10 16 "LeastRightsModel" "rights" "[I", .fieldLink RX10 32 "LeastRightsModel" "usePerson" "[I", .fieldLink RX10 35 "LeastRightsModel" "useRight" "[I", .fieldLink RX10 38 "LeastRightsModel" "useDay" "[I", .methodLink RX10 95 yX10_isPerson, .instanceMethod yX10_isPerson, .selects RX10 yX10_isPerson yX10_isPerson, .initialized RX10, .code yX10_isPerson cX10_isPerson 2 (some .boolean), .fieldLink RX10 84 "LeastRightsModel" "people" "I", .methodLink RX10 87 yX10_in, .static yX10_in, .code yX10_in cX10_in 3 (some .boolean), .methodLink RX10 122 yX10_isRight, .static yX10_isRight, .code yX10_isRight cX10_isRight 1 (some .boolean), .methodLink RX10 91 yX10_has, .static yX10_has, .code yX10_has cX10_has 2 (some .boolean)] ++ wsX100)
def wsX10_kind_r1 : List Cond := [Cond.fieldLink RX10 16 "LeastRightsModel" "rights" "[I", Cond.methodLink RX10 95 yX10_isPerson, Cond.instanceMethod yX10_isPerson, Cond.selects RX10 yX10_isPerson yX10_isPerson, Cond.initialized RX10, Cond.code yX10_isPerson cX10_isPerson 2 (some .boolean), Cond.fieldLink RX10 84 "LeastRightsModel" "people" "I", Cond.methodLink RX10 87 yX10_in, Cond.static yX10_in, Cond.code yX10_in cX10_in 3 (some .boolean), Cond.methodLink RX10 122 yX10_isRight, Cond.static yX10_isRight, Cond.code yX10_isRight cX10_isRight 1 (some .boolean), Cond.methodLink RX10 91 yX10_has, Cond.static yX10_has, Cond.code yX10_has cX10_has 2 (some .boolean), Cond.methodLink RX10 112 yX10_kindOf, Cond.instanceMethod yX10_kindOf, Cond.selects RX10 yX10_kindOf yX10_kindOf, Cond.code yX10_kindOf cX10_kindOf 8 (some .int), Cond.fieldLink RX10 103 "LeastRightsModel" "uses" "I", Cond.fieldLink RX10 32 "LeastRightsModel" "usePerson" "[I", Cond.fieldLink RX10 35 "LeastRightsModel" "useRight" "[I", Cond.fieldLink RX10 106 "LeastRightsModel" "day" "I"]
def wsX10_kind_r2 : List Cond := [Cond.fieldLink RX10 38 "LeastRightsModel" "useDay" "[I", Cond.fieldLink RX10 22 "LeastRightsModel" "span" "I", Cond.fieldLink RX10 26 "LeastRightsModel" "season" "I", Cond.fieldLink RX10 109 "LeastRightsModel" "standby" "I"]
def wsX10_kind : List Cond := .code yX10_kind cX10_kind 3 (some .int) :: ((wsX10_kind_r1 ++ wsX10_kind_r2) ++ wsX100)
def wsX10_uses_r1 : List Cond := [Cond.fieldLink RX10 16 "LeastRightsModel" "rights" "[I", Cond.fieldLink RX10 103 "LeastRightsModel" "uses" "I", Cond.fieldLink RX10 32 "LeastRightsModel" "usePerson" "[I", Cond.fieldLink RX10 35 "LeastRightsModel" "useRight" "[I", Cond.methodLink RX10 95 yX10_isPerson, Cond.instanceMethod yX10_isPerson, Cond.selects RX10 yX10_isPerson yX10_isPerson, Cond.initialized RX10, Cond.code yX10_isPerson cX10_isPerson 2 (some .boolean), Cond.fieldLink RX10 84 "LeastRightsModel" "people" "I", Cond.methodLink RX10 87 yX10_in, Cond.static yX10_in, Cond.code yX10_in cX10_in 3 (some .boolean), Cond.methodLink RX10 122 yX10_isRight, Cond.static yX10_isRight, Cond.code yX10_isRight cX10_isRight 1 (some .boolean), Cond.methodLink RX10 91 yX10_has, Cond.static yX10_has, Cond.code yX10_has cX10_has 2 (some .boolean), Cond.methodLink RX10 112 yX10_kindOf, Cond.instanceMethod yX10_kindOf, Cond.selects RX10 yX10_kindOf yX10_kindOf, Cond.code yX10_kindOf cX10_kindOf 8 (some .int), Cond.fieldLink RX10 106 "LeastRightsModel" "day" "I"]
def wsX10_uses_r2 : List Cond := [Cond.fieldLink RX10 38 "LeastRightsModel" "useDay" "[I", Cond.fieldLink RX10 22 "LeastRightsModel" "span" "I", Cond.fieldLink RX10 26 "LeastRightsModel" "season" "I", Cond.fieldLink RX10 109 "LeastRightsModel" "standby" "I", Cond.methodLink RX10 125 yX10_meets, Cond.instanceMethod yX10_meets, Cond.selects RX10 yX10_meets yX10_meets, Cond.code yX10_meets cX10_meets 2 (some .int), Cond.fieldLink RX10 81 "LeastRightsModel" "finding" "I", Cond.fieldLink RX10 7 "LeastRightsModel" "findings" "[I"]
def wsX10_uses : List Cond := .code yX10_uses cX10_uses 7 (some .int) :: ((wsX10_uses_r1 ++ wsX10_uses_r2) ++ wsX100)
def wsX10_strikeBut : List Cond := .code yX10_strikeBut cX10_strikeBut 5 (some .int) :: ([.fieldLink RX10 16 "LeastRightsModel" "rights" "[I", .fieldLink RX10 19 "LeastRightsModel" "struck" "[I", .fieldLink RX10 106 "LeastRightsModel" "day" "I", .methodLink RX10 91 yX10_has, .static yX10_has, .initialized RX10, .code yX10_has cX10_has 2 (some .boolean)] ++ wsX100)
def wsX10_strike_r1 : List Cond := [Cond.methodLink RX10 95 yX10_isPerson, Cond.instanceMethod yX10_isPerson, Cond.selects RX10 yX10_isPerson yX10_isPerson, Cond.initialized RX10, Cond.code yX10_isPerson cX10_isPerson 2 (some .boolean), Cond.fieldLink RX10 84 "LeastRightsModel" "people" "I", Cond.methodLink RX10 87 yX10_in, Cond.static yX10_in, Cond.code yX10_in cX10_in 3 (some .boolean), Cond.methodLink RX10 115 yX10_keptOf, Cond.instanceMethod yX10_keptOf, Cond.selects RX10 yX10_keptOf yX10_keptOf, Cond.code yX10_keptOf cX10_keptOf 4 (some .int), Cond.fieldLink RX10 16 "LeastRightsModel" "rights" "[I", Cond.methodLink RX10 91 yX10_has, Cond.static yX10_has, Cond.code yX10_has cX10_has 2 (some .boolean), Cond.methodLink RX10 112 yX10_kindOf, Cond.instanceMethod yX10_kindOf, Cond.selects RX10 yX10_kindOf yX10_kindOf, Cond.code yX10_kindOf cX10_kindOf 8 (some .int), Cond.fieldLink RX10 103 "LeastRightsModel" "uses" "I", Cond.fieldLink RX10 32 "LeastRightsModel" "usePerson" "[I", Cond.fieldLink RX10 35 "LeastRightsModel" "useRight" "[I"]
def wsX10_strike_r2 : List Cond := [Cond.fieldLink RX10 106 "LeastRightsModel" "day" "I", Cond.fieldLink RX10 38 "LeastRightsModel" "useDay" "[I", Cond.fieldLink RX10 22 "LeastRightsModel" "span" "I", Cond.fieldLink RX10 26 "LeastRightsModel" "season" "I", Cond.fieldLink RX10 109 "LeastRightsModel" "standby" "I", Cond.methodLink RX10 128 yX10_strikeBut, Cond.instanceMethod yX10_strikeBut, Cond.selects RX10 yX10_strikeBut yX10_strikeBut, Cond.code yX10_strikeBut cX10_strikeBut 5 (some .int), Cond.fieldLink RX10 19 "LeastRightsModel" "struck" "[I"]
def wsX10_strike : List Cond := .code yX10_strike cX10_strike 2 (some .int) :: ((wsX10_strike_r1 ++ wsX10_strike_r2) ++ wsX100)
def wsX10_ask : List Cond := .code yX10_ask cX10_ask 5 (some .int) :: ([.fieldLink RX10 19 "LeastRightsModel" "struck" "[I", .fieldLink RX10 16 "LeastRightsModel" "rights" "[I", .fieldLink RX10 106 "LeastRightsModel" "day" "I", .fieldLink RX10 29 "LeastRightsModel" "grace" "I", .fieldLink RX10 41 "LeastRightsModel" "askCounts" "[I", .methodLink RX10 95 yX10_isPerson, .instanceMethod yX10_isPerson, .selects RX10 yX10_isPerson yX10_isPerson, .initialized RX10, .code yX10_isPerson cX10_isPerson 2 (some .boolean), .fieldLink RX10 84 "LeastRightsModel" "people" "I", .methodLink RX10 87 yX10_in, .static yX10_in, .code yX10_in cX10_in 3 (some .boolean), .methodLink RX10 122 yX10_isRight, .static yX10_isRight, .code yX10_isRight cX10_isRight 1 (some .boolean), .methodLink RX10 91 yX10_has, .static yX10_has, .code yX10_has cX10_has 2 (some .boolean)] ++ wsX100)
def wsX10_asks : List Cond := .code yX10_asks cX10_asks 2 (some .int) :: ([.fieldLink RX10 41 "LeastRightsModel" "askCounts" "[I", .methodLink RX10 87 yX10_in, .static yX10_in, .initialized RX10, .code yX10_in cX10_in 3 (some .boolean)] ++ wsX100)
def wsX10_setCandidates : List Cond := .code yX10_setCandidates cX10_setCandidates 4 (some .int) :: ([.fieldLink RX10 47 "LeastRightsModel" "isCandidate" "[Z", .fieldLink RX10 84 "LeastRightsModel" "people" "I", .fieldLink RX10 44 "LeastRightsModel" "kept" "[I", .methodLink RX10 115 yX10_keptOf, .instanceMethod yX10_keptOf, .selects RX10 yX10_keptOf yX10_keptOf, .initialized RX10, .code yX10_keptOf cX10_keptOf 4 (some .int), .fieldLink RX10 16 "LeastRightsModel" "rights" "[I", .methodLink RX10 91 yX10_has, .static yX10_has, .code yX10_has cX10_has 2 (some .boolean), .methodLink RX10 112 yX10_kindOf, .instanceMethod yX10_kindOf, .selects RX10 yX10_kindOf yX10_kindOf, .code yX10_kindOf cX10_kindOf 8 (some .int), .fieldLink RX10 103 "LeastRightsModel" "uses" "I", .fieldLink RX10 32 "LeastRightsModel" "usePerson" "[I", .fieldLink RX10 35 "LeastRightsModel" "useRight" "[I", .fieldLink RX10 106 "LeastRightsModel" "day" "I", .fieldLink RX10 38 "LeastRightsModel" "useDay" "[I", .fieldLink RX10 22 "LeastRightsModel" "span" "I", .fieldLink RX10 26 "LeastRightsModel" "season" "I", .fieldLink RX10 109 "LeastRightsModel" "standby" "I"] ++ wsX100)
def wsX10_candidates_r1 : List Cond := [Cond.methodLink RX10 131 yX10_setCandidates, Cond.instanceMethod yX10_setCandidates, Cond.selects RX10 yX10_setCandidates yX10_setCandidates, Cond.initialized RX10, Cond.code yX10_setCandidates cX10_setCandidates 4 (some .int), Cond.fieldLink RX10 47 "LeastRightsModel" "isCandidate" "[Z", Cond.fieldLink RX10 84 "LeastRightsModel" "people" "I", Cond.fieldLink RX10 44 "LeastRightsModel" "kept" "[I", Cond.methodLink RX10 115 yX10_keptOf, Cond.instanceMethod yX10_keptOf, Cond.selects RX10 yX10_keptOf yX10_keptOf, Cond.code yX10_keptOf cX10_keptOf 4 (some .int), Cond.fieldLink RX10 16 "LeastRightsModel" "rights" "[I", Cond.methodLink RX10 91 yX10_has, Cond.static yX10_has, Cond.code yX10_has cX10_has 2 (some .boolean), Cond.methodLink RX10 112 yX10_kindOf, Cond.instanceMethod yX10_kindOf, Cond.selects RX10 yX10_kindOf yX10_kindOf, Cond.code yX10_kindOf cX10_kindOf 8 (some .int), Cond.fieldLink RX10 103 "LeastRightsModel" "uses" "I", Cond.fieldLink RX10 32 "LeastRightsModel" "usePerson" "[I", Cond.fieldLink RX10 35 "LeastRightsModel" "useRight" "[I", Cond.fieldLink RX10 106 "LeastRightsModel" "day" "I"]
def wsX10_candidates_r2 : List Cond := [Cond.fieldLink RX10 38 "LeastRightsModel" "useDay" "[I", Cond.fieldLink RX10 22 "LeastRightsModel" "span" "I", Cond.fieldLink RX10 26 "LeastRightsModel" "season" "I", Cond.fieldLink RX10 109 "LeastRightsModel" "standby" "I"]
def wsX10_candidates : List Cond := .code yX10_candidates cX10_candidates 1 (some .int) :: ((wsX10_candidates_r1 ++ wsX10_candidates_r2) ++ wsX100)
def wsX10_open : List Cond := .code yX10_open cX10_open 5 (some .int) :: ([.fieldLink RX10 84 "LeastRightsModel" "people" "I", .fieldLink RX10 54 "LeastRightsModel" "path" "[I", .fieldLink RX10 44 "LeastRightsModel" "kept" "[I", .methodLink RX10 91 yX10_has, .static yX10_has, .initialized RX10, .code yX10_has cX10_has 2 (some .boolean)] ++ wsX100)
def wsX10_level : List Cond := .code yX10_level cX10_level 3 none :: ([.fieldLink RX10 60 "LeastRightsModel" "wanters" "[I", .fieldLink RX10 57 "LeastRightsModel" "wants" "[I", .fieldLink RX10 54 "LeastRightsModel" "path" "[I"] ++ wsX100)
def wsX10_isNext : List Cond := .code yX10_isNext cX10_isNext 3 (some .boolean) :: ([.fieldLink RX10 54 "LeastRightsModel" "path" "[I", .fieldLink RX10 47 "LeastRightsModel" "isCandidate" "[Z", .fieldLink RX10 57 "LeastRightsModel" "wants" "[I", .fieldLink RX10 44 "LeastRightsModel" "kept" "[I", .fieldLink RX10 60 "LeastRightsModel" "wanters" "[I", .methodLink RX10 91 yX10_has, .static yX10_has, .initialized RX10, .code yX10_has cX10_has 2 (some .boolean)] ++ wsX100)
def wsX10_roles_r1 : List Cond := [Cond.fieldLink RX10 135 "LeastRightsModel" "tries" "I", Cond.fieldLink RX10 138 "LeastRightsModel" "roleMany" "I", Cond.fieldLink RX10 141 "LeastRightsModel" "bestMany" "I", Cond.fieldLink RX10 51 "LeastRightsModel" "roles" "[I", Cond.fieldLink RX10 54 "LeastRightsModel" "path" "[I", Cond.methodLink RX10 87 yX10_in, Cond.static yX10_in, Cond.initialized RX10, Cond.code yX10_in cX10_in 3 (some .boolean), Cond.methodLink RX10 131 yX10_setCandidates, Cond.instanceMethod yX10_setCandidates, Cond.selects RX10 yX10_setCandidates yX10_setCandidates, Cond.code yX10_setCandidates cX10_setCandidates 4 (some .int), Cond.fieldLink RX10 47 "LeastRightsModel" "isCandidate" "[Z", Cond.fieldLink RX10 84 "LeastRightsModel" "people" "I", Cond.fieldLink RX10 44 "LeastRightsModel" "kept" "[I", Cond.methodLink RX10 115 yX10_keptOf, Cond.instanceMethod yX10_keptOf, Cond.selects RX10 yX10_keptOf yX10_keptOf, Cond.code yX10_keptOf cX10_keptOf 4 (some .int), Cond.fieldLink RX10 16 "LeastRightsModel" "rights" "[I", Cond.methodLink RX10 91 yX10_has, Cond.static yX10_has, Cond.code yX10_has cX10_has 2 (some .boolean)]
def wsX10_roles_r2 : List Cond := [Cond.methodLink RX10 112 yX10_kindOf, Cond.instanceMethod yX10_kindOf, Cond.selects RX10 yX10_kindOf yX10_kindOf, Cond.code yX10_kindOf cX10_kindOf 8 (some .int), Cond.fieldLink RX10 103 "LeastRightsModel" "uses" "I", Cond.fieldLink RX10 32 "LeastRightsModel" "usePerson" "[I", Cond.fieldLink RX10 35 "LeastRightsModel" "useRight" "[I", Cond.fieldLink RX10 106 "LeastRightsModel" "day" "I", Cond.fieldLink RX10 38 "LeastRightsModel" "useDay" "[I", Cond.fieldLink RX10 22 "LeastRightsModel" "span" "I", Cond.fieldLink RX10 26 "LeastRightsModel" "season" "I", Cond.fieldLink RX10 109 "LeastRightsModel" "standby" "I", Cond.methodLink RX10 144 yX10_open, Cond.instanceMethod yX10_open, Cond.selects RX10 yX10_open yX10_open, Cond.code yX10_open cX10_open 5 (some .int), Cond.methodLink RX10 147 yX10_level, Cond.instanceMethod yX10_level, Cond.selects RX10 yX10_level yX10_level, Cond.code yX10_level cX10_level 3 none, Cond.fieldLink RX10 60 "LeastRightsModel" "wanters" "[I", Cond.fieldLink RX10 57 "LeastRightsModel" "wants" "[I", Cond.methodLink RX10 151 yX10_isNext, Cond.instanceMethod yX10_isNext]
def wsX10_roles_r3 : List Cond := [Cond.selects RX10 yX10_isNext yX10_isNext, Cond.code yX10_isNext cX10_isNext 3 (some .boolean)]
def wsX10_roles : List Cond := .code yX10_roles cX10_roles 7 (some .int) :: ((wsX10_roles_r1 ++ (wsX10_roles_r2 ++ wsX10_roles_r3)) ++ wsX100)
def wsX10_tries : List Cond := .code yX10_tries cX10_tries 1 (some .int) :: ([.fieldLink RX10 135 "LeastRightsModel" "tries" "I"] ++ wsX100)
def wsX10_role : List Cond := .code yX10_role cX10_role 2 (some .int) :: ([.fieldLink RX10 138 "LeastRightsModel" "roleMany" "I", .fieldLink RX10 51 "LeastRightsModel" "roles" "[I", .methodLink RX10 87 yX10_in, .static yX10_in, .initialized RX10, .code yX10_in cX10_in 3 (some .boolean)] ++ wsX100)
def wsX10_rolesOf_r1 : List Cond := [Cond.fieldLink RX10 138 "LeastRightsModel" "roleMany" "I", Cond.fieldLink RX10 51 "LeastRightsModel" "roles" "[I", Cond.methodLink RX10 95 yX10_isPerson, Cond.instanceMethod yX10_isPerson, Cond.selects RX10 yX10_isPerson yX10_isPerson, Cond.initialized RX10, Cond.code yX10_isPerson cX10_isPerson 2 (some .boolean), Cond.fieldLink RX10 84 "LeastRightsModel" "people" "I", Cond.methodLink RX10 87 yX10_in, Cond.static yX10_in, Cond.code yX10_in cX10_in 3 (some .boolean), Cond.methodLink RX10 115 yX10_keptOf, Cond.instanceMethod yX10_keptOf, Cond.selects RX10 yX10_keptOf yX10_keptOf, Cond.code yX10_keptOf cX10_keptOf 4 (some .int), Cond.fieldLink RX10 16 "LeastRightsModel" "rights" "[I", Cond.methodLink RX10 91 yX10_has, Cond.static yX10_has, Cond.code yX10_has cX10_has 2 (some .boolean), Cond.methodLink RX10 112 yX10_kindOf, Cond.instanceMethod yX10_kindOf, Cond.selects RX10 yX10_kindOf yX10_kindOf, Cond.code yX10_kindOf cX10_kindOf 8 (some .int), Cond.fieldLink RX10 103 "LeastRightsModel" "uses" "I"]
def wsX10_rolesOf_r2 : List Cond := [Cond.fieldLink RX10 32 "LeastRightsModel" "usePerson" "[I", Cond.fieldLink RX10 35 "LeastRightsModel" "useRight" "[I", Cond.fieldLink RX10 106 "LeastRightsModel" "day" "I", Cond.fieldLink RX10 38 "LeastRightsModel" "useDay" "[I", Cond.fieldLink RX10 22 "LeastRightsModel" "span" "I", Cond.fieldLink RX10 26 "LeastRightsModel" "season" "I", Cond.fieldLink RX10 109 "LeastRightsModel" "standby" "I"]
def wsX10_rolesOf : List Cond := .code yX10_rolesOf cX10_rolesOf 5 (some .int) :: ((wsX10_rolesOf_r1 ++ wsX10_rolesOf_r2) ++ wsX100)
def wsX10_exceptionsTo : List Cond := .code yX10_exceptionsTo cX10_exceptionsTo 6 (some .int) :: ([.fieldLink RX10 84 "LeastRightsModel" "people" "I", .fieldLink RX10 13 "LeastRightsModel" "marks" "[I", .fieldLink RX10 16 "LeastRightsModel" "rights" "[I", .methodLink RX10 91 yX10_has, .static yX10_has, .initialized RX10, .code yX10_has cX10_has 2 (some .boolean)] ++ wsX100)
def wsX10_marksOf : List Cond := .code yX10_marksOf cX10_marksOf 5 (some .int) :: ([.fieldLink RX10 84 "LeastRightsModel" "people" "I", .fieldLink RX10 160 "LeastRightsModel" "asked" "I", .methodLink RX10 122 yX10_isRight, .static yX10_isRight, .initialized RX10, .code yX10_isRight cX10_isRight 1 (some .boolean), .methodLink RX10 87 yX10_in, .static yX10_in, .code yX10_in cX10_in 3 (some .boolean), .methodLink RX10 154 yX10_exceptionsTo, .instanceMethod yX10_exceptionsTo, .selects RX10 yX10_exceptionsTo yX10_exceptionsTo, .code yX10_exceptionsTo cX10_exceptionsTo 6 (some .int), .fieldLink RX10 13 "LeastRightsModel" "marks" "[I", .fieldLink RX10 16 "LeastRightsModel" "rights" "[I", .methodLink RX10 91 yX10_has, .static yX10_has, .code yX10_has cX10_has 2 (some .boolean), .methodLink RX10 157 yX10_bits, .static yX10_bits, .code yX10_bits cX10_bits 3 (some .int)] ++ wsX100)
def wsX10_exceptions : List Cond := .code yX10_exceptions cX10_exceptions 3 (some .int) :: ([.methodLink RX10 122 yX10_isRight, .static yX10_isRight, .initialized RX10, .code yX10_isRight cX10_isRight 1 (some .boolean), .methodLink RX10 87 yX10_in, .static yX10_in, .code yX10_in cX10_in 3 (some .boolean), .methodLink RX10 154 yX10_exceptionsTo, .instanceMethod yX10_exceptionsTo, .selects RX10 yX10_exceptionsTo yX10_exceptionsTo, .code yX10_exceptionsTo cX10_exceptionsTo 6 (some .int), .fieldLink RX10 84 "LeastRightsModel" "people" "I", .fieldLink RX10 13 "LeastRightsModel" "marks" "[I", .fieldLink RX10 16 "LeastRightsModel" "rights" "[I", .methodLink RX10 91 yX10_has, .static yX10_has, .code yX10_has cX10_has 2 (some .boolean)] ++ wsX100)
def wsX10_ban : List Cond := .code yX10_ban cX10_ban 5 (some .int) :: ([.fieldLink RX10 63 "LeastRightsModel" "banned" "[I", .methodLink RX10 122 yX10_isRight, .static yX10_isRight, .initialized RX10, .code yX10_isRight cX10_isRight 1 (some .boolean), .methodLink RX10 87 yX10_in, .static yX10_in, .code yX10_in cX10_in 3 (some .boolean), .methodLink RX10 91 yX10_has, .static yX10_has, .code yX10_has cX10_has 2 (some .boolean)] ++ wsX100)
def wsX10_isBad : List Cond := .code yX10_isBad cX10_isBad 4 (some .boolean) :: ([.fieldLink RX10 63 "LeastRightsModel" "banned" "[I", .methodLink RX10 91 yX10_has, .static yX10_has, .initialized RX10, .code yX10_has cX10_has 2 (some .boolean)] ++ wsX100)
def wsX10_breach : List Cond := .code yX10_breach cX10_breach 3 (some .int) :: ([.fieldLink RX10 84 "LeastRightsModel" "people" "I", .fieldLink RX10 16 "LeastRightsModel" "rights" "[I", .methodLink RX10 163 yX10_isBad, .instanceMethod yX10_isBad, .selects RX10 yX10_isBad yX10_isBad, .initialized RX10, .code yX10_isBad cX10_isBad 4 (some .boolean), .fieldLink RX10 63 "LeastRightsModel" "banned" "[I", .methodLink RX10 91 yX10_has, .static yX10_has, .code yX10_has cX10_has 2 (some .boolean)] ++ wsX100)
def wsX10_least_r1 : List Cond := [Cond.fieldLink RX10 16 "LeastRightsModel" "rights" "[I", Cond.methodLink RX10 95 yX10_isPerson, Cond.instanceMethod yX10_isPerson, Cond.selects RX10 yX10_isPerson yX10_isPerson, Cond.initialized RX10, Cond.code yX10_isPerson cX10_isPerson 2 (some .boolean), Cond.fieldLink RX10 84 "LeastRightsModel" "people" "I", Cond.methodLink RX10 87 yX10_in, Cond.static yX10_in, Cond.code yX10_in cX10_in 3 (some .boolean), Cond.methodLink RX10 115 yX10_keptOf, Cond.instanceMethod yX10_keptOf, Cond.selects RX10 yX10_keptOf yX10_keptOf, Cond.code yX10_keptOf cX10_keptOf 4 (some .int), Cond.methodLink RX10 91 yX10_has, Cond.static yX10_has, Cond.code yX10_has cX10_has 2 (some .boolean), Cond.methodLink RX10 112 yX10_kindOf, Cond.instanceMethod yX10_kindOf, Cond.selects RX10 yX10_kindOf yX10_kindOf, Cond.code yX10_kindOf cX10_kindOf 8 (some .int), Cond.fieldLink RX10 103 "LeastRightsModel" "uses" "I", Cond.fieldLink RX10 32 "LeastRightsModel" "usePerson" "[I", Cond.fieldLink RX10 35 "LeastRightsModel" "useRight" "[I"]
def wsX10_least_r2 : List Cond := [Cond.fieldLink RX10 106 "LeastRightsModel" "day" "I", Cond.fieldLink RX10 38 "LeastRightsModel" "useDay" "[I", Cond.fieldLink RX10 22 "LeastRightsModel" "span" "I", Cond.fieldLink RX10 26 "LeastRightsModel" "season" "I", Cond.fieldLink RX10 109 "LeastRightsModel" "standby" "I", Cond.methodLink RX10 163 yX10_isBad, Cond.instanceMethod yX10_isBad, Cond.selects RX10 yX10_isBad yX10_isBad, Cond.code yX10_isBad cX10_isBad 4 (some .boolean), Cond.fieldLink RX10 63 "LeastRightsModel" "banned" "[I", Cond.methodLink RX10 157 yX10_bits, Cond.static yX10_bits, Cond.code yX10_bits cX10_bits 3 (some .int)]
def wsX10_least : List Cond := .code yX10_least cX10_least 7 (some .int) :: ((wsX10_least_r1 ++ wsX10_least_r2) ++ wsX100)
def wsX10_badRole : List Cond := .code yX10_badRole cX10_badRole 2 (some .int) :: ([.fieldLink RX10 138 "LeastRightsModel" "roleMany" "I", .fieldLink RX10 51 "LeastRightsModel" "roles" "[I", .methodLink RX10 163 yX10_isBad, .instanceMethod yX10_isBad, .selects RX10 yX10_isBad yX10_isBad, .initialized RX10, .code yX10_isBad cX10_isBad 4 (some .boolean), .fieldLink RX10 63 "LeastRightsModel" "banned" "[I", .methodLink RX10 91 yX10_has, .static yX10_has, .code yX10_has cX10_has 2 (some .boolean)] ++ wsX100)
def wsX10_plan_r1 : List Cond := [Cond.fieldLink RX10 84 "LeastRightsModel" "people" "I", Cond.fieldLink RX10 66 "LeastRightsModel" "planned" "I", Cond.fieldLink RX10 69 "LeastRightsModel" "plans" "[I", Cond.fieldLink RX10 16 "LeastRightsModel" "rights" "[I", Cond.methodLink RX10 115 yX10_keptOf, Cond.instanceMethod yX10_keptOf, Cond.selects RX10 yX10_keptOf yX10_keptOf, Cond.initialized RX10, Cond.code yX10_keptOf cX10_keptOf 4 (some .int), Cond.methodLink RX10 91 yX10_has, Cond.static yX10_has, Cond.code yX10_has cX10_has 2 (some .boolean), Cond.methodLink RX10 112 yX10_kindOf, Cond.instanceMethod yX10_kindOf, Cond.selects RX10 yX10_kindOf yX10_kindOf, Cond.code yX10_kindOf cX10_kindOf 8 (some .int), Cond.fieldLink RX10 103 "LeastRightsModel" "uses" "I", Cond.fieldLink RX10 32 "LeastRightsModel" "usePerson" "[I", Cond.fieldLink RX10 35 "LeastRightsModel" "useRight" "[I", Cond.fieldLink RX10 106 "LeastRightsModel" "day" "I", Cond.fieldLink RX10 38 "LeastRightsModel" "useDay" "[I", Cond.fieldLink RX10 22 "LeastRightsModel" "span" "I", Cond.fieldLink RX10 26 "LeastRightsModel" "season" "I", Cond.fieldLink RX10 109 "LeastRightsModel" "standby" "I"]
def wsX10_plan_r2 : List Cond := [Cond.methodLink RX10 157 yX10_bits, Cond.static yX10_bits, Cond.code yX10_bits cX10_bits 3 (some .int)]
def wsX10_plan : List Cond := .code yX10_plan cX10_plan 4 (some .int) :: ((wsX10_plan_r1 ++ wsX10_plan_r2) ++ wsX100)
def wsX10_takeOut : List Cond := .code yX10_takeOut cX10_takeOut 4 (some .int) :: ([.fieldLink RX10 66 "LeastRightsModel" "planned" "I", .fieldLink RX10 69 "LeastRightsModel" "plans" "[I", .methodLink RX10 95 yX10_isPerson, .instanceMethod yX10_isPerson, .selects RX10 yX10_isPerson yX10_isPerson, .initialized RX10, .code yX10_isPerson cX10_isPerson 2 (some .boolean), .fieldLink RX10 84 "LeastRightsModel" "people" "I", .methodLink RX10 87 yX10_in, .static yX10_in, .code yX10_in cX10_in 3 (some .boolean), .methodLink RX10 122 yX10_isRight, .static yX10_isRight, .code yX10_isRight cX10_isRight 1 (some .boolean), .methodLink RX10 91 yX10_has, .static yX10_has, .code yX10_has cX10_has 2 (some .boolean)] ++ wsX100)
def wsX10_isStopped : List Cond := .code yX10_isStopped cX10_isStopped 4 (some .boolean) :: ([.fieldLink RX10 32 "LeastRightsModel" "usePerson" "[I", .fieldLink RX10 106 "LeastRightsModel" "day" "I", .fieldLink RX10 38 "LeastRightsModel" "useDay" "[I", .fieldLink RX10 66 "LeastRightsModel" "planned" "I", .fieldLink RX10 69 "LeastRightsModel" "plans" "[I", .fieldLink RX10 35 "LeastRightsModel" "useRight" "[I", .methodLink RX10 91 yX10_has, .static yX10_has, .initialized RX10, .code yX10_has cX10_has 2 (some .boolean)] ++ wsX100)
def wsX10_stopped : List Cond := .code yX10_stopped cX10_stopped 4 (some .int) :: ([.fieldLink RX10 66 "LeastRightsModel" "planned" "I", .fieldLink RX10 103 "LeastRightsModel" "uses" "I", .methodLink RX10 87 yX10_in, .static yX10_in, .initialized RX10, .code yX10_in cX10_in 3 (some .boolean), .methodLink RX10 166 yX10_isStopped, .instanceMethod yX10_isStopped, .selects RX10 yX10_isStopped yX10_isStopped, .code yX10_isStopped cX10_isStopped 4 (some .boolean), .fieldLink RX10 32 "LeastRightsModel" "usePerson" "[I", .fieldLink RX10 106 "LeastRightsModel" "day" "I", .fieldLink RX10 38 "LeastRightsModel" "useDay" "[I", .fieldLink RX10 69 "LeastRightsModel" "plans" "[I", .fieldLink RX10 35 "LeastRightsModel" "useRight" "[I", .methodLink RX10 91 yX10_has, .static yX10_has, .code yX10_has cX10_has 2 (some .boolean)] ++ wsX100)
def wsX10_stop : List Cond := .code yX10_stop cX10_stop 4 (some .int) :: ([.fieldLink RX10 66 "LeastRightsModel" "planned" "I", .fieldLink RX10 103 "LeastRightsModel" "uses" "I", .methodLink RX10 87 yX10_in, .static yX10_in, .initialized RX10, .code yX10_in cX10_in 3 (some .boolean), .methodLink RX10 166 yX10_isStopped, .instanceMethod yX10_isStopped, .selects RX10 yX10_isStopped yX10_isStopped, .code yX10_isStopped cX10_isStopped 4 (some .boolean), .fieldLink RX10 32 "LeastRightsModel" "usePerson" "[I", .fieldLink RX10 106 "LeastRightsModel" "day" "I", .fieldLink RX10 38 "LeastRightsModel" "useDay" "[I", .fieldLink RX10 69 "LeastRightsModel" "plans" "[I", .fieldLink RX10 35 "LeastRightsModel" "useRight" "[I", .methodLink RX10 91 yX10_has, .static yX10_has, .code yX10_has cX10_has 2 (some .boolean)] ++ wsX100)
def wsX10_used : List Cond := .code yX10_used cX10_used 3 (some .int) :: ([.fieldLink RX10 103 "LeastRightsModel" "uses" "I", .fieldLink RX10 32 "LeastRightsModel" "usePerson" "[I", .fieldLink RX10 35 "LeastRightsModel" "useRight" "[I", .fieldLink RX10 38 "LeastRightsModel" "useDay" "[I", .methodLink RX10 87 yX10_in, .static yX10_in, .initialized RX10, .code yX10_in cX10_in 3 (some .boolean)] ++ wsX100)
def wsX10_apply : List Cond := .code yX10_apply cX10_apply 4 (some .int) :: ([.fieldLink RX10 66 "LeastRightsModel" "planned" "I", .fieldLink RX10 84 "LeastRightsModel" "people" "I", .fieldLink RX10 69 "LeastRightsModel" "plans" "[I", .methodLink RX10 128 yX10_strikeBut, .instanceMethod yX10_strikeBut, .selects RX10 yX10_strikeBut yX10_strikeBut, .initialized RX10, .code yX10_strikeBut cX10_strikeBut 5 (some .int), .fieldLink RX10 16 "LeastRightsModel" "rights" "[I", .fieldLink RX10 19 "LeastRightsModel" "struck" "[I", .fieldLink RX10 106 "LeastRightsModel" "day" "I", .methodLink RX10 91 yX10_has, .static yX10_has, .code yX10_has cX10_has 2 (some .boolean), .methodLink RX10 99 yX10_give, .instanceMethod yX10_give, .selects RX10 yX10_give yX10_give, .code yX10_give cX10_give 5 (some .int)] ++ wsX100)
def wsX10_isSheet : List Cond := .code yX10_isSheet cX10_isSheet 1 (some .boolean) :: ([.methodLink RX10 87 yX10_in, .static yX10_in, .initialized RX10, .code yX10_in cX10_in 3 (some .boolean)])
def wsX10_sheet : List Cond := .code yX10_sheet cX10_sheet 4 (some .int) :: ([.fieldLink RX10 72 "LeastRightsModel" "sizes" "[I", .fieldLink RX10 75 "LeastRightsModel" "sheets" "[I", .methodLink RX10 169 yX10_isSheet, .static yX10_isSheet, .initialized RX10, .code yX10_isSheet cX10_isSheet 1 (some .boolean), .methodLink RX10 87 yX10_in, .static yX10_in, .code yX10_in cX10_in 3 (some .boolean), .methodLink RX10 125 yX10_meets, .instanceMethod yX10_meets, .selects RX10 yX10_meets yX10_meets, .code yX10_meets cX10_meets 2 (some .int), .fieldLink RX10 81 "LeastRightsModel" "finding" "I", .fieldLink RX10 7 "LeastRightsModel" "findings" "[I"] ++ wsX100)
def wsX10_save : List Cond := .code yX10_save cX10_save 4 (some .int) :: ([.fieldLink RX10 72 "LeastRightsModel" "sizes" "[I", .fieldLink RX10 84 "LeastRightsModel" "people" "I", .fieldLink RX10 75 "LeastRightsModel" "sheets" "[I", .fieldLink RX10 16 "LeastRightsModel" "rights" "[I", .methodLink RX10 169 yX10_isSheet, .static yX10_isSheet, .initialized RX10, .code yX10_isSheet cX10_isSheet 1 (some .boolean), .methodLink RX10 87 yX10_in, .static yX10_in, .code yX10_in cX10_in 3 (some .boolean), .methodLink RX10 125 yX10_meets, .instanceMethod yX10_meets, .selects RX10 yX10_meets yX10_meets, .code yX10_meets cX10_meets 2 (some .int), .fieldLink RX10 81 "LeastRightsModel" "finding" "I", .fieldLink RX10 7 "LeastRightsModel" "findings" "[I"] ++ wsX100)
def wsX10_load_r1 : List Cond := [Cond.fieldLink RX10 72 "LeastRightsModel" "sizes" "[I", Cond.fieldLink RX10 75 "LeastRightsModel" "sheets" "[I", Cond.methodLink RX10 169 yX10_isSheet, Cond.static yX10_isSheet, Cond.initialized RX10, Cond.code yX10_isSheet cX10_isSheet 1 (some .boolean), Cond.methodLink RX10 87 yX10_in, Cond.static yX10_in, Cond.code yX10_in cX10_in 3 (some .boolean), Cond.methodLink RX10 95 yX10_isPerson, Cond.instanceMethod yX10_isPerson, Cond.selects RX10 yX10_isPerson yX10_isPerson, Cond.code yX10_isPerson cX10_isPerson 2 (some .boolean), Cond.fieldLink RX10 84 "LeastRightsModel" "people" "I", Cond.methodLink RX10 125 yX10_meets, Cond.instanceMethod yX10_meets, Cond.selects RX10 yX10_meets yX10_meets, Cond.code yX10_meets cX10_meets 2 (some .int), Cond.fieldLink RX10 81 "LeastRightsModel" "finding" "I", Cond.fieldLink RX10 7 "LeastRightsModel" "findings" "[I", Cond.methodLink RX10 99 yX10_give, Cond.instanceMethod yX10_give, Cond.selects RX10 yX10_give yX10_give, Cond.code yX10_give cX10_give 5 (some .int)]
def wsX10_load_r2 : List Cond := [Cond.fieldLink RX10 16 "LeastRightsModel" "rights" "[I", Cond.fieldLink RX10 19 "LeastRightsModel" "struck" "[I", Cond.methodLink RX10 91 yX10_has, Cond.static yX10_has, Cond.code yX10_has cX10_has 2 (some .boolean)]
def wsX10_load : List Cond := .code yX10_load cX10_load 5 (some .int) :: ((wsX10_load_r1 ++ wsX10_load_r2) ++ wsX100)
def wsX10_tear : List Cond := .code yX10_tear cX10_tear 2 (some .int) :: ([.fieldLink RX10 72 "LeastRightsModel" "sizes" "[I", .methodLink RX10 169 yX10_isSheet, .static yX10_isSheet, .initialized RX10, .code yX10_isSheet cX10_isSheet 1 (some .boolean), .methodLink RX10 87 yX10_in, .static yX10_in, .code yX10_in cX10_in 3 (some .boolean), .methodLink RX10 125 yX10_meets, .instanceMethod yX10_meets, .selects RX10 yX10_meets yX10_meets, .code yX10_meets cX10_meets 2 (some .int), .fieldLink RX10 81 "LeastRightsModel" "finding" "I", .fieldLink RX10 7 "LeastRightsModel" "findings" "[I"] ++ wsX100)
def wsX10_copy : List Cond := .code yX10_copy cX10_copy 7 (some .int) :: ([.fieldLink RX10 72 "LeastRightsModel" "sizes" "[I", .fieldLink RX10 78 "LeastRightsModel" "moving" "[I", .fieldLink RX10 75 "LeastRightsModel" "sheets" "[I", .methodLink RX10 169 yX10_isSheet, .static yX10_isSheet, .initialized RX10, .code yX10_isSheet cX10_isSheet 1 (some .boolean), .methodLink RX10 87 yX10_in, .static yX10_in, .code yX10_in cX10_in 3 (some .boolean), .methodLink RX10 125 yX10_meets, .instanceMethod yX10_meets, .selects RX10 yX10_meets yX10_meets, .code yX10_meets cX10_meets 2 (some .int), .fieldLink RX10 81 "LeastRightsModel" "finding" "I", .fieldLink RX10 7 "LeastRightsModel" "findings" "[I"] ++ wsX100)
def wsX10_asked : List Cond := .code yX10_asked cX10_asked 1 (some .int) :: ([.fieldLink RX10 160 "LeastRightsModel" "asked" "I"] ++ wsX100)
def wsX10_count_r1 : List Cond := [Cond.fieldLink RX10 84 "LeastRightsModel" "people" "I", Cond.fieldLink RX10 106 "LeastRightsModel" "day" "I", Cond.fieldLink RX10 103 "LeastRightsModel" "uses" "I", Cond.fieldLink RX10 16 "LeastRightsModel" "rights" "[I", Cond.fieldLink RX10 63 "LeastRightsModel" "banned" "[I", Cond.methodLink RX10 157 yX10_bits, Cond.static yX10_bits, Cond.initialized RX10, Cond.code yX10_bits cX10_bits 3 (some .int), Cond.methodLink RX10 115 yX10_keptOf, Cond.instanceMethod yX10_keptOf, Cond.selects RX10 yX10_keptOf yX10_keptOf, Cond.code yX10_keptOf cX10_keptOf 4 (some .int), Cond.methodLink RX10 91 yX10_has, Cond.static yX10_has, Cond.code yX10_has cX10_has 2 (some .boolean), Cond.methodLink RX10 112 yX10_kindOf, Cond.instanceMethod yX10_kindOf, Cond.selects RX10 yX10_kindOf yX10_kindOf, Cond.code yX10_kindOf cX10_kindOf 8 (some .int), Cond.fieldLink RX10 32 "LeastRightsModel" "usePerson" "[I", Cond.fieldLink RX10 35 "LeastRightsModel" "useRight" "[I", Cond.fieldLink RX10 38 "LeastRightsModel" "useDay" "[I", Cond.fieldLink RX10 22 "LeastRightsModel" "span" "I"]
def wsX10_count_r2 : List Cond := [Cond.fieldLink RX10 26 "LeastRightsModel" "season" "I", Cond.fieldLink RX10 109 "LeastRightsModel" "standby" "I"]
def wsX10_count : List Cond := .code yX10_count cX10_count 4 (some .int) :: ((wsX10_count_r1 ++ wsX10_count_r2) ++ wsX100)
def wsX10_finding : List Cond := .code yX10_finding cX10_finding 1 (some .int) :: ([.fieldLink RX10 81 "LeastRightsModel" "finding" "I"] ++ wsX100)
def wsX10_findings : List Cond := .code yX10_findings cX10_findings 2 (some .int) :: ([.fieldLink RX10 7 "LeastRightsModel" "findings" "[I", .methodLink RX10 87 yX10_in, .static yX10_in, .initialized RX10, .code yX10_in cX10_in 3 (some .boolean)] ++ wsX100)
def wsX10_digest_r1 : List Cond := [Cond.constantLong RX10 172 (17), Cond.fieldLink RX10 84 "LeastRightsModel" "people" "I", Cond.constantLong RX10 174 (31), Cond.fieldLink RX10 109 "LeastRightsModel" "standby" "I", Cond.fieldLink RX10 106 "LeastRightsModel" "day" "I", Cond.fieldLink RX10 103 "LeastRightsModel" "uses" "I", Cond.fieldLink RX10 32 "LeastRightsModel" "usePerson" "[I", Cond.fieldLink RX10 35 "LeastRightsModel" "useRight" "[I", Cond.fieldLink RX10 38 "LeastRightsModel" "useDay" "[I", Cond.fieldLink RX10 63 "LeastRightsModel" "banned" "[I", Cond.fieldLink RX10 72 "LeastRightsModel" "sizes" "[I", Cond.fieldLink RX10 75 "LeastRightsModel" "sheets" "[I", Cond.methodLink RX10 119 yX10_tells, Cond.instanceMethod yX10_tells, Cond.selects RX10 yX10_tells yX10_tells, Cond.initialized RX10, Cond.code yX10_tells cX10_tells 5 (some .int), Cond.fieldLink RX10 13 "LeastRightsModel" "marks" "[I", Cond.fieldLink RX10 16 "LeastRightsModel" "rights" "[I", Cond.fieldLink RX10 19 "LeastRightsModel" "struck" "[I", Cond.methodLink RX10 115 yX10_keptOf, Cond.instanceMethod yX10_keptOf, Cond.selects RX10 yX10_keptOf yX10_keptOf, Cond.code yX10_keptOf cX10_keptOf 4 (some .int)]
def wsX10_digest_r2 : List Cond := [Cond.methodLink RX10 91 yX10_has, Cond.static yX10_has, Cond.code yX10_has cX10_has 2 (some .boolean), Cond.methodLink RX10 112 yX10_kindOf, Cond.instanceMethod yX10_kindOf, Cond.selects RX10 yX10_kindOf yX10_kindOf, Cond.code yX10_kindOf cX10_kindOf 8 (some .int), Cond.fieldLink RX10 22 "LeastRightsModel" "span" "I", Cond.fieldLink RX10 26 "LeastRightsModel" "season" "I"]
def wsX10_digest : List Cond := .code yX10_digest cX10_digest 5 (some .long) :: ((wsX10_digest_r1 ++ wsX10_digest_r2) ++ wsX100)
def wsJ9_min_7cf53 : List Cond := .code yJ9_min_7cf53 cJ9_min_7cf53 2 (some .int) :: ([])
def wsL_law_r1 : List Cond := [Cond.classLink RL 7 RX9, Cond.instantiable RX9 13, Cond.initialized RX9, Cond.classLink RL 10 RX10, Cond.instantiable RX10 32, Cond.initialized RX10, Cond.methodLink RL 9 yX9_init, Cond.instanceMethod yX9_init, Cond.code yX9_init cX9_init 1 none, Cond.methodLink RX9 1 objectInit, Cond.instanceMethod objectInit, Cond.code objectInit ⟨#[0xb1]⟩ 1 none, Cond.classLink RX9 7 RX2, Cond.instantiable RX2 4, Cond.initialized RX2, Cond.fieldLink RX9 10 "LeastRights" "days" "LLeastRights$Days;", Cond.classLink RX9 16 RX5, Cond.instantiable RX5 5, Cond.initialized RX5, Cond.fieldLink RX9 19 "LeastRights" "folk" "LLeastRights$Folk;", Cond.classLink RX9 23 RX8, Cond.instantiable RX8 4, Cond.initialized RX8, Cond.fieldLink RX9 26 "LeastRights" "log" "LLeastRights$UseLog;"]
def wsL_law_r2 : List Cond := [Cond.classLink RX9 30 RX1, Cond.instantiable RX1 3, Cond.initialized RX1, Cond.fieldLink RX9 33 "LeastRights" "choice" "LLeastRights$Candidates;", Cond.classLink RX9 37 RX6, Cond.instantiable RX6 9, Cond.initialized RX6, Cond.fieldLink RX9 40 "LeastRights" "tree" "LLeastRights$RoleTree;", Cond.classLink RX9 44 RX0, Cond.instantiable RX0 1, Cond.initialized RX0, Cond.fieldLink RX9 47 "LeastRights" "bans" "LLeastRights$Bans;", Cond.classLink RX9 51 RX3, Cond.instantiable RX3 3, Cond.initialized RX3, Cond.fieldLink RX9 54 "LeastRights" "draft" "LLeastRights$Draft;", Cond.classLink RX9 58 RX7, Cond.instantiable RX7 2, Cond.initialized RX7, Cond.fieldLink RX9 61 "LeastRights" "sheets" "LLeastRights$Sheets;", Cond.classLink RX9 65 RX4, Cond.instantiable RX4 2, Cond.initialized RX4, Cond.fieldLink RX9 68 "LeastRights" "tally" "LLeastRights$Findings;"]
def wsL_law_r3 : List Cond := [Cond.arrayClass .int, Cond.fieldLink RX9 72 "LeastRights" "keptRow" "[I", Cond.fieldLink RX9 76 "LeastRights" "askAnswers" "[I", Cond.fieldLink RX9 79 "LeastRights" "standbyRights" "I", Cond.fieldLink RX9 83 "LeastRights" "exceptionsTold" "I", Cond.instanceMethod yX2_init, Cond.code yX2_init cX2_init 1 none, Cond.methodLink RX2 1 objectInit, Cond.fieldLink RX2 7 "LeastRights$Days" "present" "I", Cond.fieldLink RX2 13 "LeastRights$Days" "span" "I", Cond.fieldLink RX2 16 "LeastRights$Days" "season" "I", Cond.fieldLink RX2 19 "LeastRights$Days" "grace" "I", Cond.instanceMethod yX5_init, Cond.code yX5_init cX5_init 1 none, Cond.methodLink RX5 3 objectInit, Cond.fieldLink RX5 9 "LeastRights$Folk" "size" "I", Cond.fieldLink RX5 15 "LeastRights$Folk" "marks" "[I", Cond.fieldLink RX5 19 "LeastRights$Folk" "rights" "[I", Cond.fieldLink RX5 22 "LeastRights$Folk" "struck" "[I", Cond.fieldLink RX5 25 "LeastRights$Folk" "struckOn" "[I", Cond.instanceMethod yX8_init, Cond.code yX8_init cX8_init 1 none, Cond.methodLink RX8 3 objectInit, Cond.fieldLink RX8 9 "LeastRights$UseLog" "size" "I"]
def wsL_law_r4 : List Cond := [Cond.fieldLink RX8 15 "LeastRights$UseLog" "who" "[I", Cond.fieldLink RX8 19 "LeastRights$UseLog" "which" "[I", Cond.fieldLink RX8 22 "LeastRights$UseLog" "when" "[I", Cond.instanceMethod yX1_init, Cond.code yX1_init cX1_init 1 none, Cond.methodLink RX1 3 objectInit, Cond.fieldLink RX1 9 "LeastRights$Candidates" "size" "I", Cond.fieldLink RX1 15 "LeastRights$Candidates" "sets" "[I", Cond.arrayClass .long, Cond.fieldLink RX1 19 "LeastRights$Candidates" "noted" "[J", Cond.instanceMethod yX6_init, Cond.code yX6_init cX6_init 1 none, Cond.methodLink RX6 5 objectInit, Cond.fieldLink RX6 11 "LeastRights$RoleTree" "size" "I", Cond.fieldLink RX6 15 "LeastRights$RoleTree" "tried" "I", Cond.fieldLink RX6 18 "LeastRights$RoleTree" "fewest" "I", Cond.fieldLink RX6 21 "LeastRights$RoleTree" "fewestRow" "[I", Cond.fieldLink RX6 25 "LeastRights$RoleTree" "way" "[I", Cond.fieldLink RX6 28 "LeastRights$RoleTree" "bound" "[I", Cond.fieldLink RX6 31 "LeastRights$RoleTree" "rightBit" "[I", Cond.fieldLink RX6 34 "LeastRights$RoleTree" "next" "[I", Cond.fieldLink RX6 37 "LeastRights$RoleTree" "covered" "[I", Cond.instanceMethod yX0_init, Cond.code yX0_init cX0_init 1 none]
def wsL_law_r5 : List Cond := [Cond.methodLink RX0 3 objectInit, Cond.fieldLink RX0 9 "LeastRights$Bans" "with" "[I", Cond.instanceMethod yX3_init, Cond.code yX3_init cX3_init 1 none, Cond.methodLink RX3 3 objectInit, Cond.fieldLink RX3 9 "LeastRights$Draft" "made" "Z", Cond.fieldLink RX3 15 "LeastRights$Draft" "size" "I", Cond.fieldLink RX3 19 "LeastRights$Draft" "rights" "[I", Cond.instanceMethod yX7_init, Cond.code yX7_init cX7_init 1 none, Cond.methodLink RX7 3 objectInit, Cond.fieldLink RX7 11 "LeastRights$Sheets" "sizes" "[I", Cond.fieldLink RX7 15 "LeastRights$Sheets" "ints" "[I", Cond.instanceMethod yX4_init, Cond.code yX4_init cX4_init 1 none, Cond.methodLink RX4 3 objectInit, Cond.fieldLink RX4 9 "LeastRights$Findings" "latest" "I", Cond.fieldLink RX4 15 "LeastRights$Findings" "times" "[I", Cond.methodLink RL 12 yX10_init, Cond.instanceMethod yX10_init, Cond.code yX10_init cX10_init 2 none, Cond.methodLink RX10 1 objectInit, Cond.fieldLink RX10 7 "LeastRightsModel" "findings" "[I", Cond.fieldLink RX10 13 "LeastRightsModel" "marks" "[I"]
def wsL_law_r6 : List Cond := [Cond.fieldLink RX10 16 "LeastRightsModel" "rights" "[I", Cond.fieldLink RX10 19 "LeastRightsModel" "struck" "[I", Cond.fieldLink RX10 22 "LeastRightsModel" "span" "I", Cond.fieldLink RX10 26 "LeastRightsModel" "season" "I", Cond.fieldLink RX10 29 "LeastRightsModel" "grace" "I", Cond.fieldLink RX10 32 "LeastRightsModel" "usePerson" "[I", Cond.fieldLink RX10 35 "LeastRightsModel" "useRight" "[I", Cond.fieldLink RX10 38 "LeastRightsModel" "useDay" "[I", Cond.fieldLink RX10 41 "LeastRightsModel" "askCounts" "[I", Cond.fieldLink RX10 44 "LeastRightsModel" "kept" "[I", Cond.arrayClass .boolean, Cond.fieldLink RX10 47 "LeastRightsModel" "isCandidate" "[Z", Cond.fieldLink RX10 51 "LeastRightsModel" "roles" "[I", Cond.fieldLink RX10 54 "LeastRightsModel" "path" "[I", Cond.fieldLink RX10 57 "LeastRightsModel" "wants" "[I", Cond.fieldLink RX10 60 "LeastRightsModel" "wanters" "[I", Cond.fieldLink RX10 63 "LeastRightsModel" "banned" "[I", Cond.fieldLink RX10 66 "LeastRightsModel" "planned" "I", Cond.fieldLink RX10 69 "LeastRightsModel" "plans" "[I", Cond.fieldLink RX10 72 "LeastRightsModel" "sizes" "[I", Cond.fieldLink RX10 75 "LeastRightsModel" "sheets" "[I", Cond.fieldLink RX10 78 "LeastRightsModel" "moving" "[I", Cond.methodLink RL 13 yX9_person, Cond.instanceMethod yX9_person]
def wsL_law_r7 : List Cond := [Cond.selects RX9 yX9_person yX9_person, Cond.code yX9_person cX9_person 3 (some .int), Cond.methodLink RX9 86 yX9_noMarkSet, Cond.static yX9_noMarkSet, Cond.code yX9_noMarkSet cX9_noMarkSet 1 (some .boolean), Cond.methodLink RX9 90 yX9_noRightSet, Cond.static yX9_noRightSet, Cond.code yX9_noRightSet cX9_noRightSet 1 (some .boolean), Cond.methodLink RX9 96 yX5_join, Cond.instanceMethod yX5_join, Cond.selects RX5 yX5_join yX5_join, Cond.code yX5_join cX5_join 3 (some .int), Cond.methodLink RL 17 yX10_person, Cond.instanceMethod yX10_person, Cond.selects RX10 yX10_person yX10_person, Cond.code yX10_person cX10_person 3 (some .int), Cond.fieldLink RX10 84 "LeastRightsModel" "people" "I", Cond.methodLink RX10 87 yX10_in, Cond.static yX10_in, Cond.code yX10_in cX10_in 3 (some .boolean), Cond.methodLink RL 18 yX9_change, Cond.instanceMethod yX9_change, Cond.selects RX9 yX9_change yX9_change, Cond.code yX9_change cX9_change 4 (some .int)]
def wsL_law_r8 : List Cond := [Cond.methodLink RX9 100 yX9_noPerson, Cond.instanceMethod yX9_noPerson, Cond.selects RX9 yX9_noPerson yX9_noPerson, Cond.code yX9_noPerson cX9_noPerson 2 (some .boolean), Cond.methodLink RX9 103 yX5_remark, Cond.instanceMethod yX5_remark, Cond.selects RX5 yX5_remark yX5_remark, Cond.code yX5_remark cX5_remark 4 (some .int), Cond.methodLink RX9 106 yX5_give, Cond.instanceMethod yX5_give, Cond.selects RX5 yX5_give yX5_give, Cond.code yX5_give cX5_give 4 (some .int), Cond.methodLink RL 22 yX10_change, Cond.instanceMethod yX10_change, Cond.selects RX10 yX10_change yX10_change, Cond.code yX10_change cX10_change 5 (some .int), Cond.methodLink RX10 95 yX10_isPerson, Cond.instanceMethod yX10_isPerson, Cond.selects RX10 yX10_isPerson yX10_isPerson, Cond.code yX10_isPerson cX10_isPerson 2 (some .boolean), Cond.methodLink RX10 99 yX10_give, Cond.instanceMethod yX10_give, Cond.selects RX10 yX10_give yX10_give, Cond.code yX10_give cX10_give 5 (some .int)]
def wsL_law_r9 : List Cond := [Cond.methodLink RX10 91 yX10_has, Cond.static yX10_has, Cond.code yX10_has cX10_has 2 (some .boolean), Cond.methodLink RL 23 yX9_told, Cond.instanceMethod yX9_told, Cond.selects RX9 yX9_told yX9_told, Cond.code yX9_told cX9_told 3 (some .int), Cond.methodLink RX9 115 yX9_keptOf, Cond.instanceMethod yX9_keptOf, Cond.selects RX9 yX9_keptOf yX9_keptOf, Cond.code yX9_keptOf cX9_keptOf 3 (some .int), Cond.methodLink RX9 286 yX8_recent, Cond.instanceMethod yX8_recent, Cond.selects RX8 yX8_recent yX8_recent, Cond.code yX8_recent cX8_recent 5 (some .int), Cond.methodLink RX8 30 yX2_isWithinLast, Cond.instanceMethod yX2_isWithinLast, Cond.selects RX2 yX2_isWithinLast yX2_isWithinLast, Cond.code yX2_isWithinLast cX2_isWithinLast 3 (some .boolean), Cond.methodLink RX9 290 yX8_seasonal, Cond.instanceMethod yX8_seasonal, Cond.selects RX8 yX8_seasonal yX8_seasonal, Cond.code yX8_seasonal cX8_seasonal 6 (some .int), Cond.methodLink RX8 34 yX2_comesRound]
def wsL_law_r10 : List Cond := [Cond.instanceMethod yX2_comesRound, Cond.selects RX2 yX2_comesRound yX2_comesRound, Cond.code yX2_comesRound cX2_comesRound 4 (some .boolean), Cond.methodLink RX9 122 yX8_ofPerson, Cond.instanceMethod yX8_ofPerson, Cond.selects RX8 yX8_ofPerson yX8_ofPerson, Cond.code yX8_ofPerson cX8_ofPerson 4 (some .int), Cond.methodLink RL 26 yX10_told, Cond.instanceMethod yX10_told, Cond.selects RX10 yX10_told yX10_told, Cond.code yX10_told cX10_told 3 (some .int), Cond.methodLink RX10 119 yX10_tells, Cond.instanceMethod yX10_tells, Cond.selects RX10 yX10_tells yX10_tells, Cond.code yX10_tells cX10_tells 5 (some .int), Cond.fieldLink RX10 103 "LeastRightsModel" "uses" "I", Cond.methodLink RX10 115 yX10_keptOf, Cond.instanceMethod yX10_keptOf, Cond.selects RX10 yX10_keptOf yX10_keptOf, Cond.code yX10_keptOf cX10_keptOf 4 (some .int), Cond.methodLink RX10 112 yX10_kindOf, Cond.instanceMethod yX10_kindOf, Cond.selects RX10 yX10_kindOf yX10_kindOf, Cond.code yX10_kindOf cX10_kindOf 8 (some .int)]
def wsL_law_r11 : List Cond := [Cond.fieldLink RX10 106 "LeastRightsModel" "day" "I", Cond.fieldLink RX10 109 "LeastRightsModel" "standby" "I", Cond.methodLink RL 27 yX9_standby, Cond.instanceMethod yX9_standby, Cond.selects RX9 yX9_standby yX9_standby, Cond.code yX9_standby cX9_standby 3 (some .int), Cond.methodLink RL 31 yX10_standby, Cond.instanceMethod yX10_standby, Cond.selects RX10 yX10_standby yX10_standby, Cond.code yX10_standby cX10_standby 3 (some .int), Cond.methodLink RL 32 yX9_rule, Cond.instanceMethod yX9_rule, Cond.selects RX9 yX9_rule yX9_rule, Cond.code yX9_rule cX9_rule 4 (some .int), Cond.methodLink RL 35 yX10_rule, Cond.instanceMethod yX10_rule, Cond.selects RX10 yX10_rule yX10_rule, Cond.code yX10_rule cX10_rule 4 (some .int), Cond.methodLink RL 36 yX9_later, Cond.instanceMethod yX9_later, Cond.selects RX9 yX9_later yX9_later, Cond.code yX9_later cX9_later 2 (some .int), Cond.methodLink RL 39 yX10_later, Cond.instanceMethod yX10_later]
def wsL_law_r12 : List Cond := [Cond.selects RX10 yX10_later yX10_later, Cond.code yX10_later cX10_later 2 (some .int), Cond.methodLink RL 40 yX9_use, Cond.instanceMethod yX9_use, Cond.selects RX9 yX9_use yX9_use, Cond.code yX9_use cX9_use 4 (some .int), Cond.methodLink RX9 137 yX9_noRight, Cond.static yX9_noRight, Cond.code yX9_noRight cX9_noRight 1 (some .boolean), Cond.methodLink RX9 141 yX5_has, Cond.instanceMethod yX5_has, Cond.selects RX5 yX5_has yX5_has, Cond.code yX5_has cX5_has 3 (some .boolean), Cond.methodLink RX9 145 yX8_enter, Cond.instanceMethod yX8_enter, Cond.selects RX8 yX8_enter yX8_enter, Cond.code yX8_enter cX8_enter 4 (some .int), Cond.methodLink RL 43 yX10_use, Cond.instanceMethod yX10_use, Cond.selects RX10 yX10_use yX10_use, Cond.code yX10_use cX10_use 4 (some .int), Cond.methodLink RX10 122 yX10_isRight, Cond.static yX10_isRight, Cond.code yX10_isRight cX10_isRight 1 (some .boolean)]
def wsL_law_r13 : List Cond := [Cond.methodLink RL 44 yX9_kind, Cond.instanceMethod yX9_kind, Cond.selects RX9 yX9_kind yX9_kind, Cond.code yX9_kind cX9_kind 3 (some .int), Cond.methodLink RX9 149 yX9_kindOf, Cond.instanceMethod yX9_kindOf, Cond.selects RX9 yX9_kindOf yX9_kindOf, Cond.code yX9_kindOf cX9_kindOf 4 (some .int), Cond.methodLink RL 47 yX10_kind, Cond.instanceMethod yX10_kind, Cond.selects RX10 yX10_kind yX10_kind, Cond.code yX10_kind cX10_kind 3 (some .int), Cond.methodLink RL 48 yX9_uses, Cond.instanceMethod yX9_uses, Cond.selects RX9 yX9_uses yX9_uses, Cond.code yX9_uses cX9_uses 4 (some .int), Cond.methodLink RX9 152 yX9_isOfKind, Cond.static yX9_isOfKind, Cond.code yX9_isOfKind cX9_isOfKind 2 (some .boolean), Cond.methodLink RX9 155 yX4_answer, Cond.instanceMethod yX4_answer, Cond.selects RX4 yX4_answer yX4_answer, Cond.code yX4_answer cX4_answer 2 (some .int), Cond.methodLink RX9 158 yX8_ofHolding]
def wsL_law_r14 : List Cond := [Cond.instanceMethod yX8_ofHolding, Cond.selects RX8 yX8_ofHolding yX8_ofHolding, Cond.code yX8_ofHolding cX8_ofHolding 5 (some .int), Cond.methodLink RL 51 yX10_uses, Cond.instanceMethod yX10_uses, Cond.selects RX10 yX10_uses yX10_uses, Cond.code yX10_uses cX10_uses 7 (some .int), Cond.methodLink RX10 125 yX10_meets, Cond.instanceMethod yX10_meets, Cond.selects RX10 yX10_meets yX10_meets, Cond.code yX10_meets cX10_meets 2 (some .int), Cond.fieldLink RX10 81 "LeastRightsModel" "finding" "I", Cond.methodLink RL 52 yX9_strike, Cond.instanceMethod yX9_strike, Cond.selects RX9 yX9_strike yX9_strike, Cond.code yX9_strike cX9_strike 2 (some .int), Cond.methodLink RX9 161 yX5_strikeAllBut, Cond.instanceMethod yX5_strikeAllBut, Cond.selects RX5 yX5_strikeAllBut yX5_strikeAllBut, Cond.code yX5_strikeAllBut cX5_strikeAllBut 6 (some .int), Cond.methodLink RX5 28 yJ6_bitCount_0f7a4, Cond.static yJ6_bitCount_0f7a4, Cond.initialized RJ6, Cond.code yJ6_bitCount_0f7a4 cJ6_bitCount_0f7a4 1 (some .int)]
def wsL_law_r15 : List Cond := [Cond.constant RJ6 265 (1431655765), Cond.constant RJ6 266 (858993459), Cond.constant RJ6 267 (252645135), Cond.methodLink RL 55 yX10_strike, Cond.instanceMethod yX10_strike, Cond.selects RX10 yX10_strike yX10_strike, Cond.code yX10_strike cX10_strike 2 (some .int), Cond.methodLink RX10 128 yX10_strikeBut, Cond.instanceMethod yX10_strikeBut, Cond.selects RX10 yX10_strikeBut yX10_strikeBut, Cond.code yX10_strikeBut cX10_strikeBut 5 (some .int), Cond.methodLink RL 56 yX9_ask, Cond.instanceMethod yX9_ask, Cond.selects RX9 yX9_ask yX9_ask, Cond.code yX9_ask cX9_ask 4 (some .int), Cond.methodLink RX9 164 yX5_request, Cond.instanceMethod yX5_request, Cond.selects RX5 yX5_request yX5_request, Cond.code yX5_request cX5_request 5 (some .int), Cond.methodLink RX5 34 yX2_isInGrace, Cond.instanceMethod yX2_isInGrace, Cond.selects RX2 yX2_isInGrace yX2_isInGrace, Cond.code yX2_isInGrace cX2_isInGrace 2 (some .boolean), Cond.methodLink RX5 40 yX5_give]
def wsL_law_r16 : List Cond := [Cond.methodLink RL 59 yX10_ask, Cond.instanceMethod yX10_ask, Cond.selects RX10 yX10_ask yX10_ask, Cond.code yX10_ask cX10_ask 5 (some .int), Cond.methodLink RL 60 yX9_asks, Cond.instanceMethod yX9_asks, Cond.selects RX9 yX9_asks yX9_asks, Cond.code yX9_asks cX9_asks 2 (some .int), Cond.methodLink RL 63 yX10_asks, Cond.instanceMethod yX10_asks, Cond.selects RX10 yX10_asks yX10_asks, Cond.code yX10_asks cX10_asks 2 (some .int), Cond.methodLink RL 64 yX9_candidates, Cond.instanceMethod yX9_candidates, Cond.selects RX9 yX9_candidates yX9_candidates, Cond.code yX9_candidates cX9_candidates 1 (some .int), Cond.methodLink RX9 168 yX9_lookAtKept, Cond.instanceMethod yX9_lookAtKept, Cond.selects RX9 yX9_lookAtKept yX9_lookAtKept, Cond.code yX9_lookAtKept cX9_lookAtKept 2 none, Cond.methodLink RX9 171 yX1_gather, Cond.instanceMethod yX1_gather, Cond.selects RX1 yX1_gather yX1_gather, Cond.code yX1_gather cX1_gather 6 none]
def wsL_law_r17 : List Cond := [Cond.methodLink RX1 23 yX1_note, Cond.instanceMethod yX1_note, Cond.selects RX1 yX1_note yX1_note, Cond.code yX1_note cX1_note 2 none, Cond.methodLink RX1 30 yX1_isNoted, Cond.instanceMethod yX1_isNoted, Cond.selects RX1 yX1_isNoted yX1_isNoted, Cond.code yX1_isNoted cX1_isNoted 2 (some .boolean), Cond.methodLink RX1 27 yX1_putInOrder, Cond.instanceMethod yX1_putInOrder, Cond.selects RX1 yX1_putInOrder yX1_putInOrder, Cond.code yX1_putInOrder cX1_putInOrder 3 none, Cond.methodLink RL 68 yX10_candidates, Cond.instanceMethod yX10_candidates, Cond.selects RX10 yX10_candidates yX10_candidates, Cond.code yX10_candidates cX10_candidates 1 (some .int), Cond.methodLink RX10 131 yX10_setCandidates, Cond.instanceMethod yX10_setCandidates, Cond.selects RX10 yX10_setCandidates yX10_setCandidates, Cond.code yX10_setCandidates cX10_setCandidates 4 (some .int), Cond.methodLink RL 69 yX9_roles, Cond.instanceMethod yX9_roles, Cond.selects RX9 yX9_roles yX9_roles, Cond.code yX9_roles cX9_roles 2 (some .int)]
def wsL_law_r18 : List Cond := [Cond.methodLink RX9 176 yX6_search, Cond.instanceMethod yX6_search, Cond.selects RX6 yX6_search yX6_search, Cond.code yX6_search cX6_search 9 (some .boolean), Cond.constant RX6 47 (40002), Cond.methodLink RX6 40 yX6_begin, Cond.instanceMethod yX6_begin, Cond.selects RX6 yX6_begin yX6_begin, Cond.code yX6_begin cX6_begin 2 none, Cond.methodLink RX6 43 yX6_openPlace, Cond.instanceMethod yX6_openPlace, Cond.selects RX6 yX6_openPlace yX6_openPlace, Cond.code yX6_openPlace cX6_openPlace 6 (some .boolean), Cond.methodLink RX6 48 yX6_nextOf, Cond.instanceMethod yX6_nextOf, Cond.selects RX6 yX6_nextOf yX6_nextOf, Cond.code yX6_nextOf cX6_nextOf 5 (some .int), Cond.methodLink RX6 52 yX6_cover, Cond.instanceMethod yX6_cover, Cond.selects RX6 yX6_cover yX6_cover, Cond.code yX6_cover cX6_cover 8 none, Cond.methodLink RX6 56 yX6_keepIfFewer, Cond.instanceMethod yX6_keepIfFewer, Cond.selects RX6 yX6_keepIfFewer yX6_keepIfFewer]
def wsL_law_r19 : List Cond := [Cond.code yX6_keepIfFewer cX6_keepIfFewer 3 none, Cond.methodLink RL 72 yX10_roles, Cond.instanceMethod yX10_roles, Cond.selects RX10 yX10_roles yX10_roles, Cond.code yX10_roles cX10_roles 7 (some .int), Cond.fieldLink RX10 135 "LeastRightsModel" "tries" "I", Cond.fieldLink RX10 138 "LeastRightsModel" "roleMany" "I", Cond.fieldLink RX10 141 "LeastRightsModel" "bestMany" "I", Cond.methodLink RX10 144 yX10_open, Cond.instanceMethod yX10_open, Cond.selects RX10 yX10_open yX10_open, Cond.code yX10_open cX10_open 5 (some .int), Cond.methodLink RX10 147 yX10_level, Cond.instanceMethod yX10_level, Cond.selects RX10 yX10_level yX10_level, Cond.code yX10_level cX10_level 3 none, Cond.methodLink RX10 151 yX10_isNext, Cond.instanceMethod yX10_isNext, Cond.selects RX10 yX10_isNext yX10_isNext, Cond.code yX10_isNext cX10_isNext 3 (some .boolean), Cond.methodLink RL 73 yX9_tries, Cond.instanceMethod yX9_tries, Cond.selects RX9 yX9_tries yX9_tries, Cond.code yX9_tries cX9_tries 1 (some .int)]
def wsL_law_r20 : List Cond := [Cond.methodLink RL 76 yX10_tries, Cond.instanceMethod yX10_tries, Cond.selects RX10 yX10_tries yX10_tries, Cond.code yX10_tries cX10_tries 1 (some .int), Cond.methodLink RL 77 yX9_role, Cond.instanceMethod yX9_role, Cond.selects RX9 yX9_role yX9_role, Cond.code yX9_role cX9_role 2 (some .int), Cond.methodLink RL 80 yX10_role, Cond.instanceMethod yX10_role, Cond.selects RX10 yX10_role yX10_role, Cond.code yX10_role cX10_role 2 (some .int), Cond.methodLink RL 81 yX9_rolesOf, Cond.instanceMethod yX9_rolesOf, Cond.selects RX9 yX9_rolesOf yX9_rolesOf, Cond.code yX9_rolesOf cX9_rolesOf 2 (some .int), Cond.methodLink RX9 187 yX6_rolesWithin, Cond.instanceMethod yX6_rolesWithin, Cond.selects RX6 yX6_rolesWithin yX6_rolesWithin, Cond.code yX6_rolesWithin cX6_rolesWithin 4 (some .int), Cond.methodLink RL 84 yX10_rolesOf, Cond.instanceMethod yX10_rolesOf, Cond.selects RX10 yX10_rolesOf yX10_rolesOf, Cond.code yX10_rolesOf cX10_rolesOf 5 (some .int)]
def wsL_law_r21 : List Cond := [Cond.methodLink RL 85 yX9_marksOf, Cond.instanceMethod yX9_marksOf, Cond.selects RX9 yX9_marksOf yX9_marksOf, Cond.code yX9_marksOf cX9_marksOf 7 (some .int), Cond.methodLink RX9 190 yX5_mistold, Cond.instanceMethod yX5_mistold, Cond.selects RX5 yX5_mistold yX5_mistold, Cond.code yX5_mistold cX5_mistold 6 (some .int), Cond.methodLink RX5 44 yX5_has, Cond.methodLink RX9 193 yJ6_bitCount_0f7a4, Cond.methodLink RL 88 yX10_marksOf, Cond.instanceMethod yX10_marksOf, Cond.selects RX10 yX10_marksOf yX10_marksOf, Cond.code yX10_marksOf cX10_marksOf 5 (some .int), Cond.fieldLink RX10 160 "LeastRightsModel" "asked" "I", Cond.methodLink RX10 154 yX10_exceptionsTo, Cond.instanceMethod yX10_exceptionsTo, Cond.selects RX10 yX10_exceptionsTo yX10_exceptionsTo, Cond.code yX10_exceptionsTo cX10_exceptionsTo 6 (some .int), Cond.methodLink RX10 157 yX10_bits, Cond.static yX10_bits, Cond.code yX10_bits cX10_bits 3 (some .int), Cond.methodLink RL 89 yX9_exceptions, Cond.instanceMethod yX9_exceptions]
def wsL_law_r22 : List Cond := [Cond.selects RX9 yX9_exceptions yX9_exceptions, Cond.code yX9_exceptions cX9_exceptions 3 (some .int), Cond.methodLink RL 92 yX10_exceptions, Cond.instanceMethod yX10_exceptions, Cond.selects RX10 yX10_exceptions yX10_exceptions, Cond.code yX10_exceptions cX10_exceptions 3 (some .int), Cond.methodLink RL 93 yX9_ban, Cond.instanceMethod yX9_ban, Cond.selects RX9 yX9_ban yX9_ban, Cond.code yX9_ban cX9_ban 4 (some .int), Cond.methodLink RX9 198 yX0_put, Cond.instanceMethod yX0_put, Cond.selects RX0 yX0_put yX0_put, Cond.code yX0_put cX0_put 5 (some .int), Cond.methodLink RL 97 yX10_ban, Cond.instanceMethod yX10_ban, Cond.selects RX10 yX10_ban yX10_ban, Cond.code yX10_ban cX10_ban 5 (some .int), Cond.methodLink RL 98 yX9_breach, Cond.instanceMethod yX9_breach, Cond.selects RX9 yX9_breach yX9_breach, Cond.code yX9_breach cX9_breach 3 (some .int), Cond.methodLink RX9 202 yX0_clashing, Cond.instanceMethod yX0_clashing]
def wsL_law_r23 : List Cond := [Cond.selects RX0 yX0_clashing yX0_clashing, Cond.code yX0_clashing cX0_clashing 4 (some .int), Cond.methodLink RL 101 yX10_breach, Cond.instanceMethod yX10_breach, Cond.selects RX10 yX10_breach yX10_breach, Cond.code yX10_breach cX10_breach 3 (some .int), Cond.methodLink RX10 163 yX10_isBad, Cond.instanceMethod yX10_isBad, Cond.selects RX10 yX10_isBad yX10_isBad, Cond.code yX10_isBad cX10_isBad 4 (some .boolean), Cond.methodLink RL 102 yX9_least, Cond.instanceMethod yX9_least, Cond.selects RX9 yX9_least yX9_least, Cond.code yX9_least cX9_least 7 (some .int), Cond.methodLink RX9 205 yX9_isLighter, Cond.static yX9_isLighter, Cond.code yX9_isLighter cX9_isLighter 4 (some .boolean), Cond.methodLink RL 105 yX10_least, Cond.instanceMethod yX10_least, Cond.selects RX10 yX10_least yX10_least, Cond.code yX10_least cX10_least 7 (some .int), Cond.methodLink RL 106 yX9_badRole, Cond.instanceMethod yX9_badRole, Cond.selects RX9 yX9_badRole yX9_badRole]
def wsL_law_r24 : List Cond := [Cond.code yX9_badRole cX9_badRole 2 (some .int), Cond.methodLink RL 109 yX10_badRole, Cond.instanceMethod yX10_badRole, Cond.selects RX10 yX10_badRole yX10_badRole, Cond.code yX10_badRole cX10_badRole 2 (some .int), Cond.methodLink RL 110 yX9_plan, Cond.instanceMethod yX9_plan, Cond.selects RX9 yX9_plan yX9_plan, Cond.code yX9_plan cX9_plan 2 (some .int), Cond.methodLink RX9 209 yX3_make, Cond.instanceMethod yX3_make, Cond.selects RX3 yX3_make yX3_make, Cond.code yX3_make cX3_make 4 (some .int), Cond.static yX9_totalOf, Cond.code yX9_totalOf cX9_totalOf 4 (some .int), Cond.methodLink RL 114 yX10_plan, Cond.instanceMethod yX10_plan, Cond.selects RX10 yX10_plan yX10_plan, Cond.code yX10_plan cX10_plan 4 (some .int), Cond.methodLink RL 115 yX9_takeOut, Cond.instanceMethod yX9_takeOut, Cond.selects RX9 yX9_takeOut yX9_takeOut, Cond.code yX9_takeOut cX9_takeOut 3 (some .int), Cond.methodLink RX9 218 yX3_drop]
def wsL_law_r25 : List Cond := [Cond.instanceMethod yX3_drop, Cond.selects RX3 yX3_drop yX3_drop, Cond.code yX3_drop cX3_drop 4 (some .int), Cond.methodLink RL 118 yX10_takeOut, Cond.instanceMethod yX10_takeOut, Cond.selects RX10 yX10_takeOut yX10_takeOut, Cond.code yX10_takeOut cX10_takeOut 4 (some .int), Cond.methodLink RL 119 yX9_stopped, Cond.instanceMethod yX9_stopped, Cond.selects RX9 yX9_stopped yX9_stopped, Cond.code yX9_stopped cX9_stopped 4 (some .int), Cond.methodLink RX9 221 yX9_noLastDays, Cond.static yX9_noLastDays, Cond.code yX9_noLastDays cX9_noLastDays 1 (some .boolean), Cond.methodLink RX9 224 yX9_isStopped, Cond.instanceMethod yX9_isStopped, Cond.selects RX9 yX9_isStopped yX9_isStopped, Cond.code yX9_isStopped cX9_isStopped 3 (some .boolean), Cond.methodLink RX9 293 yX2_isWithinLast, Cond.methodLink RX9 296 yX3_allows, Cond.instanceMethod yX3_allows, Cond.selects RX3 yX3_allows yX3_allows, Cond.code yX3_allows cX3_allows 3 (some .boolean), Cond.methodLink RL 122 yX10_stopped]
def wsL_law_r26 : List Cond := [Cond.instanceMethod yX10_stopped, Cond.selects RX10 yX10_stopped yX10_stopped, Cond.code yX10_stopped cX10_stopped 4 (some .int), Cond.methodLink RX10 166 yX10_isStopped, Cond.instanceMethod yX10_isStopped, Cond.selects RX10 yX10_isStopped yX10_isStopped, Cond.code yX10_isStopped cX10_isStopped 4 (some .boolean), Cond.methodLink RL 123 yX9_stop, Cond.instanceMethod yX9_stop, Cond.selects RX9 yX9_stop yX9_stop, Cond.code yX9_stop cX9_stop 4 (some .int), Cond.methodLink RL 126 yX10_stop, Cond.instanceMethod yX10_stop, Cond.selects RX10 yX10_stop yX10_stop, Cond.code yX10_stop cX10_stop 4 (some .int), Cond.methodLink RL 127 yX9_used, Cond.instanceMethod yX9_used, Cond.selects RX9 yX9_used yX9_used, Cond.code yX9_used cX9_used 3 (some .int), Cond.methodLink RL 130 yX10_used, Cond.instanceMethod yX10_used, Cond.selects RX10 yX10_used yX10_used, Cond.code yX10_used cX10_used 3 (some .int), Cond.methodLink RL 131 yX9_apply]
def wsL_law_r27 : List Cond := [Cond.instanceMethod yX9_apply, Cond.selects RX9 yX9_apply yX9_apply, Cond.code yX9_apply cX9_apply 3 (some .int), Cond.methodLink RL 134 yX10_apply, Cond.instanceMethod yX10_apply, Cond.selects RX10 yX10_apply yX10_apply, Cond.code yX10_apply cX10_apply 4 (some .int), Cond.methodLink RL 135 yX9_sheet, Cond.instanceMethod yX9_sheet, Cond.selects RX9 yX9_sheet yX9_sheet, Cond.code yX9_sheet cX9_sheet 3 (some .int), Cond.methodLink RX9 237 yX9_noSheet, Cond.static yX9_noSheet, Cond.code yX9_noSheet cX9_noSheet 1 (some .boolean), Cond.methodLink RX9 240 yX7_lay, Cond.instanceMethod yX7_lay, Cond.selects RX7 yX7_lay yX7_lay, Cond.code yX7_lay cX7_lay 4 (some .int), Cond.methodLink RL 138 yX10_sheet, Cond.instanceMethod yX10_sheet, Cond.selects RX10 yX10_sheet yX10_sheet, Cond.code yX10_sheet cX10_sheet 4 (some .int), Cond.methodLink RX10 169 yX10_isSheet, Cond.static yX10_isSheet]
def wsL_law_r28 : List Cond := [Cond.code yX10_isSheet cX10_isSheet 1 (some .boolean), Cond.methodLink RL 139 yX9_save, Cond.instanceMethod yX9_save, Cond.selects RX9 yX9_save yX9_save, Cond.code yX9_save cX9_save 2 (some .int), Cond.methodLink RX9 243 yX7_isMissing, Cond.instanceMethod yX7_isMissing, Cond.selects RX7 yX7_isMissing yX7_isMissing, Cond.code yX7_isMissing cX7_isMissing 2 (some .boolean), Cond.methodLink RX9 246 yX7_write, Cond.instanceMethod yX7_write, Cond.selects RX7 yX7_write yX7_write, Cond.code yX7_write cX7_write 6 (some .int), Cond.methodLink RX7 18 Lib.Math.min.name, Cond.static Lib.Math.min.name, Cond.initialized "java/lang/Math", Cond.code Lib.Math.min.name Lib.Math.min.code 2 (some .int), Cond.methodLink RL 142 yX10_save, Cond.instanceMethod yX10_save, Cond.selects RX10 yX10_save yX10_save, Cond.code yX10_save cX10_save 4 (some .int), Cond.methodLink RL 143 yX9_load, Cond.instanceMethod yX9_load, Cond.selects RX9 yX9_load yX9_load]
def wsL_law_r29 : List Cond := [Cond.code yX9_load cX9_load 4 (some .int), Cond.methodLink RX9 253 yX7_at, Cond.instanceMethod yX7_at, Cond.selects RX7 yX7_at yX7_at, Cond.code yX7_at cX7_at 3 (some .int), Cond.methodLink RL 146 yX10_load, Cond.instanceMethod yX10_load, Cond.selects RX10 yX10_load yX10_load, Cond.code yX10_load cX10_load 5 (some .int), Cond.methodLink RL 147 yX9_tear, Cond.instanceMethod yX9_tear, Cond.selects RX9 yX9_tear yX9_tear, Cond.code yX9_tear cX9_tear 2 (some .int), Cond.methodLink RL 150 yX10_tear, Cond.instanceMethod yX10_tear, Cond.selects RX10 yX10_tear yX10_tear, Cond.code yX10_tear cX10_tear 2 (some .int), Cond.methodLink RL 151 yX9_copy, Cond.instanceMethod yX9_copy, Cond.selects RX9 yX9_copy yX9_copy, Cond.code yX9_copy cX9_copy 6 (some .int), Cond.methodLink RX9 256 yX7_spans, Cond.instanceMethod yX7_spans, Cond.selects RX7 yX7_spans yX7_spans]
def wsL_law_r30 : List Cond := [Cond.code yX7_spans cX7_spans 4 (some .boolean), Cond.methodLink RX9 259 yX7_move, Cond.instanceMethod yX7_move, Cond.selects RX7 yX7_move yX7_move, Cond.code yX7_move cX7_move 6 none, Cond.methodLink RX7 24 arraycopyName, Cond.native arraycopyName, Cond.static arraycopyName, Cond.initialized "java/lang/System", Cond.methodLink RL 155 yX10_copy, Cond.instanceMethod yX10_copy, Cond.selects RX10 yX10_copy yX10_copy, Cond.code yX10_copy cX10_copy 7 (some .int), Cond.methodLink RL 156 yX9_asked, Cond.instanceMethod yX9_asked, Cond.selects RX9 yX9_asked yX9_asked, Cond.code yX9_asked cX9_asked 1 (some .int), Cond.methodLink RL 159 yX10_asked, Cond.instanceMethod yX10_asked, Cond.selects RX10 yX10_asked yX10_asked, Cond.code yX10_asked cX10_asked 1 (some .int), Cond.methodLink RL 160 yX9_count, Cond.instanceMethod yX9_count, Cond.selects RX9 yX9_count yX9_count]
def wsL_law_r31 : List Cond := [Cond.code yX9_count cX9_count 2 (some .int), Cond.methodLink RX9 263 yX9_totalOf, Cond.methodLink RL 163 yX10_count, Cond.instanceMethod yX10_count, Cond.selects RX10 yX10_count yX10_count, Cond.code yX10_count cX10_count 4 (some .int), Cond.methodLink RL 164 yX9_finding, Cond.instanceMethod yX9_finding, Cond.selects RX9 yX9_finding yX9_finding, Cond.code yX9_finding cX9_finding 1 (some .int), Cond.methodLink RL 167 yX10_finding, Cond.instanceMethod yX10_finding, Cond.selects RX10 yX10_finding yX10_finding, Cond.code yX10_finding cX10_finding 1 (some .int), Cond.methodLink RL 168 yX9_findings, Cond.instanceMethod yX9_findings, Cond.selects RX9 yX9_findings yX9_findings, Cond.code yX9_findings cX9_findings 2 (some .int), Cond.methodLink RL 171 yX10_findings, Cond.instanceMethod yX10_findings, Cond.selects RX10 yX10_findings yX10_findings, Cond.code yX10_findings cX10_findings 2 (some .int), Cond.methodLink RL 172 yX9_digest, Cond.instanceMethod yX9_digest]
def wsL_law_r32 : List Cond := [Cond.selects RX9 yX9_digest yX9_digest, Cond.code yX9_digest cX9_digest 4 (some .long), Cond.constantLong RX9 275 (17), Cond.constantLong RX9 281 (31), Cond.methodLink RX9 277 yX9_digestOfPeople, Cond.instanceMethod yX9_digestOfPeople, Cond.selects RX9 yX9_digestOfPeople yX9_digestOfPeople, Cond.code yX9_digestOfPeople cX9_digestOfPeople 6 (some .long), Cond.methodLink RX9 283 yX9_digestOfSheets, Cond.instanceMethod yX9_digestOfSheets, Cond.selects RX9 yX9_digestOfSheets yX9_digestOfSheets, Cond.code yX9_digestOfSheets cX9_digestOfSheets 7 (some .long), Cond.methodLink RL 176 yX10_digest, Cond.instanceMethod yX10_digest, Cond.selects RX10 yX10_digest yX10_digest, Cond.code yX10_digest cX10_digest 5 (some .long), Cond.constantLong RX10 172 (17), Cond.constantLong RX10 174 (31)]
def wsL_law : List Cond := (wsL_law_r1 ++ (wsL_law_r2 ++ (wsL_law_r3 ++ (wsL_law_r4 ++ (wsL_law_r5 ++ (wsL_law_r6 ++ (wsL_law_r7 ++ (wsL_law_r8 ++ (wsL_law_r9 ++ (wsL_law_r10 ++ (wsL_law_r11 ++ (wsL_law_r12 ++ (wsL_law_r13 ++ (wsL_law_r14 ++ (wsL_law_r15 ++ (wsL_law_r16 ++ (wsL_law_r17 ++ (wsL_law_r18 ++ (wsL_law_r19 ++ (wsL_law_r20 ++ (wsL_law_r21 ++ (wsL_law_r22 ++ (wsL_law_r23 ++ (wsL_law_r24 ++ (wsL_law_r25 ++ (wsL_law_r26 ++ (wsL_law_r27 ++ (wsL_law_r28 ++ (wsL_law_r29 ++ (wsL_law_r30 ++ (wsL_law_r31 ++ wsL_law_r32))))))))))))))))))))))))))))))) ++ wsX90 ++ wsX100 ++ wsX20 ++ wsX50 ++ wsX80 ++ wsX10 ++ wsX60 ++ wsX00 ++ wsX30 ++ wsX70 ++ wsX40 ++ ([] : List Cond)
abbrev vwCl : List vw_C := [(RX0, TX0, 1), (RX1, TX1, 3), (RX2, TX2, 4), (RX3, TX3, 3), (RX4, TX4, 2), (RX5, TX5, 5), (RX6, TX6, 9), (RX7, TX7, 2), (RX8, TX8, 4), (RX9, TX9, 13), (RX10, TX10, 32)]
end
section
theorem dX0_init_0 : decode cX0_init 0 = .ok (.aload_n 0, 1) := by decide +kernel
theorem dX0_init_1 : decode cX0_init 1 = .ok (.invokespecial 3, 3) := by decide +kernel
theorem dX0_init_4 : decode cX0_init 4 = .ok (.aload_n 0, 1) := by decide +kernel
theorem dX0_init_5 : decode cX0_init 5 = .ok (.bipush 12, 2) := by decide +kernel
theorem dX0_init_7 : decode cX0_init 7 = .ok (.newarray .int, 2) := by decide +kernel
theorem dX0_init_9 : decode cX0_init 9 = .ok (.putfield 9, 3) := by decide +kernel
theorem dX0_init_12 : decode cX0_init 12 = .ok (.return_, 1) := by decide +kernel
theorem dX0_put_0 : decode cX0_put 0 = .ok (.aload_n 0, 1) := by decide +kernel
theorem dX0_put_1 : decode cX0_put 1 = .ok (.getfield 9, 3) := by decide +kernel
theorem dX0_put_4 : decode cX0_put 4 = .ok (.iload_n 1, 1) := by decide +kernel
theorem dX0_put_5 : decode cX0_put 5 = .ok (.iaload, 1) := by decide +kernel
theorem dX0_put_6 : decode cX0_put 6 = .ok (.iload_n 2, 1) := by decide +kernel
theorem dX0_put_7 : decode cX0_put 7 = .ok (.ishr, 1) := by decide +kernel
theorem dX0_put_8 : decode cX0_put 8 = .ok (.iconst 1, 1) := by decide +kernel
theorem dX0_put_9 : decode cX0_put 9 = .ok (.iand, 1) := by decide +kernel
theorem dX0_put_10 : decode cX0_put 10 = .ok (.istore 4, 2) := by decide +kernel
theorem dX0_put_12 : decode cX0_put 12 = .ok (.iload_n 3, 1) := by decide +kernel
theorem dX0_put_13 : decode cX0_put 13 = .ok (.ifCond .eq 30, 3) := by decide +kernel
theorem dX0_put_16 : decode cX0_put 16 = .ok (.aload_n 0, 1) := by decide +kernel
theorem dX0_put_17 : decode cX0_put 17 = .ok (.getfield 9, 3) := by decide +kernel
theorem dX0_put_20 : decode cX0_put 20 = .ok (.iload_n 1, 1) := by decide +kernel
theorem dX0_put_21 : decode cX0_put 21 = .ok (.dup2, 1) := by decide +kernel
theorem dX0_put_22 : decode cX0_put 22 = .ok (.iaload, 1) := by decide +kernel
theorem dX0_put_23 : decode cX0_put 23 = .ok (.iconst 1, 1) := by decide +kernel
theorem dX0_put_24 : decode cX0_put 24 = .ok (.iload_n 2, 1) := by decide +kernel
theorem dX0_put_25 : decode cX0_put 25 = .ok (.ishl, 1) := by decide +kernel
theorem dX0_put_26 : decode cX0_put 26 = .ok (.ior, 1) := by decide +kernel
theorem dX0_put_27 : decode cX0_put 27 = .ok (.iastore, 1) := by decide +kernel
theorem dX0_put_28 : decode cX0_put 28 = .ok (.aload_n 0, 1) := by decide +kernel
theorem dX0_put_29 : decode cX0_put 29 = .ok (.getfield 9, 3) := by decide +kernel
theorem dX0_put_32 : decode cX0_put 32 = .ok (.iload_n 2, 1) := by decide +kernel
theorem dX0_put_33 : decode cX0_put 33 = .ok (.dup2, 1) := by decide +kernel
theorem dX0_put_34 : decode cX0_put 34 = .ok (.iaload, 1) := by decide +kernel
theorem dX0_put_35 : decode cX0_put 35 = .ok (.iconst 1, 1) := by decide +kernel
theorem dX0_put_36 : decode cX0_put 36 = .ok (.iload_n 1, 1) := by decide +kernel
theorem dX0_put_37 : decode cX0_put 37 = .ok (.ishl, 1) := by decide +kernel
theorem dX0_put_38 : decode cX0_put 38 = .ok (.ior, 1) := by decide +kernel
theorem dX0_put_39 : decode cX0_put 39 = .ok (.iastore, 1) := by decide +kernel
theorem dX0_put_40 : decode cX0_put 40 = .ok (.goto 31, 3) := by decide +kernel
theorem dX0_put_43 : decode cX0_put 43 = .ok (.aload_n 0, 1) := by decide +kernel
theorem dX0_put_44 : decode cX0_put 44 = .ok (.getfield 9, 3) := by decide +kernel
theorem dX0_put_47 : decode cX0_put 47 = .ok (.iload_n 1, 1) := by decide +kernel
theorem dX0_put_48 : decode cX0_put 48 = .ok (.dup2, 1) := by decide +kernel
theorem dX0_put_49 : decode cX0_put 49 = .ok (.iaload, 1) := by decide +kernel
theorem dX0_put_50 : decode cX0_put 50 = .ok (.iconst 1, 1) := by decide +kernel
theorem dX0_put_51 : decode cX0_put 51 = .ok (.iload_n 2, 1) := by decide +kernel
theorem dX0_put_52 : decode cX0_put 52 = .ok (.ishl, 1) := by decide +kernel
theorem dX0_put_53 : decode cX0_put 53 = .ok (.iconst (-1), 1) := by decide +kernel
theorem dX0_put_54 : decode cX0_put 54 = .ok (.ixor, 1) := by decide +kernel
theorem dX0_put_55 : decode cX0_put 55 = .ok (.iand, 1) := by decide +kernel
theorem dX0_put_56 : decode cX0_put 56 = .ok (.iastore, 1) := by decide +kernel
theorem dX0_put_57 : decode cX0_put 57 = .ok (.aload_n 0, 1) := by decide +kernel
theorem dX0_put_58 : decode cX0_put 58 = .ok (.getfield 9, 3) := by decide +kernel
theorem dX0_put_61 : decode cX0_put 61 = .ok (.iload_n 2, 1) := by decide +kernel
theorem dX0_put_62 : decode cX0_put 62 = .ok (.dup2, 1) := by decide +kernel
theorem dX0_put_63 : decode cX0_put 63 = .ok (.iaload, 1) := by decide +kernel
theorem dX0_put_64 : decode cX0_put 64 = .ok (.iconst 1, 1) := by decide +kernel
theorem dX0_put_65 : decode cX0_put 65 = .ok (.iload_n 1, 1) := by decide +kernel
theorem dX0_put_66 : decode cX0_put 66 = .ok (.ishl, 1) := by decide +kernel
theorem dX0_put_67 : decode cX0_put 67 = .ok (.iconst (-1), 1) := by decide +kernel
theorem dX0_put_68 : decode cX0_put 68 = .ok (.ixor, 1) := by decide +kernel
theorem dX0_put_69 : decode cX0_put 69 = .ok (.iand, 1) := by decide +kernel
theorem dX0_put_70 : decode cX0_put 70 = .ok (.iastore, 1) := by decide +kernel
theorem dX0_put_71 : decode cX0_put 71 = .ok (.iload 4, 2) := by decide +kernel
theorem dX0_put_73 : decode cX0_put 73 = .ok (.ireturn, 1) := by decide +kernel
theorem dX0_clashing_0 : decode cX0_clashing 0 = .ok (.iconst 0, 1) := by decide +kernel
theorem dX0_clashing_1 : decode cX0_clashing 1 = .ok (.istore_n 2, 1) := by decide +kernel
theorem dX0_clashing_2 : decode cX0_clashing 2 = .ok (.iconst 0, 1) := by decide +kernel
theorem dX0_clashing_3 : decode cX0_clashing 3 = .ok (.istore_n 3, 1) := by decide +kernel
theorem dX0_clashing_4 : decode cX0_clashing 4 = .ok (.iload_n 3, 1) := by decide +kernel
theorem dX0_clashing_5 : decode cX0_clashing 5 = .ok (.bipush 12, 2) := by decide +kernel
theorem dX0_clashing_7 : decode cX0_clashing 7 = .ok (.if_icmp .ge 34, 3) := by decide +kernel
theorem dX0_clashing_10 : decode cX0_clashing 10 = .ok (.iload_n 1, 1) := by decide +kernel
theorem dX0_clashing_11 : decode cX0_clashing 11 = .ok (.iconst 1, 1) := by decide +kernel
theorem dX0_clashing_12 : decode cX0_clashing 12 = .ok (.iload_n 3, 1) := by decide +kernel
theorem dX0_clashing_13 : decode cX0_clashing 13 = .ok (.ishl, 1) := by decide +kernel
theorem dX0_clashing_14 : decode cX0_clashing 14 = .ok (.iand, 1) := by decide +kernel
theorem dX0_clashing_15 : decode cX0_clashing 15 = .ok (.ifCond .eq 20, 3) := by decide +kernel
theorem dX0_clashing_18 : decode cX0_clashing 18 = .ok (.iload_n 1, 1) := by decide +kernel
theorem dX0_clashing_19 : decode cX0_clashing 19 = .ok (.aload_n 0, 1) := by decide +kernel
theorem dX0_clashing_20 : decode cX0_clashing 20 = .ok (.getfield 9, 3) := by decide +kernel
theorem dX0_clashing_23 : decode cX0_clashing 23 = .ok (.iload_n 3, 1) := by decide +kernel
theorem dX0_clashing_24 : decode cX0_clashing 24 = .ok (.iaload, 1) := by decide +kernel
theorem dX0_clashing_25 : decode cX0_clashing 25 = .ok (.iand, 1) := by decide +kernel
theorem dX0_clashing_26 : decode cX0_clashing 26 = .ok (.ifCond .eq 9, 3) := by decide +kernel
theorem dX0_clashing_29 : decode cX0_clashing 29 = .ok (.iload_n 2, 1) := by decide +kernel
theorem dX0_clashing_30 : decode cX0_clashing 30 = .ok (.iconst 1, 1) := by decide +kernel
theorem dX0_clashing_31 : decode cX0_clashing 31 = .ok (.iload_n 3, 1) := by decide +kernel
theorem dX0_clashing_32 : decode cX0_clashing 32 = .ok (.ishl, 1) := by decide +kernel
theorem dX0_clashing_33 : decode cX0_clashing 33 = .ok (.ior, 1) := by decide +kernel
theorem dX0_clashing_34 : decode cX0_clashing 34 = .ok (.istore_n 2, 1) := by decide +kernel
theorem dX0_clashing_35 : decode cX0_clashing 35 = .ok (.iinc 3 1, 3) := by decide +kernel
theorem dX0_clashing_38 : decode cX0_clashing 38 = .ok (.goto (-34), 3) := by decide +kernel
theorem dX0_clashing_41 : decode cX0_clashing 41 = .ok (.iload_n 2, 1) := by decide +kernel
theorem dX0_clashing_42 : decode cX0_clashing 42 = .ok (.ireturn, 1) := by decide +kernel
theorem dX1_init_0 : decode cX1_init 0 = .ok (.aload_n 0, 1) := by decide +kernel
theorem dX1_init_1 : decode cX1_init 1 = .ok (.invokespecial 3, 3) := by decide +kernel
theorem dX1_init_4 : decode cX1_init 4 = .ok (.aload_n 0, 1) := by decide +kernel
theorem dX1_init_5 : decode cX1_init 5 = .ok (.iconst 0, 1) := by decide +kernel
theorem dX1_init_6 : decode cX1_init 6 = .ok (.putfield 9, 3) := by decide +kernel
theorem dX1_init_9 : decode cX1_init 9 = .ok (.aload_n 0, 1) := by decide +kernel
theorem dX1_init_10 : decode cX1_init 10 = .ok (.sipush 1023, 3) := by decide +kernel
theorem dX1_init_13 : decode cX1_init 13 = .ok (.newarray .int, 2) := by decide +kernel
theorem dX1_init_15 : decode cX1_init 15 = .ok (.putfield 15, 3) := by decide +kernel
theorem dX1_init_18 : decode cX1_init 18 = .ok (.aload_n 0, 1) := by decide +kernel
theorem dX1_init_19 : decode cX1_init 19 = .ok (.bipush 64, 2) := by decide +kernel
theorem dX1_init_21 : decode cX1_init 21 = .ok (.newarray .long, 2) := by decide +kernel
theorem dX1_init_23 : decode cX1_init 23 = .ok (.putfield 19, 3) := by decide +kernel
theorem dX1_init_26 : decode cX1_init 26 = .ok (.return_, 1) := by decide +kernel
set_option maxRecDepth 20000 in
theorem ggX1_gather_X1_note : GoodIn wsX1_gather wsX1_note := goodIn_r _ [8, 2, 3, 1, 9, 10, 11, 7, 12, 17, 18, 19] (by decide +kernel) (by decide +kernel)
set_option maxRecDepth 20000 in
theorem gX1_gather_X1_note : GoodIn wsX1_gather (wsV RX1 23 RX1 yX1_note wsX1_note) := goodIn_app (goodIn_of _ (by decide +kernel)) ggX1_gather_X1_note
set_option maxRecDepth 20000 in
theorem ggX1_gather_X1_putInOrder : GoodIn wsX1_gather wsX1_putInOrder := goodIn_r _ [16, 2, 3, 9, 10, 11, 7, 12, 1, 17, 18, 19] (by decide +kernel) (by decide +kernel)
set_option maxRecDepth 20000 in
theorem gX1_gather_X1_putInOrder : GoodIn wsX1_gather (wsV RX1 27 RX1 yX1_putInOrder wsX1_putInOrder) := goodIn_app (goodIn_of _ (by decide +kernel)) ggX1_gather_X1_putInOrder
theorem dX1_gather_0 : decode cX1_gather 0 = .ok (.iconst 0, 1) := by decide +kernel
theorem dX1_gather_1 : decode cX1_gather 1 = .ok (.istore_n 3, 1) := by decide +kernel
theorem dX1_gather_2 : decode cX1_gather 2 = .ok (.iload_n 3, 1) := by decide +kernel
theorem dX1_gather_3 : decode cX1_gather 3 = .ok (.aload_n 0, 1) := by decide +kernel
theorem dX1_gather_4 : decode cX1_gather 4 = .ok (.getfield 19, 3) := by decide +kernel
theorem dX1_gather_7 : decode cX1_gather 7 = .ok (.arraylength, 1) := by decide +kernel
theorem dX1_gather_8 : decode cX1_gather 8 = .ok (.if_icmp .ge 16, 3) := by decide +kernel
theorem dX1_gather_11 : decode cX1_gather 11 = .ok (.aload_n 0, 1) := by decide +kernel
theorem dX1_gather_12 : decode cX1_gather 12 = .ok (.getfield 19, 3) := by decide +kernel
theorem dX1_gather_15 : decode cX1_gather 15 = .ok (.iload_n 3, 1) := by decide +kernel
theorem dX1_gather_16 : decode cX1_gather 16 = .ok (.lconst 0, 1) := by decide +kernel
theorem dX1_gather_17 : decode cX1_gather 17 = .ok (.lastore, 1) := by decide +kernel
theorem dX1_gather_18 : decode cX1_gather 18 = .ok (.iinc 3 1, 3) := by decide +kernel
theorem dX1_gather_21 : decode cX1_gather 21 = .ok (.goto (-19), 3) := by decide +kernel
theorem dX1_gather_24 : decode cX1_gather 24 = .ok (.aload_n 0, 1) := by decide +kernel
theorem dX1_gather_25 : decode cX1_gather 25 = .ok (.iconst 0, 1) := by decide +kernel
theorem dX1_gather_26 : decode cX1_gather 26 = .ok (.putfield 9, 3) := by decide +kernel
theorem dX1_gather_29 : decode cX1_gather 29 = .ok (.iconst 0, 1) := by decide +kernel
theorem dX1_gather_30 : decode cX1_gather 30 = .ok (.istore_n 3, 1) := by decide +kernel
theorem dX1_gather_31 : decode cX1_gather 31 = .ok (.iload_n 3, 1) := by decide +kernel
theorem dX1_gather_32 : decode cX1_gather 32 = .ok (.iload_n 2, 1) := by decide +kernel
theorem dX1_gather_33 : decode cX1_gather 33 = .ok (.if_icmp .ge 53, 3) := by decide +kernel
theorem dX1_gather_36 : decode cX1_gather 36 = .ok (.aload_n 0, 1) := by decide +kernel
theorem dX1_gather_37 : decode cX1_gather 37 = .ok (.getfield 9, 3) := by decide +kernel
theorem dX1_gather_40 : decode cX1_gather 40 = .ok (.istore 4, 2) := by decide +kernel
theorem dX1_gather_42 : decode cX1_gather 42 = .ok (.iconst 0, 1) := by decide +kernel
theorem dX1_gather_43 : decode cX1_gather 43 = .ok (.istore 5, 2) := by decide +kernel
theorem dX1_gather_45 : decode cX1_gather 45 = .ok (.iload 5, 2) := by decide +kernel
theorem dX1_gather_47 : decode cX1_gather 47 = .ok (.iload 4, 2) := by decide +kernel
theorem dX1_gather_49 : decode cX1_gather 49 = .ok (.if_icmp .ge 24, 3) := by decide +kernel
theorem dX1_gather_52 : decode cX1_gather 52 = .ok (.aload_n 0, 1) := by decide +kernel
theorem dX1_gather_53 : decode cX1_gather 53 = .ok (.aload_n 0, 1) := by decide +kernel
theorem dX1_gather_54 : decode cX1_gather 54 = .ok (.getfield 15, 3) := by decide +kernel
theorem dX1_gather_57 : decode cX1_gather 57 = .ok (.iload 5, 2) := by decide +kernel
theorem dX1_gather_59 : decode cX1_gather 59 = .ok (.iaload, 1) := by decide +kernel
theorem dX1_gather_60 : decode cX1_gather 60 = .ok (.aload_n 1, 1) := by decide +kernel
theorem dX1_gather_61 : decode cX1_gather 61 = .ok (.iload_n 3, 1) := by decide +kernel
theorem dX1_gather_62 : decode cX1_gather 62 = .ok (.iaload, 1) := by decide +kernel
theorem dX1_gather_63 : decode cX1_gather 63 = .ok (.iand, 1) := by decide +kernel
theorem dX1_gather_64 : decode cX1_gather 64 = .ok (.invokevirtual 23, 3) := by decide +kernel
theorem dX1_gather_67 : decode cX1_gather 67 = .ok (.iinc 5 1, 3) := by decide +kernel
theorem dX1_gather_70 : decode cX1_gather 70 = .ok (.goto (-25), 3) := by decide +kernel
theorem dX1_gather_73 : decode cX1_gather 73 = .ok (.aload_n 0, 1) := by decide +kernel
theorem dX1_gather_74 : decode cX1_gather 74 = .ok (.aload_n 1, 1) := by decide +kernel
theorem dX1_gather_75 : decode cX1_gather 75 = .ok (.iload_n 3, 1) := by decide +kernel
theorem dX1_gather_76 : decode cX1_gather 76 = .ok (.iaload, 1) := by decide +kernel
theorem dX1_gather_77 : decode cX1_gather 77 = .ok (.invokevirtual 23, 3) := by decide +kernel
theorem dX1_gather_80 : decode cX1_gather 80 = .ok (.iinc 3 1, 3) := by decide +kernel
theorem dX1_gather_83 : decode cX1_gather 83 = .ok (.goto (-52), 3) := by decide +kernel
theorem dX1_gather_86 : decode cX1_gather 86 = .ok (.aload_n 0, 1) := by decide +kernel
theorem dX1_gather_87 : decode cX1_gather 87 = .ok (.invokevirtual 27, 3) := by decide +kernel
theorem dX1_gather_90 : decode cX1_gather 90 = .ok (.return_, 1) := by decide +kernel
set_option maxRecDepth 20000 in
theorem ggX1_note_X1_isNoted : GoodIn wsX1_note wsX1_isNoted := goodIn_r _ [8, 3, 9, 10, 11] (by decide +kernel) (by decide +kernel)
set_option maxRecDepth 20000 in
theorem gX1_note_X1_isNoted : GoodIn wsX1_note (wsV RX1 30 RX1 yX1_isNoted wsX1_isNoted) := goodIn_app (goodIn_of _ (by decide +kernel)) ggX1_note_X1_isNoted
theorem dX1_note_0 : decode cX1_note 0 = .ok (.iload_n 1, 1) := by decide +kernel
theorem dX1_note_1 : decode cX1_note 1 = .ok (.ifCond .eq 23, 3) := by decide +kernel
theorem dX1_note_4 : decode cX1_note 4 = .ok (.aload_n 0, 1) := by decide +kernel
theorem dX1_note_5 : decode cX1_note 5 = .ok (.iload_n 1, 1) := by decide +kernel
theorem dX1_note_6 : decode cX1_note 6 = .ok (.invokevirtual 30, 3) := by decide +kernel
theorem dX1_note_9 : decode cX1_note 9 = .ok (.ifCond .ne 15, 3) := by decide +kernel
theorem dX1_note_12 : decode cX1_note 12 = .ok (.aload_n 0, 1) := by decide +kernel
theorem dX1_note_13 : decode cX1_note 13 = .ok (.getfield 9, 3) := by decide +kernel
theorem dX1_note_16 : decode cX1_note 16 = .ok (.aload_n 0, 1) := by decide +kernel
theorem dX1_note_17 : decode cX1_note 17 = .ok (.getfield 15, 3) := by decide +kernel
theorem dX1_note_20 : decode cX1_note 20 = .ok (.arraylength, 1) := by decide +kernel
theorem dX1_note_21 : decode cX1_note 21 = .ok (.if_icmp .lt 4, 3) := by decide +kernel
theorem dX1_note_24 : decode cX1_note 24 = .ok (.return_, 1) := by decide +kernel
theorem dX1_note_25 : decode cX1_note 25 = .ok (.aload_n 0, 1) := by decide +kernel
theorem dX1_note_26 : decode cX1_note 26 = .ok (.getfield 19, 3) := by decide +kernel
theorem dX1_note_29 : decode cX1_note 29 = .ok (.iload_n 1, 1) := by decide +kernel
theorem dX1_note_30 : decode cX1_note 30 = .ok (.bipush 64, 2) := by decide +kernel
theorem dX1_note_32 : decode cX1_note 32 = .ok (.idiv, 1) := by decide +kernel
theorem dX1_note_33 : decode cX1_note 33 = .ok (.dup2, 1) := by decide +kernel
theorem dX1_note_34 : decode cX1_note 34 = .ok (.laload, 1) := by decide +kernel
theorem dX1_note_35 : decode cX1_note 35 = .ok (.lconst 1, 1) := by decide +kernel
theorem dX1_note_36 : decode cX1_note 36 = .ok (.iload_n 1, 1) := by decide +kernel
theorem dX1_note_37 : decode cX1_note 37 = .ok (.bipush 64, 2) := by decide +kernel
theorem dX1_note_39 : decode cX1_note 39 = .ok (.irem, 1) := by decide +kernel
theorem dX1_note_40 : decode cX1_note 40 = .ok (.lshl, 1) := by decide +kernel
theorem dX1_note_41 : decode cX1_note 41 = .ok (.lor, 1) := by decide +kernel
theorem dX1_note_42 : decode cX1_note 42 = .ok (.lastore, 1) := by decide +kernel
theorem dX1_note_43 : decode cX1_note 43 = .ok (.aload_n 0, 1) := by decide +kernel
theorem dX1_note_44 : decode cX1_note 44 = .ok (.getfield 15, 3) := by decide +kernel
theorem dX1_note_47 : decode cX1_note 47 = .ok (.aload_n 0, 1) := by decide +kernel
theorem dX1_note_48 : decode cX1_note 48 = .ok (.getfield 9, 3) := by decide +kernel
theorem dX1_note_51 : decode cX1_note 51 = .ok (.iload_n 1, 1) := by decide +kernel
theorem dX1_note_52 : decode cX1_note 52 = .ok (.iastore, 1) := by decide +kernel
theorem dX1_note_53 : decode cX1_note 53 = .ok (.aload_n 0, 1) := by decide +kernel
theorem dX1_note_54 : decode cX1_note 54 = .ok (.dup, 1) := by decide +kernel
theorem dX1_note_55 : decode cX1_note 55 = .ok (.getfield 9, 3) := by decide +kernel
theorem dX1_note_58 : decode cX1_note 58 = .ok (.iconst 1, 1) := by decide +kernel
theorem dX1_note_59 : decode cX1_note 59 = .ok (.iadd, 1) := by decide +kernel
theorem dX1_note_60 : decode cX1_note 60 = .ok (.putfield 9, 3) := by decide +kernel
theorem dX1_note_63 : decode cX1_note 63 = .ok (.return_, 1) := by decide +kernel
theorem dX1_isNoted_0 : decode cX1_isNoted 0 = .ok (.aload_n 0, 1) := by decide +kernel
theorem dX1_isNoted_1 : decode cX1_isNoted 1 = .ok (.getfield 19, 3) := by decide +kernel
theorem dX1_isNoted_4 : decode cX1_isNoted 4 = .ok (.iload_n 1, 1) := by decide +kernel
theorem dX1_isNoted_5 : decode cX1_isNoted 5 = .ok (.bipush 64, 2) := by decide +kernel
theorem dX1_isNoted_7 : decode cX1_isNoted 7 = .ok (.idiv, 1) := by decide +kernel
theorem dX1_isNoted_8 : decode cX1_isNoted 8 = .ok (.laload, 1) := by decide +kernel
theorem dX1_isNoted_9 : decode cX1_isNoted 9 = .ok (.lconst 1, 1) := by decide +kernel
theorem dX1_isNoted_10 : decode cX1_isNoted 10 = .ok (.iload_n 1, 1) := by decide +kernel
theorem dX1_isNoted_11 : decode cX1_isNoted 11 = .ok (.bipush 64, 2) := by decide +kernel
theorem dX1_isNoted_13 : decode cX1_isNoted 13 = .ok (.irem, 1) := by decide +kernel
theorem dX1_isNoted_14 : decode cX1_isNoted 14 = .ok (.lshl, 1) := by decide +kernel
theorem dX1_isNoted_15 : decode cX1_isNoted 15 = .ok (.land, 1) := by decide +kernel
theorem dX1_isNoted_16 : decode cX1_isNoted 16 = .ok (.lconst 0, 1) := by decide +kernel
theorem dX1_isNoted_17 : decode cX1_isNoted 17 = .ok (.lcmp, 1) := by decide +kernel
theorem dX1_isNoted_18 : decode cX1_isNoted 18 = .ok (.ifCond .eq 7, 3) := by decide +kernel
theorem dX1_isNoted_21 : decode cX1_isNoted 21 = .ok (.iconst 1, 1) := by decide +kernel
theorem dX1_isNoted_22 : decode cX1_isNoted 22 = .ok (.goto 4, 3) := by decide +kernel
theorem dX1_isNoted_25 : decode cX1_isNoted 25 = .ok (.iconst 0, 1) := by decide +kernel
theorem dX1_isNoted_26 : decode cX1_isNoted 26 = .ok (.ireturn, 1) := by decide +kernel
set_option maxRecDepth 20000 in
theorem ggX1_putInOrder_X1_isNoted : GoodIn wsX1_putInOrder wsX1_isNoted := goodIn_r _ [7, 8, 9, 10, 11] (by decide +kernel) (by decide +kernel)
set_option maxRecDepth 20000 in
theorem gX1_putInOrder_X1_isNoted : GoodIn wsX1_putInOrder (wsV RX1 30 RX1 yX1_isNoted wsX1_isNoted) := goodIn_app (goodIn_of _ (by decide +kernel)) ggX1_putInOrder_X1_isNoted
theorem dX1_putInOrder_0 : decode cX1_putInOrder 0 = .ok (.iconst 0, 1) := by decide +kernel
theorem dX1_putInOrder_1 : decode cX1_putInOrder 1 = .ok (.istore_n 1, 1) := by decide +kernel
theorem dX1_putInOrder_2 : decode cX1_putInOrder 2 = .ok (.iconst 1, 1) := by decide +kernel
theorem dX1_putInOrder_3 : decode cX1_putInOrder 3 = .ok (.istore_n 2, 1) := by decide +kernel
theorem dX1_putInOrder_4 : decode cX1_putInOrder 4 = .ok (.iload_n 2, 1) := by decide +kernel
theorem dX1_putInOrder_5 : decode cX1_putInOrder 5 = .ok (.sipush 4096, 3) := by decide +kernel
theorem dX1_putInOrder_8 : decode cX1_putInOrder 8 = .ok (.if_icmp .ge 35, 3) := by decide +kernel
theorem dX1_putInOrder_11 : decode cX1_putInOrder 11 = .ok (.iload_n 1, 1) := by decide +kernel
theorem dX1_putInOrder_12 : decode cX1_putInOrder 12 = .ok (.aload_n 0, 1) := by decide +kernel
theorem dX1_putInOrder_13 : decode cX1_putInOrder 13 = .ok (.getfield 9, 3) := by decide +kernel
theorem dX1_putInOrder_16 : decode cX1_putInOrder 16 = .ok (.if_icmp .ge 27, 3) := by decide +kernel
theorem dX1_putInOrder_19 : decode cX1_putInOrder 19 = .ok (.aload_n 0, 1) := by decide +kernel
theorem dX1_putInOrder_20 : decode cX1_putInOrder 20 = .ok (.iload_n 2, 1) := by decide +kernel
theorem dX1_putInOrder_21 : decode cX1_putInOrder 21 = .ok (.invokevirtual 30, 3) := by decide +kernel
theorem dX1_putInOrder_24 : decode cX1_putInOrder 24 = .ok (.ifCond .eq 13, 3) := by decide +kernel
theorem dX1_putInOrder_27 : decode cX1_putInOrder 27 = .ok (.aload_n 0, 1) := by decide +kernel
theorem dX1_putInOrder_28 : decode cX1_putInOrder 28 = .ok (.getfield 15, 3) := by decide +kernel
theorem dX1_putInOrder_31 : decode cX1_putInOrder 31 = .ok (.iload_n 1, 1) := by decide +kernel
theorem dX1_putInOrder_32 : decode cX1_putInOrder 32 = .ok (.iload_n 2, 1) := by decide +kernel
theorem dX1_putInOrder_33 : decode cX1_putInOrder 33 = .ok (.iastore, 1) := by decide +kernel
theorem dX1_putInOrder_34 : decode cX1_putInOrder 34 = .ok (.iinc 1 1, 3) := by decide +kernel
theorem dX1_putInOrder_37 : decode cX1_putInOrder 37 = .ok (.iinc 2 1, 3) := by decide +kernel
theorem dX1_putInOrder_40 : decode cX1_putInOrder 40 = .ok (.goto (-36), 3) := by decide +kernel
theorem dX1_putInOrder_43 : decode cX1_putInOrder 43 = .ok (.return_, 1) := by decide +kernel
theorem dX2_init_0 : decode cX2_init 0 = .ok (.aload_n 0, 1) := by decide +kernel
theorem dX2_init_1 : decode cX2_init 1 = .ok (.invokespecial 1, 3) := by decide +kernel
theorem dX2_init_4 : decode cX2_init 4 = .ok (.aload_n 0, 1) := by decide +kernel
theorem dX2_init_5 : decode cX2_init 5 = .ok (.iconst 0, 1) := by decide +kernel
theorem dX2_init_6 : decode cX2_init 6 = .ok (.putfield 7, 3) := by decide +kernel
theorem dX2_init_9 : decode cX2_init 9 = .ok (.aload_n 0, 1) := by decide +kernel
theorem dX2_init_10 : decode cX2_init 10 = .ok (.bipush 30, 2) := by decide +kernel
theorem dX2_init_12 : decode cX2_init 12 = .ok (.putfield 13, 3) := by decide +kernel
theorem dX2_init_15 : decode cX2_init 15 = .ok (.aload_n 0, 1) := by decide +kernel
theorem dX2_init_16 : decode cX2_init 16 = .ok (.bipush 100, 2) := by decide +kernel
theorem dX2_init_18 : decode cX2_init 18 = .ok (.putfield 16, 3) := by decide +kernel
theorem dX2_init_21 : decode cX2_init 21 = .ok (.aload_n 0, 1) := by decide +kernel
theorem dX2_init_22 : decode cX2_init 22 = .ok (.bipush 60, 2) := by decide +kernel
theorem dX2_init_24 : decode cX2_init 24 = .ok (.putfield 19, 3) := by decide +kernel
theorem dX2_init_27 : decode cX2_init 27 = .ok (.return_, 1) := by decide +kernel
theorem dX2_isWithinLast_0 : decode cX2_isWithinLast 0 = .ok (.aload_n 0, 1) := by decide +kernel
theorem dX2_isWithinLast_1 : decode cX2_isWithinLast 1 = .ok (.getfield 7, 3) := by decide +kernel
theorem dX2_isWithinLast_4 : decode cX2_isWithinLast 4 = .ok (.iload_n 1, 1) := by decide +kernel
theorem dX2_isWithinLast_5 : decode cX2_isWithinLast 5 = .ok (.isub, 1) := by decide +kernel
theorem dX2_isWithinLast_6 : decode cX2_isWithinLast 6 = .ok (.iload_n 2, 1) := by decide +kernel
theorem dX2_isWithinLast_7 : decode cX2_isWithinLast 7 = .ok (.if_icmp .ge 7, 3) := by decide +kernel
theorem dX2_isWithinLast_10 : decode cX2_isWithinLast 10 = .ok (.iconst 1, 1) := by decide +kernel
theorem dX2_isWithinLast_11 : decode cX2_isWithinLast 11 = .ok (.goto 4, 3) := by decide +kernel
theorem dX2_isWithinLast_14 : decode cX2_isWithinLast 14 = .ok (.iconst 0, 1) := by decide +kernel
theorem dX2_isWithinLast_15 : decode cX2_isWithinLast 15 = .ok (.ireturn, 1) := by decide +kernel
theorem dX2_comesRound_0 : decode cX2_comesRound 0 = .ok (.aload_n 0, 1) := by decide +kernel
theorem dX2_comesRound_1 : decode cX2_comesRound 1 = .ok (.getfield 16, 3) := by decide +kernel
theorem dX2_comesRound_4 : decode cX2_comesRound 4 = .ok (.iconst 1, 1) := by decide +kernel
theorem dX2_comesRound_5 : decode cX2_comesRound 5 = .ok (.if_icmp .ge 5, 3) := by decide +kernel
theorem dX2_comesRound_8 : decode cX2_comesRound 8 = .ok (.iconst 0, 1) := by decide +kernel
theorem dX2_comesRound_9 : decode cX2_comesRound 9 = .ok (.ireturn, 1) := by decide +kernel
theorem dX2_comesRound_10 : decode cX2_comesRound 10 = .ok (.aload_n 0, 1) := by decide +kernel
theorem dX2_comesRound_11 : decode cX2_comesRound 11 = .ok (.getfield 7, 3) := by decide +kernel
theorem dX2_comesRound_14 : decode cX2_comesRound 14 = .ok (.iload_n 1, 1) := by decide +kernel
theorem dX2_comesRound_15 : decode cX2_comesRound 15 = .ok (.isub, 1) := by decide +kernel
theorem dX2_comesRound_16 : decode cX2_comesRound 16 = .ok (.istore_n 2, 1) := by decide +kernel
theorem dX2_comesRound_17 : decode cX2_comesRound 17 = .ok (.iload_n 2, 1) := by decide +kernel
theorem dX2_comesRound_18 : decode cX2_comesRound 18 = .ok (.aload_n 0, 1) := by decide +kernel
theorem dX2_comesRound_19 : decode cX2_comesRound 19 = .ok (.getfield 13, 3) := by decide +kernel
theorem dX2_comesRound_22 : decode cX2_comesRound 22 = .ok (.iadd, 1) := by decide +kernel
theorem dX2_comesRound_23 : decode cX2_comesRound 23 = .ok (.iconst 1, 1) := by decide +kernel
theorem dX2_comesRound_24 : decode cX2_comesRound 24 = .ok (.isub, 1) := by decide +kernel
theorem dX2_comesRound_25 : decode cX2_comesRound 25 = .ok (.istore_n 3, 1) := by decide +kernel
theorem dX2_comesRound_26 : decode cX2_comesRound 26 = .ok (.iload_n 3, 1) := by decide +kernel
theorem dX2_comesRound_27 : decode cX2_comesRound 27 = .ok (.aload_n 0, 1) := by decide +kernel
theorem dX2_comesRound_28 : decode cX2_comesRound 28 = .ok (.getfield 16, 3) := by decide +kernel
theorem dX2_comesRound_31 : decode cX2_comesRound 31 = .ok (.idiv, 1) := by decide +kernel
theorem dX2_comesRound_32 : decode cX2_comesRound 32 = .ok (.aload_n 0, 1) := by decide +kernel
theorem dX2_comesRound_33 : decode cX2_comesRound 33 = .ok (.getfield 16, 3) := by decide +kernel
theorem dX2_comesRound_36 : decode cX2_comesRound 36 = .ok (.imul, 1) := by decide +kernel
theorem dX2_comesRound_37 : decode cX2_comesRound 37 = .ok (.iload_n 2, 1) := by decide +kernel
theorem dX2_comesRound_38 : decode cX2_comesRound 38 = .ok (.if_icmp .lt 7, 3) := by decide +kernel
theorem dX2_comesRound_41 : decode cX2_comesRound 41 = .ok (.iconst 1, 1) := by decide +kernel
theorem dX2_comesRound_42 : decode cX2_comesRound 42 = .ok (.goto 4, 3) := by decide +kernel
theorem dX2_comesRound_45 : decode cX2_comesRound 45 = .ok (.iconst 0, 1) := by decide +kernel
theorem dX2_comesRound_46 : decode cX2_comesRound 46 = .ok (.ireturn, 1) := by decide +kernel
theorem dX2_isInGrace_0 : decode cX2_isInGrace 0 = .ok (.aload_n 0, 1) := by decide +kernel
theorem dX2_isInGrace_1 : decode cX2_isInGrace 1 = .ok (.getfield 7, 3) := by decide +kernel
theorem dX2_isInGrace_4 : decode cX2_isInGrace 4 = .ok (.iload_n 1, 1) := by decide +kernel
theorem dX2_isInGrace_5 : decode cX2_isInGrace 5 = .ok (.isub, 1) := by decide +kernel
theorem dX2_isInGrace_6 : decode cX2_isInGrace 6 = .ok (.aload_n 0, 1) := by decide +kernel
theorem dX2_isInGrace_7 : decode cX2_isInGrace 7 = .ok (.getfield 19, 3) := by decide +kernel
theorem dX2_isInGrace_10 : decode cX2_isInGrace 10 = .ok (.if_icmp .gt 7, 3) := by decide +kernel
theorem dX2_isInGrace_13 : decode cX2_isInGrace 13 = .ok (.iconst 1, 1) := by decide +kernel
theorem dX2_isInGrace_14 : decode cX2_isInGrace 14 = .ok (.goto 4, 3) := by decide +kernel
theorem dX2_isInGrace_17 : decode cX2_isInGrace 17 = .ok (.iconst 0, 1) := by decide +kernel
theorem dX2_isInGrace_18 : decode cX2_isInGrace 18 = .ok (.ireturn, 1) := by decide +kernel
theorem dX3_init_0 : decode cX3_init 0 = .ok (.aload_n 0, 1) := by decide +kernel
theorem dX3_init_1 : decode cX3_init 1 = .ok (.invokespecial 3, 3) := by decide +kernel
theorem dX3_init_4 : decode cX3_init 4 = .ok (.aload_n 0, 1) := by decide +kernel
theorem dX3_init_5 : decode cX3_init 5 = .ok (.iconst 0, 1) := by decide +kernel
theorem dX3_init_6 : decode cX3_init 6 = .ok (.putfield 9, 3) := by decide +kernel
theorem dX3_init_9 : decode cX3_init 9 = .ok (.aload_n 0, 1) := by decide +kernel
theorem dX3_init_10 : decode cX3_init 10 = .ok (.iconst 0, 1) := by decide +kernel
theorem dX3_init_11 : decode cX3_init 11 = .ok (.putfield 15, 3) := by decide +kernel
theorem dX3_init_14 : decode cX3_init 14 = .ok (.aload_n 0, 1) := by decide +kernel
theorem dX3_init_15 : decode cX3_init 15 = .ok (.bipush 10, 2) := by decide +kernel
theorem dX3_init_17 : decode cX3_init 17 = .ok (.newarray .int, 2) := by decide +kernel
theorem dX3_init_19 : decode cX3_init 19 = .ok (.putfield 19, 3) := by decide +kernel
theorem dX3_init_22 : decode cX3_init 22 = .ok (.return_, 1) := by decide +kernel
set_option maxRecDepth 20000 in
theorem ggX3_make_X9_totalOf : GoodIn wsX3_make wsX9_totalOf := goodIn_r _ [6, 7, 8, 9, 10, 11, 12, 13] (by decide +kernel) (by decide +kernel)
set_option maxRecDepth 20000 in
theorem gX3_make_X9_totalOf_n23 : GoodIn wsX3_make (wsX9_totalOf) := ggX3_make_X9_totalOf
theorem dX3_make_0 : decode cX3_make 0 = .ok (.aload_n 0, 1) := by decide +kernel
theorem dX3_make_1 : decode cX3_make 1 = .ok (.iconst 1, 1) := by decide +kernel
theorem dX3_make_2 : decode cX3_make 2 = .ok (.putfield 9, 3) := by decide +kernel
theorem dX3_make_5 : decode cX3_make 5 = .ok (.aload_n 0, 1) := by decide +kernel
theorem dX3_make_6 : decode cX3_make 6 = .ok (.iload_n 2, 1) := by decide +kernel
theorem dX3_make_7 : decode cX3_make 7 = .ok (.putfield 15, 3) := by decide +kernel
theorem dX3_make_10 : decode cX3_make 10 = .ok (.iconst 0, 1) := by decide +kernel
theorem dX3_make_11 : decode cX3_make 11 = .ok (.istore_n 3, 1) := by decide +kernel
theorem dX3_make_12 : decode cX3_make 12 = .ok (.iload_n 3, 1) := by decide +kernel
theorem dX3_make_13 : decode cX3_make 13 = .ok (.iload_n 2, 1) := by decide +kernel
theorem dX3_make_14 : decode cX3_make 14 = .ok (.if_icmp .ge 18, 3) := by decide +kernel
theorem dX3_make_17 : decode cX3_make 17 = .ok (.aload_n 0, 1) := by decide +kernel
theorem dX3_make_18 : decode cX3_make 18 = .ok (.getfield 19, 3) := by decide +kernel
theorem dX3_make_21 : decode cX3_make 21 = .ok (.iload_n 3, 1) := by decide +kernel
theorem dX3_make_22 : decode cX3_make 22 = .ok (.aload_n 1, 1) := by decide +kernel
theorem dX3_make_23 : decode cX3_make 23 = .ok (.iload_n 3, 1) := by decide +kernel
theorem dX3_make_24 : decode cX3_make 24 = .ok (.iaload, 1) := by decide +kernel
theorem dX3_make_25 : decode cX3_make 25 = .ok (.iastore, 1) := by decide +kernel
theorem dX3_make_26 : decode cX3_make 26 = .ok (.iinc 3 1, 3) := by decide +kernel
theorem dX3_make_29 : decode cX3_make 29 = .ok (.goto (-17), 3) := by decide +kernel
theorem dX3_make_32 : decode cX3_make 32 = .ok (.aload_n 0, 1) := by decide +kernel
theorem dX3_make_33 : decode cX3_make 33 = .ok (.getfield 19, 3) := by decide +kernel
theorem dX3_make_36 : decode cX3_make 36 = .ok (.aload_n 0, 1) := by decide +kernel
theorem dX3_make_37 : decode cX3_make 37 = .ok (.getfield 15, 3) := by decide +kernel
theorem dX3_make_40 : decode cX3_make 40 = .ok (.invokestatic 23, 3) := by decide +kernel
theorem dX3_make_43 : decode cX3_make 43 = .ok (.ireturn, 1) := by decide +kernel
theorem dX3_drop_0 : decode cX3_drop 0 = .ok (.aload_n 0, 1) := by decide +kernel
theorem dX3_drop_1 : decode cX3_drop 1 = .ok (.getfield 19, 3) := by decide +kernel
theorem dX3_drop_4 : decode cX3_drop 4 = .ok (.iload_n 1, 1) := by decide +kernel
theorem dX3_drop_5 : decode cX3_drop 5 = .ok (.iaload, 1) := by decide +kernel
theorem dX3_drop_6 : decode cX3_drop 6 = .ok (.iload_n 2, 1) := by decide +kernel
theorem dX3_drop_7 : decode cX3_drop 7 = .ok (.ishr, 1) := by decide +kernel
theorem dX3_drop_8 : decode cX3_drop 8 = .ok (.iconst 1, 1) := by decide +kernel
theorem dX3_drop_9 : decode cX3_drop 9 = .ok (.iand, 1) := by decide +kernel
theorem dX3_drop_10 : decode cX3_drop 10 = .ok (.istore_n 3, 1) := by decide +kernel
theorem dX3_drop_11 : decode cX3_drop 11 = .ok (.aload_n 0, 1) := by decide +kernel
theorem dX3_drop_12 : decode cX3_drop 12 = .ok (.getfield 19, 3) := by decide +kernel
theorem dX3_drop_15 : decode cX3_drop 15 = .ok (.iload_n 1, 1) := by decide +kernel
theorem dX3_drop_16 : decode cX3_drop 16 = .ok (.dup2, 1) := by decide +kernel
theorem dX3_drop_17 : decode cX3_drop 17 = .ok (.iaload, 1) := by decide +kernel
theorem dX3_drop_18 : decode cX3_drop 18 = .ok (.iconst 1, 1) := by decide +kernel
theorem dX3_drop_19 : decode cX3_drop 19 = .ok (.iload_n 2, 1) := by decide +kernel
theorem dX3_drop_20 : decode cX3_drop 20 = .ok (.ishl, 1) := by decide +kernel
theorem dX3_drop_21 : decode cX3_drop 21 = .ok (.iconst (-1), 1) := by decide +kernel
theorem dX3_drop_22 : decode cX3_drop 22 = .ok (.ixor, 1) := by decide +kernel
theorem dX3_drop_23 : decode cX3_drop 23 = .ok (.iand, 1) := by decide +kernel
theorem dX3_drop_24 : decode cX3_drop 24 = .ok (.iastore, 1) := by decide +kernel
theorem dX3_drop_25 : decode cX3_drop 25 = .ok (.iload_n 3, 1) := by decide +kernel
theorem dX3_drop_26 : decode cX3_drop 26 = .ok (.ireturn, 1) := by decide +kernel
theorem dX3_allows_0 : decode cX3_allows 0 = .ok (.iload_n 1, 1) := by decide +kernel
theorem dX3_allows_1 : decode cX3_allows 1 = .ok (.aload_n 0, 1) := by decide +kernel
theorem dX3_allows_2 : decode cX3_allows 2 = .ok (.getfield 15, 3) := by decide +kernel
theorem dX3_allows_5 : decode cX3_allows 5 = .ok (.if_icmp .ge 20, 3) := by decide +kernel
theorem dX3_allows_8 : decode cX3_allows 8 = .ok (.aload_n 0, 1) := by decide +kernel
theorem dX3_allows_9 : decode cX3_allows 9 = .ok (.getfield 19, 3) := by decide +kernel
theorem dX3_allows_12 : decode cX3_allows 12 = .ok (.iload_n 1, 1) := by decide +kernel
theorem dX3_allows_13 : decode cX3_allows 13 = .ok (.iaload, 1) := by decide +kernel
theorem dX3_allows_14 : decode cX3_allows 14 = .ok (.iconst 1, 1) := by decide +kernel
theorem dX3_allows_15 : decode cX3_allows 15 = .ok (.iload_n 2, 1) := by decide +kernel
theorem dX3_allows_16 : decode cX3_allows 16 = .ok (.ishl, 1) := by decide +kernel
theorem dX3_allows_17 : decode cX3_allows 17 = .ok (.iand, 1) := by decide +kernel
theorem dX3_allows_18 : decode cX3_allows 18 = .ok (.ifCond .eq 7, 3) := by decide +kernel
theorem dX3_allows_21 : decode cX3_allows 21 = .ok (.iconst 1, 1) := by decide +kernel
theorem dX3_allows_22 : decode cX3_allows 22 = .ok (.goto 4, 3) := by decide +kernel
theorem dX3_allows_25 : decode cX3_allows 25 = .ok (.iconst 0, 1) := by decide +kernel
theorem dX3_allows_26 : decode cX3_allows 26 = .ok (.ireturn, 1) := by decide +kernel
theorem dX4_init_0 : decode cX4_init 0 = .ok (.aload_n 0, 1) := by decide +kernel
theorem dX4_init_1 : decode cX4_init 1 = .ok (.invokespecial 3, 3) := by decide +kernel
theorem dX4_init_4 : decode cX4_init 4 = .ok (.aload_n 0, 1) := by decide +kernel
theorem dX4_init_5 : decode cX4_init 5 = .ok (.iconst 0, 1) := by decide +kernel
theorem dX4_init_6 : decode cX4_init 6 = .ok (.putfield 9, 3) := by decide +kernel
theorem dX4_init_9 : decode cX4_init 9 = .ok (.aload_n 0, 1) := by decide +kernel
theorem dX4_init_10 : decode cX4_init 10 = .ok (.iconst 5, 1) := by decide +kernel
theorem dX4_init_11 : decode cX4_init 11 = .ok (.newarray .int, 2) := by decide +kernel
theorem dX4_init_13 : decode cX4_init 13 = .ok (.putfield 15, 3) := by decide +kernel
theorem dX4_init_16 : decode cX4_init 16 = .ok (.return_, 1) := by decide +kernel
theorem dX4_answer_0 : decode cX4_answer 0 = .ok (.aload_n 0, 1) := by decide +kernel
theorem dX4_answer_1 : decode cX4_answer 1 = .ok (.iload_n 1, 1) := by decide +kernel
theorem dX4_answer_2 : decode cX4_answer 2 = .ok (.putfield 9, 3) := by decide +kernel
theorem dX4_answer_5 : decode cX4_answer 5 = .ok (.aload_n 0, 1) := by decide +kernel
theorem dX4_answer_6 : decode cX4_answer 6 = .ok (.getfield 15, 3) := by decide +kernel
theorem dX4_answer_9 : decode cX4_answer 9 = .ok (.iload_n 1, 1) := by decide +kernel
theorem dX4_answer_10 : decode cX4_answer 10 = .ok (.dup2, 1) := by decide +kernel
theorem dX4_answer_11 : decode cX4_answer 11 = .ok (.iaload, 1) := by decide +kernel
theorem dX4_answer_12 : decode cX4_answer 12 = .ok (.iconst 1, 1) := by decide +kernel
theorem dX4_answer_13 : decode cX4_answer 13 = .ok (.iadd, 1) := by decide +kernel
theorem dX4_answer_14 : decode cX4_answer 14 = .ok (.iastore, 1) := by decide +kernel
theorem dX4_answer_15 : decode cX4_answer 15 = .ok (.bipush (-3), 2) := by decide +kernel
theorem dX4_answer_17 : decode cX4_answer 17 = .ok (.ireturn, 1) := by decide +kernel
theorem dX5_init_0 : decode cX5_init 0 = .ok (.aload_n 0, 1) := by decide +kernel
theorem dX5_init_1 : decode cX5_init 1 = .ok (.invokespecial 3, 3) := by decide +kernel
theorem dX5_init_4 : decode cX5_init 4 = .ok (.aload_n 0, 1) := by decide +kernel
theorem dX5_init_5 : decode cX5_init 5 = .ok (.iconst 0, 1) := by decide +kernel
theorem dX5_init_6 : decode cX5_init 6 = .ok (.putfield 9, 3) := by decide +kernel
theorem dX5_init_9 : decode cX5_init 9 = .ok (.aload_n 0, 1) := by decide +kernel
theorem dX5_init_10 : decode cX5_init 10 = .ok (.bipush 10, 2) := by decide +kernel
theorem dX5_init_12 : decode cX5_init 12 = .ok (.newarray .int, 2) := by decide +kernel
theorem dX5_init_14 : decode cX5_init 14 = .ok (.putfield 15, 3) := by decide +kernel
theorem dX5_init_17 : decode cX5_init 17 = .ok (.aload_n 0, 1) := by decide +kernel
theorem dX5_init_18 : decode cX5_init 18 = .ok (.bipush 10, 2) := by decide +kernel
theorem dX5_init_20 : decode cX5_init 20 = .ok (.newarray .int, 2) := by decide +kernel
theorem dX5_init_22 : decode cX5_init 22 = .ok (.putfield 19, 3) := by decide +kernel
theorem dX5_init_25 : decode cX5_init 25 = .ok (.aload_n 0, 1) := by decide +kernel
theorem dX5_init_26 : decode cX5_init 26 = .ok (.bipush 10, 2) := by decide +kernel
theorem dX5_init_28 : decode cX5_init 28 = .ok (.newarray .int, 2) := by decide +kernel
theorem dX5_init_30 : decode cX5_init 30 = .ok (.putfield 22, 3) := by decide +kernel
theorem dX5_init_33 : decode cX5_init 33 = .ok (.aload_n 0, 1) := by decide +kernel
theorem dX5_init_34 : decode cX5_init 34 = .ok (.bipush 120, 2) := by decide +kernel
theorem dX5_init_36 : decode cX5_init 36 = .ok (.newarray .int, 2) := by decide +kernel
theorem dX5_init_38 : decode cX5_init 38 = .ok (.putfield 25, 3) := by decide +kernel
theorem dX5_init_41 : decode cX5_init 41 = .ok (.return_, 1) := by decide +kernel
theorem dX5_join_0 : decode cX5_join 0 = .ok (.aload_n 0, 1) := by decide +kernel
theorem dX5_join_1 : decode cX5_join 1 = .ok (.getfield 15, 3) := by decide +kernel
theorem dX5_join_4 : decode cX5_join 4 = .ok (.aload_n 0, 1) := by decide +kernel
theorem dX5_join_5 : decode cX5_join 5 = .ok (.getfield 9, 3) := by decide +kernel
theorem dX5_join_8 : decode cX5_join 8 = .ok (.iload_n 1, 1) := by decide +kernel
theorem dX5_join_9 : decode cX5_join 9 = .ok (.iastore, 1) := by decide +kernel
theorem dX5_join_10 : decode cX5_join 10 = .ok (.aload_n 0, 1) := by decide +kernel
theorem dX5_join_11 : decode cX5_join 11 = .ok (.getfield 19, 3) := by decide +kernel
theorem dX5_join_14 : decode cX5_join 14 = .ok (.aload_n 0, 1) := by decide +kernel
theorem dX5_join_15 : decode cX5_join 15 = .ok (.getfield 9, 3) := by decide +kernel
theorem dX5_join_18 : decode cX5_join 18 = .ok (.iload_n 2, 1) := by decide +kernel
theorem dX5_join_19 : decode cX5_join 19 = .ok (.iastore, 1) := by decide +kernel
theorem dX5_join_20 : decode cX5_join 20 = .ok (.aload_n 0, 1) := by decide +kernel
theorem dX5_join_21 : decode cX5_join 21 = .ok (.dup, 1) := by decide +kernel
theorem dX5_join_22 : decode cX5_join 22 = .ok (.getfield 9, 3) := by decide +kernel
theorem dX5_join_25 : decode cX5_join 25 = .ok (.iconst 1, 1) := by decide +kernel
theorem dX5_join_26 : decode cX5_join 26 = .ok (.iadd, 1) := by decide +kernel
theorem dX5_join_27 : decode cX5_join 27 = .ok (.putfield 9, 3) := by decide +kernel
theorem dX5_join_30 : decode cX5_join 30 = .ok (.aload_n 0, 1) := by decide +kernel
theorem dX5_join_31 : decode cX5_join 31 = .ok (.getfield 9, 3) := by decide +kernel
theorem dX5_join_34 : decode cX5_join 34 = .ok (.iconst 1, 1) := by decide +kernel
theorem dX5_join_35 : decode cX5_join 35 = .ok (.isub, 1) := by decide +kernel
theorem dX5_join_36 : decode cX5_join 36 = .ok (.ireturn, 1) := by decide +kernel
theorem dX5_has_0 : decode cX5_has 0 = .ok (.aload_n 0, 1) := by decide +kernel
theorem dX5_has_1 : decode cX5_has 1 = .ok (.getfield 19, 3) := by decide +kernel
theorem dX5_has_4 : decode cX5_has 4 = .ok (.iload_n 1, 1) := by decide +kernel
theorem dX5_has_5 : decode cX5_has 5 = .ok (.iaload, 1) := by decide +kernel
theorem dX5_has_6 : decode cX5_has 6 = .ok (.iconst 1, 1) := by decide +kernel
theorem dX5_has_7 : decode cX5_has 7 = .ok (.iload_n 2, 1) := by decide +kernel
theorem dX5_has_8 : decode cX5_has 8 = .ok (.ishl, 1) := by decide +kernel
theorem dX5_has_9 : decode cX5_has 9 = .ok (.iand, 1) := by decide +kernel
theorem dX5_has_10 : decode cX5_has 10 = .ok (.ifCond .eq 7, 3) := by decide +kernel
theorem dX5_has_13 : decode cX5_has 13 = .ok (.iconst 1, 1) := by decide +kernel
theorem dX5_has_14 : decode cX5_has 14 = .ok (.goto 4, 3) := by decide +kernel
theorem dX5_has_17 : decode cX5_has 17 = .ok (.iconst 0, 1) := by decide +kernel
theorem dX5_has_18 : decode cX5_has 18 = .ok (.ireturn, 1) := by decide +kernel
theorem dX5_remark_0 : decode cX5_remark 0 = .ok (.aload_n 0, 1) := by decide +kernel
theorem dX5_remark_1 : decode cX5_remark 1 = .ok (.getfield 15, 3) := by decide +kernel
theorem dX5_remark_4 : decode cX5_remark 4 = .ok (.iload_n 1, 1) := by decide +kernel
theorem dX5_remark_5 : decode cX5_remark 5 = .ok (.iaload, 1) := by decide +kernel
theorem dX5_remark_6 : decode cX5_remark 6 = .ok (.istore_n 3, 1) := by decide +kernel
theorem dX5_remark_7 : decode cX5_remark 7 = .ok (.aload_n 0, 1) := by decide +kernel
theorem dX5_remark_8 : decode cX5_remark 8 = .ok (.getfield 15, 3) := by decide +kernel
theorem dX5_remark_11 : decode cX5_remark 11 = .ok (.iload_n 1, 1) := by decide +kernel
theorem dX5_remark_12 : decode cX5_remark 12 = .ok (.iload_n 2, 1) := by decide +kernel
theorem dX5_remark_13 : decode cX5_remark 13 = .ok (.iastore, 1) := by decide +kernel
theorem dX5_remark_14 : decode cX5_remark 14 = .ok (.iload_n 3, 1) := by decide +kernel
theorem dX5_remark_15 : decode cX5_remark 15 = .ok (.ireturn, 1) := by decide +kernel
theorem dX5_give_0 : decode cX5_give 0 = .ok (.aload_n 0, 1) := by decide +kernel
theorem dX5_give_1 : decode cX5_give 1 = .ok (.getfield 19, 3) := by decide +kernel
theorem dX5_give_4 : decode cX5_give 4 = .ok (.iload_n 1, 1) := by decide +kernel
theorem dX5_give_5 : decode cX5_give 5 = .ok (.iaload, 1) := by decide +kernel
theorem dX5_give_6 : decode cX5_give 6 = .ok (.istore_n 3, 1) := by decide +kernel
theorem dX5_give_7 : decode cX5_give 7 = .ok (.aload_n 0, 1) := by decide +kernel
theorem dX5_give_8 : decode cX5_give 8 = .ok (.getfield 19, 3) := by decide +kernel
theorem dX5_give_11 : decode cX5_give 11 = .ok (.iload_n 1, 1) := by decide +kernel
theorem dX5_give_12 : decode cX5_give 12 = .ok (.iload_n 2, 1) := by decide +kernel
theorem dX5_give_13 : decode cX5_give 13 = .ok (.iastore, 1) := by decide +kernel
theorem dX5_give_14 : decode cX5_give 14 = .ok (.aload_n 0, 1) := by decide +kernel
theorem dX5_give_15 : decode cX5_give 15 = .ok (.getfield 22, 3) := by decide +kernel
theorem dX5_give_18 : decode cX5_give 18 = .ok (.iload_n 1, 1) := by decide +kernel
theorem dX5_give_19 : decode cX5_give 19 = .ok (.dup2, 1) := by decide +kernel
theorem dX5_give_20 : decode cX5_give 20 = .ok (.iaload, 1) := by decide +kernel
theorem dX5_give_21 : decode cX5_give 21 = .ok (.iload_n 2, 1) := by decide +kernel
theorem dX5_give_22 : decode cX5_give 22 = .ok (.iconst (-1), 1) := by decide +kernel
theorem dX5_give_23 : decode cX5_give 23 = .ok (.ixor, 1) := by decide +kernel
theorem dX5_give_24 : decode cX5_give 24 = .ok (.iand, 1) := by decide +kernel
theorem dX5_give_25 : decode cX5_give 25 = .ok (.iastore, 1) := by decide +kernel
theorem dX5_give_26 : decode cX5_give 26 = .ok (.iload_n 3, 1) := by decide +kernel
theorem dX5_give_27 : decode cX5_give 27 = .ok (.ireturn, 1) := by decide +kernel
set_option maxRecDepth 20000 in
theorem ggX5_strikeAllBut_J6_bitCount_0f7a4 : GoodIn wsX5_strikeAllBut wsJ6_bitCount_0f7a4 := goodIn_r _ [7, 8, 9, 10] (by decide +kernel) (by decide +kernel)
set_option maxRecDepth 20000 in
theorem gX5_strikeAllBut_J6_bitCount_0f7a4 : GoodIn wsX5_strikeAllBut (va_wsS RX5 28 yJ6_bitCount_0f7a4 wsJ6_bitCount_0f7a4) := goodIn_app (goodIn_of _ (by decide +kernel)) ggX5_strikeAllBut_J6_bitCount_0f7a4
theorem dX5_strikeAllBut_0 : decode cX5_strikeAllBut 0 = .ok (.aload_n 0, 1) := by decide +kernel
theorem dX5_strikeAllBut_1 : decode cX5_strikeAllBut 1 = .ok (.getfield 19, 3) := by decide +kernel
theorem dX5_strikeAllBut_4 : decode cX5_strikeAllBut 4 = .ok (.iload_n 1, 1) := by decide +kernel
theorem dX5_strikeAllBut_5 : decode cX5_strikeAllBut 5 = .ok (.iaload, 1) := by decide +kernel
theorem dX5_strikeAllBut_6 : decode cX5_strikeAllBut 6 = .ok (.iload_n 2, 1) := by decide +kernel
theorem dX5_strikeAllBut_7 : decode cX5_strikeAllBut 7 = .ok (.iconst (-1), 1) := by decide +kernel
theorem dX5_strikeAllBut_8 : decode cX5_strikeAllBut 8 = .ok (.ixor, 1) := by decide +kernel
theorem dX5_strikeAllBut_9 : decode cX5_strikeAllBut 9 = .ok (.iand, 1) := by decide +kernel
theorem dX5_strikeAllBut_10 : decode cX5_strikeAllBut 10 = .ok (.istore 4, 2) := by decide +kernel
theorem dX5_strikeAllBut_12 : decode cX5_strikeAllBut 12 = .ok (.aload_n 0, 1) := by decide +kernel
theorem dX5_strikeAllBut_13 : decode cX5_strikeAllBut 13 = .ok (.getfield 19, 3) := by decide +kernel
theorem dX5_strikeAllBut_16 : decode cX5_strikeAllBut 16 = .ok (.iload_n 1, 1) := by decide +kernel
theorem dX5_strikeAllBut_17 : decode cX5_strikeAllBut 17 = .ok (.dup2, 1) := by decide +kernel
theorem dX5_strikeAllBut_18 : decode cX5_strikeAllBut 18 = .ok (.iaload, 1) := by decide +kernel
theorem dX5_strikeAllBut_19 : decode cX5_strikeAllBut 19 = .ok (.iload_n 2, 1) := by decide +kernel
theorem dX5_strikeAllBut_20 : decode cX5_strikeAllBut 20 = .ok (.iand, 1) := by decide +kernel
theorem dX5_strikeAllBut_21 : decode cX5_strikeAllBut 21 = .ok (.iastore, 1) := by decide +kernel
theorem dX5_strikeAllBut_22 : decode cX5_strikeAllBut 22 = .ok (.aload_n 0, 1) := by decide +kernel
theorem dX5_strikeAllBut_23 : decode cX5_strikeAllBut 23 = .ok (.getfield 22, 3) := by decide +kernel
theorem dX5_strikeAllBut_26 : decode cX5_strikeAllBut 26 = .ok (.iload_n 1, 1) := by decide +kernel
theorem dX5_strikeAllBut_27 : decode cX5_strikeAllBut 27 = .ok (.dup2, 1) := by decide +kernel
theorem dX5_strikeAllBut_28 : decode cX5_strikeAllBut 28 = .ok (.iaload, 1) := by decide +kernel
theorem dX5_strikeAllBut_29 : decode cX5_strikeAllBut 29 = .ok (.iload 4, 2) := by decide +kernel
theorem dX5_strikeAllBut_31 : decode cX5_strikeAllBut 31 = .ok (.ior, 1) := by decide +kernel
theorem dX5_strikeAllBut_32 : decode cX5_strikeAllBut 32 = .ok (.iastore, 1) := by decide +kernel
theorem dX5_strikeAllBut_33 : decode cX5_strikeAllBut 33 = .ok (.iconst 0, 1) := by decide +kernel
theorem dX5_strikeAllBut_34 : decode cX5_strikeAllBut 34 = .ok (.istore 5, 2) := by decide +kernel
theorem dX5_strikeAllBut_36 : decode cX5_strikeAllBut 36 = .ok (.iload 5, 2) := by decide +kernel
theorem dX5_strikeAllBut_38 : decode cX5_strikeAllBut 38 = .ok (.bipush 12, 2) := by decide +kernel
theorem dX5_strikeAllBut_40 : decode cX5_strikeAllBut 40 = .ok (.if_icmp .ge 32, 3) := by decide +kernel
theorem dX5_strikeAllBut_43 : decode cX5_strikeAllBut 43 = .ok (.iload 4, 2) := by decide +kernel
theorem dX5_strikeAllBut_45 : decode cX5_strikeAllBut 45 = .ok (.iconst 1, 1) := by decide +kernel
theorem dX5_strikeAllBut_46 : decode cX5_strikeAllBut 46 = .ok (.iload 5, 2) := by decide +kernel
theorem dX5_strikeAllBut_48 : decode cX5_strikeAllBut 48 = .ok (.ishl, 1) := by decide +kernel
theorem dX5_strikeAllBut_49 : decode cX5_strikeAllBut 49 = .ok (.iand, 1) := by decide +kernel
theorem dX5_strikeAllBut_50 : decode cX5_strikeAllBut 50 = .ok (.ifCond .eq 16, 3) := by decide +kernel
theorem dX5_strikeAllBut_53 : decode cX5_strikeAllBut 53 = .ok (.aload_n 0, 1) := by decide +kernel
theorem dX5_strikeAllBut_54 : decode cX5_strikeAllBut 54 = .ok (.getfield 25, 3) := by decide +kernel
theorem dX5_strikeAllBut_57 : decode cX5_strikeAllBut 57 = .ok (.iload_n 1, 1) := by decide +kernel
theorem dX5_strikeAllBut_58 : decode cX5_strikeAllBut 58 = .ok (.bipush 12, 2) := by decide +kernel
theorem dX5_strikeAllBut_60 : decode cX5_strikeAllBut 60 = .ok (.imul, 1) := by decide +kernel
theorem dX5_strikeAllBut_61 : decode cX5_strikeAllBut 61 = .ok (.iload 5, 2) := by decide +kernel
theorem dX5_strikeAllBut_63 : decode cX5_strikeAllBut 63 = .ok (.iadd, 1) := by decide +kernel
theorem dX5_strikeAllBut_64 : decode cX5_strikeAllBut 64 = .ok (.iload_n 3, 1) := by decide +kernel
theorem dX5_strikeAllBut_65 : decode cX5_strikeAllBut 65 = .ok (.iastore, 1) := by decide +kernel
theorem dX5_strikeAllBut_66 : decode cX5_strikeAllBut 66 = .ok (.iinc 5 1, 3) := by decide +kernel
theorem dX5_strikeAllBut_69 : decode cX5_strikeAllBut 69 = .ok (.goto (-33), 3) := by decide +kernel
theorem dX5_strikeAllBut_72 : decode cX5_strikeAllBut 72 = .ok (.iload 4, 2) := by decide +kernel
theorem dX5_strikeAllBut_74 : decode cX5_strikeAllBut 74 = .ok (.invokestatic 28, 3) := by decide +kernel
theorem dX5_strikeAllBut_77 : decode cX5_strikeAllBut 77 = .ok (.ireturn, 1) := by decide +kernel
set_option maxRecDepth 20000 in
theorem ggX5_request_X2_isInGrace : GoodIn wsX5_request wsX2_isInGrace := goodIn_r _ [8, 9, 10, 21, 22, 23, 24] (by decide +kernel) (by decide +kernel)
set_option maxRecDepth 20000 in
theorem gX5_request_X2_isInGrace : GoodIn wsX5_request (wsV RX5 34 RX2 yX2_isInGrace wsX2_isInGrace) := goodIn_app (goodIn_of _ (by decide +kernel)) ggX5_request_X2_isInGrace
set_option maxRecDepth 20000 in
theorem ggX5_request_X5_give : GoodIn wsX5_request wsX5_give := goodIn_r _ [15, 1, 2, 16, 17, 18, 19, 20] (by decide +kernel) (by decide +kernel)
set_option maxRecDepth 20000 in
theorem gX5_request_X5_give : GoodIn wsX5_request (wsV RX5 40 RX5 yX5_give wsX5_give) := goodIn_app (goodIn_of _ (by decide +kernel)) ggX5_request_X5_give
theorem dX5_request_0 : decode cX5_request 0 = .ok (.iconst 1, 1) := by decide +kernel
theorem dX5_request_1 : decode cX5_request 1 = .ok (.iload_n 2, 1) := by decide +kernel
theorem dX5_request_2 : decode cX5_request 2 = .ok (.ishl, 1) := by decide +kernel
theorem dX5_request_3 : decode cX5_request 3 = .ok (.istore 4, 2) := by decide +kernel
theorem dX5_request_5 : decode cX5_request 5 = .ok (.aload_n 0, 1) := by decide +kernel
theorem dX5_request_6 : decode cX5_request 6 = .ok (.getfield 19, 3) := by decide +kernel
theorem dX5_request_9 : decode cX5_request 9 = .ok (.iload_n 1, 1) := by decide +kernel
theorem dX5_request_10 : decode cX5_request 10 = .ok (.iaload, 1) := by decide +kernel
theorem dX5_request_11 : decode cX5_request 11 = .ok (.iload 4, 2) := by decide +kernel
theorem dX5_request_13 : decode cX5_request 13 = .ok (.iand, 1) := by decide +kernel
theorem dX5_request_14 : decode cX5_request 14 = .ok (.ifCond .eq 5, 3) := by decide +kernel
theorem dX5_request_17 : decode cX5_request 17 = .ok (.iconst 2, 1) := by decide +kernel
theorem dX5_request_18 : decode cX5_request 18 = .ok (.ireturn, 1) := by decide +kernel
theorem dX5_request_19 : decode cX5_request 19 = .ok (.aload_n 0, 1) := by decide +kernel
theorem dX5_request_20 : decode cX5_request 20 = .ok (.getfield 22, 3) := by decide +kernel
theorem dX5_request_23 : decode cX5_request 23 = .ok (.iload_n 1, 1) := by decide +kernel
theorem dX5_request_24 : decode cX5_request 24 = .ok (.iaload, 1) := by decide +kernel
theorem dX5_request_25 : decode cX5_request 25 = .ok (.iload 4, 2) := by decide +kernel
theorem dX5_request_27 : decode cX5_request 27 = .ok (.iand, 1) := by decide +kernel
theorem dX5_request_28 : decode cX5_request 28 = .ok (.ifCond .eq 21, 3) := by decide +kernel
theorem dX5_request_31 : decode cX5_request 31 = .ok (.aload_n 3, 1) := by decide +kernel
theorem dX5_request_32 : decode cX5_request 32 = .ok (.aload_n 0, 1) := by decide +kernel
theorem dX5_request_33 : decode cX5_request 33 = .ok (.getfield 25, 3) := by decide +kernel
theorem dX5_request_36 : decode cX5_request 36 = .ok (.iload_n 1, 1) := by decide +kernel
theorem dX5_request_37 : decode cX5_request 37 = .ok (.bipush 12, 2) := by decide +kernel
theorem dX5_request_39 : decode cX5_request 39 = .ok (.imul, 1) := by decide +kernel
theorem dX5_request_40 : decode cX5_request 40 = .ok (.iload_n 2, 1) := by decide +kernel
theorem dX5_request_41 : decode cX5_request 41 = .ok (.iadd, 1) := by decide +kernel
theorem dX5_request_42 : decode cX5_request 42 = .ok (.iaload, 1) := by decide +kernel
theorem dX5_request_43 : decode cX5_request 43 = .ok (.invokevirtual 34, 3) := by decide +kernel
theorem dX5_request_46 : decode cX5_request 46 = .ok (.ifCond .ne 5, 3) := by decide +kernel
theorem dX5_request_49 : decode cX5_request 49 = .ok (.iconst 0, 1) := by decide +kernel
theorem dX5_request_50 : decode cX5_request 50 = .ok (.ireturn, 1) := by decide +kernel
theorem dX5_request_51 : decode cX5_request 51 = .ok (.aload_n 0, 1) := by decide +kernel
theorem dX5_request_52 : decode cX5_request 52 = .ok (.iload_n 1, 1) := by decide +kernel
theorem dX5_request_53 : decode cX5_request 53 = .ok (.aload_n 0, 1) := by decide +kernel
theorem dX5_request_54 : decode cX5_request 54 = .ok (.getfield 19, 3) := by decide +kernel
theorem dX5_request_57 : decode cX5_request 57 = .ok (.iload_n 1, 1) := by decide +kernel
theorem dX5_request_58 : decode cX5_request 58 = .ok (.iaload, 1) := by decide +kernel
theorem dX5_request_59 : decode cX5_request 59 = .ok (.iload 4, 2) := by decide +kernel
theorem dX5_request_61 : decode cX5_request 61 = .ok (.ior, 1) := by decide +kernel
theorem dX5_request_62 : decode cX5_request 62 = .ok (.invokevirtual 40, 3) := by decide +kernel
theorem dX5_request_65 : decode cX5_request 65 = .ok (.pop, 1) := by decide +kernel
theorem dX5_request_66 : decode cX5_request 66 = .ok (.iconst 1, 1) := by decide +kernel
theorem dX5_request_67 : decode cX5_request 67 = .ok (.ireturn, 1) := by decide +kernel
set_option maxRecDepth 20000 in
theorem ggX5_mistold_X5_has : GoodIn wsX5_mistold wsX5_has := goodIn_r _ [7, 8, 9, 10, 11, 12, 13] (by decide +kernel) (by decide +kernel)
set_option maxRecDepth 20000 in
theorem gX5_mistold_X5_has : GoodIn wsX5_mistold (wsV RX5 44 RX5 yX5_has wsX5_has) := goodIn_app (goodIn_of _ (by decide +kernel)) ggX5_mistold_X5_has
theorem dX5_mistold_0 : decode cX5_mistold 0 = .ok (.iconst 0, 1) := by decide +kernel
theorem dX5_mistold_1 : decode cX5_mistold 1 = .ok (.istore_n 3, 1) := by decide +kernel
theorem dX5_mistold_2 : decode cX5_mistold 2 = .ok (.iconst 0, 1) := by decide +kernel
theorem dX5_mistold_3 : decode cX5_mistold 3 = .ok (.istore 4, 2) := by decide +kernel
theorem dX5_mistold_5 : decode cX5_mistold 5 = .ok (.iload 4, 2) := by decide +kernel
theorem dX5_mistold_7 : decode cX5_mistold 7 = .ok (.aload_n 0, 1) := by decide +kernel
theorem dX5_mistold_8 : decode cX5_mistold 8 = .ok (.getfield 9, 3) := by decide +kernel
theorem dX5_mistold_11 : decode cX5_mistold 11 = .ok (.if_icmp .ge 48, 3) := by decide +kernel
theorem dX5_mistold_14 : decode cX5_mistold 14 = .ok (.aload_n 0, 1) := by decide +kernel
theorem dX5_mistold_15 : decode cX5_mistold 15 = .ok (.getfield 15, 3) := by decide +kernel
theorem dX5_mistold_18 : decode cX5_mistold 18 = .ok (.iload 4, 2) := by decide +kernel
theorem dX5_mistold_20 : decode cX5_mistold 20 = .ok (.iaload, 1) := by decide +kernel
theorem dX5_mistold_21 : decode cX5_mistold 21 = .ok (.iload_n 2, 1) := by decide +kernel
theorem dX5_mistold_22 : decode cX5_mistold 22 = .ok (.iand, 1) := by decide +kernel
theorem dX5_mistold_23 : decode cX5_mistold 23 = .ok (.iload_n 2, 1) := by decide +kernel
theorem dX5_mistold_24 : decode cX5_mistold 24 = .ok (.if_icmp .ne 7, 3) := by decide +kernel
theorem dX5_mistold_27 : decode cX5_mistold 27 = .ok (.iconst 1, 1) := by decide +kernel
theorem dX5_mistold_28 : decode cX5_mistold 28 = .ok (.goto 4, 3) := by decide +kernel
theorem dX5_mistold_31 : decode cX5_mistold 31 = .ok (.iconst 0, 1) := by decide +kernel
theorem dX5_mistold_32 : decode cX5_mistold 32 = .ok (.istore 5, 2) := by decide +kernel
theorem dX5_mistold_34 : decode cX5_mistold 34 = .ok (.iload 5, 2) := by decide +kernel
theorem dX5_mistold_36 : decode cX5_mistold 36 = .ok (.aload_n 0, 1) := by decide +kernel
theorem dX5_mistold_37 : decode cX5_mistold 37 = .ok (.iload 4, 2) := by decide +kernel
theorem dX5_mistold_39 : decode cX5_mistold 39 = .ok (.iload_n 1, 1) := by decide +kernel
theorem dX5_mistold_40 : decode cX5_mistold 40 = .ok (.invokevirtual 44, 3) := by decide +kernel
theorem dX5_mistold_43 : decode cX5_mistold 43 = .ok (.if_icmp .eq 10, 3) := by decide +kernel
theorem dX5_mistold_46 : decode cX5_mistold 46 = .ok (.iload_n 3, 1) := by decide +kernel
theorem dX5_mistold_47 : decode cX5_mistold 47 = .ok (.iconst 1, 1) := by decide +kernel
theorem dX5_mistold_48 : decode cX5_mistold 48 = .ok (.iload 4, 2) := by decide +kernel
theorem dX5_mistold_50 : decode cX5_mistold 50 = .ok (.ishl, 1) := by decide +kernel
theorem dX5_mistold_51 : decode cX5_mistold 51 = .ok (.ior, 1) := by decide +kernel
theorem dX5_mistold_52 : decode cX5_mistold 52 = .ok (.istore_n 3, 1) := by decide +kernel
theorem dX5_mistold_53 : decode cX5_mistold 53 = .ok (.iinc 4 1, 3) := by decide +kernel
theorem dX5_mistold_56 : decode cX5_mistold 56 = .ok (.goto (-51), 3) := by decide +kernel
theorem dX5_mistold_59 : decode cX5_mistold 59 = .ok (.iload_n 3, 1) := by decide +kernel
theorem dX5_mistold_60 : decode cX5_mistold 60 = .ok (.ireturn, 1) := by decide +kernel
theorem dX6_init_0 : decode cX6_init 0 = .ok (.aload_n 0, 1) := by decide +kernel
theorem dX6_init_1 : decode cX6_init 1 = .ok (.invokespecial 5, 3) := by decide +kernel
theorem dX6_init_4 : decode cX6_init 4 = .ok (.aload_n 0, 1) := by decide +kernel
theorem dX6_init_5 : decode cX6_init 5 = .ok (.iconst 0, 1) := by decide +kernel
theorem dX6_init_6 : decode cX6_init 6 = .ok (.putfield 11, 3) := by decide +kernel
theorem dX6_init_9 : decode cX6_init 9 = .ok (.aload_n 0, 1) := by decide +kernel
theorem dX6_init_10 : decode cX6_init 10 = .ok (.iconst 0, 1) := by decide +kernel
theorem dX6_init_11 : decode cX6_init 11 = .ok (.putfield 15, 3) := by decide +kernel
theorem dX6_init_14 : decode cX6_init 14 = .ok (.aload_n 0, 1) := by decide +kernel
theorem dX6_init_15 : decode cX6_init 15 = .ok (.bipush 122, 2) := by decide +kernel
theorem dX6_init_17 : decode cX6_init 17 = .ok (.putfield 18, 3) := by decide +kernel
theorem dX6_init_20 : decode cX6_init 20 = .ok (.aload_n 0, 1) := by decide +kernel
theorem dX6_init_21 : decode cX6_init 21 = .ok (.bipush 120, 2) := by decide +kernel
theorem dX6_init_23 : decode cX6_init 23 = .ok (.newarray .int, 2) := by decide +kernel
theorem dX6_init_25 : decode cX6_init 25 = .ok (.putfield 21, 3) := by decide +kernel
theorem dX6_init_28 : decode cX6_init 28 = .ok (.aload_n 0, 1) := by decide +kernel
theorem dX6_init_29 : decode cX6_init 29 = .ok (.bipush 120, 2) := by decide +kernel
theorem dX6_init_31 : decode cX6_init 31 = .ok (.newarray .int, 2) := by decide +kernel
theorem dX6_init_33 : decode cX6_init 33 = .ok (.putfield 25, 3) := by decide +kernel
theorem dX6_init_36 : decode cX6_init 36 = .ok (.aload_n 0, 1) := by decide +kernel
theorem dX6_init_37 : decode cX6_init 37 = .ok (.bipush 121, 2) := by decide +kernel
theorem dX6_init_39 : decode cX6_init 39 = .ok (.newarray .int, 2) := by decide +kernel
theorem dX6_init_41 : decode cX6_init 41 = .ok (.putfield 28, 3) := by decide +kernel
theorem dX6_init_44 : decode cX6_init 44 = .ok (.aload_n 0, 1) := by decide +kernel
theorem dX6_init_45 : decode cX6_init 45 = .ok (.bipush 121, 2) := by decide +kernel
theorem dX6_init_47 : decode cX6_init 47 = .ok (.newarray .int, 2) := by decide +kernel
theorem dX6_init_49 : decode cX6_init 49 = .ok (.putfield 31, 3) := by decide +kernel
theorem dX6_init_52 : decode cX6_init 52 = .ok (.aload_n 0, 1) := by decide +kernel
theorem dX6_init_53 : decode cX6_init 53 = .ok (.bipush 121, 2) := by decide +kernel
theorem dX6_init_55 : decode cX6_init 55 = .ok (.newarray .int, 2) := by decide +kernel
theorem dX6_init_57 : decode cX6_init 57 = .ok (.putfield 34, 3) := by decide +kernel
theorem dX6_init_60 : decode cX6_init 60 = .ok (.aload_n 0, 1) := by decide +kernel
theorem dX6_init_61 : decode cX6_init 61 = .ok (.sipush 1210, 3) := by decide +kernel
theorem dX6_init_64 : decode cX6_init 64 = .ok (.newarray .int, 2) := by decide +kernel
theorem dX6_init_66 : decode cX6_init 66 = .ok (.putfield 37, 3) := by decide +kernel
theorem dX6_init_69 : decode cX6_init 69 = .ok (.return_, 1) := by decide +kernel
set_option maxRecDepth 20000 in
theorem ggX6_search_X6_begin : GoodIn wsX6_search wsX6_begin := goodIn_r _ [10, 5, 3, 1, 11, 32, 33, 34, 35, 36, 37, 38, 39, 40] (by decide +kernel) (by decide +kernel)
set_option maxRecDepth 20000 in
theorem gX6_search_X6_begin : GoodIn wsX6_search (wsV RX6 40 RX6 yX6_begin wsX6_begin) := goodIn_app (goodIn_of _ (by decide +kernel)) ggX6_search_X6_begin
set_option maxRecDepth 20000 in
theorem ggX6_search_X6_openPlace : GoodIn wsX6_search wsX6_openPlace := goodIn_r _ [15, 11, 16, 17, 18, 32, 33, 34, 35, 36, 37, 38, 39, 40] (by decide +kernel) (by decide +kernel)
set_option maxRecDepth 20000 in
theorem gX6_search_X6_openPlace : GoodIn wsX6_search (wsV RX6 43 RX6 yX6_openPlace wsX6_openPlace) := goodIn_app (goodIn_of _ (by decide +kernel)) ggX6_search_X6_openPlace
set_option maxRecDepth 20000 in
theorem ggX6_search_X6_nextOf : GoodIn wsX6_search wsX6_nextOf := goodIn_r _ [22, 18, 16, 17, 32, 33, 34, 35, 36, 37, 38, 39, 40, 41, 42, 43] (by decide +kernel) (by decide +kernel)
set_option maxRecDepth 20000 in
theorem gX6_search_X6_nextOf : GoodIn wsX6_search (wsV RX6 48 RX6 yX6_nextOf wsX6_nextOf) := goodIn_app (goodIn_of _ (by decide +kernel)) ggX6_search_X6_nextOf
set_option maxRecDepth 20000 in
theorem ggX6_search_X6_cover : GoodIn wsX6_search wsX6_cover := goodIn_r _ [26, 11, 32, 33, 34, 35, 36, 37, 38, 39, 40] (by decide +kernel) (by decide +kernel)
set_option maxRecDepth 20000 in
theorem gX6_search_X6_cover : GoodIn wsX6_search (wsV RX6 52 RX6 yX6_cover wsX6_cover) := goodIn_app (goodIn_of _ (by decide +kernel)) ggX6_search_X6_cover
set_option maxRecDepth 20000 in
theorem ggX6_search_X6_keepIfFewer : GoodIn wsX6_search wsX6_keepIfFewer := goodIn_r _ [30, 1, 31, 4, 32, 33, 34, 35, 36, 37, 38, 39, 40] (by decide +kernel) (by decide +kernel)
set_option maxRecDepth 20000 in
theorem gX6_search_X6_keepIfFewer : GoodIn wsX6_search (wsV RX6 56 RX6 yX6_keepIfFewer wsX6_keepIfFewer) := goodIn_app (goodIn_of _ (by decide +kernel)) ggX6_search_X6_keepIfFewer
theorem dX6_search_0 : decode cX6_search 0 = .ok (.aload_n 0, 1) := by decide +kernel
theorem dX6_search_1 : decode cX6_search 1 = .ok (.invokevirtual 40, 3) := by decide +kernel
theorem dX6_search_4 : decode cX6_search 4 = .ok (.aload_n 0, 1) := by decide +kernel
theorem dX6_search_5 : decode cX6_search 5 = .ok (.iconst 0, 1) := by decide +kernel
theorem dX6_search_6 : decode cX6_search 6 = .ok (.aload_n 1, 1) := by decide +kernel
theorem dX6_search_7 : decode cX6_search 7 = .ok (.iload_n 2, 1) := by decide +kernel
theorem dX6_search_8 : decode cX6_search 8 = .ok (.invokevirtual 43, 3) := by decide +kernel
theorem dX6_search_11 : decode cX6_search 11 = .ok (.ifCond .eq 7, 3) := by decide +kernel
theorem dX6_search_14 : decode cX6_search 14 = .ok (.iconst 0, 1) := by decide +kernel
theorem dX6_search_15 : decode cX6_search 15 = .ok (.goto 4, 3) := by decide +kernel
theorem dX6_search_18 : decode cX6_search 18 = .ok (.iconst (-1), 1) := by decide +kernel
theorem dX6_search_19 : decode cX6_search 19 = .ok (.istore 5, 2) := by decide +kernel
theorem dX6_search_21 : decode cX6_search 21 = .ok (.iload 5, 2) := by decide +kernel
theorem dX6_search_23 : decode cX6_search 23 = .ok (.ifCond .ge 8, 3) := by decide +kernel
theorem dX6_search_26 : decode cX6_search 26 = .ok (.aload_n 0, 1) := by decide +kernel
theorem dX6_search_27 : decode cX6_search 27 = .ok (.iconst 0, 1) := by decide +kernel
theorem dX6_search_28 : decode cX6_search 28 = .ok (.putfield 18, 3) := by decide +kernel
theorem dX6_search_31 : decode cX6_search 31 = .ok (.iconst 0, 1) := by decide +kernel
theorem dX6_search_32 : decode cX6_search 32 = .ok (.istore 6, 2) := by decide +kernel
theorem dX6_search_34 : decode cX6_search 34 = .ok (.iload 5, 2) := by decide +kernel
theorem dX6_search_36 : decode cX6_search 36 = .ok (.ifCond .lt 129, 3) := by decide +kernel
theorem dX6_search_39 : decode cX6_search 39 = .ok (.iload 6, 2) := by decide +kernel
theorem dX6_search_41 : decode cX6_search 41 = .ok (.ldc 47, 2) := by decide +kernel
theorem dX6_search_43 : decode cX6_search 43 = .ok (.if_icmp .ge 122, 3) := by decide +kernel
theorem dX6_search_46 : decode cX6_search 46 = .ok (.aload_n 0, 1) := by decide +kernel
theorem dX6_search_47 : decode cX6_search 47 = .ok (.iload 5, 2) := by decide +kernel
theorem dX6_search_49 : decode cX6_search 49 = .ok (.aload_n 3, 1) := by decide +kernel
theorem dX6_search_50 : decode cX6_search 50 = .ok (.invokevirtual 48, 3) := by decide +kernel
theorem dX6_search_53 : decode cX6_search 53 = .ok (.istore 7, 2) := by decide +kernel
theorem dX6_search_55 : decode cX6_search 55 = .ok (.iload 7, 2) := by decide +kernel
theorem dX6_search_57 : decode cX6_search 57 = .ok (.ifCond .ne 9, 3) := by decide +kernel
theorem dX6_search_60 : decode cX6_search 60 = .ok (.iinc 5 (-1), 3) := by decide +kernel
theorem dX6_search_63 : decode cX6_search 63 = .ok (.goto 96, 3) := by decide +kernel
theorem dX6_search_66 : decode cX6_search 66 = .ok (.aload_n 0, 1) := by decide +kernel
theorem dX6_search_67 : decode cX6_search 67 = .ok (.getfield 15, 3) := by decide +kernel
theorem dX6_search_70 : decode cX6_search 70 = .ok (.iload 4, 2) := by decide +kernel
theorem dX6_search_72 : decode cX6_search 72 = .ok (.if_icmp .lt 5, 3) := by decide +kernel
theorem dX6_search_75 : decode cX6_search 75 = .ok (.iconst 0, 1) := by decide +kernel
theorem dX6_search_76 : decode cX6_search 76 = .ok (.ireturn, 1) := by decide +kernel
theorem dX6_search_77 : decode cX6_search 77 = .ok (.aload_n 0, 1) := by decide +kernel
theorem dX6_search_78 : decode cX6_search 78 = .ok (.dup, 1) := by decide +kernel
theorem dX6_search_79 : decode cX6_search 79 = .ok (.getfield 15, 3) := by decide +kernel
theorem dX6_search_82 : decode cX6_search 82 = .ok (.iconst 1, 1) := by decide +kernel
theorem dX6_search_83 : decode cX6_search 83 = .ok (.iadd, 1) := by decide +kernel
theorem dX6_search_84 : decode cX6_search 84 = .ok (.putfield 15, 3) := by decide +kernel
theorem dX6_search_87 : decode cX6_search 87 = .ok (.aload_n 0, 1) := by decide +kernel
theorem dX6_search_88 : decode cX6_search 88 = .ok (.getfield 25, 3) := by decide +kernel
theorem dX6_search_91 : decode cX6_search 91 = .ok (.iload 5, 2) := by decide +kernel
theorem dX6_search_93 : decode cX6_search 93 = .ok (.iload 7, 2) := by decide +kernel
theorem dX6_search_95 : decode cX6_search 95 = .ok (.iastore, 1) := by decide +kernel
theorem dX6_search_96 : decode cX6_search 96 = .ok (.aload_n 0, 1) := by decide +kernel
theorem dX6_search_97 : decode cX6_search 97 = .ok (.iload 5, 2) := by decide +kernel
theorem dX6_search_99 : decode cX6_search 99 = .ok (.iload 7, 2) := by decide +kernel
theorem dX6_search_101 : decode cX6_search 101 = .ok (.aload_n 1, 1) := by decide +kernel
theorem dX6_search_102 : decode cX6_search 102 = .ok (.iload_n 2, 1) := by decide +kernel
theorem dX6_search_103 : decode cX6_search 103 = .ok (.invokevirtual 52, 3) := by decide +kernel
theorem dX6_search_106 : decode cX6_search 106 = .ok (.aload_n 0, 1) := by decide +kernel
theorem dX6_search_107 : decode cX6_search 107 = .ok (.iload 5, 2) := by decide +kernel
theorem dX6_search_109 : decode cX6_search 109 = .ok (.iconst 1, 1) := by decide +kernel
theorem dX6_search_110 : decode cX6_search 110 = .ok (.iadd, 1) := by decide +kernel
theorem dX6_search_111 : decode cX6_search 111 = .ok (.aload_n 1, 1) := by decide +kernel
theorem dX6_search_112 : decode cX6_search 112 = .ok (.iload_n 2, 1) := by decide +kernel
theorem dX6_search_113 : decode cX6_search 113 = .ok (.invokevirtual 43, 3) := by decide +kernel
theorem dX6_search_116 : decode cX6_search 116 = .ok (.istore 8, 2) := by decide +kernel
theorem dX6_search_118 : decode cX6_search 118 = .ok (.iload 8, 2) := by decide +kernel
theorem dX6_search_120 : decode cX6_search 120 = .ok (.ifCond .ne 11, 3) := by decide +kernel
theorem dX6_search_123 : decode cX6_search 123 = .ok (.aload_n 0, 1) := by decide +kernel
theorem dX6_search_124 : decode cX6_search 124 = .ok (.iload 5, 2) := by decide +kernel
theorem dX6_search_126 : decode cX6_search 126 = .ok (.iconst 1, 1) := by decide +kernel
theorem dX6_search_127 : decode cX6_search 127 = .ok (.iadd, 1) := by decide +kernel
theorem dX6_search_128 : decode cX6_search 128 = .ok (.invokevirtual 56, 3) := by decide +kernel
theorem dX6_search_131 : decode cX6_search 131 = .ok (.iload 8, 2) := by decide +kernel
theorem dX6_search_133 : decode cX6_search 133 = .ok (.ifCond .eq 26, 3) := by decide +kernel
theorem dX6_search_136 : decode cX6_search 136 = .ok (.iload 5, 2) := by decide +kernel
theorem dX6_search_138 : decode cX6_search 138 = .ok (.iconst 2, 1) := by decide +kernel
theorem dX6_search_139 : decode cX6_search 139 = .ok (.iadd, 1) := by decide +kernel
theorem dX6_search_140 : decode cX6_search 140 = .ok (.aload_n 0, 1) := by decide +kernel
theorem dX6_search_141 : decode cX6_search 141 = .ok (.getfield 18, 3) := by decide +kernel
theorem dX6_search_144 : decode cX6_search 144 = .ok (.if_icmp .ge 15, 3) := by decide +kernel
theorem dX6_search_147 : decode cX6_search 147 = .ok (.iload 5, 2) := by decide +kernel
theorem dX6_search_149 : decode cX6_search 149 = .ok (.iconst 1, 1) := by decide +kernel
theorem dX6_search_150 : decode cX6_search 150 = .ok (.iadd, 1) := by decide +kernel
theorem dX6_search_151 : decode cX6_search 151 = .ok (.bipush 120, 2) := by decide +kernel
theorem dX6_search_153 : decode cX6_search 153 = .ok (.if_icmp .ge 6, 3) := by decide +kernel
theorem dX6_search_156 : decode cX6_search 156 = .ok (.iinc 5 1, 3) := by decide +kernel
theorem dX6_search_159 : decode cX6_search 159 = .ok (.iinc 6 1, 3) := by decide +kernel
theorem dX6_search_162 : decode cX6_search 162 = .ok (.goto (-128), 3) := by decide +kernel
theorem dX6_search_165 : decode cX6_search 165 = .ok (.aload_n 0, 1) := by decide +kernel
theorem dX6_search_166 : decode cX6_search 166 = .ok (.aload_n 0, 1) := by decide +kernel
theorem dX6_search_167 : decode cX6_search 167 = .ok (.getfield 18, 3) := by decide +kernel
theorem dX6_search_170 : decode cX6_search 170 = .ok (.bipush 122, 2) := by decide +kernel
theorem dX6_search_172 : decode cX6_search 172 = .ok (.if_icmp .ge 10, 3) := by decide +kernel
theorem dX6_search_175 : decode cX6_search 175 = .ok (.aload_n 0, 1) := by decide +kernel
theorem dX6_search_176 : decode cX6_search 176 = .ok (.getfield 18, 3) := by decide +kernel
theorem dX6_search_179 : decode cX6_search 179 = .ok (.goto 4, 3) := by decide +kernel
theorem dX6_search_182 : decode cX6_search 182 = .ok (.iconst 0, 1) := by decide +kernel
theorem dX6_search_183 : decode cX6_search 183 = .ok (.putfield 11, 3) := by decide +kernel
theorem dX6_search_186 : decode cX6_search 186 = .ok (.iconst 1, 1) := by decide +kernel
theorem dX6_search_187 : decode cX6_search 187 = .ok (.ireturn, 1) := by decide +kernel
theorem dX6_rolesWithin_0 : decode cX6_rolesWithin 0 = .ok (.iconst 0, 1) := by decide +kernel
theorem dX6_rolesWithin_1 : decode cX6_rolesWithin 1 = .ok (.istore_n 2, 1) := by decide +kernel
theorem dX6_rolesWithin_2 : decode cX6_rolesWithin 2 = .ok (.iconst 0, 1) := by decide +kernel
theorem dX6_rolesWithin_3 : decode cX6_rolesWithin 3 = .ok (.istore_n 3, 1) := by decide +kernel
theorem dX6_rolesWithin_4 : decode cX6_rolesWithin 4 = .ok (.iload_n 3, 1) := by decide +kernel
theorem dX6_rolesWithin_5 : decode cX6_rolesWithin 5 = .ok (.aload_n 0, 1) := by decide +kernel
theorem dX6_rolesWithin_6 : decode cX6_rolesWithin 6 = .ok (.getfield 11, 3) := by decide +kernel
theorem dX6_rolesWithin_9 : decode cX6_rolesWithin 9 = .ok (.if_icmp .ge 28, 3) := by decide +kernel
theorem dX6_rolesWithin_12 : decode cX6_rolesWithin 12 = .ok (.aload_n 0, 1) := by decide +kernel
theorem dX6_rolesWithin_13 : decode cX6_rolesWithin 13 = .ok (.getfield 21, 3) := by decide +kernel
theorem dX6_rolesWithin_16 : decode cX6_rolesWithin 16 = .ok (.iload_n 3, 1) := by decide +kernel
theorem dX6_rolesWithin_17 : decode cX6_rolesWithin 17 = .ok (.iaload, 1) := by decide +kernel
theorem dX6_rolesWithin_18 : decode cX6_rolesWithin 18 = .ok (.iload_n 1, 1) := by decide +kernel
theorem dX6_rolesWithin_19 : decode cX6_rolesWithin 19 = .ok (.iconst (-1), 1) := by decide +kernel
theorem dX6_rolesWithin_20 : decode cX6_rolesWithin 20 = .ok (.ixor, 1) := by decide +kernel
theorem dX6_rolesWithin_21 : decode cX6_rolesWithin 21 = .ok (.iand, 1) := by decide +kernel
theorem dX6_rolesWithin_22 : decode cX6_rolesWithin 22 = .ok (.ifCond .ne 9, 3) := by decide +kernel
theorem dX6_rolesWithin_25 : decode cX6_rolesWithin 25 = .ok (.iload_n 2, 1) := by decide +kernel
theorem dX6_rolesWithin_26 : decode cX6_rolesWithin 26 = .ok (.iconst 1, 1) := by decide +kernel
theorem dX6_rolesWithin_27 : decode cX6_rolesWithin 27 = .ok (.iload_n 3, 1) := by decide +kernel
theorem dX6_rolesWithin_28 : decode cX6_rolesWithin 28 = .ok (.ishl, 1) := by decide +kernel
theorem dX6_rolesWithin_29 : decode cX6_rolesWithin 29 = .ok (.ior, 1) := by decide +kernel
theorem dX6_rolesWithin_30 : decode cX6_rolesWithin 30 = .ok (.istore_n 2, 1) := by decide +kernel
theorem dX6_rolesWithin_31 : decode cX6_rolesWithin 31 = .ok (.iinc 3 1, 3) := by decide +kernel
theorem dX6_rolesWithin_34 : decode cX6_rolesWithin 34 = .ok (.goto (-30), 3) := by decide +kernel
theorem dX6_rolesWithin_37 : decode cX6_rolesWithin 37 = .ok (.iload_n 2, 1) := by decide +kernel
theorem dX6_rolesWithin_38 : decode cX6_rolesWithin 38 = .ok (.ireturn, 1) := by decide +kernel
theorem dX6_begin_0 : decode cX6_begin 0 = .ok (.aload_n 0, 1) := by decide +kernel
theorem dX6_begin_1 : decode cX6_begin 1 = .ok (.iconst 0, 1) := by decide +kernel
theorem dX6_begin_2 : decode cX6_begin 2 = .ok (.putfield 11, 3) := by decide +kernel
theorem dX6_begin_5 : decode cX6_begin 5 = .ok (.aload_n 0, 1) := by decide +kernel
theorem dX6_begin_6 : decode cX6_begin 6 = .ok (.iconst 0, 1) := by decide +kernel
theorem dX6_begin_7 : decode cX6_begin 7 = .ok (.putfield 15, 3) := by decide +kernel
theorem dX6_begin_10 : decode cX6_begin 10 = .ok (.aload_n 0, 1) := by decide +kernel
theorem dX6_begin_11 : decode cX6_begin 11 = .ok (.bipush 122, 2) := by decide +kernel
theorem dX6_begin_13 : decode cX6_begin 13 = .ok (.putfield 18, 3) := by decide +kernel
theorem dX6_begin_16 : decode cX6_begin 16 = .ok (.iconst 0, 1) := by decide +kernel
theorem dX6_begin_17 : decode cX6_begin 17 = .ok (.istore_n 1, 1) := by decide +kernel
theorem dX6_begin_18 : decode cX6_begin 18 = .ok (.iload_n 1, 1) := by decide +kernel
theorem dX6_begin_19 : decode cX6_begin 19 = .ok (.bipush 10, 2) := by decide +kernel
theorem dX6_begin_21 : decode cX6_begin 21 = .ok (.if_icmp .ge 16, 3) := by decide +kernel
theorem dX6_begin_24 : decode cX6_begin 24 = .ok (.aload_n 0, 1) := by decide +kernel
theorem dX6_begin_25 : decode cX6_begin 25 = .ok (.getfield 37, 3) := by decide +kernel
theorem dX6_begin_28 : decode cX6_begin 28 = .ok (.iload_n 1, 1) := by decide +kernel
theorem dX6_begin_29 : decode cX6_begin 29 = .ok (.iconst 0, 1) := by decide +kernel
theorem dX6_begin_30 : decode cX6_begin 30 = .ok (.iastore, 1) := by decide +kernel
theorem dX6_begin_31 : decode cX6_begin 31 = .ok (.iinc 1 1, 3) := by decide +kernel
theorem dX6_begin_34 : decode cX6_begin 34 = .ok (.goto (-16), 3) := by decide +kernel
theorem dX6_begin_37 : decode cX6_begin 37 = .ok (.return_, 1) := by decide +kernel
theorem dX6_openPlace_0 : decode cX6_openPlace 0 = .ok (.iconst 0, 1) := by decide +kernel
theorem dX6_openPlace_1 : decode cX6_openPlace 1 = .ok (.istore 4, 2) := by decide +kernel
theorem dX6_openPlace_3 : decode cX6_openPlace 3 = .ok (.iload 4, 2) := by decide +kernel
theorem dX6_openPlace_5 : decode cX6_openPlace 5 = .ok (.iload_n 3, 1) := by decide +kernel
theorem dX6_openPlace_6 : decode cX6_openPlace 6 = .ok (.if_icmp .ge 66, 3) := by decide +kernel
theorem dX6_openPlace_9 : decode cX6_openPlace 9 = .ok (.aload_n 2, 1) := by decide +kernel
theorem dX6_openPlace_10 : decode cX6_openPlace 10 = .ok (.iload 4, 2) := by decide +kernel
theorem dX6_openPlace_12 : decode cX6_openPlace 12 = .ok (.iaload, 1) := by decide +kernel
theorem dX6_openPlace_13 : decode cX6_openPlace 13 = .ok (.aload_n 0, 1) := by decide +kernel
theorem dX6_openPlace_14 : decode cX6_openPlace 14 = .ok (.getfield 37, 3) := by decide +kernel
theorem dX6_openPlace_17 : decode cX6_openPlace 17 = .ok (.iload_n 1, 1) := by decide +kernel
theorem dX6_openPlace_18 : decode cX6_openPlace 18 = .ok (.bipush 10, 2) := by decide +kernel
theorem dX6_openPlace_20 : decode cX6_openPlace 20 = .ok (.imul, 1) := by decide +kernel
theorem dX6_openPlace_21 : decode cX6_openPlace 21 = .ok (.iload 4, 2) := by decide +kernel
theorem dX6_openPlace_23 : decode cX6_openPlace 23 = .ok (.iadd, 1) := by decide +kernel
theorem dX6_openPlace_24 : decode cX6_openPlace 24 = .ok (.iaload, 1) := by decide +kernel
theorem dX6_openPlace_25 : decode cX6_openPlace 25 = .ok (.iconst (-1), 1) := by decide +kernel
theorem dX6_openPlace_26 : decode cX6_openPlace 26 = .ok (.ixor, 1) := by decide +kernel
theorem dX6_openPlace_27 : decode cX6_openPlace 27 = .ok (.iand, 1) := by decide +kernel
theorem dX6_openPlace_28 : decode cX6_openPlace 28 = .ok (.istore 5, 2) := by decide +kernel
theorem dX6_openPlace_30 : decode cX6_openPlace 30 = .ok (.iload 5, 2) := by decide +kernel
theorem dX6_openPlace_32 : decode cX6_openPlace 32 = .ok (.ifCond .eq 34, 3) := by decide +kernel
theorem dX6_openPlace_35 : decode cX6_openPlace 35 = .ok (.aload_n 0, 1) := by decide +kernel
theorem dX6_openPlace_36 : decode cX6_openPlace 36 = .ok (.getfield 28, 3) := by decide +kernel
theorem dX6_openPlace_39 : decode cX6_openPlace 39 = .ok (.iload_n 1, 1) := by decide +kernel
theorem dX6_openPlace_40 : decode cX6_openPlace 40 = .ok (.aload_n 2, 1) := by decide +kernel
theorem dX6_openPlace_41 : decode cX6_openPlace 41 = .ok (.iload 4, 2) := by decide +kernel
theorem dX6_openPlace_43 : decode cX6_openPlace 43 = .ok (.iaload, 1) := by decide +kernel
theorem dX6_openPlace_44 : decode cX6_openPlace 44 = .ok (.iastore, 1) := by decide +kernel
theorem dX6_openPlace_45 : decode cX6_openPlace 45 = .ok (.aload_n 0, 1) := by decide +kernel
theorem dX6_openPlace_46 : decode cX6_openPlace 46 = .ok (.getfield 31, 3) := by decide +kernel
theorem dX6_openPlace_49 : decode cX6_openPlace 49 = .ok (.iload_n 1, 1) := by decide +kernel
theorem dX6_openPlace_50 : decode cX6_openPlace 50 = .ok (.iload 5, 2) := by decide +kernel
theorem dX6_openPlace_52 : decode cX6_openPlace 52 = .ok (.iload 5, 2) := by decide +kernel
theorem dX6_openPlace_54 : decode cX6_openPlace 54 = .ok (.ineg, 1) := by decide +kernel
theorem dX6_openPlace_55 : decode cX6_openPlace 55 = .ok (.iand, 1) := by decide +kernel
theorem dX6_openPlace_56 : decode cX6_openPlace 56 = .ok (.iastore, 1) := by decide +kernel
theorem dX6_openPlace_57 : decode cX6_openPlace 57 = .ok (.aload_n 0, 1) := by decide +kernel
theorem dX6_openPlace_58 : decode cX6_openPlace 58 = .ok (.getfield 34, 3) := by decide +kernel
theorem dX6_openPlace_61 : decode cX6_openPlace 61 = .ok (.iload_n 1, 1) := by decide +kernel
theorem dX6_openPlace_62 : decode cX6_openPlace 62 = .ok (.iconst 0, 1) := by decide +kernel
theorem dX6_openPlace_63 : decode cX6_openPlace 63 = .ok (.iastore, 1) := by decide +kernel
theorem dX6_openPlace_64 : decode cX6_openPlace 64 = .ok (.iconst 1, 1) := by decide +kernel
theorem dX6_openPlace_65 : decode cX6_openPlace 65 = .ok (.ireturn, 1) := by decide +kernel
theorem dX6_openPlace_66 : decode cX6_openPlace 66 = .ok (.iinc 4 1, 3) := by decide +kernel
theorem dX6_openPlace_69 : decode cX6_openPlace 69 = .ok (.goto (-66), 3) := by decide +kernel
theorem dX6_openPlace_72 : decode cX6_openPlace 72 = .ok (.iconst 0, 1) := by decide +kernel
theorem dX6_openPlace_73 : decode cX6_openPlace 73 = .ok (.ireturn, 1) := by decide +kernel
theorem dX6_nextOf_0 : decode cX6_nextOf 0 = .ok (.aload_n 0, 1) := by decide +kernel
theorem dX6_nextOf_1 : decode cX6_nextOf 1 = .ok (.getfield 34, 3) := by decide +kernel
theorem dX6_nextOf_4 : decode cX6_nextOf 4 = .ok (.iload_n 1, 1) := by decide +kernel
theorem dX6_nextOf_5 : decode cX6_nextOf 5 = .ok (.iaload, 1) := by decide +kernel
theorem dX6_nextOf_6 : decode cX6_nextOf 6 = .ok (.istore_n 3, 1) := by decide +kernel
theorem dX6_nextOf_7 : decode cX6_nextOf 7 = .ok (.iload_n 3, 1) := by decide +kernel
theorem dX6_nextOf_8 : decode cX6_nextOf 8 = .ok (.aload_n 2, 1) := by decide +kernel
theorem dX6_nextOf_9 : decode cX6_nextOf 9 = .ok (.getfield 60, 3) := by decide +kernel
theorem dX6_nextOf_12 : decode cX6_nextOf 12 = .ok (.if_icmp .ge 69, 3) := by decide +kernel
theorem dX6_nextOf_15 : decode cX6_nextOf 15 = .ok (.aload_n 2, 1) := by decide +kernel
theorem dX6_nextOf_16 : decode cX6_nextOf 16 = .ok (.getfield 63, 3) := by decide +kernel
theorem dX6_nextOf_19 : decode cX6_nextOf 19 = .ok (.iload_n 3, 1) := by decide +kernel
theorem dX6_nextOf_20 : decode cX6_nextOf 20 = .ok (.iaload, 1) := by decide +kernel
theorem dX6_nextOf_21 : decode cX6_nextOf 21 = .ok (.istore 4, 2) := by decide +kernel
theorem dX6_nextOf_23 : decode cX6_nextOf 23 = .ok (.iload 4, 2) := by decide +kernel
theorem dX6_nextOf_25 : decode cX6_nextOf 25 = .ok (.aload_n 0, 1) := by decide +kernel
theorem dX6_nextOf_26 : decode cX6_nextOf 26 = .ok (.getfield 28, 3) := by decide +kernel
theorem dX6_nextOf_29 : decode cX6_nextOf 29 = .ok (.iload_n 1, 1) := by decide +kernel
theorem dX6_nextOf_30 : decode cX6_nextOf 30 = .ok (.iaload, 1) := by decide +kernel
theorem dX6_nextOf_31 : decode cX6_nextOf 31 = .ok (.if_icmp .le 6, 3) := by decide +kernel
theorem dX6_nextOf_34 : decode cX6_nextOf 34 = .ok (.goto 47, 3) := by decide +kernel
theorem dX6_nextOf_37 : decode cX6_nextOf 37 = .ok (.iload 4, 2) := by decide +kernel
theorem dX6_nextOf_39 : decode cX6_nextOf 39 = .ok (.aload_n 0, 1) := by decide +kernel
theorem dX6_nextOf_40 : decode cX6_nextOf 40 = .ok (.getfield 31, 3) := by decide +kernel
theorem dX6_nextOf_43 : decode cX6_nextOf 43 = .ok (.iload_n 1, 1) := by decide +kernel
theorem dX6_nextOf_44 : decode cX6_nextOf 44 = .ok (.iaload, 1) := by decide +kernel
theorem dX6_nextOf_45 : decode cX6_nextOf 45 = .ok (.iand, 1) := by decide +kernel
theorem dX6_nextOf_46 : decode cX6_nextOf 46 = .ok (.ifCond .eq 29, 3) := by decide +kernel
theorem dX6_nextOf_49 : decode cX6_nextOf 49 = .ok (.iload 4, 2) := by decide +kernel
theorem dX6_nextOf_51 : decode cX6_nextOf 51 = .ok (.aload_n 0, 1) := by decide +kernel
theorem dX6_nextOf_52 : decode cX6_nextOf 52 = .ok (.getfield 28, 3) := by decide +kernel
theorem dX6_nextOf_55 : decode cX6_nextOf 55 = .ok (.iload_n 1, 1) := by decide +kernel
theorem dX6_nextOf_56 : decode cX6_nextOf 56 = .ok (.iaload, 1) := by decide +kernel
theorem dX6_nextOf_57 : decode cX6_nextOf 57 = .ok (.iconst (-1), 1) := by decide +kernel
theorem dX6_nextOf_58 : decode cX6_nextOf 58 = .ok (.ixor, 1) := by decide +kernel
theorem dX6_nextOf_59 : decode cX6_nextOf 59 = .ok (.iand, 1) := by decide +kernel
theorem dX6_nextOf_60 : decode cX6_nextOf 60 = .ok (.ifCond .ne 15, 3) := by decide +kernel
theorem dX6_nextOf_63 : decode cX6_nextOf 63 = .ok (.aload_n 0, 1) := by decide +kernel
theorem dX6_nextOf_64 : decode cX6_nextOf 64 = .ok (.getfield 34, 3) := by decide +kernel
theorem dX6_nextOf_67 : decode cX6_nextOf 67 = .ok (.iload_n 1, 1) := by decide +kernel
theorem dX6_nextOf_68 : decode cX6_nextOf 68 = .ok (.iload_n 3, 1) := by decide +kernel
theorem dX6_nextOf_69 : decode cX6_nextOf 69 = .ok (.iconst 1, 1) := by decide +kernel
theorem dX6_nextOf_70 : decode cX6_nextOf 70 = .ok (.iadd, 1) := by decide +kernel
theorem dX6_nextOf_71 : decode cX6_nextOf 71 = .ok (.iastore, 1) := by decide +kernel
theorem dX6_nextOf_72 : decode cX6_nextOf 72 = .ok (.iload 4, 2) := by decide +kernel
theorem dX6_nextOf_74 : decode cX6_nextOf 74 = .ok (.ireturn, 1) := by decide +kernel
theorem dX6_nextOf_75 : decode cX6_nextOf 75 = .ok (.iinc 3 1, 3) := by decide +kernel
theorem dX6_nextOf_78 : decode cX6_nextOf 78 = .ok (.goto (-71), 3) := by decide +kernel
theorem dX6_nextOf_81 : decode cX6_nextOf 81 = .ok (.aload_n 0, 1) := by decide +kernel
theorem dX6_nextOf_82 : decode cX6_nextOf 82 = .ok (.getfield 34, 3) := by decide +kernel
theorem dX6_nextOf_85 : decode cX6_nextOf 85 = .ok (.iload_n 1, 1) := by decide +kernel
theorem dX6_nextOf_86 : decode cX6_nextOf 86 = .ok (.aload_n 2, 1) := by decide +kernel
theorem dX6_nextOf_87 : decode cX6_nextOf 87 = .ok (.getfield 60, 3) := by decide +kernel
theorem dX6_nextOf_90 : decode cX6_nextOf 90 = .ok (.iastore, 1) := by decide +kernel
theorem dX6_nextOf_91 : decode cX6_nextOf 91 = .ok (.iconst 0, 1) := by decide +kernel
theorem dX6_nextOf_92 : decode cX6_nextOf 92 = .ok (.ireturn, 1) := by decide +kernel
theorem dX6_cover_0 : decode cX6_cover 0 = .ok (.iload_n 1, 1) := by decide +kernel
theorem dX6_cover_1 : decode cX6_cover 1 = .ok (.bipush 10, 2) := by decide +kernel
theorem dX6_cover_3 : decode cX6_cover 3 = .ok (.imul, 1) := by decide +kernel
theorem dX6_cover_4 : decode cX6_cover 4 = .ok (.istore 5, 2) := by decide +kernel
theorem dX6_cover_6 : decode cX6_cover 6 = .ok (.iconst 0, 1) := by decide +kernel
theorem dX6_cover_7 : decode cX6_cover 7 = .ok (.istore 6, 2) := by decide +kernel
theorem dX6_cover_9 : decode cX6_cover 9 = .ok (.iload 6, 2) := by decide +kernel
theorem dX6_cover_11 : decode cX6_cover 11 = .ok (.iload 4, 2) := by decide +kernel
theorem dX6_cover_13 : decode cX6_cover 13 = .ok (.if_icmp .ge 53, 3) := by decide +kernel
theorem dX6_cover_16 : decode cX6_cover 16 = .ok (.iload_n 2, 1) := by decide +kernel
theorem dX6_cover_17 : decode cX6_cover 17 = .ok (.aload_n 3, 1) := by decide +kernel
theorem dX6_cover_18 : decode cX6_cover 18 = .ok (.iload 6, 2) := by decide +kernel
theorem dX6_cover_20 : decode cX6_cover 20 = .ok (.iaload, 1) := by decide +kernel
theorem dX6_cover_21 : decode cX6_cover 21 = .ok (.iconst (-1), 1) := by decide +kernel
theorem dX6_cover_22 : decode cX6_cover 22 = .ok (.ixor, 1) := by decide +kernel
theorem dX6_cover_23 : decode cX6_cover 23 = .ok (.iand, 1) := by decide +kernel
theorem dX6_cover_24 : decode cX6_cover 24 = .ok (.ifCond .ne 7, 3) := by decide +kernel
theorem dX6_cover_27 : decode cX6_cover 27 = .ok (.iload_n 2, 1) := by decide +kernel
theorem dX6_cover_28 : decode cX6_cover 28 = .ok (.goto 4, 3) := by decide +kernel
theorem dX6_cover_31 : decode cX6_cover 31 = .ok (.iconst 0, 1) := by decide +kernel
theorem dX6_cover_32 : decode cX6_cover 32 = .ok (.istore 7, 2) := by decide +kernel
theorem dX6_cover_34 : decode cX6_cover 34 = .ok (.aload_n 0, 1) := by decide +kernel
theorem dX6_cover_35 : decode cX6_cover 35 = .ok (.getfield 37, 3) := by decide +kernel
theorem dX6_cover_38 : decode cX6_cover 38 = .ok (.iload 5, 2) := by decide +kernel
theorem dX6_cover_40 : decode cX6_cover 40 = .ok (.bipush 10, 2) := by decide +kernel
theorem dX6_cover_42 : decode cX6_cover 42 = .ok (.iadd, 1) := by decide +kernel
theorem dX6_cover_43 : decode cX6_cover 43 = .ok (.iload 6, 2) := by decide +kernel
theorem dX6_cover_45 : decode cX6_cover 45 = .ok (.iadd, 1) := by decide +kernel
theorem dX6_cover_46 : decode cX6_cover 46 = .ok (.aload_n 0, 1) := by decide +kernel
theorem dX6_cover_47 : decode cX6_cover 47 = .ok (.getfield 37, 3) := by decide +kernel
theorem dX6_cover_50 : decode cX6_cover 50 = .ok (.iload 5, 2) := by decide +kernel
theorem dX6_cover_52 : decode cX6_cover 52 = .ok (.iload 6, 2) := by decide +kernel
theorem dX6_cover_54 : decode cX6_cover 54 = .ok (.iadd, 1) := by decide +kernel
theorem dX6_cover_55 : decode cX6_cover 55 = .ok (.iaload, 1) := by decide +kernel
theorem dX6_cover_56 : decode cX6_cover 56 = .ok (.iload 7, 2) := by decide +kernel
theorem dX6_cover_58 : decode cX6_cover 58 = .ok (.ior, 1) := by decide +kernel
theorem dX6_cover_59 : decode cX6_cover 59 = .ok (.iastore, 1) := by decide +kernel
theorem dX6_cover_60 : decode cX6_cover 60 = .ok (.iinc 6 1, 3) := by decide +kernel
theorem dX6_cover_63 : decode cX6_cover 63 = .ok (.goto (-54), 3) := by decide +kernel
theorem dX6_cover_66 : decode cX6_cover 66 = .ok (.return_, 1) := by decide +kernel
theorem dX6_keepIfFewer_0 : decode cX6_keepIfFewer 0 = .ok (.iload_n 1, 1) := by decide +kernel
theorem dX6_keepIfFewer_1 : decode cX6_keepIfFewer 1 = .ok (.aload_n 0, 1) := by decide +kernel
theorem dX6_keepIfFewer_2 : decode cX6_keepIfFewer 2 = .ok (.getfield 18, 3) := by decide +kernel
theorem dX6_keepIfFewer_5 : decode cX6_keepIfFewer 5 = .ok (.if_icmp .lt 4, 3) := by decide +kernel
theorem dX6_keepIfFewer_8 : decode cX6_keepIfFewer 8 = .ok (.return_, 1) := by decide +kernel
theorem dX6_keepIfFewer_9 : decode cX6_keepIfFewer 9 = .ok (.aload_n 0, 1) := by decide +kernel
theorem dX6_keepIfFewer_10 : decode cX6_keepIfFewer 10 = .ok (.iload_n 1, 1) := by decide +kernel
theorem dX6_keepIfFewer_11 : decode cX6_keepIfFewer 11 = .ok (.putfield 18, 3) := by decide +kernel
theorem dX6_keepIfFewer_14 : decode cX6_keepIfFewer 14 = .ok (.iconst 0, 1) := by decide +kernel
theorem dX6_keepIfFewer_15 : decode cX6_keepIfFewer 15 = .ok (.istore_n 2, 1) := by decide +kernel
theorem dX6_keepIfFewer_16 : decode cX6_keepIfFewer 16 = .ok (.iload_n 2, 1) := by decide +kernel
theorem dX6_keepIfFewer_17 : decode cX6_keepIfFewer 17 = .ok (.iload_n 1, 1) := by decide +kernel
theorem dX6_keepIfFewer_18 : decode cX6_keepIfFewer 18 = .ok (.if_icmp .ge 21, 3) := by decide +kernel
theorem dX6_keepIfFewer_21 : decode cX6_keepIfFewer 21 = .ok (.aload_n 0, 1) := by decide +kernel
theorem dX6_keepIfFewer_22 : decode cX6_keepIfFewer 22 = .ok (.getfield 21, 3) := by decide +kernel
theorem dX6_keepIfFewer_25 : decode cX6_keepIfFewer 25 = .ok (.iload_n 2, 1) := by decide +kernel
theorem dX6_keepIfFewer_26 : decode cX6_keepIfFewer 26 = .ok (.aload_n 0, 1) := by decide +kernel
theorem dX6_keepIfFewer_27 : decode cX6_keepIfFewer 27 = .ok (.getfield 25, 3) := by decide +kernel
theorem dX6_keepIfFewer_30 : decode cX6_keepIfFewer 30 = .ok (.iload_n 2, 1) := by decide +kernel
theorem dX6_keepIfFewer_31 : decode cX6_keepIfFewer 31 = .ok (.iaload, 1) := by decide +kernel
theorem dX6_keepIfFewer_32 : decode cX6_keepIfFewer 32 = .ok (.iastore, 1) := by decide +kernel
theorem dX6_keepIfFewer_33 : decode cX6_keepIfFewer 33 = .ok (.iinc 2 1, 3) := by decide +kernel
theorem dX6_keepIfFewer_36 : decode cX6_keepIfFewer 36 = .ok (.goto (-20), 3) := by decide +kernel
theorem dX6_keepIfFewer_39 : decode cX6_keepIfFewer 39 = .ok (.return_, 1) := by decide +kernel
theorem dX7_init_0 : decode cX7_init 0 = .ok (.aload_n 0, 1) := by decide +kernel
theorem dX7_init_1 : decode cX7_init 1 = .ok (.invokespecial 3, 3) := by decide +kernel
theorem dX7_init_4 : decode cX7_init 4 = .ok (.aload_n 0, 1) := by decide +kernel
theorem dX7_init_5 : decode cX7_init 5 = .ok (.iconst 4, 1) := by decide +kernel
theorem dX7_init_6 : decode cX7_init 6 = .ok (.newarray .int, 2) := by decide +kernel
theorem dX7_init_8 : decode cX7_init 8 = .ok (.dup, 1) := by decide +kernel
theorem dX7_init_9 : decode cX7_init 9 = .ok (.iconst 0, 1) := by decide +kernel
theorem dX7_init_10 : decode cX7_init 10 = .ok (.iconst (-1), 1) := by decide +kernel
theorem dX7_init_11 : decode cX7_init 11 = .ok (.iastore, 1) := by decide +kernel
theorem dX7_init_12 : decode cX7_init 12 = .ok (.dup, 1) := by decide +kernel
theorem dX7_init_13 : decode cX7_init 13 = .ok (.iconst 1, 1) := by decide +kernel
theorem dX7_init_14 : decode cX7_init 14 = .ok (.iconst (-1), 1) := by decide +kernel
theorem dX7_init_15 : decode cX7_init 15 = .ok (.iastore, 1) := by decide +kernel
theorem dX7_init_16 : decode cX7_init 16 = .ok (.dup, 1) := by decide +kernel
theorem dX7_init_17 : decode cX7_init 17 = .ok (.iconst 2, 1) := by decide +kernel
theorem dX7_init_18 : decode cX7_init 18 = .ok (.iconst (-1), 1) := by decide +kernel
theorem dX7_init_19 : decode cX7_init 19 = .ok (.iastore, 1) := by decide +kernel
theorem dX7_init_20 : decode cX7_init 20 = .ok (.dup, 1) := by decide +kernel
theorem dX7_init_21 : decode cX7_init 21 = .ok (.iconst 3, 1) := by decide +kernel
theorem dX7_init_22 : decode cX7_init 22 = .ok (.iconst (-1), 1) := by decide +kernel
theorem dX7_init_23 : decode cX7_init 23 = .ok (.iastore, 1) := by decide +kernel
theorem dX7_init_24 : decode cX7_init 24 = .ok (.putfield 11, 3) := by decide +kernel
theorem dX7_init_27 : decode cX7_init 27 = .ok (.aload_n 0, 1) := by decide +kernel
theorem dX7_init_28 : decode cX7_init 28 = .ok (.bipush 40, 2) := by decide +kernel
theorem dX7_init_30 : decode cX7_init 30 = .ok (.newarray .int, 2) := by decide +kernel
theorem dX7_init_32 : decode cX7_init 32 = .ok (.putfield 15, 3) := by decide +kernel
theorem dX7_init_35 : decode cX7_init 35 = .ok (.return_, 1) := by decide +kernel
theorem dX7_isMissing_0 : decode cX7_isMissing 0 = .ok (.aload_n 0, 1) := by decide +kernel
theorem dX7_isMissing_1 : decode cX7_isMissing 1 = .ok (.getfield 11, 3) := by decide +kernel
theorem dX7_isMissing_4 : decode cX7_isMissing 4 = .ok (.iload_n 1, 1) := by decide +kernel
theorem dX7_isMissing_5 : decode cX7_isMissing 5 = .ok (.iaload, 1) := by decide +kernel
theorem dX7_isMissing_6 : decode cX7_isMissing 6 = .ok (.iconst (-1), 1) := by decide +kernel
theorem dX7_isMissing_7 : decode cX7_isMissing 7 = .ok (.if_icmp .ne 7, 3) := by decide +kernel
theorem dX7_isMissing_10 : decode cX7_isMissing 10 = .ok (.iconst 1, 1) := by decide +kernel
theorem dX7_isMissing_11 : decode cX7_isMissing 11 = .ok (.goto 4, 3) := by decide +kernel
theorem dX7_isMissing_14 : decode cX7_isMissing 14 = .ok (.iconst 0, 1) := by decide +kernel
theorem dX7_isMissing_15 : decode cX7_isMissing 15 = .ok (.ireturn, 1) := by decide +kernel
theorem dX7_at_0 : decode cX7_at 0 = .ok (.aload_n 0, 1) := by decide +kernel
theorem dX7_at_1 : decode cX7_at 1 = .ok (.getfield 15, 3) := by decide +kernel
theorem dX7_at_4 : decode cX7_at 4 = .ok (.iload_n 1, 1) := by decide +kernel
theorem dX7_at_5 : decode cX7_at 5 = .ok (.bipush 10, 2) := by decide +kernel
theorem dX7_at_7 : decode cX7_at 7 = .ok (.imul, 1) := by decide +kernel
theorem dX7_at_8 : decode cX7_at 8 = .ok (.iload_n 2, 1) := by decide +kernel
theorem dX7_at_9 : decode cX7_at 9 = .ok (.iadd, 1) := by decide +kernel
theorem dX7_at_10 : decode cX7_at 10 = .ok (.iaload, 1) := by decide +kernel
theorem dX7_at_11 : decode cX7_at 11 = .ok (.ireturn, 1) := by decide +kernel
theorem dX7_lay_0 : decode cX7_lay 0 = .ok (.aload_n 0, 1) := by decide +kernel
theorem dX7_lay_1 : decode cX7_lay 1 = .ok (.getfield 11, 3) := by decide +kernel
theorem dX7_lay_4 : decode cX7_lay 4 = .ok (.iload_n 1, 1) := by decide +kernel
theorem dX7_lay_5 : decode cX7_lay 5 = .ok (.iload_n 2, 1) := by decide +kernel
theorem dX7_lay_6 : decode cX7_lay 6 = .ok (.iastore, 1) := by decide +kernel
theorem dX7_lay_7 : decode cX7_lay 7 = .ok (.iconst 0, 1) := by decide +kernel
theorem dX7_lay_8 : decode cX7_lay 8 = .ok (.istore_n 3, 1) := by decide +kernel
theorem dX7_lay_9 : decode cX7_lay 9 = .ok (.iload_n 3, 1) := by decide +kernel
theorem dX7_lay_10 : decode cX7_lay 10 = .ok (.iload_n 2, 1) := by decide +kernel
theorem dX7_lay_11 : decode cX7_lay 11 = .ok (.if_icmp .ge 21, 3) := by decide +kernel
theorem dX7_lay_14 : decode cX7_lay 14 = .ok (.aload_n 0, 1) := by decide +kernel
theorem dX7_lay_15 : decode cX7_lay 15 = .ok (.getfield 15, 3) := by decide +kernel
theorem dX7_lay_18 : decode cX7_lay 18 = .ok (.iload_n 1, 1) := by decide +kernel
theorem dX7_lay_19 : decode cX7_lay 19 = .ok (.bipush 10, 2) := by decide +kernel
theorem dX7_lay_21 : decode cX7_lay 21 = .ok (.imul, 1) := by decide +kernel
theorem dX7_lay_22 : decode cX7_lay 22 = .ok (.iload_n 3, 1) := by decide +kernel
theorem dX7_lay_23 : decode cX7_lay 23 = .ok (.iadd, 1) := by decide +kernel
theorem dX7_lay_24 : decode cX7_lay 24 = .ok (.iconst 0, 1) := by decide +kernel
theorem dX7_lay_25 : decode cX7_lay 25 = .ok (.iastore, 1) := by decide +kernel
theorem dX7_lay_26 : decode cX7_lay 26 = .ok (.iinc 3 1, 3) := by decide +kernel
theorem dX7_lay_29 : decode cX7_lay 29 = .ok (.goto (-20), 3) := by decide +kernel
theorem dX7_lay_32 : decode cX7_lay 32 = .ok (.iload_n 2, 1) := by decide +kernel
theorem dX7_lay_33 : decode cX7_lay 33 = .ok (.ireturn, 1) := by decide +kernel
theorem dX7_write_0 : decode cX7_write 0 = .ok (.aload_n 0, 1) := by decide +kernel
theorem dX7_write_1 : decode cX7_write 1 = .ok (.getfield 11, 3) := by decide +kernel
theorem dX7_write_4 : decode cX7_write 4 = .ok (.iload_n 1, 1) := by decide +kernel
theorem dX7_write_5 : decode cX7_write 5 = .ok (.iaload, 1) := by decide +kernel
theorem dX7_write_6 : decode cX7_write 6 = .ok (.iload_n 3, 1) := by decide +kernel
theorem dX7_write_7 : decode cX7_write 7 = .ok (.invokestatic 18, 3) := by decide +kernel
theorem dX7_write_10 : decode cX7_write 10 = .ok (.istore 4, 2) := by decide +kernel
theorem dX7_write_12 : decode cX7_write 12 = .ok (.iconst 0, 1) := by decide +kernel
theorem dX7_write_13 : decode cX7_write 13 = .ok (.istore 5, 2) := by decide +kernel
theorem dX7_write_15 : decode cX7_write 15 = .ok (.iload 5, 2) := by decide +kernel
theorem dX7_write_17 : decode cX7_write 17 = .ok (.iload 4, 2) := by decide +kernel
theorem dX7_write_19 : decode cX7_write 19 = .ok (.if_icmp .ge 25, 3) := by decide +kernel
theorem dX7_write_22 : decode cX7_write 22 = .ok (.aload_n 0, 1) := by decide +kernel
theorem dX7_write_23 : decode cX7_write 23 = .ok (.getfield 15, 3) := by decide +kernel
theorem dX7_write_26 : decode cX7_write 26 = .ok (.iload_n 1, 1) := by decide +kernel
end
section
theorem dX7_write_27 : decode cX7_write 27 = .ok (.bipush 10, 2) := by decide +kernel
theorem dX7_write_29 : decode cX7_write 29 = .ok (.imul, 1) := by decide +kernel
theorem dX7_write_30 : decode cX7_write 30 = .ok (.iload 5, 2) := by decide +kernel
theorem dX7_write_32 : decode cX7_write 32 = .ok (.iadd, 1) := by decide +kernel
theorem dX7_write_33 : decode cX7_write 33 = .ok (.aload_n 2, 1) := by decide +kernel
theorem dX7_write_34 : decode cX7_write 34 = .ok (.iload 5, 2) := by decide +kernel
theorem dX7_write_36 : decode cX7_write 36 = .ok (.iaload, 1) := by decide +kernel
theorem dX7_write_37 : decode cX7_write 37 = .ok (.iastore, 1) := by decide +kernel
theorem dX7_write_38 : decode cX7_write 38 = .ok (.iinc 5 1, 3) := by decide +kernel
theorem dX7_write_41 : decode cX7_write 41 = .ok (.goto (-26), 3) := by decide +kernel
theorem dX7_write_44 : decode cX7_write 44 = .ok (.iload 4, 2) := by decide +kernel
theorem dX7_write_46 : decode cX7_write 46 = .ok (.ireturn, 1) := by decide +kernel
theorem dX7_spans_0 : decode cX7_spans 0 = .ok (.iload_n 2, 1) := by decide +kernel
theorem dX7_spans_1 : decode cX7_spans 1 = .ok (.ifCond .lt 29, 3) := by decide +kernel
theorem dX7_spans_4 : decode cX7_spans 4 = .ok (.iload_n 3, 1) := by decide +kernel
theorem dX7_spans_5 : decode cX7_spans 5 = .ok (.aload_n 0, 1) := by decide +kernel
theorem dX7_spans_6 : decode cX7_spans 6 = .ok (.getfield 11, 3) := by decide +kernel
theorem dX7_spans_9 : decode cX7_spans 9 = .ok (.iload_n 1, 1) := by decide +kernel
theorem dX7_spans_10 : decode cX7_spans 10 = .ok (.iaload, 1) := by decide +kernel
theorem dX7_spans_11 : decode cX7_spans 11 = .ok (.if_icmp .gt 19, 3) := by decide +kernel
theorem dX7_spans_14 : decode cX7_spans 14 = .ok (.iload_n 2, 1) := by decide +kernel
theorem dX7_spans_15 : decode cX7_spans 15 = .ok (.aload_n 0, 1) := by decide +kernel
theorem dX7_spans_16 : decode cX7_spans 16 = .ok (.getfield 11, 3) := by decide +kernel
theorem dX7_spans_19 : decode cX7_spans 19 = .ok (.iload_n 1, 1) := by decide +kernel
theorem dX7_spans_20 : decode cX7_spans 20 = .ok (.iaload, 1) := by decide +kernel
theorem dX7_spans_21 : decode cX7_spans 21 = .ok (.iload_n 3, 1) := by decide +kernel
theorem dX7_spans_22 : decode cX7_spans 22 = .ok (.isub, 1) := by decide +kernel
theorem dX7_spans_23 : decode cX7_spans 23 = .ok (.if_icmp .gt 7, 3) := by decide +kernel
theorem dX7_spans_26 : decode cX7_spans 26 = .ok (.iconst 1, 1) := by decide +kernel
theorem dX7_spans_27 : decode cX7_spans 27 = .ok (.goto 4, 3) := by decide +kernel
theorem dX7_spans_30 : decode cX7_spans 30 = .ok (.iconst 0, 1) := by decide +kernel
theorem dX7_spans_31 : decode cX7_spans 31 = .ok (.ireturn, 1) := by decide +kernel
theorem dX7_move_0 : decode cX7_move 0 = .ok (.aload_n 0, 1) := by decide +kernel
theorem dX7_move_1 : decode cX7_move 1 = .ok (.getfield 15, 3) := by decide +kernel
theorem dX7_move_4 : decode cX7_move 4 = .ok (.iload_n 1, 1) := by decide +kernel
theorem dX7_move_5 : decode cX7_move 5 = .ok (.bipush 10, 2) := by decide +kernel
theorem dX7_move_7 : decode cX7_move 7 = .ok (.imul, 1) := by decide +kernel
theorem dX7_move_8 : decode cX7_move 8 = .ok (.iload_n 2, 1) := by decide +kernel
theorem dX7_move_9 : decode cX7_move 9 = .ok (.iadd, 1) := by decide +kernel
theorem dX7_move_10 : decode cX7_move 10 = .ok (.aload_n 0, 1) := by decide +kernel
theorem dX7_move_11 : decode cX7_move 11 = .ok (.getfield 15, 3) := by decide +kernel
theorem dX7_move_14 : decode cX7_move 14 = .ok (.iload_n 3, 1) := by decide +kernel
theorem dX7_move_15 : decode cX7_move 15 = .ok (.bipush 10, 2) := by decide +kernel
theorem dX7_move_17 : decode cX7_move 17 = .ok (.imul, 1) := by decide +kernel
theorem dX7_move_18 : decode cX7_move 18 = .ok (.iload 4, 2) := by decide +kernel
theorem dX7_move_20 : decode cX7_move 20 = .ok (.iadd, 1) := by decide +kernel
theorem dX7_move_21 : decode cX7_move 21 = .ok (.iload 5, 2) := by decide +kernel
theorem dX7_move_23 : decode cX7_move 23 = .ok (.invokestatic 24, 3) := by decide +kernel
theorem dX7_move_26 : decode cX7_move 26 = .ok (.return_, 1) := by decide +kernel
theorem dX8_init_0 : decode cX8_init 0 = .ok (.aload_n 0, 1) := by decide +kernel
theorem dX8_init_1 : decode cX8_init 1 = .ok (.invokespecial 3, 3) := by decide +kernel
theorem dX8_init_4 : decode cX8_init 4 = .ok (.aload_n 0, 1) := by decide +kernel
theorem dX8_init_5 : decode cX8_init 5 = .ok (.iconst 0, 1) := by decide +kernel
theorem dX8_init_6 : decode cX8_init 6 = .ok (.putfield 9, 3) := by decide +kernel
theorem dX8_init_9 : decode cX8_init 9 = .ok (.aload_n 0, 1) := by decide +kernel
theorem dX8_init_10 : decode cX8_init 10 = .ok (.sipush 400, 3) := by decide +kernel
theorem dX8_init_13 : decode cX8_init 13 = .ok (.newarray .int, 2) := by decide +kernel
theorem dX8_init_15 : decode cX8_init 15 = .ok (.putfield 15, 3) := by decide +kernel
theorem dX8_init_18 : decode cX8_init 18 = .ok (.aload_n 0, 1) := by decide +kernel
theorem dX8_init_19 : decode cX8_init 19 = .ok (.sipush 400, 3) := by decide +kernel
theorem dX8_init_22 : decode cX8_init 22 = .ok (.newarray .int, 2) := by decide +kernel
theorem dX8_init_24 : decode cX8_init 24 = .ok (.putfield 19, 3) := by decide +kernel
theorem dX8_init_27 : decode cX8_init 27 = .ok (.aload_n 0, 1) := by decide +kernel
theorem dX8_init_28 : decode cX8_init 28 = .ok (.sipush 400, 3) := by decide +kernel
theorem dX8_init_31 : decode cX8_init 31 = .ok (.newarray .int, 2) := by decide +kernel
theorem dX8_init_33 : decode cX8_init 33 = .ok (.putfield 22, 3) := by decide +kernel
theorem dX8_init_36 : decode cX8_init 36 = .ok (.return_, 1) := by decide +kernel
theorem dX8_enter_0 : decode cX8_enter 0 = .ok (.aload_n 0, 1) := by decide +kernel
theorem dX8_enter_1 : decode cX8_enter 1 = .ok (.getfield 15, 3) := by decide +kernel
theorem dX8_enter_4 : decode cX8_enter 4 = .ok (.aload_n 0, 1) := by decide +kernel
theorem dX8_enter_5 : decode cX8_enter 5 = .ok (.getfield 9, 3) := by decide +kernel
theorem dX8_enter_8 : decode cX8_enter 8 = .ok (.iload_n 1, 1) := by decide +kernel
theorem dX8_enter_9 : decode cX8_enter 9 = .ok (.iastore, 1) := by decide +kernel
theorem dX8_enter_10 : decode cX8_enter 10 = .ok (.aload_n 0, 1) := by decide +kernel
theorem dX8_enter_11 : decode cX8_enter 11 = .ok (.getfield 19, 3) := by decide +kernel
theorem dX8_enter_14 : decode cX8_enter 14 = .ok (.aload_n 0, 1) := by decide +kernel
theorem dX8_enter_15 : decode cX8_enter 15 = .ok (.getfield 9, 3) := by decide +kernel
theorem dX8_enter_18 : decode cX8_enter 18 = .ok (.iload_n 2, 1) := by decide +kernel
theorem dX8_enter_19 : decode cX8_enter 19 = .ok (.iastore, 1) := by decide +kernel
theorem dX8_enter_20 : decode cX8_enter 20 = .ok (.aload_n 0, 1) := by decide +kernel
theorem dX8_enter_21 : decode cX8_enter 21 = .ok (.getfield 22, 3) := by decide +kernel
theorem dX8_enter_24 : decode cX8_enter 24 = .ok (.aload_n 0, 1) := by decide +kernel
theorem dX8_enter_25 : decode cX8_enter 25 = .ok (.getfield 9, 3) := by decide +kernel
theorem dX8_enter_28 : decode cX8_enter 28 = .ok (.iload_n 3, 1) := by decide +kernel
theorem dX8_enter_29 : decode cX8_enter 29 = .ok (.iastore, 1) := by decide +kernel
theorem dX8_enter_30 : decode cX8_enter 30 = .ok (.aload_n 0, 1) := by decide +kernel
theorem dX8_enter_31 : decode cX8_enter 31 = .ok (.dup, 1) := by decide +kernel
theorem dX8_enter_32 : decode cX8_enter 32 = .ok (.getfield 9, 3) := by decide +kernel
theorem dX8_enter_35 : decode cX8_enter 35 = .ok (.iconst 1, 1) := by decide +kernel
theorem dX8_enter_36 : decode cX8_enter 36 = .ok (.iadd, 1) := by decide +kernel
theorem dX8_enter_37 : decode cX8_enter 37 = .ok (.putfield 9, 3) := by decide +kernel
theorem dX8_enter_40 : decode cX8_enter 40 = .ok (.aload_n 0, 1) := by decide +kernel
theorem dX8_enter_41 : decode cX8_enter 41 = .ok (.getfield 9, 3) := by decide +kernel
theorem dX8_enter_44 : decode cX8_enter 44 = .ok (.ireturn, 1) := by decide +kernel
theorem dX8_ofPerson_0 : decode cX8_ofPerson 0 = .ok (.iconst 0, 1) := by decide +kernel
theorem dX8_ofPerson_1 : decode cX8_ofPerson 1 = .ok (.istore_n 2, 1) := by decide +kernel
theorem dX8_ofPerson_2 : decode cX8_ofPerson 2 = .ok (.iconst 0, 1) := by decide +kernel
theorem dX8_ofPerson_3 : decode cX8_ofPerson 3 = .ok (.istore_n 3, 1) := by decide +kernel
theorem dX8_ofPerson_4 : decode cX8_ofPerson 4 = .ok (.iload_n 3, 1) := by decide +kernel
theorem dX8_ofPerson_5 : decode cX8_ofPerson 5 = .ok (.aload_n 0, 1) := by decide +kernel
theorem dX8_ofPerson_6 : decode cX8_ofPerson 6 = .ok (.getfield 9, 3) := by decide +kernel
theorem dX8_ofPerson_9 : decode cX8_ofPerson 9 = .ok (.if_icmp .ge 22, 3) := by decide +kernel
theorem dX8_ofPerson_12 : decode cX8_ofPerson 12 = .ok (.aload_n 0, 1) := by decide +kernel
theorem dX8_ofPerson_13 : decode cX8_ofPerson 13 = .ok (.getfield 15, 3) := by decide +kernel
theorem dX8_ofPerson_16 : decode cX8_ofPerson 16 = .ok (.iload_n 3, 1) := by decide +kernel
theorem dX8_ofPerson_17 : decode cX8_ofPerson 17 = .ok (.iaload, 1) := by decide +kernel
theorem dX8_ofPerson_18 : decode cX8_ofPerson 18 = .ok (.iload_n 1, 1) := by decide +kernel
theorem dX8_ofPerson_19 : decode cX8_ofPerson 19 = .ok (.if_icmp .ne 6, 3) := by decide +kernel
theorem dX8_ofPerson_22 : decode cX8_ofPerson 22 = .ok (.iinc 2 1, 3) := by decide +kernel
theorem dX8_ofPerson_25 : decode cX8_ofPerson 25 = .ok (.iinc 3 1, 3) := by decide +kernel
theorem dX8_ofPerson_28 : decode cX8_ofPerson 28 = .ok (.goto (-24), 3) := by decide +kernel
theorem dX8_ofPerson_31 : decode cX8_ofPerson 31 = .ok (.iload_n 2, 1) := by decide +kernel
theorem dX8_ofPerson_32 : decode cX8_ofPerson 32 = .ok (.ireturn, 1) := by decide +kernel
theorem dX8_ofHolding_0 : decode cX8_ofHolding 0 = .ok (.iconst 0, 1) := by decide +kernel
theorem dX8_ofHolding_1 : decode cX8_ofHolding 1 = .ok (.istore_n 3, 1) := by decide +kernel
theorem dX8_ofHolding_2 : decode cX8_ofHolding 2 = .ok (.iconst 0, 1) := by decide +kernel
theorem dX8_ofHolding_3 : decode cX8_ofHolding 3 = .ok (.istore 4, 2) := by decide +kernel
theorem dX8_ofHolding_5 : decode cX8_ofHolding 5 = .ok (.iload 4, 2) := by decide +kernel
theorem dX8_ofHolding_7 : decode cX8_ofHolding 7 = .ok (.aload_n 0, 1) := by decide +kernel
theorem dX8_ofHolding_8 : decode cX8_ofHolding 8 = .ok (.getfield 9, 3) := by decide +kernel
theorem dX8_ofHolding_11 : decode cX8_ofHolding 11 = .ok (.if_icmp .ge 34, 3) := by decide +kernel
theorem dX8_ofHolding_14 : decode cX8_ofHolding 14 = .ok (.aload_n 0, 1) := by decide +kernel
theorem dX8_ofHolding_15 : decode cX8_ofHolding 15 = .ok (.getfield 15, 3) := by decide +kernel
theorem dX8_ofHolding_18 : decode cX8_ofHolding 18 = .ok (.iload 4, 2) := by decide +kernel
theorem dX8_ofHolding_20 : decode cX8_ofHolding 20 = .ok (.iaload, 1) := by decide +kernel
theorem dX8_ofHolding_21 : decode cX8_ofHolding 21 = .ok (.iload_n 1, 1) := by decide +kernel
theorem dX8_ofHolding_22 : decode cX8_ofHolding 22 = .ok (.if_icmp .ne 17, 3) := by decide +kernel
theorem dX8_ofHolding_25 : decode cX8_ofHolding 25 = .ok (.aload_n 0, 1) := by decide +kernel
theorem dX8_ofHolding_26 : decode cX8_ofHolding 26 = .ok (.getfield 19, 3) := by decide +kernel
theorem dX8_ofHolding_29 : decode cX8_ofHolding 29 = .ok (.iload 4, 2) := by decide +kernel
theorem dX8_ofHolding_31 : decode cX8_ofHolding 31 = .ok (.iaload, 1) := by decide +kernel
theorem dX8_ofHolding_32 : decode cX8_ofHolding 32 = .ok (.iload_n 2, 1) := by decide +kernel
theorem dX8_ofHolding_33 : decode cX8_ofHolding 33 = .ok (.if_icmp .ne 6, 3) := by decide +kernel
theorem dX8_ofHolding_36 : decode cX8_ofHolding 36 = .ok (.iinc 3 1, 3) := by decide +kernel
theorem dX8_ofHolding_39 : decode cX8_ofHolding 39 = .ok (.iinc 4 1, 3) := by decide +kernel
theorem dX8_ofHolding_42 : decode cX8_ofHolding 42 = .ok (.goto (-37), 3) := by decide +kernel
theorem dX8_ofHolding_45 : decode cX8_ofHolding 45 = .ok (.iload_n 3, 1) := by decide +kernel
theorem dX8_ofHolding_46 : decode cX8_ofHolding 46 = .ok (.ireturn, 1) := by decide +kernel
set_option maxRecDepth 20000 in
theorem ggX8_recent_X2_isWithinLast : GoodIn wsX8_recent wsX2_isWithinLast := goodIn_r _ [9, 10, 15, 16, 17, 18] (by decide +kernel) (by decide +kernel)
set_option maxRecDepth 20000 in
theorem gX8_recent_X2_isWithinLast : GoodIn wsX8_recent (wsV RX8 30 RX2 yX2_isWithinLast wsX2_isWithinLast) := goodIn_app (goodIn_of _ (by decide +kernel)) ggX8_recent_X2_isWithinLast
theorem dX8_recent_0 : decode cX8_recent 0 = .ok (.iconst 0, 1) := by decide +kernel
theorem dX8_recent_1 : decode cX8_recent 1 = .ok (.istore_n 3, 1) := by decide +kernel
theorem dX8_recent_2 : decode cX8_recent 2 = .ok (.iconst 0, 1) := by decide +kernel
theorem dX8_recent_3 : decode cX8_recent 3 = .ok (.istore 4, 2) := by decide +kernel
theorem dX8_recent_5 : decode cX8_recent 5 = .ok (.iload 4, 2) := by decide +kernel
theorem dX8_recent_7 : decode cX8_recent 7 = .ok (.aload_n 0, 1) := by decide +kernel
theorem dX8_recent_8 : decode cX8_recent 8 = .ok (.getfield 9, 3) := by decide +kernel
theorem dX8_recent_11 : decode cX8_recent 11 = .ok (.if_icmp .ge 50, 3) := by decide +kernel
theorem dX8_recent_14 : decode cX8_recent 14 = .ok (.aload_n 0, 1) := by decide +kernel
theorem dX8_recent_15 : decode cX8_recent 15 = .ok (.getfield 15, 3) := by decide +kernel
theorem dX8_recent_18 : decode cX8_recent 18 = .ok (.iload 4, 2) := by decide +kernel
theorem dX8_recent_20 : decode cX8_recent 20 = .ok (.iaload, 1) := by decide +kernel
theorem dX8_recent_21 : decode cX8_recent 21 = .ok (.iload_n 1, 1) := by decide +kernel
theorem dX8_recent_22 : decode cX8_recent 22 = .ok (.if_icmp .ne 33, 3) := by decide +kernel
theorem dX8_recent_25 : decode cX8_recent 25 = .ok (.aload_n 2, 1) := by decide +kernel
theorem dX8_recent_26 : decode cX8_recent 26 = .ok (.aload_n 0, 1) := by decide +kernel
theorem dX8_recent_27 : decode cX8_recent 27 = .ok (.getfield 22, 3) := by decide +kernel
theorem dX8_recent_30 : decode cX8_recent 30 = .ok (.iload 4, 2) := by decide +kernel
theorem dX8_recent_32 : decode cX8_recent 32 = .ok (.iaload, 1) := by decide +kernel
theorem dX8_recent_33 : decode cX8_recent 33 = .ok (.aload_n 2, 1) := by decide +kernel
theorem dX8_recent_34 : decode cX8_recent 34 = .ok (.getfield 25, 3) := by decide +kernel
theorem dX8_recent_37 : decode cX8_recent 37 = .ok (.invokevirtual 30, 3) := by decide +kernel
theorem dX8_recent_40 : decode cX8_recent 40 = .ok (.ifCond .eq 15, 3) := by decide +kernel
theorem dX8_recent_43 : decode cX8_recent 43 = .ok (.iload_n 3, 1) := by decide +kernel
theorem dX8_recent_44 : decode cX8_recent 44 = .ok (.iconst 1, 1) := by decide +kernel
theorem dX8_recent_45 : decode cX8_recent 45 = .ok (.aload_n 0, 1) := by decide +kernel
theorem dX8_recent_46 : decode cX8_recent 46 = .ok (.getfield 19, 3) := by decide +kernel
theorem dX8_recent_49 : decode cX8_recent 49 = .ok (.iload 4, 2) := by decide +kernel
theorem dX8_recent_51 : decode cX8_recent 51 = .ok (.iaload, 1) := by decide +kernel
theorem dX8_recent_52 : decode cX8_recent 52 = .ok (.ishl, 1) := by decide +kernel
theorem dX8_recent_53 : decode cX8_recent 53 = .ok (.ior, 1) := by decide +kernel
theorem dX8_recent_54 : decode cX8_recent 54 = .ok (.istore_n 3, 1) := by decide +kernel
theorem dX8_recent_55 : decode cX8_recent 55 = .ok (.iinc 4 1, 3) := by decide +kernel
theorem dX8_recent_58 : decode cX8_recent 58 = .ok (.goto (-53), 3) := by decide +kernel
theorem dX8_recent_61 : decode cX8_recent 61 = .ok (.iload_n 3, 1) := by decide +kernel
theorem dX8_recent_62 : decode cX8_recent 62 = .ok (.ireturn, 1) := by decide +kernel
set_option maxRecDepth 20000 in
theorem ggX8_seasonal_X2_isWithinLast : GoodIn wsX8_seasonal wsX2_isWithinLast := goodIn_r _ [9, 10, 21, 22, 23, 24] (by decide +kernel) (by decide +kernel)
set_option maxRecDepth 20000 in
theorem gX8_seasonal_X2_isWithinLast : GoodIn wsX8_seasonal (wsV RX8 30 RX2 yX2_isWithinLast wsX2_isWithinLast) := goodIn_app (goodIn_of _ (by decide +kernel)) ggX8_seasonal_X2_isWithinLast
set_option maxRecDepth 20000 in
theorem ggX8_seasonal_X2_comesRound : GoodIn wsX8_seasonal wsX2_comesRound := goodIn_r _ [14, 15, 10, 16, 21, 22, 23, 24] (by decide +kernel) (by decide +kernel)
set_option maxRecDepth 20000 in
theorem gX8_seasonal_X2_comesRound : GoodIn wsX8_seasonal (wsV RX8 34 RX2 yX2_comesRound wsX2_comesRound) := goodIn_app (goodIn_of _ (by decide +kernel)) ggX8_seasonal_X2_comesRound
theorem dX8_seasonal_0 : decode cX8_seasonal 0 = .ok (.iconst 0, 1) := by decide +kernel
theorem dX8_seasonal_1 : decode cX8_seasonal 1 = .ok (.istore_n 3, 1) := by decide +kernel
theorem dX8_seasonal_2 : decode cX8_seasonal 2 = .ok (.iconst 0, 1) := by decide +kernel
theorem dX8_seasonal_3 : decode cX8_seasonal 3 = .ok (.istore 4, 2) := by decide +kernel
theorem dX8_seasonal_5 : decode cX8_seasonal 5 = .ok (.iload 4, 2) := by decide +kernel
theorem dX8_seasonal_7 : decode cX8_seasonal 7 = .ok (.aload_n 0, 1) := by decide +kernel
theorem dX8_seasonal_8 : decode cX8_seasonal 8 = .ok (.getfield 9, 3) := by decide +kernel
theorem dX8_seasonal_11 : decode cX8_seasonal 11 = .ok (.if_icmp .ge 76, 3) := by decide +kernel
theorem dX8_seasonal_14 : decode cX8_seasonal 14 = .ok (.aload_n 0, 1) := by decide +kernel
theorem dX8_seasonal_15 : decode cX8_seasonal 15 = .ok (.getfield 15, 3) := by decide +kernel
theorem dX8_seasonal_18 : decode cX8_seasonal 18 = .ok (.iload 4, 2) := by decide +kernel
theorem dX8_seasonal_20 : decode cX8_seasonal 20 = .ok (.iaload, 1) := by decide +kernel
theorem dX8_seasonal_21 : decode cX8_seasonal 21 = .ok (.iload_n 1, 1) := by decide +kernel
theorem dX8_seasonal_22 : decode cX8_seasonal 22 = .ok (.if_icmp .ne 25, 3) := by decide +kernel
theorem dX8_seasonal_25 : decode cX8_seasonal 25 = .ok (.aload_n 2, 1) := by decide +kernel
theorem dX8_seasonal_26 : decode cX8_seasonal 26 = .ok (.aload_n 0, 1) := by decide +kernel
theorem dX8_seasonal_27 : decode cX8_seasonal 27 = .ok (.getfield 22, 3) := by decide +kernel
theorem dX8_seasonal_30 : decode cX8_seasonal 30 = .ok (.iload 4, 2) := by decide +kernel
theorem dX8_seasonal_32 : decode cX8_seasonal 32 = .ok (.iaload, 1) := by decide +kernel
theorem dX8_seasonal_33 : decode cX8_seasonal 33 = .ok (.aload_n 2, 1) := by decide +kernel
theorem dX8_seasonal_34 : decode cX8_seasonal 34 = .ok (.getfield 25, 3) := by decide +kernel
theorem dX8_seasonal_37 : decode cX8_seasonal 37 = .ok (.invokevirtual 30, 3) := by decide +kernel
theorem dX8_seasonal_40 : decode cX8_seasonal 40 = .ok (.ifCond .ne 7, 3) := by decide +kernel
theorem dX8_seasonal_43 : decode cX8_seasonal 43 = .ok (.iconst 1, 1) := by decide +kernel
theorem dX8_seasonal_44 : decode cX8_seasonal 44 = .ok (.goto 4, 3) := by decide +kernel
theorem dX8_seasonal_47 : decode cX8_seasonal 47 = .ok (.iconst 0, 1) := by decide +kernel
theorem dX8_seasonal_48 : decode cX8_seasonal 48 = .ok (.istore 5, 2) := by decide +kernel
theorem dX8_seasonal_50 : decode cX8_seasonal 50 = .ok (.iload 5, 2) := by decide +kernel
theorem dX8_seasonal_52 : decode cX8_seasonal 52 = .ok (.ifCond .eq 29, 3) := by decide +kernel
theorem dX8_seasonal_55 : decode cX8_seasonal 55 = .ok (.aload_n 2, 1) := by decide +kernel
theorem dX8_seasonal_56 : decode cX8_seasonal 56 = .ok (.aload_n 0, 1) := by decide +kernel
theorem dX8_seasonal_57 : decode cX8_seasonal 57 = .ok (.getfield 22, 3) := by decide +kernel
theorem dX8_seasonal_60 : decode cX8_seasonal 60 = .ok (.iload 4, 2) := by decide +kernel
theorem dX8_seasonal_62 : decode cX8_seasonal 62 = .ok (.iaload, 1) := by decide +kernel
theorem dX8_seasonal_63 : decode cX8_seasonal 63 = .ok (.invokevirtual 34, 3) := by decide +kernel
theorem dX8_seasonal_66 : decode cX8_seasonal 66 = .ok (.ifCond .eq 15, 3) := by decide +kernel
theorem dX8_seasonal_69 : decode cX8_seasonal 69 = .ok (.iload_n 3, 1) := by decide +kernel
theorem dX8_seasonal_70 : decode cX8_seasonal 70 = .ok (.iconst 1, 1) := by decide +kernel
theorem dX8_seasonal_71 : decode cX8_seasonal 71 = .ok (.aload_n 0, 1) := by decide +kernel
theorem dX8_seasonal_72 : decode cX8_seasonal 72 = .ok (.getfield 19, 3) := by decide +kernel
theorem dX8_seasonal_75 : decode cX8_seasonal 75 = .ok (.iload 4, 2) := by decide +kernel
theorem dX8_seasonal_77 : decode cX8_seasonal 77 = .ok (.iaload, 1) := by decide +kernel
theorem dX8_seasonal_78 : decode cX8_seasonal 78 = .ok (.ishl, 1) := by decide +kernel
theorem dX8_seasonal_79 : decode cX8_seasonal 79 = .ok (.ior, 1) := by decide +kernel
theorem dX8_seasonal_80 : decode cX8_seasonal 80 = .ok (.istore_n 3, 1) := by decide +kernel
theorem dX8_seasonal_81 : decode cX8_seasonal 81 = .ok (.iinc 4 1, 3) := by decide +kernel
theorem dX8_seasonal_84 : decode cX8_seasonal 84 = .ok (.goto (-79), 3) := by decide +kernel
theorem dX8_seasonal_87 : decode cX8_seasonal 87 = .ok (.iload_n 3, 1) := by decide +kernel
theorem dX8_seasonal_88 : decode cX8_seasonal 88 = .ok (.ireturn, 1) := by decide +kernel
set_option maxRecDepth 20000 in
theorem ggX9_init_X2_init : GoodIn wsX9_init wsX2_init := goodIn_r _ [46, 47, 2, 3, 48, 49, 50, 51, 106, 107, 108, 109] (by decide +kernel) (by decide +kernel)
set_option maxRecDepth 20000 in
theorem gX9_init_X2_init_n9 : GoodIn wsX9_init (wsX2_init) := ggX9_init_X2_init
set_option maxRecDepth 20000 in
theorem ggX9_init_X5_init : GoodIn wsX9_init wsX5_init := goodIn_r _ [53, 54, 2, 3, 55, 40, 56, 57, 58, 59, 123, 124, 125, 126, 127] (by decide +kernel) (by decide +kernel)
set_option maxRecDepth 20000 in
theorem gX9_init_X5_init_n18 : GoodIn wsX9_init (wsX5_init) := ggX9_init_X5_init
set_option maxRecDepth 20000 in
theorem ggX9_init_X8_init : GoodIn wsX9_init wsX8_init := goodIn_r _ [61, 62, 2, 3, 63, 40, 64, 65, 66, 128, 129, 130, 131] (by decide +kernel) (by decide +kernel)
set_option maxRecDepth 20000 in
theorem gX9_init_X8_init_n25 : GoodIn wsX9_init (wsX8_init) := ggX9_init_X8_init
set_option maxRecDepth 20000 in
theorem ggX9_init_X1_init : GoodIn wsX9_init wsX1_init := goodIn_r _ [68, 69, 2, 3, 70, 40, 71, 72, 73, 132, 133, 134] (by decide +kernel) (by decide +kernel)
set_option maxRecDepth 20000 in
theorem gX9_init_X1_init_n32 : GoodIn wsX9_init (wsX1_init) := ggX9_init_X1_init
set_option maxRecDepth 20000 in
theorem ggX9_init_X6_init : GoodIn wsX9_init wsX6_init := goodIn_r _ [75, 76, 2, 3, 77, 78, 79, 40, 80, 81, 82, 83, 84, 85, 135, 136, 137, 138, 139, 140, 141, 142, 143] (by decide +kernel) (by decide +kernel)
set_option maxRecDepth 20000 in
theorem gX9_init_X6_init_n39 : GoodIn wsX9_init (wsX6_init) := ggX9_init_X6_init
set_option maxRecDepth 20000 in
theorem ggX9_init_X0_init : GoodIn wsX9_init wsX0_init := goodIn_r _ [87, 88, 2, 3, 40, 89, 144] (by decide +kernel) (by decide +kernel)
set_option maxRecDepth 20000 in
theorem gX9_init_X0_init_n46 : GoodIn wsX9_init (wsX0_init) := ggX9_init_X0_init
set_option maxRecDepth 20000 in
theorem ggX9_init_X3_init : GoodIn wsX9_init wsX3_init := goodIn_r _ [91, 92, 2, 3, 93, 94, 40, 95, 145, 146, 147] (by decide +kernel) (by decide +kernel)
set_option maxRecDepth 20000 in
theorem gX9_init_X3_init_n53 : GoodIn wsX9_init (wsX3_init) := ggX9_init_X3_init
set_option maxRecDepth 20000 in
theorem ggX9_init_X7_init : GoodIn wsX9_init wsX7_init := goodIn_r _ [97, 98, 2, 3, 40, 99, 100, 148, 149] (by decide +kernel) (by decide +kernel)
set_option maxRecDepth 20000 in
theorem gX9_init_X7_init_n60 : GoodIn wsX9_init (wsX7_init) := ggX9_init_X7_init
set_option maxRecDepth 20000 in
theorem ggX9_init_X4_init : GoodIn wsX9_init wsX4_init := goodIn_r _ [102, 103, 2, 3, 104, 40, 105, 150, 151] (by decide +kernel) (by decide +kernel)
set_option maxRecDepth 20000 in
theorem gX9_init_X4_init_n67 : GoodIn wsX9_init (wsX4_init) := ggX9_init_X4_init
theorem dX9_init_0 : decode cX9_init 0 = .ok (.aload_n 0, 1) := by decide +kernel
theorem dX9_init_1 : decode cX9_init 1 = .ok (.invokespecial 1, 3) := by decide +kernel
theorem dX9_init_4 : decode cX9_init 4 = .ok (.aload_n 0, 1) := by decide +kernel
theorem dX9_init_5 : decode cX9_init 5 = .ok (.new 7, 3) := by decide +kernel
theorem dX9_init_8 : decode cX9_init 8 = .ok (.dup, 1) := by decide +kernel
theorem dX9_init_9 : decode cX9_init 9 = .ok (.invokespecial 9, 3) := by decide +kernel
theorem dX9_init_12 : decode cX9_init 12 = .ok (.putfield 10, 3) := by decide +kernel
theorem dX9_init_15 : decode cX9_init 15 = .ok (.aload_n 0, 1) := by decide +kernel
theorem dX9_init_16 : decode cX9_init 16 = .ok (.new 16, 3) := by decide +kernel
theorem dX9_init_19 : decode cX9_init 19 = .ok (.dup, 1) := by decide +kernel
theorem dX9_init_20 : decode cX9_init 20 = .ok (.invokespecial 18, 3) := by decide +kernel
theorem dX9_init_23 : decode cX9_init 23 = .ok (.putfield 19, 3) := by decide +kernel
theorem dX9_init_26 : decode cX9_init 26 = .ok (.aload_n 0, 1) := by decide +kernel
theorem dX9_init_27 : decode cX9_init 27 = .ok (.new 23, 3) := by decide +kernel
theorem dX9_init_30 : decode cX9_init 30 = .ok (.dup, 1) := by decide +kernel
theorem dX9_init_31 : decode cX9_init 31 = .ok (.invokespecial 25, 3) := by decide +kernel
theorem dX9_init_34 : decode cX9_init 34 = .ok (.putfield 26, 3) := by decide +kernel
theorem dX9_init_37 : decode cX9_init 37 = .ok (.aload_n 0, 1) := by decide +kernel
theorem dX9_init_38 : decode cX9_init 38 = .ok (.new 30, 3) := by decide +kernel
theorem dX9_init_41 : decode cX9_init 41 = .ok (.dup, 1) := by decide +kernel
theorem dX9_init_42 : decode cX9_init 42 = .ok (.invokespecial 32, 3) := by decide +kernel
theorem dX9_init_45 : decode cX9_init 45 = .ok (.putfield 33, 3) := by decide +kernel
theorem dX9_init_48 : decode cX9_init 48 = .ok (.aload_n 0, 1) := by decide +kernel
theorem dX9_init_49 : decode cX9_init 49 = .ok (.new 37, 3) := by decide +kernel
theorem dX9_init_52 : decode cX9_init 52 = .ok (.dup, 1) := by decide +kernel
theorem dX9_init_53 : decode cX9_init 53 = .ok (.invokespecial 39, 3) := by decide +kernel
theorem dX9_init_56 : decode cX9_init 56 = .ok (.putfield 40, 3) := by decide +kernel
theorem dX9_init_59 : decode cX9_init 59 = .ok (.aload_n 0, 1) := by decide +kernel
theorem dX9_init_60 : decode cX9_init 60 = .ok (.new 44, 3) := by decide +kernel
theorem dX9_init_63 : decode cX9_init 63 = .ok (.dup, 1) := by decide +kernel
theorem dX9_init_64 : decode cX9_init 64 = .ok (.invokespecial 46, 3) := by decide +kernel
theorem dX9_init_67 : decode cX9_init 67 = .ok (.putfield 47, 3) := by decide +kernel
theorem dX9_init_70 : decode cX9_init 70 = .ok (.aload_n 0, 1) := by decide +kernel
theorem dX9_init_71 : decode cX9_init 71 = .ok (.new 51, 3) := by decide +kernel
theorem dX9_init_74 : decode cX9_init 74 = .ok (.dup, 1) := by decide +kernel
theorem dX9_init_75 : decode cX9_init 75 = .ok (.invokespecial 53, 3) := by decide +kernel
theorem dX9_init_78 : decode cX9_init 78 = .ok (.putfield 54, 3) := by decide +kernel
theorem dX9_init_81 : decode cX9_init 81 = .ok (.aload_n 0, 1) := by decide +kernel
theorem dX9_init_82 : decode cX9_init 82 = .ok (.new 58, 3) := by decide +kernel
theorem dX9_init_85 : decode cX9_init 85 = .ok (.dup, 1) := by decide +kernel
theorem dX9_init_86 : decode cX9_init 86 = .ok (.invokespecial 60, 3) := by decide +kernel
theorem dX9_init_89 : decode cX9_init 89 = .ok (.putfield 61, 3) := by decide +kernel
theorem dX9_init_92 : decode cX9_init 92 = .ok (.aload_n 0, 1) := by decide +kernel
theorem dX9_init_93 : decode cX9_init 93 = .ok (.new 65, 3) := by decide +kernel
theorem dX9_init_96 : decode cX9_init 96 = .ok (.dup, 1) := by decide +kernel
theorem dX9_init_97 : decode cX9_init 97 = .ok (.invokespecial 67, 3) := by decide +kernel
theorem dX9_init_100 : decode cX9_init 100 = .ok (.putfield 68, 3) := by decide +kernel
theorem dX9_init_103 : decode cX9_init 103 = .ok (.aload_n 0, 1) := by decide +kernel
theorem dX9_init_104 : decode cX9_init 104 = .ok (.bipush 10, 2) := by decide +kernel
theorem dX9_init_106 : decode cX9_init 106 = .ok (.newarray .int, 2) := by decide +kernel
theorem dX9_init_108 : decode cX9_init 108 = .ok (.putfield 72, 3) := by decide +kernel
theorem dX9_init_111 : decode cX9_init 111 = .ok (.aload_n 0, 1) := by decide +kernel
theorem dX9_init_112 : decode cX9_init 112 = .ok (.iconst 3, 1) := by decide +kernel
theorem dX9_init_113 : decode cX9_init 113 = .ok (.newarray .int, 2) := by decide +kernel
theorem dX9_init_115 : decode cX9_init 115 = .ok (.putfield 76, 3) := by decide +kernel
theorem dX9_init_118 : decode cX9_init 118 = .ok (.aload_n 0, 1) := by decide +kernel
theorem dX9_init_119 : decode cX9_init 119 = .ok (.iconst 0, 1) := by decide +kernel
theorem dX9_init_120 : decode cX9_init 120 = .ok (.putfield 79, 3) := by decide +kernel
theorem dX9_init_123 : decode cX9_init 123 = .ok (.aload_n 0, 1) := by decide +kernel
theorem dX9_init_124 : decode cX9_init 124 = .ok (.iconst 0, 1) := by decide +kernel
theorem dX9_init_125 : decode cX9_init 125 = .ok (.putfield 83, 3) := by decide +kernel
theorem dX9_init_128 : decode cX9_init 128 = .ok (.return_, 1) := by decide +kernel
set_option maxRecDepth 20000 in
theorem ggX9_person_X9_noMarkSet : GoodIn wsX9_person wsX9_noMarkSet := goodIn_r _ [5] (by decide +kernel) (by decide +kernel)
set_option maxRecDepth 20000 in
theorem gX9_person_X9_noMarkSet : GoodIn wsX9_person (va_wsS RX9 86 yX9_noMarkSet wsX9_noMarkSet) := goodIn_app (goodIn_of _ (by decide +kernel)) ggX9_person_X9_noMarkSet
set_option maxRecDepth 20000 in
theorem ggX9_person_X9_noRightSet : GoodIn wsX9_person wsX9_noRightSet := goodIn_r _ [8] (by decide +kernel) (by decide +kernel)
set_option maxRecDepth 20000 in
theorem gX9_person_X9_noRightSet : GoodIn wsX9_person (va_wsS RX9 90 yX9_noRightSet wsX9_noRightSet) := goodIn_app (goodIn_of _ (by decide +kernel)) ggX9_person_X9_noRightSet
set_option maxRecDepth 20000 in
theorem ggX9_person_X5_join : GoodIn wsX9_person wsX5_join := goodIn_r _ [13, 14, 15, 16, 30, 31, 32, 33, 34] (by decide +kernel) (by decide +kernel)
set_option maxRecDepth 20000 in
theorem gX9_person_X5_join : GoodIn wsX9_person (wsV RX9 96 RX5 yX5_join wsX5_join) := goodIn_app (goodIn_of _ (by decide +kernel)) ggX9_person_X5_join
theorem dX9_person_0 : decode cX9_person 0 = .ok (.iload_n 1, 1) := by decide +kernel
theorem dX9_person_1 : decode cX9_person 1 = .ok (.invokestatic 86, 3) := by decide +kernel
theorem dX9_person_4 : decode cX9_person 4 = .ok (.ifCond .ne 10, 3) := by decide +kernel
theorem dX9_person_7 : decode cX9_person 7 = .ok (.iload_n 2, 1) := by decide +kernel
theorem dX9_person_8 : decode cX9_person 8 = .ok (.invokestatic 90, 3) := by decide +kernel
theorem dX9_person_11 : decode cX9_person 11 = .ok (.ifCond .eq 5, 3) := by decide +kernel
theorem dX9_person_14 : decode cX9_person 14 = .ok (.iconst (-1), 1) := by decide +kernel
theorem dX9_person_15 : decode cX9_person 15 = .ok (.ireturn, 1) := by decide +kernel
theorem dX9_person_16 : decode cX9_person 16 = .ok (.aload_n 0, 1) := by decide +kernel
theorem dX9_person_17 : decode cX9_person 17 = .ok (.getfield 19, 3) := by decide +kernel
theorem dX9_person_20 : decode cX9_person 20 = .ok (.getfield 93, 3) := by decide +kernel
theorem dX9_person_23 : decode cX9_person 23 = .ok (.bipush 10, 2) := by decide +kernel
theorem dX9_person_25 : decode cX9_person 25 = .ok (.if_icmp .lt 6, 3) := by decide +kernel
theorem dX9_person_28 : decode cX9_person 28 = .ok (.bipush (-2), 2) := by decide +kernel
theorem dX9_person_30 : decode cX9_person 30 = .ok (.ireturn, 1) := by decide +kernel
theorem dX9_person_31 : decode cX9_person 31 = .ok (.aload_n 0, 1) := by decide +kernel
theorem dX9_person_32 : decode cX9_person 32 = .ok (.getfield 19, 3) := by decide +kernel
theorem dX9_person_35 : decode cX9_person 35 = .ok (.iload_n 1, 1) := by decide +kernel
theorem dX9_person_36 : decode cX9_person 36 = .ok (.iload_n 2, 1) := by decide +kernel
theorem dX9_person_37 : decode cX9_person 37 = .ok (.invokevirtual 96, 3) := by decide +kernel
theorem dX9_person_40 : decode cX9_person 40 = .ok (.ireturn, 1) := by decide +kernel
set_option maxRecDepth 20000 in
theorem ggX9_change_X9_noPerson : GoodIn wsX9_change wsX9_noPerson := goodIn_r _ [6, 1, 25, 26, 27, 28, 29, 30, 31, 32, 33, 34, 35, 36, 37, 38, 39, 40, 41, 42] (by decide +kernel) (by decide +kernel)
set_option maxRecDepth 20000 in
theorem gX9_change_X9_noPerson : GoodIn wsX9_change (wsV RX9 100 RX9 yX9_noPerson wsX9_noPerson) := goodIn_app (goodIn_of _ (by decide +kernel)) ggX9_change_X9_noPerson
set_option maxRecDepth 20000 in
theorem ggX9_change_X9_noMarkSet : GoodIn wsX9_change wsX9_noMarkSet := goodIn_r _ [9] (by decide +kernel) (by decide +kernel)
set_option maxRecDepth 20000 in
theorem gX9_change_X9_noMarkSet : GoodIn wsX9_change (va_wsS RX9 86 yX9_noMarkSet wsX9_noMarkSet) := goodIn_app (goodIn_of _ (by decide +kernel)) ggX9_change_X9_noMarkSet
set_option maxRecDepth 20000 in
theorem ggX9_change_X5_remark : GoodIn wsX9_change wsX5_remark := goodIn_r _ [14, 15, 38, 39, 40, 41, 42] (by decide +kernel) (by decide +kernel)
set_option maxRecDepth 20000 in
theorem gX9_change_X5_remark : GoodIn wsX9_change (wsV RX9 103 RX5 yX5_remark wsX5_remark) := goodIn_app (goodIn_of _ (by decide +kernel)) ggX9_change_X5_remark
set_option maxRecDepth 20000 in
theorem ggX9_change_X9_noRightSet : GoodIn wsX9_change wsX9_noRightSet := goodIn_r _ [18] (by decide +kernel) (by decide +kernel)
set_option maxRecDepth 20000 in
theorem gX9_change_X9_noRightSet : GoodIn wsX9_change (va_wsS RX9 90 yX9_noRightSet wsX9_noRightSet) := goodIn_app (goodIn_of _ (by decide +kernel)) ggX9_change_X9_noRightSet
set_option maxRecDepth 20000 in
theorem ggX9_change_X5_give : GoodIn wsX9_change wsX5_give := goodIn_r _ [22, 23, 24, 38, 39, 40, 41, 42] (by decide +kernel) (by decide +kernel)
set_option maxRecDepth 20000 in
theorem gX9_change_X5_give : GoodIn wsX9_change (wsV RX9 106 RX5 yX5_give wsX5_give) := goodIn_app (goodIn_of _ (by decide +kernel)) ggX9_change_X5_give
theorem dX9_change_0 : decode cX9_change 0 = .ok (.aload_n 0, 1) := by decide +kernel
theorem dX9_change_1 : decode cX9_change 1 = .ok (.iload_n 1, 1) := by decide +kernel
theorem dX9_change_2 : decode cX9_change 2 = .ok (.invokevirtual 100, 3) := by decide +kernel
theorem dX9_change_5 : decode cX9_change 5 = .ok (.ifCond .eq 5, 3) := by decide +kernel
theorem dX9_change_8 : decode cX9_change 8 = .ok (.iconst (-1), 1) := by decide +kernel
theorem dX9_change_9 : decode cX9_change 9 = .ok (.ireturn, 1) := by decide +kernel
theorem dX9_change_10 : decode cX9_change 10 = .ok (.iload_n 2, 1) := by decide +kernel
theorem dX9_change_11 : decode cX9_change 11 = .ok (.ifCond .ne 24, 3) := by decide +kernel
theorem dX9_change_14 : decode cX9_change 14 = .ok (.iload_n 3, 1) := by decide +kernel
theorem dX9_change_15 : decode cX9_change 15 = .ok (.invokestatic 86, 3) := by decide +kernel
theorem dX9_change_18 : decode cX9_change 18 = .ok (.ifCond .eq 7, 3) := by decide +kernel
theorem dX9_change_21 : decode cX9_change 21 = .ok (.iconst (-1), 1) := by decide +kernel
theorem dX9_change_22 : decode cX9_change 22 = .ok (.goto 12, 3) := by decide +kernel
theorem dX9_change_25 : decode cX9_change 25 = .ok (.aload_n 0, 1) := by decide +kernel
theorem dX9_change_26 : decode cX9_change 26 = .ok (.getfield 19, 3) := by decide +kernel
theorem dX9_change_29 : decode cX9_change 29 = .ok (.iload_n 1, 1) := by decide +kernel
theorem dX9_change_30 : decode cX9_change 30 = .ok (.iload_n 3, 1) := by decide +kernel
theorem dX9_change_31 : decode cX9_change 31 = .ok (.invokevirtual 103, 3) := by decide +kernel
theorem dX9_change_34 : decode cX9_change 34 = .ok (.ireturn, 1) := by decide +kernel
theorem dX9_change_35 : decode cX9_change 35 = .ok (.iload_n 2, 1) := by decide +kernel
theorem dX9_change_36 : decode cX9_change 36 = .ok (.iconst 1, 1) := by decide +kernel
theorem dX9_change_37 : decode cX9_change 37 = .ok (.if_icmp .ne 24, 3) := by decide +kernel
theorem dX9_change_40 : decode cX9_change 40 = .ok (.iload_n 3, 1) := by decide +kernel
theorem dX9_change_41 : decode cX9_change 41 = .ok (.invokestatic 90, 3) := by decide +kernel
theorem dX9_change_44 : decode cX9_change 44 = .ok (.ifCond .eq 7, 3) := by decide +kernel
theorem dX9_change_47 : decode cX9_change 47 = .ok (.iconst (-1), 1) := by decide +kernel
theorem dX9_change_48 : decode cX9_change 48 = .ok (.goto 12, 3) := by decide +kernel
theorem dX9_change_51 : decode cX9_change 51 = .ok (.aload_n 0, 1) := by decide +kernel
theorem dX9_change_52 : decode cX9_change 52 = .ok (.getfield 19, 3) := by decide +kernel
theorem dX9_change_55 : decode cX9_change 55 = .ok (.iload_n 1, 1) := by decide +kernel
theorem dX9_change_56 : decode cX9_change 56 = .ok (.iload_n 3, 1) := by decide +kernel
theorem dX9_change_57 : decode cX9_change 57 = .ok (.invokevirtual 106, 3) := by decide +kernel
theorem dX9_change_60 : decode cX9_change 60 = .ok (.ireturn, 1) := by decide +kernel
theorem dX9_change_61 : decode cX9_change 61 = .ok (.iconst (-1), 1) := by decide +kernel
theorem dX9_change_62 : decode cX9_change 62 = .ok (.ireturn, 1) := by decide +kernel
set_option maxRecDepth 20000 in
theorem ggX9_told_X9_noPerson : GoodIn wsX9_told wsX9_noPerson := goodIn_r _ [7, 1, 43, 44, 45, 46, 47, 48, 49, 50, 51, 52, 53, 54, 55, 56, 57, 58, 59, 60] (by decide +kernel) (by decide +kernel)
set_option maxRecDepth 20000 in
theorem gX9_told_X9_noPerson : GoodIn wsX9_told (wsV RX9 100 RX9 yX9_noPerson wsX9_noPerson) := goodIn_app (goodIn_of _ (by decide +kernel)) ggX9_told_X9_noPerson
set_option maxRecDepth 20000 in
theorem ggX9_told_X9_keptOf : GoodIn wsX9_told wsX9_keptOf := goodIn_r _ [11, 2, 12, 13, 1, 14, 15, 16, 17, 18, 19, 20, 21, 22, 23, 24, 25, 26, 27, 28, 29, 30, 31, 32, 33, 34, 35, 36, 37, 38, 43, 44, 45, 46, 47, 48, 49, 50, 51, 52, 53, 54, 55, 56, 57, 58, 59, 60, 61, 62, 63, 64, 65, 66, 67, 68] (by decide +kernel) (by decide +kernel)
set_option maxRecDepth 20000 in
theorem gX9_told_X9_keptOf : GoodIn wsX9_told (wsV RX9 115 RX9 yX9_keptOf wsX9_keptOf) := goodIn_app (goodIn_of _ (by decide +kernel)) ggX9_told_X9_keptOf
set_option maxRecDepth 20000 in
theorem ggX9_told_X8_ofPerson : GoodIn wsX9_told wsX8_ofPerson := goodIn_r _ [42, 19, 20, 61, 62, 63, 64] (by decide +kernel) (by decide +kernel)
set_option maxRecDepth 20000 in
theorem gX9_told_X8_ofPerson : GoodIn wsX9_told (wsV RX9 122 RX8 yX8_ofPerson wsX8_ofPerson) := goodIn_app (goodIn_of _ (by decide +kernel)) ggX9_told_X8_ofPerson
theorem dX9_told_0 : decode cX9_told 0 = .ok (.aload_n 0, 1) := by decide +kernel
theorem dX9_told_1 : decode cX9_told 1 = .ok (.iload_n 1, 1) := by decide +kernel
theorem dX9_told_2 : decode cX9_told 2 = .ok (.invokevirtual 100, 3) := by decide +kernel
theorem dX9_told_5 : decode cX9_told 5 = .ok (.ifCond .eq 5, 3) := by decide +kernel
theorem dX9_told_8 : decode cX9_told 8 = .ok (.iconst (-1), 1) := by decide +kernel
theorem dX9_told_9 : decode cX9_told 9 = .ok (.ireturn, 1) := by decide +kernel
theorem dX9_told_10 : decode cX9_told 10 = .ok (.iload_n 2, 1) := by decide +kernel
theorem dX9_told_11 : decode cX9_told 11 = .ok (.tableswitch 78 0 4 #[33, 43, 53, 59, 69], 33) := by decide +kernel
theorem dX9_told_44 : decode cX9_told 44 = .ok (.aload_n 0, 1) := by decide +kernel
theorem dX9_told_45 : decode cX9_told 45 = .ok (.getfield 19, 3) := by decide +kernel
theorem dX9_told_48 : decode cX9_told 48 = .ok (.getfield 109, 3) := by decide +kernel
theorem dX9_told_51 : decode cX9_told 51 = .ok (.iload_n 1, 1) := by decide +kernel
theorem dX9_told_52 : decode cX9_told 52 = .ok (.iaload, 1) := by decide +kernel
theorem dX9_told_53 : decode cX9_told 53 = .ok (.ireturn, 1) := by decide +kernel
theorem dX9_told_54 : decode cX9_told 54 = .ok (.aload_n 0, 1) := by decide +kernel
theorem dX9_told_55 : decode cX9_told 55 = .ok (.getfield 19, 3) := by decide +kernel
theorem dX9_told_58 : decode cX9_told 58 = .ok (.getfield 112, 3) := by decide +kernel
theorem dX9_told_61 : decode cX9_told 61 = .ok (.iload_n 1, 1) := by decide +kernel
theorem dX9_told_62 : decode cX9_told 62 = .ok (.iaload, 1) := by decide +kernel
theorem dX9_told_63 : decode cX9_told 63 = .ok (.ireturn, 1) := by decide +kernel
theorem dX9_told_64 : decode cX9_told 64 = .ok (.aload_n 0, 1) := by decide +kernel
theorem dX9_told_65 : decode cX9_told 65 = .ok (.iload_n 1, 1) := by decide +kernel
theorem dX9_told_66 : decode cX9_told 66 = .ok (.invokevirtual 115, 3) := by decide +kernel
theorem dX9_told_69 : decode cX9_told 69 = .ok (.ireturn, 1) := by decide +kernel
theorem dX9_told_70 : decode cX9_told 70 = .ok (.aload_n 0, 1) := by decide +kernel
theorem dX9_told_71 : decode cX9_told 71 = .ok (.getfield 19, 3) := by decide +kernel
theorem dX9_told_74 : decode cX9_told 74 = .ok (.getfield 119, 3) := by decide +kernel
theorem dX9_told_77 : decode cX9_told 77 = .ok (.iload_n 1, 1) := by decide +kernel
theorem dX9_told_78 : decode cX9_told 78 = .ok (.iaload, 1) := by decide +kernel
theorem dX9_told_79 : decode cX9_told 79 = .ok (.ireturn, 1) := by decide +kernel
theorem dX9_told_80 : decode cX9_told 80 = .ok (.aload_n 0, 1) := by decide +kernel
theorem dX9_told_81 : decode cX9_told 81 = .ok (.getfield 26, 3) := by decide +kernel
theorem dX9_told_84 : decode cX9_told 84 = .ok (.iload_n 1, 1) := by decide +kernel
theorem dX9_told_85 : decode cX9_told 85 = .ok (.invokevirtual 122, 3) := by decide +kernel
theorem dX9_told_88 : decode cX9_told 88 = .ok (.ireturn, 1) := by decide +kernel
theorem dX9_told_89 : decode cX9_told 89 = .ok (.iconst (-1), 1) := by decide +kernel
theorem dX9_told_90 : decode cX9_told 90 = .ok (.ireturn, 1) := by decide +kernel
set_option maxRecDepth 20000 in
theorem ggX9_standby_X9_noRightSet : GoodIn wsX9_standby wsX9_noRightSet := goodIn_r _ [5] (by decide +kernel) (by decide +kernel)
set_option maxRecDepth 20000 in
theorem gX9_standby_X9_noRightSet : GoodIn wsX9_standby (va_wsS RX9 90 yX9_noRightSet wsX9_noRightSet) := goodIn_app (goodIn_of _ (by decide +kernel)) ggX9_standby_X9_noRightSet
theorem dX9_standby_0 : decode cX9_standby 0 = .ok (.iload_n 1, 1) := by decide +kernel
theorem dX9_standby_1 : decode cX9_standby 1 = .ok (.invokestatic 90, 3) := by decide +kernel
theorem dX9_standby_4 : decode cX9_standby 4 = .ok (.ifCond .eq 5, 3) := by decide +kernel
theorem dX9_standby_7 : decode cX9_standby 7 = .ok (.iconst (-1), 1) := by decide +kernel
theorem dX9_standby_8 : decode cX9_standby 8 = .ok (.ireturn, 1) := by decide +kernel
theorem dX9_standby_9 : decode cX9_standby 9 = .ok (.aload_n 0, 1) := by decide +kernel
theorem dX9_standby_10 : decode cX9_standby 10 = .ok (.getfield 79, 3) := by decide +kernel
theorem dX9_standby_13 : decode cX9_standby 13 = .ok (.istore_n 2, 1) := by decide +kernel
theorem dX9_standby_14 : decode cX9_standby 14 = .ok (.aload_n 0, 1) := by decide +kernel
theorem dX9_standby_15 : decode cX9_standby 15 = .ok (.iload_n 1, 1) := by decide +kernel
theorem dX9_standby_16 : decode cX9_standby 16 = .ok (.putfield 79, 3) := by decide +kernel
theorem dX9_standby_19 : decode cX9_standby 19 = .ok (.iload_n 2, 1) := by decide +kernel
theorem dX9_standby_20 : decode cX9_standby 20 = .ok (.ireturn, 1) := by decide +kernel
theorem dX9_rule_0 : decode cX9_rule 0 = .ok (.iload_n 1, 1) := by decide +kernel
theorem dX9_rule_1 : decode cX9_rule 1 = .ok (.iconst 1, 1) := by decide +kernel
theorem dX9_rule_2 : decode cX9_rule 2 = .ok (.if_icmp .lt 22, 3) := by decide +kernel
theorem dX9_rule_5 : decode cX9_rule 5 = .ok (.iload_n 1, 1) := by decide +kernel
theorem dX9_rule_6 : decode cX9_rule 6 = .ok (.sipush 999, 3) := by decide +kernel
theorem dX9_rule_9 : decode cX9_rule 9 = .ok (.if_icmp .gt 15, 3) := by decide +kernel
theorem dX9_rule_12 : decode cX9_rule 12 = .ok (.iload_n 2, 1) := by decide +kernel
theorem dX9_rule_13 : decode cX9_rule 13 = .ok (.iconst 1, 1) := by decide +kernel
theorem dX9_rule_14 : decode cX9_rule 14 = .ok (.if_icmp .lt 10, 3) := by decide +kernel
theorem dX9_rule_17 : decode cX9_rule 17 = .ok (.iload_n 2, 1) := by decide +kernel
theorem dX9_rule_18 : decode cX9_rule 18 = .ok (.sipush 999, 3) := by decide +kernel
theorem dX9_rule_21 : decode cX9_rule 21 = .ok (.if_icmp .le 5, 3) := by decide +kernel
theorem dX9_rule_24 : decode cX9_rule 24 = .ok (.iconst (-1), 1) := by decide +kernel
theorem dX9_rule_25 : decode cX9_rule 25 = .ok (.ireturn, 1) := by decide +kernel
theorem dX9_rule_26 : decode cX9_rule 26 = .ok (.iload_n 3, 1) := by decide +kernel
theorem dX9_rule_27 : decode cX9_rule 27 = .ok (.ifCond .lt 10, 3) := by decide +kernel
theorem dX9_rule_30 : decode cX9_rule 30 = .ok (.iload_n 3, 1) := by decide +kernel
theorem dX9_rule_31 : decode cX9_rule 31 = .ok (.sipush 999, 3) := by decide +kernel
theorem dX9_rule_34 : decode cX9_rule 34 = .ok (.if_icmp .le 5, 3) := by decide +kernel
theorem dX9_rule_37 : decode cX9_rule 37 = .ok (.iconst (-1), 1) := by decide +kernel
theorem dX9_rule_38 : decode cX9_rule 38 = .ok (.ireturn, 1) := by decide +kernel
theorem dX9_rule_39 : decode cX9_rule 39 = .ok (.aload_n 0, 1) := by decide +kernel
theorem dX9_rule_40 : decode cX9_rule 40 = .ok (.getfield 10, 3) := by decide +kernel
theorem dX9_rule_43 : decode cX9_rule 43 = .ok (.iload_n 1, 1) := by decide +kernel
theorem dX9_rule_44 : decode cX9_rule 44 = .ok (.putfield 125, 3) := by decide +kernel
theorem dX9_rule_47 : decode cX9_rule 47 = .ok (.aload_n 0, 1) := by decide +kernel
theorem dX9_rule_48 : decode cX9_rule 48 = .ok (.getfield 10, 3) := by decide +kernel
theorem dX9_rule_51 : decode cX9_rule 51 = .ok (.iload_n 2, 1) := by decide +kernel
theorem dX9_rule_52 : decode cX9_rule 52 = .ok (.putfield 128, 3) := by decide +kernel
theorem dX9_rule_55 : decode cX9_rule 55 = .ok (.aload_n 0, 1) := by decide +kernel
theorem dX9_rule_56 : decode cX9_rule 56 = .ok (.getfield 10, 3) := by decide +kernel
theorem dX9_rule_59 : decode cX9_rule 59 = .ok (.iload_n 3, 1) := by decide +kernel
theorem dX9_rule_60 : decode cX9_rule 60 = .ok (.putfield 131, 3) := by decide +kernel
theorem dX9_rule_63 : decode cX9_rule 63 = .ok (.iconst 1, 1) := by decide +kernel
theorem dX9_rule_64 : decode cX9_rule 64 = .ok (.ireturn, 1) := by decide +kernel
theorem dX9_later_0 : decode cX9_later 0 = .ok (.iload_n 1, 1) := by decide +kernel
theorem dX9_later_1 : decode cX9_later 1 = .ok (.ifCond .lt 18, 3) := by decide +kernel
theorem dX9_later_4 : decode cX9_later 4 = .ok (.iload_n 1, 1) := by decide +kernel
theorem dX9_later_5 : decode cX9_later 5 = .ok (.sipush 999, 3) := by decide +kernel
theorem dX9_later_8 : decode cX9_later 8 = .ok (.aload_n 0, 1) := by decide +kernel
theorem dX9_later_9 : decode cX9_later 9 = .ok (.getfield 10, 3) := by decide +kernel
theorem dX9_later_12 : decode cX9_later 12 = .ok (.getfield 134, 3) := by decide +kernel
theorem dX9_later_15 : decode cX9_later 15 = .ok (.isub, 1) := by decide +kernel
theorem dX9_later_16 : decode cX9_later 16 = .ok (.if_icmp .le 5, 3) := by decide +kernel
theorem dX9_later_19 : decode cX9_later 19 = .ok (.iconst (-1), 1) := by decide +kernel
theorem dX9_later_20 : decode cX9_later 20 = .ok (.ireturn, 1) := by decide +kernel
theorem dX9_later_21 : decode cX9_later 21 = .ok (.aload_n 0, 1) := by decide +kernel
theorem dX9_later_22 : decode cX9_later 22 = .ok (.getfield 10, 3) := by decide +kernel
theorem dX9_later_25 : decode cX9_later 25 = .ok (.dup, 1) := by decide +kernel
theorem dX9_later_26 : decode cX9_later 26 = .ok (.getfield 134, 3) := by decide +kernel
theorem dX9_later_29 : decode cX9_later 29 = .ok (.iload_n 1, 1) := by decide +kernel
theorem dX9_later_30 : decode cX9_later 30 = .ok (.iadd, 1) := by decide +kernel
theorem dX9_later_31 : decode cX9_later 31 = .ok (.putfield 134, 3) := by decide +kernel
theorem dX9_later_34 : decode cX9_later 34 = .ok (.aload_n 0, 1) := by decide +kernel
theorem dX9_later_35 : decode cX9_later 35 = .ok (.getfield 10, 3) := by decide +kernel
theorem dX9_later_38 : decode cX9_later 38 = .ok (.getfield 134, 3) := by decide +kernel
theorem dX9_later_41 : decode cX9_later 41 = .ok (.ireturn, 1) := by decide +kernel
set_option maxRecDepth 20000 in
theorem ggX9_use_X9_noPerson : GoodIn wsX9_use wsX9_noPerson := goodIn_r _ [8, 3, 27, 28, 29, 30, 31, 32, 33, 34, 35, 36, 37, 38, 39, 48, 49, 50, 51, 52] (by decide +kernel) (by decide +kernel)
set_option maxRecDepth 20000 in
theorem gX9_use_X9_noPerson : GoodIn wsX9_use (wsV RX9 100 RX9 yX9_noPerson wsX9_noPerson) := goodIn_app (goodIn_of _ (by decide +kernel)) ggX9_use_X9_noPerson
set_option maxRecDepth 20000 in
theorem ggX9_use_X9_noRight : GoodIn wsX9_use wsX9_noRight := goodIn_r _ [11] (by decide +kernel) (by decide +kernel)
set_option maxRecDepth 20000 in
theorem gX9_use_X9_noRight : GoodIn wsX9_use (va_wsS RX9 137 yX9_noRight wsX9_noRight) := goodIn_app (goodIn_of _ (by decide +kernel)) ggX9_use_X9_noRight
set_option maxRecDepth 20000 in
theorem ggX9_use_X5_has : GoodIn wsX9_use wsX5_has := goodIn_r _ [16, 17, 48, 49, 50, 51, 52] (by decide +kernel) (by decide +kernel)
set_option maxRecDepth 20000 in
theorem gX9_use_X5_has : GoodIn wsX9_use (wsV RX9 141 RX5 yX5_has wsX5_has) := goodIn_app (goodIn_of _ (by decide +kernel)) ggX9_use_X5_has
set_option maxRecDepth 20000 in
theorem ggX9_use_X8_enter : GoodIn wsX9_use wsX8_enter := goodIn_r _ [22, 23, 24, 25, 26, 44, 45, 46, 47] (by decide +kernel) (by decide +kernel)
set_option maxRecDepth 20000 in
theorem gX9_use_X8_enter : GoodIn wsX9_use (wsV RX9 145 RX8 yX8_enter wsX8_enter) := goodIn_app (goodIn_of _ (by decide +kernel)) ggX9_use_X8_enter
theorem dX9_use_0 : decode cX9_use 0 = .ok (.aload_n 0, 1) := by decide +kernel
theorem dX9_use_1 : decode cX9_use 1 = .ok (.iload_n 1, 1) := by decide +kernel
theorem dX9_use_2 : decode cX9_use 2 = .ok (.invokevirtual 100, 3) := by decide +kernel
theorem dX9_use_5 : decode cX9_use 5 = .ok (.ifCond .ne 25, 3) := by decide +kernel
theorem dX9_use_8 : decode cX9_use 8 = .ok (.iload_n 2, 1) := by decide +kernel
theorem dX9_use_9 : decode cX9_use 9 = .ok (.invokestatic 137, 3) := by decide +kernel
theorem dX9_use_12 : decode cX9_use 12 = .ok (.ifCond .ne 18, 3) := by decide +kernel
theorem dX9_use_15 : decode cX9_use 15 = .ok (.iload_n 3, 1) := by decide +kernel
theorem dX9_use_16 : decode cX9_use 16 = .ok (.ifCond .lt 14, 3) := by decide +kernel
theorem dX9_use_19 : decode cX9_use 19 = .ok (.iload_n 3, 1) := by decide +kernel
theorem dX9_use_20 : decode cX9_use 20 = .ok (.aload_n 0, 1) := by decide +kernel
theorem dX9_use_21 : decode cX9_use 21 = .ok (.getfield 10, 3) := by decide +kernel
theorem dX9_use_24 : decode cX9_use 24 = .ok (.getfield 134, 3) := by decide +kernel
theorem dX9_use_27 : decode cX9_use 27 = .ok (.if_icmp .le 5, 3) := by decide +kernel
theorem dX9_use_30 : decode cX9_use 30 = .ok (.iconst (-1), 1) := by decide +kernel
theorem dX9_use_31 : decode cX9_use 31 = .ok (.ireturn, 1) := by decide +kernel
theorem dX9_use_32 : decode cX9_use 32 = .ok (.aload_n 0, 1) := by decide +kernel
theorem dX9_use_33 : decode cX9_use 33 = .ok (.getfield 26, 3) := by decide +kernel
theorem dX9_use_36 : decode cX9_use 36 = .ok (.getfield 140, 3) := by decide +kernel
theorem dX9_use_39 : decode cX9_use 39 = .ok (.sipush 400, 3) := by decide +kernel
theorem dX9_use_42 : decode cX9_use 42 = .ok (.if_icmp .lt 6, 3) := by decide +kernel
theorem dX9_use_45 : decode cX9_use 45 = .ok (.bipush (-2), 2) := by decide +kernel
theorem dX9_use_47 : decode cX9_use 47 = .ok (.ireturn, 1) := by decide +kernel
theorem dX9_use_48 : decode cX9_use 48 = .ok (.aload_n 0, 1) := by decide +kernel
theorem dX9_use_49 : decode cX9_use 49 = .ok (.getfield 19, 3) := by decide +kernel
theorem dX9_use_52 : decode cX9_use 52 = .ok (.iload_n 1, 1) := by decide +kernel
theorem dX9_use_53 : decode cX9_use 53 = .ok (.iload_n 2, 1) := by decide +kernel
theorem dX9_use_54 : decode cX9_use 54 = .ok (.invokevirtual 141, 3) := by decide +kernel
theorem dX9_use_57 : decode cX9_use 57 = .ok (.ifCond .ne 6, 3) := by decide +kernel
theorem dX9_use_60 : decode cX9_use 60 = .ok (.bipush (-4), 2) := by decide +kernel
theorem dX9_use_62 : decode cX9_use 62 = .ok (.ireturn, 1) := by decide +kernel
theorem dX9_use_63 : decode cX9_use 63 = .ok (.aload_n 0, 1) := by decide +kernel
theorem dX9_use_64 : decode cX9_use 64 = .ok (.getfield 26, 3) := by decide +kernel
theorem dX9_use_67 : decode cX9_use 67 = .ok (.iload_n 1, 1) := by decide +kernel
theorem dX9_use_68 : decode cX9_use 68 = .ok (.iload_n 2, 1) := by decide +kernel
theorem dX9_use_69 : decode cX9_use 69 = .ok (.aload_n 0, 1) := by decide +kernel
theorem dX9_use_70 : decode cX9_use 70 = .ok (.getfield 10, 3) := by decide +kernel
theorem dX9_use_73 : decode cX9_use 73 = .ok (.getfield 134, 3) := by decide +kernel
theorem dX9_use_76 : decode cX9_use 76 = .ok (.iload_n 3, 1) := by decide +kernel
theorem dX9_use_77 : decode cX9_use 77 = .ok (.isub, 1) := by decide +kernel
theorem dX9_use_78 : decode cX9_use 78 = .ok (.invokevirtual 145, 3) := by decide +kernel
theorem dX9_use_81 : decode cX9_use 81 = .ok (.ireturn, 1) := by decide +kernel
set_option maxRecDepth 20000 in
theorem ggX9_kind_X9_noPerson : GoodIn wsX9_kind wsX9_noPerson := goodIn_r _ [6, 1, 48, 49, 50, 51, 52, 53, 54, 55, 56, 57, 58, 59, 60, 61, 62, 63, 64, 65] (by decide +kernel) (by decide +kernel)
set_option maxRecDepth 20000 in
theorem gX9_kind_X9_noPerson : GoodIn wsX9_kind (wsV RX9 100 RX9 yX9_noPerson wsX9_noPerson) := goodIn_app (goodIn_of _ (by decide +kernel)) ggX9_kind_X9_noPerson
set_option maxRecDepth 20000 in
theorem ggX9_kind_X9_noRight : GoodIn wsX9_kind wsX9_noRight := goodIn_r _ [9] (by decide +kernel) (by decide +kernel)
set_option maxRecDepth 20000 in
theorem gX9_kind_X9_noRight : GoodIn wsX9_kind (va_wsS RX9 137 yX9_noRight wsX9_noRight) := goodIn_app (goodIn_of _ (by decide +kernel)) ggX9_kind_X9_noRight
set_option maxRecDepth 20000 in
theorem ggX9_kind_X5_has : GoodIn wsX9_kind wsX5_has := goodIn_r _ [14, 15, 61, 62, 63, 64, 65] (by decide +kernel) (by decide +kernel)
set_option maxRecDepth 20000 in
theorem gX9_kind_X5_has : GoodIn wsX9_kind (wsV RX9 141 RX5 yX5_has wsX5_has) := goodIn_app (goodIn_of _ (by decide +kernel)) ggX9_kind_X5_has
set_option maxRecDepth 20000 in
theorem ggX9_kind_X9_kindOf : GoodIn wsX9_kind wsX9_kindOf := goodIn_r _ [19, 20, 21, 22, 23, 24, 25, 26, 27, 28, 29, 30, 31, 32, 33, 34, 35, 36, 37, 38, 39, 40, 41, 42, 43, 44, 45, 46, 47, 48, 49, 50, 51, 52, 53, 54, 55, 56, 57, 58, 59, 60, 66, 67, 68, 69, 70, 71, 72, 73] (by decide +kernel) (by decide +kernel)
set_option maxRecDepth 20000 in
theorem gX9_kind_X9_kindOf : GoodIn wsX9_kind (wsV RX9 149 RX9 yX9_kindOf wsX9_kindOf) := goodIn_app (goodIn_of _ (by decide +kernel)) ggX9_kind_X9_kindOf
theorem dX9_kind_0 : decode cX9_kind 0 = .ok (.aload_n 0, 1) := by decide +kernel
theorem dX9_kind_1 : decode cX9_kind 1 = .ok (.iload_n 1, 1) := by decide +kernel
theorem dX9_kind_2 : decode cX9_kind 2 = .ok (.invokevirtual 100, 3) := by decide +kernel
theorem dX9_kind_5 : decode cX9_kind 5 = .ok (.ifCond .ne 10, 3) := by decide +kernel
theorem dX9_kind_8 : decode cX9_kind 8 = .ok (.iload_n 2, 1) := by decide +kernel
theorem dX9_kind_9 : decode cX9_kind 9 = .ok (.invokestatic 137, 3) := by decide +kernel
theorem dX9_kind_12 : decode cX9_kind 12 = .ok (.ifCond .eq 5, 3) := by decide +kernel
theorem dX9_kind_15 : decode cX9_kind 15 = .ok (.iconst (-1), 1) := by decide +kernel
theorem dX9_kind_16 : decode cX9_kind 16 = .ok (.ireturn, 1) := by decide +kernel
theorem dX9_kind_17 : decode cX9_kind 17 = .ok (.aload_n 0, 1) := by decide +kernel
theorem dX9_kind_18 : decode cX9_kind 18 = .ok (.getfield 19, 3) := by decide +kernel
theorem dX9_kind_21 : decode cX9_kind 21 = .ok (.iload_n 1, 1) := by decide +kernel
theorem dX9_kind_22 : decode cX9_kind 22 = .ok (.iload_n 2, 1) := by decide +kernel
theorem dX9_kind_23 : decode cX9_kind 23 = .ok (.invokevirtual 141, 3) := by decide +kernel
theorem dX9_kind_26 : decode cX9_kind 26 = .ok (.ifCond .ne 6, 3) := by decide +kernel
theorem dX9_kind_29 : decode cX9_kind 29 = .ok (.bipush (-4), 2) := by decide +kernel
theorem dX9_kind_31 : decode cX9_kind 31 = .ok (.ireturn, 1) := by decide +kernel
theorem dX9_kind_32 : decode cX9_kind 32 = .ok (.aload_n 0, 1) := by decide +kernel
theorem dX9_kind_33 : decode cX9_kind 33 = .ok (.iload_n 1, 1) := by decide +kernel
theorem dX9_kind_34 : decode cX9_kind 34 = .ok (.iload_n 2, 1) := by decide +kernel
theorem dX9_kind_35 : decode cX9_kind 35 = .ok (.invokevirtual 149, 3) := by decide +kernel
theorem dX9_kind_38 : decode cX9_kind 38 = .ok (.ireturn, 1) := by decide +kernel
set_option maxRecDepth 20000 in
theorem ggX9_uses_X9_noPerson : GoodIn wsX9_uses wsX9_noPerson := goodIn_r _ [8, 1, 63, 64, 65, 66, 67, 68, 69, 70, 71, 72, 73, 74, 75, 76, 77, 78, 79, 80] (by decide +kernel) (by decide +kernel)
set_option maxRecDepth 20000 in
theorem gX9_uses_X9_noPerson : GoodIn wsX9_uses (wsV RX9 100 RX9 yX9_noPerson wsX9_noPerson) := goodIn_app (goodIn_of _ (by decide +kernel)) ggX9_uses_X9_noPerson
set_option maxRecDepth 20000 in
theorem ggX9_uses_X9_noRight : GoodIn wsX9_uses wsX9_noRight := goodIn_r _ [11] (by decide +kernel) (by decide +kernel)
set_option maxRecDepth 20000 in
theorem gX9_uses_X9_noRight : GoodIn wsX9_uses (va_wsS RX9 137 yX9_noRight wsX9_noRight) := goodIn_app (goodIn_of _ (by decide +kernel)) ggX9_uses_X9_noRight
set_option maxRecDepth 20000 in
theorem ggX9_uses_X5_has : GoodIn wsX9_uses wsX5_has := goodIn_r _ [16, 17, 76, 77, 78, 79, 80] (by decide +kernel) (by decide +kernel)
set_option maxRecDepth 20000 in
theorem gX9_uses_X5_has : GoodIn wsX9_uses (wsV RX9 141 RX5 yX5_has wsX5_has) := goodIn_app (goodIn_of _ (by decide +kernel)) ggX9_uses_X5_has
set_option maxRecDepth 20000 in
theorem ggX9_uses_X9_kindOf : GoodIn wsX9_uses wsX9_kindOf := goodIn_r _ [21, 3, 22, 23, 24, 25, 26, 27, 28, 29, 30, 31, 32, 33, 34, 35, 36, 37, 38, 39, 40, 41, 42, 43, 44, 45, 46, 47, 48, 63, 64, 65, 66, 67, 68, 69, 70, 71, 72, 73, 74, 75, 81, 82, 83, 84, 85, 86, 87, 88] (by decide +kernel) (by decide +kernel)
set_option maxRecDepth 20000 in
theorem gX9_uses_X9_kindOf : GoodIn wsX9_uses (wsV RX9 149 RX9 yX9_kindOf wsX9_kindOf) := goodIn_app (goodIn_of _ (by decide +kernel)) ggX9_uses_X9_kindOf
set_option maxRecDepth 20000 in
theorem ggX9_uses_X9_isOfKind : GoodIn wsX9_uses wsX9_isOfKind := goodIn_r _ [51] (by decide +kernel) (by decide +kernel)
set_option maxRecDepth 20000 in
theorem gX9_uses_X9_isOfKind : GoodIn wsX9_uses (va_wsS RX9 152 yX9_isOfKind wsX9_isOfKind) := goodIn_app (goodIn_of _ (by decide +kernel)) ggX9_uses_X9_isOfKind
set_option maxRecDepth 20000 in
theorem ggX9_uses_X4_answer : GoodIn wsX9_uses wsX4_answer := goodIn_r _ [56, 57, 58, 89, 90] (by decide +kernel) (by decide +kernel)
set_option maxRecDepth 20000 in
theorem gX9_uses_X4_answer : GoodIn wsX9_uses (wsV RX9 155 RX4 yX4_answer wsX4_answer) := goodIn_app (goodIn_of _ (by decide +kernel)) ggX9_uses_X4_answer
set_option maxRecDepth 20000 in
theorem ggX9_uses_X8_ofHolding : GoodIn wsX9_uses wsX8_ofHolding := goodIn_r _ [62, 29, 30, 32, 81, 82, 83, 84] (by decide +kernel) (by decide +kernel)
set_option maxRecDepth 20000 in
theorem gX9_uses_X8_ofHolding : GoodIn wsX9_uses (wsV RX9 158 RX8 yX8_ofHolding wsX8_ofHolding) := goodIn_app (goodIn_of _ (by decide +kernel)) ggX9_uses_X8_ofHolding
theorem dX9_uses_0 : decode cX9_uses 0 = .ok (.aload_n 0, 1) := by decide +kernel
theorem dX9_uses_1 : decode cX9_uses 1 = .ok (.iload_n 1, 1) := by decide +kernel
theorem dX9_uses_2 : decode cX9_uses 2 = .ok (.invokevirtual 100, 3) := by decide +kernel
theorem dX9_uses_5 : decode cX9_uses 5 = .ok (.ifCond .ne 19, 3) := by decide +kernel
theorem dX9_uses_8 : decode cX9_uses 8 = .ok (.iload_n 2, 1) := by decide +kernel
theorem dX9_uses_9 : decode cX9_uses 9 = .ok (.invokestatic 137, 3) := by decide +kernel
theorem dX9_uses_12 : decode cX9_uses 12 = .ok (.ifCond .ne 12, 3) := by decide +kernel
theorem dX9_uses_15 : decode cX9_uses 15 = .ok (.iload_n 3, 1) := by decide +kernel
theorem dX9_uses_16 : decode cX9_uses 16 = .ok (.ifCond .lt 8, 3) := by decide +kernel
theorem dX9_uses_19 : decode cX9_uses 19 = .ok (.iload_n 3, 1) := by decide +kernel
theorem dX9_uses_20 : decode cX9_uses 20 = .ok (.iconst 3, 1) := by decide +kernel
theorem dX9_uses_21 : decode cX9_uses 21 = .ok (.if_icmp .le 5, 3) := by decide +kernel
theorem dX9_uses_24 : decode cX9_uses 24 = .ok (.iconst (-1), 1) := by decide +kernel
theorem dX9_uses_25 : decode cX9_uses 25 = .ok (.ireturn, 1) := by decide +kernel
theorem dX9_uses_26 : decode cX9_uses 26 = .ok (.aload_n 0, 1) := by decide +kernel
theorem dX9_uses_27 : decode cX9_uses 27 = .ok (.getfield 19, 3) := by decide +kernel
theorem dX9_uses_30 : decode cX9_uses 30 = .ok (.iload_n 1, 1) := by decide +kernel
theorem dX9_uses_31 : decode cX9_uses 31 = .ok (.iload_n 2, 1) := by decide +kernel
theorem dX9_uses_32 : decode cX9_uses 32 = .ok (.invokevirtual 141, 3) := by decide +kernel
theorem dX9_uses_35 : decode cX9_uses 35 = .ok (.ifCond .ne 6, 3) := by decide +kernel
theorem dX9_uses_38 : decode cX9_uses 38 = .ok (.bipush (-4), 2) := by decide +kernel
theorem dX9_uses_40 : decode cX9_uses 40 = .ok (.ireturn, 1) := by decide +kernel
theorem dX9_uses_41 : decode cX9_uses 41 = .ok (.aload_n 0, 1) := by decide +kernel
theorem dX9_uses_42 : decode cX9_uses 42 = .ok (.iload_n 1, 1) := by decide +kernel
theorem dX9_uses_43 : decode cX9_uses 43 = .ok (.iload_n 2, 1) := by decide +kernel
theorem dX9_uses_44 : decode cX9_uses 44 = .ok (.invokevirtual 149, 3) := by decide +kernel
theorem dX9_uses_47 : decode cX9_uses 47 = .ok (.iload_n 3, 1) := by decide +kernel
theorem dX9_uses_48 : decode cX9_uses 48 = .ok (.invokestatic 152, 3) := by decide +kernel
theorem dX9_uses_51 : decode cX9_uses 51 = .ok (.ifCond .ne 12, 3) := by decide +kernel
theorem dX9_uses_54 : decode cX9_uses 54 = .ok (.aload_n 0, 1) := by decide +kernel
theorem dX9_uses_55 : decode cX9_uses 55 = .ok (.getfield 68, 3) := by decide +kernel
theorem dX9_uses_58 : decode cX9_uses 58 = .ok (.iconst 3, 1) := by decide +kernel
theorem dX9_uses_59 : decode cX9_uses 59 = .ok (.invokevirtual 155, 3) := by decide +kernel
theorem dX9_uses_62 : decode cX9_uses 62 = .ok (.ireturn, 1) := by decide +kernel
theorem dX9_uses_63 : decode cX9_uses 63 = .ok (.aload_n 0, 1) := by decide +kernel
theorem dX9_uses_64 : decode cX9_uses 64 = .ok (.getfield 26, 3) := by decide +kernel
theorem dX9_uses_67 : decode cX9_uses 67 = .ok (.iload_n 1, 1) := by decide +kernel
theorem dX9_uses_68 : decode cX9_uses 68 = .ok (.iload_n 2, 1) := by decide +kernel
theorem dX9_uses_69 : decode cX9_uses 69 = .ok (.invokevirtual 158, 3) := by decide +kernel
theorem dX9_uses_72 : decode cX9_uses 72 = .ok (.ireturn, 1) := by decide +kernel
set_option maxRecDepth 20000 in
theorem ggX9_strike_X9_noPerson : GoodIn wsX9_strike wsX9_noPerson := goodIn_r _ [7, 1, 54, 55, 56, 57, 58, 59, 60, 61, 62, 63, 64, 65, 66, 71, 72, 73, 74, 75] (by decide +kernel) (by decide +kernel)
set_option maxRecDepth 20000 in
theorem gX9_strike_X9_noPerson : GoodIn wsX9_strike (wsV RX9 100 RX9 yX9_noPerson wsX9_noPerson) := goodIn_app (goodIn_of _ (by decide +kernel)) ggX9_strike_X9_noPerson
set_option maxRecDepth 20000 in
theorem ggX9_strike_X9_keptOf : GoodIn wsX9_strike wsX9_keptOf := goodIn_r _ [11, 12, 2, 13, 1, 14, 15, 16, 17, 18, 19, 20, 21, 22, 23, 24, 25, 26, 27, 28, 29, 30, 31, 32, 33, 34, 35, 36, 37, 38, 54, 55, 56, 57, 58, 59, 60, 61, 62, 63, 64, 65, 66, 71, 72, 73, 74, 75, 76, 77, 78, 79, 67, 68, 69, 70] (by decide +kernel) (by decide +kernel)
set_option maxRecDepth 20000 in
theorem gX9_strike_X9_keptOf : GoodIn wsX9_strike (wsV RX9 115 RX9 yX9_keptOf wsX9_keptOf) := goodIn_app (goodIn_of _ (by decide +kernel)) ggX9_strike_X9_keptOf
set_option maxRecDepth 20000 in
theorem ggX9_strike_X5_strikeAllBut : GoodIn wsX9_strike wsX5_strikeAllBut := goodIn_r _ [43, 44, 45, 46, 47, 48, 49, 50, 51, 52, 53, 71, 72, 73, 74, 75] (by decide +kernel) (by decide +kernel)
set_option maxRecDepth 20000 in
theorem gX9_strike_X5_strikeAllBut : GoodIn wsX9_strike (wsV RX9 161 RX5 yX5_strikeAllBut wsX5_strikeAllBut) := goodIn_app (goodIn_of _ (by decide +kernel)) ggX9_strike_X5_strikeAllBut
theorem dX9_strike_0 : decode cX9_strike 0 = .ok (.aload_n 0, 1) := by decide +kernel
theorem dX9_strike_1 : decode cX9_strike 1 = .ok (.iload_n 1, 1) := by decide +kernel
theorem dX9_strike_2 : decode cX9_strike 2 = .ok (.invokevirtual 100, 3) := by decide +kernel
theorem dX9_strike_5 : decode cX9_strike 5 = .ok (.ifCond .eq 5, 3) := by decide +kernel
theorem dX9_strike_8 : decode cX9_strike 8 = .ok (.iconst (-1), 1) := by decide +kernel
theorem dX9_strike_9 : decode cX9_strike 9 = .ok (.ireturn, 1) := by decide +kernel
theorem dX9_strike_10 : decode cX9_strike 10 = .ok (.aload_n 0, 1) := by decide +kernel
theorem dX9_strike_11 : decode cX9_strike 11 = .ok (.getfield 19, 3) := by decide +kernel
theorem dX9_strike_14 : decode cX9_strike 14 = .ok (.iload_n 1, 1) := by decide +kernel
theorem dX9_strike_15 : decode cX9_strike 15 = .ok (.aload_n 0, 1) := by decide +kernel
theorem dX9_strike_16 : decode cX9_strike 16 = .ok (.iload_n 1, 1) := by decide +kernel
theorem dX9_strike_17 : decode cX9_strike 17 = .ok (.invokevirtual 115, 3) := by decide +kernel
theorem dX9_strike_20 : decode cX9_strike 20 = .ok (.aload_n 0, 1) := by decide +kernel
theorem dX9_strike_21 : decode cX9_strike 21 = .ok (.getfield 10, 3) := by decide +kernel
theorem dX9_strike_24 : decode cX9_strike 24 = .ok (.getfield 134, 3) := by decide +kernel
theorem dX9_strike_27 : decode cX9_strike 27 = .ok (.invokevirtual 161, 3) := by decide +kernel
theorem dX9_strike_30 : decode cX9_strike 30 = .ok (.ireturn, 1) := by decide +kernel
set_option maxRecDepth 20000 in
theorem ggX9_ask_X9_noPerson : GoodIn wsX9_ask wsX9_noPerson := goodIn_r _ [8, 1, 31, 32, 33, 34, 35, 36, 37, 38, 39, 40, 41, 42, 43, 44, 45, 46, 47, 48] (by decide +kernel) (by decide +kernel)
set_option maxRecDepth 20000 in
theorem gX9_ask_X9_noPerson : GoodIn wsX9_ask (wsV RX9 100 RX9 yX9_noPerson wsX9_noPerson) := goodIn_app (goodIn_of _ (by decide +kernel)) ggX9_ask_X9_noPerson
set_option maxRecDepth 20000 in
theorem ggX9_ask_X9_noRight : GoodIn wsX9_ask wsX9_noRight := goodIn_r _ [11] (by decide +kernel) (by decide +kernel)
set_option maxRecDepth 20000 in
theorem gX9_ask_X9_noRight : GoodIn wsX9_ask (va_wsS RX9 137 yX9_noRight wsX9_noRight) := goodIn_app (goodIn_of _ (by decide +kernel)) ggX9_ask_X9_noRight
set_option maxRecDepth 20000 in
theorem ggX9_ask_X5_request : GoodIn wsX9_ask wsX5_request := goodIn_r _ [16, 17, 18, 19, 20, 21, 22, 23, 24, 25, 26, 27, 28, 29, 15, 30, 44, 45, 46, 47, 48, 49, 50, 51, 52] (by decide +kernel) (by decide +kernel)
set_option maxRecDepth 20000 in
theorem gX9_ask_X5_request : GoodIn wsX9_ask (wsV RX9 164 RX5 yX5_request wsX5_request) := goodIn_app (goodIn_of _ (by decide +kernel)) ggX9_ask_X5_request
theorem dX9_ask_0 : decode cX9_ask 0 = .ok (.aload_n 0, 1) := by decide +kernel
theorem dX9_ask_1 : decode cX9_ask 1 = .ok (.iload_n 1, 1) := by decide +kernel
theorem dX9_ask_2 : decode cX9_ask 2 = .ok (.invokevirtual 100, 3) := by decide +kernel
theorem dX9_ask_5 : decode cX9_ask 5 = .ok (.ifCond .ne 10, 3) := by decide +kernel
theorem dX9_ask_8 : decode cX9_ask 8 = .ok (.iload_n 2, 1) := by decide +kernel
theorem dX9_ask_9 : decode cX9_ask 9 = .ok (.invokestatic 137, 3) := by decide +kernel
theorem dX9_ask_12 : decode cX9_ask 12 = .ok (.ifCond .eq 5, 3) := by decide +kernel
theorem dX9_ask_15 : decode cX9_ask 15 = .ok (.iconst (-1), 1) := by decide +kernel
theorem dX9_ask_16 : decode cX9_ask 16 = .ok (.ireturn, 1) := by decide +kernel
theorem dX9_ask_17 : decode cX9_ask 17 = .ok (.aload_n 0, 1) := by decide +kernel
theorem dX9_ask_18 : decode cX9_ask 18 = .ok (.getfield 19, 3) := by decide +kernel
theorem dX9_ask_21 : decode cX9_ask 21 = .ok (.iload_n 1, 1) := by decide +kernel
theorem dX9_ask_22 : decode cX9_ask 22 = .ok (.iload_n 2, 1) := by decide +kernel
theorem dX9_ask_23 : decode cX9_ask 23 = .ok (.aload_n 0, 1) := by decide +kernel
theorem dX9_ask_24 : decode cX9_ask 24 = .ok (.getfield 10, 3) := by decide +kernel
theorem dX9_ask_27 : decode cX9_ask 27 = .ok (.invokevirtual 164, 3) := by decide +kernel
theorem dX9_ask_30 : decode cX9_ask 30 = .ok (.istore_n 3, 1) := by decide +kernel
theorem dX9_ask_31 : decode cX9_ask 31 = .ok (.aload_n 0, 1) := by decide +kernel
theorem dX9_ask_32 : decode cX9_ask 32 = .ok (.getfield 76, 3) := by decide +kernel
theorem dX9_ask_35 : decode cX9_ask 35 = .ok (.iload_n 3, 1) := by decide +kernel
theorem dX9_ask_36 : decode cX9_ask 36 = .ok (.dup2, 1) := by decide +kernel
theorem dX9_ask_37 : decode cX9_ask 37 = .ok (.iaload, 1) := by decide +kernel
theorem dX9_ask_38 : decode cX9_ask 38 = .ok (.iconst 1, 1) := by decide +kernel
theorem dX9_ask_39 : decode cX9_ask 39 = .ok (.iadd, 1) := by decide +kernel
theorem dX9_ask_40 : decode cX9_ask 40 = .ok (.iastore, 1) := by decide +kernel
theorem dX9_ask_41 : decode cX9_ask 41 = .ok (.iload_n 3, 1) := by decide +kernel
theorem dX9_ask_42 : decode cX9_ask 42 = .ok (.ireturn, 1) := by decide +kernel
theorem dX9_asks_0 : decode cX9_asks 0 = .ok (.iload_n 1, 1) := by decide +kernel
theorem dX9_asks_1 : decode cX9_asks 1 = .ok (.ifCond .lt 12, 3) := by decide +kernel
theorem dX9_asks_4 : decode cX9_asks 4 = .ok (.iload_n 1, 1) := by decide +kernel
theorem dX9_asks_5 : decode cX9_asks 5 = .ok (.aload_n 0, 1) := by decide +kernel
theorem dX9_asks_6 : decode cX9_asks 6 = .ok (.getfield 76, 3) := by decide +kernel
theorem dX9_asks_9 : decode cX9_asks 9 = .ok (.arraylength, 1) := by decide +kernel
theorem dX9_asks_10 : decode cX9_asks 10 = .ok (.if_icmp .lt 5, 3) := by decide +kernel
theorem dX9_asks_13 : decode cX9_asks 13 = .ok (.iconst (-1), 1) := by decide +kernel
theorem dX9_asks_14 : decode cX9_asks 14 = .ok (.ireturn, 1) := by decide +kernel
theorem dX9_asks_15 : decode cX9_asks 15 = .ok (.aload_n 0, 1) := by decide +kernel
theorem dX9_asks_16 : decode cX9_asks 16 = .ok (.getfield 76, 3) := by decide +kernel
theorem dX9_asks_19 : decode cX9_asks 19 = .ok (.iload_n 1, 1) := by decide +kernel
theorem dX9_asks_20 : decode cX9_asks 20 = .ok (.iaload, 1) := by decide +kernel
theorem dX9_asks_21 : decode cX9_asks 21 = .ok (.ireturn, 1) := by decide +kernel
set_option maxRecDepth 20000 in
theorem ggX9_candidates_X9_lookAtKept : GoodIn wsX9_candidates wsX9_lookAtKept := goodIn_r _ [8, 3, 2, 9, 10, 11, 7, 12, 13, 14, 15, 16, 17, 18, 19, 20, 21, 22, 23, 24, 25, 26, 27, 28, 29, 30, 31, 32, 33, 34, 35, 36, 37, 38, 39, 40, 61, 62, 63, 64, 65, 66, 67, 68, 69, 70, 71, 72, 73, 74, 75, 76, 77, 78, 82, 83, 84, 85, 86, 87, 88, 89] (by decide +kernel) (by decide +kernel)
set_option maxRecDepth 20000 in
theorem gX9_candidates_X9_lookAtKept : GoodIn wsX9_candidates (wsV RX9 168 RX9 yX9_lookAtKept wsX9_lookAtKept) := goodIn_app (goodIn_of _ (by decide +kernel)) ggX9_candidates_X9_lookAtKept
set_option maxRecDepth 20000 in
theorem ggX9_candidates_X1_gather : GoodIn wsX9_candidates wsX1_gather := goodIn_r _ [45, 46, 47, 48, 49, 50, 51, 44, 52, 53, 54, 55, 56, 57, 58, 59, 60, 79, 80, 81] (by decide +kernel) (by decide +kernel)
set_option maxRecDepth 20000 in
theorem gX9_candidates_X1_gather : GoodIn wsX9_candidates (wsV RX9 171 RX1 yX1_gather wsX1_gather) := goodIn_app (goodIn_of _ (by decide +kernel)) ggX9_candidates_X1_gather
theorem dX9_candidates_0 : decode cX9_candidates 0 = .ok (.aload_n 0, 1) := by decide +kernel
theorem dX9_candidates_1 : decode cX9_candidates 1 = .ok (.invokevirtual 168, 3) := by decide +kernel
theorem dX9_candidates_4 : decode cX9_candidates 4 = .ok (.aload_n 0, 1) := by decide +kernel
theorem dX9_candidates_5 : decode cX9_candidates 5 = .ok (.getfield 33, 3) := by decide +kernel
theorem dX9_candidates_8 : decode cX9_candidates 8 = .ok (.aload_n 0, 1) := by decide +kernel
theorem dX9_candidates_9 : decode cX9_candidates 9 = .ok (.getfield 72, 3) := by decide +kernel
theorem dX9_candidates_12 : decode cX9_candidates 12 = .ok (.aload_n 0, 1) := by decide +kernel
theorem dX9_candidates_13 : decode cX9_candidates 13 = .ok (.getfield 19, 3) := by decide +kernel
theorem dX9_candidates_16 : decode cX9_candidates 16 = .ok (.getfield 93, 3) := by decide +kernel
theorem dX9_candidates_19 : decode cX9_candidates 19 = .ok (.invokevirtual 171, 3) := by decide +kernel
theorem dX9_candidates_22 : decode cX9_candidates 22 = .ok (.aload_n 0, 1) := by decide +kernel
theorem dX9_candidates_23 : decode cX9_candidates 23 = .ok (.getfield 33, 3) := by decide +kernel
theorem dX9_candidates_26 : decode cX9_candidates 26 = .ok (.getfield 175, 3) := by decide +kernel
theorem dX9_candidates_29 : decode cX9_candidates 29 = .ok (.ireturn, 1) := by decide +kernel
set_option maxRecDepth 20000 in
theorem ggX9_roles_X9_lookAtKept : GoodIn wsX9_roles wsX9_lookAtKept := goodIn_r _ [9, 3, 2, 10, 11, 12, 8, 13, 14, 15, 16, 17, 18, 19, 20, 21, 22, 23, 24, 25, 26, 27, 28, 29, 30, 31, 32, 33, 34, 35, 36, 37, 38, 39, 40, 41, 97, 98, 99, 100, 101, 102, 103, 104, 105, 106, 107, 108, 109, 110, 111, 112, 113, 114, 124, 125, 126, 127, 128, 129, 130, 131] (by decide +kernel) (by decide +kernel)
set_option maxRecDepth 20000 in
theorem gX9_roles_X9_lookAtKept : GoodIn wsX9_roles (wsV RX9 168 RX9 yX9_lookAtKept wsX9_lookAtKept) := goodIn_app (goodIn_of _ (by decide +kernel)) ggX9_roles_X9_lookAtKept
set_option maxRecDepth 20000 in
theorem ggX9_roles_X1_gather : GoodIn wsX9_roles wsX1_gather := goodIn_r _ [46, 47, 48, 49, 50, 51, 52, 45, 53, 54, 55, 56, 57, 58, 59, 60, 61, 132, 133, 134] (by decide +kernel) (by decide +kernel)
set_option maxRecDepth 20000 in
theorem gX9_roles_X1_gather : GoodIn wsX9_roles (wsV RX9 171 RX1 yX1_gather wsX1_gather) := goodIn_app (goodIn_of _ (by decide +kernel)) ggX9_roles_X1_gather
set_option maxRecDepth 20000 in
theorem ggX9_roles_X6_search : GoodIn wsX9_roles wsX6_search := goodIn_r _ [66, 67, 68, 69, 70, 71, 72, 73, 74, 65, 75, 76, 77, 78, 79, 80, 81, 82, 83, 84, 85, 86, 87, 88, 89, 90, 91, 92, 93, 94, 95, 96, 115, 116, 117, 118, 119, 120, 121, 122, 123, 132, 133, 134] (by decide +kernel) (by decide +kernel)
set_option maxRecDepth 20000 in
theorem gX9_roles_X6_search : GoodIn wsX9_roles (wsV RX9 176 RX6 yX6_search wsX6_search) := goodIn_app (goodIn_of _ (by decide +kernel)) ggX9_roles_X6_search
theorem dX9_roles_0 : decode cX9_roles 0 = .ok (.iload_n 1, 1) := by decide +kernel
theorem dX9_roles_1 : decode cX9_roles 1 = .ok (.iconst 1, 1) := by decide +kernel
theorem dX9_roles_2 : decode cX9_roles 2 = .ok (.if_icmp .lt 10, 3) := by decide +kernel
theorem dX9_roles_5 : decode cX9_roles 5 = .ok (.iload_n 1, 1) := by decide +kernel
theorem dX9_roles_6 : decode cX9_roles 6 = .ok (.sipush 20000, 3) := by decide +kernel
theorem dX9_roles_9 : decode cX9_roles 9 = .ok (.if_icmp .le 5, 3) := by decide +kernel
theorem dX9_roles_12 : decode cX9_roles 12 = .ok (.iconst (-1), 1) := by decide +kernel
theorem dX9_roles_13 : decode cX9_roles 13 = .ok (.ireturn, 1) := by decide +kernel
theorem dX9_roles_14 : decode cX9_roles 14 = .ok (.aload_n 0, 1) := by decide +kernel
theorem dX9_roles_15 : decode cX9_roles 15 = .ok (.invokevirtual 168, 3) := by decide +kernel
theorem dX9_roles_18 : decode cX9_roles 18 = .ok (.aload_n 0, 1) := by decide +kernel
theorem dX9_roles_19 : decode cX9_roles 19 = .ok (.getfield 33, 3) := by decide +kernel
theorem dX9_roles_22 : decode cX9_roles 22 = .ok (.aload_n 0, 1) := by decide +kernel
theorem dX9_roles_23 : decode cX9_roles 23 = .ok (.getfield 72, 3) := by decide +kernel
theorem dX9_roles_26 : decode cX9_roles 26 = .ok (.aload_n 0, 1) := by decide +kernel
theorem dX9_roles_27 : decode cX9_roles 27 = .ok (.getfield 19, 3) := by decide +kernel
theorem dX9_roles_30 : decode cX9_roles 30 = .ok (.getfield 93, 3) := by decide +kernel
theorem dX9_roles_33 : decode cX9_roles 33 = .ok (.invokevirtual 171, 3) := by decide +kernel
theorem dX9_roles_36 : decode cX9_roles 36 = .ok (.aload_n 0, 1) := by decide +kernel
theorem dX9_roles_37 : decode cX9_roles 37 = .ok (.getfield 40, 3) := by decide +kernel
theorem dX9_roles_40 : decode cX9_roles 40 = .ok (.aload_n 0, 1) := by decide +kernel
theorem dX9_roles_41 : decode cX9_roles 41 = .ok (.getfield 72, 3) := by decide +kernel
theorem dX9_roles_44 : decode cX9_roles 44 = .ok (.aload_n 0, 1) := by decide +kernel
theorem dX9_roles_45 : decode cX9_roles 45 = .ok (.getfield 19, 3) := by decide +kernel
theorem dX9_roles_48 : decode cX9_roles 48 = .ok (.getfield 93, 3) := by decide +kernel
theorem dX9_roles_51 : decode cX9_roles 51 = .ok (.aload_n 0, 1) := by decide +kernel
theorem dX9_roles_52 : decode cX9_roles 52 = .ok (.getfield 33, 3) := by decide +kernel
theorem dX9_roles_55 : decode cX9_roles 55 = .ok (.iload_n 1, 1) := by decide +kernel
theorem dX9_roles_56 : decode cX9_roles 56 = .ok (.invokevirtual 176, 3) := by decide +kernel
theorem dX9_roles_59 : decode cX9_roles 59 = .ok (.ifCond .eq 13, 3) := by decide +kernel
theorem dX9_roles_62 : decode cX9_roles 62 = .ok (.aload_n 0, 1) := by decide +kernel
theorem dX9_roles_63 : decode cX9_roles 63 = .ok (.getfield 40, 3) := by decide +kernel
theorem dX9_roles_66 : decode cX9_roles 66 = .ok (.getfield 180, 3) := by decide +kernel
theorem dX9_roles_69 : decode cX9_roles 69 = .ok (.goto 5, 3) := by decide +kernel
theorem dX9_roles_72 : decode cX9_roles 72 = .ok (.bipush (-6), 2) := by decide +kernel
theorem dX9_roles_74 : decode cX9_roles 74 = .ok (.ireturn, 1) := by decide +kernel
theorem dX9_tries_0 : decode cX9_tries 0 = .ok (.aload_n 0, 1) := by decide +kernel
theorem dX9_tries_1 : decode cX9_tries 1 = .ok (.getfield 40, 3) := by decide +kernel
theorem dX9_tries_4 : decode cX9_tries 4 = .ok (.getfield 181, 3) := by decide +kernel
theorem dX9_tries_7 : decode cX9_tries 7 = .ok (.ireturn, 1) := by decide +kernel
theorem dX9_role_0 : decode cX9_role 0 = .ok (.iload_n 1, 1) := by decide +kernel
theorem dX9_role_1 : decode cX9_role 1 = .ok (.ifCond .lt 14, 3) := by decide +kernel
theorem dX9_role_4 : decode cX9_role 4 = .ok (.iload_n 1, 1) := by decide +kernel
theorem dX9_role_5 : decode cX9_role 5 = .ok (.aload_n 0, 1) := by decide +kernel
theorem dX9_role_6 : decode cX9_role 6 = .ok (.getfield 40, 3) := by decide +kernel
theorem dX9_role_9 : decode cX9_role 9 = .ok (.getfield 180, 3) := by decide +kernel
theorem dX9_role_12 : decode cX9_role 12 = .ok (.if_icmp .lt 6, 3) := by decide +kernel
theorem dX9_role_15 : decode cX9_role 15 = .ok (.bipush (-9), 2) := by decide +kernel
theorem dX9_role_17 : decode cX9_role 17 = .ok (.ireturn, 1) := by decide +kernel
theorem dX9_role_18 : decode cX9_role 18 = .ok (.aload_n 0, 1) := by decide +kernel
theorem dX9_role_19 : decode cX9_role 19 = .ok (.getfield 40, 3) := by decide +kernel
theorem dX9_role_22 : decode cX9_role 22 = .ok (.getfield 184, 3) := by decide +kernel
theorem dX9_role_25 : decode cX9_role 25 = .ok (.iload_n 1, 1) := by decide +kernel
theorem dX9_role_26 : decode cX9_role 26 = .ok (.iaload, 1) := by decide +kernel
theorem dX9_role_27 : decode cX9_role 27 = .ok (.ireturn, 1) := by decide +kernel
set_option maxRecDepth 20000 in
theorem ggX9_rolesOf_X9_noPerson : GoodIn wsX9_rolesOf wsX9_noPerson := goodIn_r _ [6, 7, 47, 48, 49, 50, 51, 52, 53, 54, 55, 56, 57, 58, 59, 60, 61, 62, 63, 64] (by decide +kernel) (by decide +kernel)
set_option maxRecDepth 20000 in
theorem gX9_rolesOf_X9_noPerson : GoodIn wsX9_rolesOf (wsV RX9 100 RX9 yX9_noPerson wsX9_noPerson) := goodIn_app (goodIn_of _ (by decide +kernel)) ggX9_rolesOf_X9_noPerson
set_option maxRecDepth 20000 in
theorem ggX9_rolesOf_X9_keptOf : GoodIn wsX9_rolesOf wsX9_keptOf := goodIn_r _ [11, 12, 13, 14, 7, 15, 16, 17, 18, 19, 20, 21, 22, 23, 24, 25, 26, 27, 28, 29, 30, 31, 32, 33, 34, 35, 36, 37, 38, 39, 47, 48, 49, 50, 51, 52, 53, 54, 55, 56, 57, 58, 59, 60, 61, 62, 63, 64, 65, 66, 67, 68, 69, 70, 71, 72] (by decide +kernel) (by decide +kernel)
set_option maxRecDepth 20000 in
theorem gX9_rolesOf_X9_keptOf : GoodIn wsX9_rolesOf (wsV RX9 115 RX9 yX9_keptOf wsX9_keptOf) := goodIn_app (goodIn_of _ (by decide +kernel)) ggX9_rolesOf_X9_keptOf
set_option maxRecDepth 20000 in
theorem ggX9_rolesOf_X6_rolesWithin : GoodIn wsX9_rolesOf wsX6_rolesWithin := goodIn_r _ [44, 45, 46, 73, 74, 75, 76, 77, 78, 79, 80, 81] (by decide +kernel) (by decide +kernel)
set_option maxRecDepth 20000 in
theorem gX9_rolesOf_X6_rolesWithin : GoodIn wsX9_rolesOf (wsV RX9 187 RX6 yX6_rolesWithin wsX6_rolesWithin) := goodIn_app (goodIn_of _ (by decide +kernel)) ggX9_rolesOf_X6_rolesWithin
theorem dX9_rolesOf_0 : decode cX9_rolesOf 0 = .ok (.aload_n 0, 1) := by decide +kernel
theorem dX9_rolesOf_1 : decode cX9_rolesOf 1 = .ok (.iload_n 1, 1) := by decide +kernel
theorem dX9_rolesOf_2 : decode cX9_rolesOf 2 = .ok (.invokevirtual 100, 3) := by decide +kernel
theorem dX9_rolesOf_5 : decode cX9_rolesOf 5 = .ok (.ifCond .eq 5, 3) := by decide +kernel
theorem dX9_rolesOf_8 : decode cX9_rolesOf 8 = .ok (.iconst (-1), 1) := by decide +kernel
theorem dX9_rolesOf_9 : decode cX9_rolesOf 9 = .ok (.ireturn, 1) := by decide +kernel
theorem dX9_rolesOf_10 : decode cX9_rolesOf 10 = .ok (.aload_n 0, 1) := by decide +kernel
theorem dX9_rolesOf_11 : decode cX9_rolesOf 11 = .ok (.getfield 40, 3) := by decide +kernel
theorem dX9_rolesOf_14 : decode cX9_rolesOf 14 = .ok (.aload_n 0, 1) := by decide +kernel
theorem dX9_rolesOf_15 : decode cX9_rolesOf 15 = .ok (.iload_n 1, 1) := by decide +kernel
theorem dX9_rolesOf_16 : decode cX9_rolesOf 16 = .ok (.invokevirtual 115, 3) := by decide +kernel
theorem dX9_rolesOf_19 : decode cX9_rolesOf 19 = .ok (.invokevirtual 187, 3) := by decide +kernel
theorem dX9_rolesOf_22 : decode cX9_rolesOf 22 = .ok (.ireturn, 1) := by decide +kernel
set_option maxRecDepth 20000 in
theorem ggX9_marksOf_X9_noRight : GoodIn wsX9_marksOf wsX9_noRight := goodIn_r _ [6] (by decide +kernel) (by decide +kernel)
set_option maxRecDepth 20000 in
theorem gX9_marksOf_X9_noRight : GoodIn wsX9_marksOf (va_wsS RX9 137 yX9_noRight wsX9_noRight) := goodIn_app (goodIn_of _ (by decide +kernel)) ggX9_marksOf_X9_noRight
set_option maxRecDepth 20000 in
theorem ggX9_marksOf_X5_mistold : GoodIn wsX9_marksOf wsX5_mistold := goodIn_r _ [11, 12, 13, 14, 15, 16, 10, 17, 18, 39, 40, 41, 42, 43] (by decide +kernel) (by decide +kernel)
set_option maxRecDepth 20000 in
theorem gX9_marksOf_X5_mistold : GoodIn wsX9_marksOf (wsV RX9 190 RX5 yX5_mistold wsX5_mistold) := goodIn_app (goodIn_of _ (by decide +kernel)) ggX9_marksOf_X5_mistold
set_option maxRecDepth 20000 in
theorem ggX9_marksOf_J6_bitCount_0f7a4 : GoodIn wsX9_marksOf wsJ6_bitCount_0f7a4 := goodIn_r _ [22, 23, 24, 25] (by decide +kernel) (by decide +kernel)
set_option maxRecDepth 20000 in
theorem gX9_marksOf_J6_bitCount_0f7a4 : GoodIn wsX9_marksOf (va_wsS RX9 193 yJ6_bitCount_0f7a4 wsJ6_bitCount_0f7a4) := goodIn_app (goodIn_of _ (by decide +kernel)) ggX9_marksOf_J6_bitCount_0f7a4
theorem dX9_marksOf_0 : decode cX9_marksOf 0 = .ok (.iload_n 1, 1) := by decide +kernel
theorem dX9_marksOf_1 : decode cX9_marksOf 1 = .ok (.invokestatic 137, 3) := by decide +kernel
theorem dX9_marksOf_4 : decode cX9_marksOf 4 = .ok (.ifCond .eq 5, 3) := by decide +kernel
theorem dX9_marksOf_7 : decode cX9_marksOf 7 = .ok (.iconst (-1), 1) := by decide +kernel
theorem dX9_marksOf_8 : decode cX9_marksOf 8 = .ok (.ireturn, 1) := by decide +kernel
theorem dX9_marksOf_9 : decode cX9_marksOf 9 = .ok (.aload_n 0, 1) := by decide +kernel
theorem dX9_marksOf_10 : decode cX9_marksOf 10 = .ok (.getfield 19, 3) := by decide +kernel
theorem dX9_marksOf_13 : decode cX9_marksOf 13 = .ok (.getfield 93, 3) := by decide +kernel
theorem dX9_marksOf_16 : decode cX9_marksOf 16 = .ok (.ifCond .ne 6, 3) := by decide +kernel
theorem dX9_marksOf_19 : decode cX9_marksOf 19 = .ok (.bipush (-4), 2) := by decide +kernel
theorem dX9_marksOf_21 : decode cX9_marksOf 21 = .ok (.ireturn, 1) := by decide +kernel
theorem dX9_marksOf_22 : decode cX9_marksOf 22 = .ok (.iconst 0, 1) := by decide +kernel
theorem dX9_marksOf_23 : decode cX9_marksOf 23 = .ok (.istore_n 2, 1) := by decide +kernel
theorem dX9_marksOf_24 : decode cX9_marksOf 24 = .ok (.aload_n 0, 1) := by decide +kernel
theorem dX9_marksOf_25 : decode cX9_marksOf 25 = .ok (.getfield 19, 3) := by decide +kernel
theorem dX9_marksOf_28 : decode cX9_marksOf 28 = .ok (.iload_n 1, 1) := by decide +kernel
theorem dX9_marksOf_29 : decode cX9_marksOf 29 = .ok (.iload_n 2, 1) := by decide +kernel
theorem dX9_marksOf_30 : decode cX9_marksOf 30 = .ok (.invokevirtual 190, 3) := by decide +kernel
theorem dX9_marksOf_33 : decode cX9_marksOf 33 = .ok (.invokestatic 193, 3) := by decide +kernel
theorem dX9_marksOf_36 : decode cX9_marksOf 36 = .ok (.istore_n 3, 1) := by decide +kernel
theorem dX9_marksOf_37 : decode cX9_marksOf 37 = .ok (.iconst 1, 1) := by decide +kernel
theorem dX9_marksOf_38 : decode cX9_marksOf 38 = .ok (.istore 4, 2) := by decide +kernel
theorem dX9_marksOf_40 : decode cX9_marksOf 40 = .ok (.iload 4, 2) := by decide +kernel
theorem dX9_marksOf_42 : decode cX9_marksOf 42 = .ok (.sipush 256, 3) := by decide +kernel
theorem dX9_marksOf_45 : decode cX9_marksOf 45 = .ok (.if_icmp .ge 66, 3) := by decide +kernel
theorem dX9_marksOf_48 : decode cX9_marksOf 48 = .ok (.aload_n 0, 1) := by decide +kernel
theorem dX9_marksOf_49 : decode cX9_marksOf 49 = .ok (.getfield 19, 3) := by decide +kernel
theorem dX9_marksOf_52 : decode cX9_marksOf 52 = .ok (.iload_n 1, 1) := by decide +kernel
theorem dX9_marksOf_53 : decode cX9_marksOf 53 = .ok (.iload 4, 2) := by decide +kernel
theorem dX9_marksOf_55 : decode cX9_marksOf 55 = .ok (.invokevirtual 190, 3) := by decide +kernel
theorem dX9_marksOf_58 : decode cX9_marksOf 58 = .ok (.invokestatic 193, 3) := by decide +kernel
theorem dX9_marksOf_61 : decode cX9_marksOf 61 = .ok (.istore 5, 2) := by decide +kernel
theorem dX9_marksOf_63 : decode cX9_marksOf 63 = .ok (.iload 4, 2) := by decide +kernel
theorem dX9_marksOf_65 : decode cX9_marksOf 65 = .ok (.invokestatic 193, 3) := by decide +kernel
theorem dX9_marksOf_68 : decode cX9_marksOf 68 = .ok (.iload_n 2, 1) := by decide +kernel
theorem dX9_marksOf_69 : decode cX9_marksOf 69 = .ok (.invokestatic 193, 3) := by decide +kernel
theorem dX9_marksOf_72 : decode cX9_marksOf 72 = .ok (.if_icmp .ge 7, 3) := by decide +kernel
theorem dX9_marksOf_75 : decode cX9_marksOf 75 = .ok (.iconst 1, 1) := by decide +kernel
theorem dX9_marksOf_76 : decode cX9_marksOf 76 = .ok (.goto 4, 3) := by decide +kernel
theorem dX9_marksOf_79 : decode cX9_marksOf 79 = .ok (.iconst 0, 1) := by decide +kernel
theorem dX9_marksOf_80 : decode cX9_marksOf 80 = .ok (.istore 6, 2) := by decide +kernel
theorem dX9_marksOf_82 : decode cX9_marksOf 82 = .ok (.iload 5, 2) := by decide +kernel
theorem dX9_marksOf_84 : decode cX9_marksOf 84 = .ok (.iload_n 3, 1) := by decide +kernel
theorem dX9_marksOf_85 : decode cX9_marksOf 85 = .ok (.if_icmp .lt 14, 3) := by decide +kernel
theorem dX9_marksOf_88 : decode cX9_marksOf 88 = .ok (.iload 5, 2) := by decide +kernel
theorem dX9_marksOf_90 : decode cX9_marksOf 90 = .ok (.iload_n 3, 1) := by decide +kernel
theorem dX9_marksOf_91 : decode cX9_marksOf 91 = .ok (.if_icmp .ne 14, 3) := by decide +kernel
theorem dX9_marksOf_94 : decode cX9_marksOf 94 = .ok (.iload 6, 2) := by decide +kernel
theorem dX9_marksOf_96 : decode cX9_marksOf 96 = .ok (.ifCond .eq 9, 3) := by decide +kernel
theorem dX9_marksOf_99 : decode cX9_marksOf 99 = .ok (.iload 4, 2) := by decide +kernel
theorem dX9_marksOf_101 : decode cX9_marksOf 101 = .ok (.istore_n 2, 1) := by decide +kernel
theorem dX9_marksOf_102 : decode cX9_marksOf 102 = .ok (.iload 5, 2) := by decide +kernel
theorem dX9_marksOf_104 : decode cX9_marksOf 104 = .ok (.istore_n 3, 1) := by decide +kernel
theorem dX9_marksOf_105 : decode cX9_marksOf 105 = .ok (.iinc 4 1, 3) := by decide +kernel
theorem dX9_marksOf_108 : decode cX9_marksOf 108 = .ok (.goto (-68), 3) := by decide +kernel
theorem dX9_marksOf_111 : decode cX9_marksOf 111 = .ok (.aload_n 0, 1) := by decide +kernel
theorem dX9_marksOf_112 : decode cX9_marksOf 112 = .ok (.iload_n 3, 1) := by decide +kernel
theorem dX9_marksOf_113 : decode cX9_marksOf 113 = .ok (.putfield 83, 3) := by decide +kernel
theorem dX9_marksOf_116 : decode cX9_marksOf 116 = .ok (.iload_n 2, 1) := by decide +kernel
theorem dX9_marksOf_117 : decode cX9_marksOf 117 = .ok (.ireturn, 1) := by decide +kernel
set_option maxRecDepth 20000 in
theorem ggX9_exceptions_X9_noRight : GoodIn wsX9_exceptions wsX9_noRight := goodIn_r _ [5] (by decide +kernel) (by decide +kernel)
set_option maxRecDepth 20000 in
theorem gX9_exceptions_X9_noRight : GoodIn wsX9_exceptions (va_wsS RX9 137 yX9_noRight wsX9_noRight) := goodIn_app (goodIn_of _ (by decide +kernel)) ggX9_exceptions_X9_noRight
set_option maxRecDepth 20000 in
theorem ggX9_exceptions_X9_noMarkSet : GoodIn wsX9_exceptions wsX9_noMarkSet := goodIn_r _ [8] (by decide +kernel) (by decide +kernel)
set_option maxRecDepth 20000 in
theorem gX9_exceptions_X9_noMarkSet : GoodIn wsX9_exceptions (va_wsS RX9 86 yX9_noMarkSet wsX9_noMarkSet) := goodIn_app (goodIn_of _ (by decide +kernel)) ggX9_exceptions_X9_noMarkSet
set_option maxRecDepth 20000 in
theorem ggX9_exceptions_X5_mistold : GoodIn wsX9_exceptions wsX5_mistold := goodIn_r _ [13, 14, 15, 16, 17, 18, 12, 19, 20, 34, 35, 36, 37, 38] (by decide +kernel) (by decide +kernel)
set_option maxRecDepth 20000 in
theorem gX9_exceptions_X5_mistold : GoodIn wsX9_exceptions (wsV RX9 190 RX5 yX5_mistold wsX5_mistold) := goodIn_app (goodIn_of _ (by decide +kernel)) ggX9_exceptions_X5_mistold
theorem dX9_exceptions_0 : decode cX9_exceptions 0 = .ok (.iload_n 1, 1) := by decide +kernel
theorem dX9_exceptions_1 : decode cX9_exceptions 1 = .ok (.invokestatic 137, 3) := by decide +kernel
theorem dX9_exceptions_4 : decode cX9_exceptions 4 = .ok (.ifCond .ne 10, 3) := by decide +kernel
theorem dX9_exceptions_7 : decode cX9_exceptions 7 = .ok (.iload_n 2, 1) := by decide +kernel
theorem dX9_exceptions_8 : decode cX9_exceptions 8 = .ok (.invokestatic 86, 3) := by decide +kernel
theorem dX9_exceptions_11 : decode cX9_exceptions 11 = .ok (.ifCond .eq 5, 3) := by decide +kernel
theorem dX9_exceptions_14 : decode cX9_exceptions 14 = .ok (.iconst (-1), 1) := by decide +kernel
theorem dX9_exceptions_15 : decode cX9_exceptions 15 = .ok (.ireturn, 1) := by decide +kernel
theorem dX9_exceptions_16 : decode cX9_exceptions 16 = .ok (.aload_n 0, 1) := by decide +kernel
theorem dX9_exceptions_17 : decode cX9_exceptions 17 = .ok (.getfield 19, 3) := by decide +kernel
theorem dX9_exceptions_20 : decode cX9_exceptions 20 = .ok (.iload_n 1, 1) := by decide +kernel
theorem dX9_exceptions_21 : decode cX9_exceptions 21 = .ok (.iload_n 2, 1) := by decide +kernel
theorem dX9_exceptions_22 : decode cX9_exceptions 22 = .ok (.invokevirtual 190, 3) := by decide +kernel
theorem dX9_exceptions_25 : decode cX9_exceptions 25 = .ok (.ireturn, 1) := by decide +kernel
set_option maxRecDepth 20000 in
theorem ggX9_ban_X9_noRight : GoodIn wsX9_ban wsX9_noRight := goodIn_r _ [5] (by decide +kernel) (by decide +kernel)
set_option maxRecDepth 20000 in
theorem gX9_ban_X9_noRight : GoodIn wsX9_ban (va_wsS RX9 137 yX9_noRight wsX9_noRight) := goodIn_app (goodIn_of _ (by decide +kernel)) ggX9_ban_X9_noRight
set_option maxRecDepth 20000 in
theorem ggX9_ban_X0_put : GoodIn wsX9_ban wsX0_put := goodIn_r _ [10, 11, 25] (by decide +kernel) (by decide +kernel)
set_option maxRecDepth 20000 in
theorem gX9_ban_X0_put : GoodIn wsX9_ban (wsV RX9 198 RX0 yX0_put wsX0_put) := goodIn_app (goodIn_of _ (by decide +kernel)) ggX9_ban_X0_put
theorem dX9_ban_0 : decode cX9_ban 0 = .ok (.iload_n 1, 1) := by decide +kernel
theorem dX9_ban_1 : decode cX9_ban 1 = .ok (.invokestatic 137, 3) := by decide +kernel
theorem dX9_ban_4 : decode cX9_ban 4 = .ok (.ifCond .ne 15, 3) := by decide +kernel
theorem dX9_ban_7 : decode cX9_ban 7 = .ok (.iload_n 2, 1) := by decide +kernel
theorem dX9_ban_8 : decode cX9_ban 8 = .ok (.invokestatic 137, 3) := by decide +kernel
theorem dX9_ban_11 : decode cX9_ban 11 = .ok (.ifCond .ne 8, 3) := by decide +kernel
theorem dX9_ban_14 : decode cX9_ban 14 = .ok (.iload_n 1, 1) := by decide +kernel
theorem dX9_ban_15 : decode cX9_ban 15 = .ok (.iload_n 2, 1) := by decide +kernel
theorem dX9_ban_16 : decode cX9_ban 16 = .ok (.if_icmp .ne 5, 3) := by decide +kernel
theorem dX9_ban_19 : decode cX9_ban 19 = .ok (.iconst (-1), 1) := by decide +kernel
theorem dX9_ban_20 : decode cX9_ban 20 = .ok (.ireturn, 1) := by decide +kernel
theorem dX9_ban_21 : decode cX9_ban 21 = .ok (.aload_n 0, 1) := by decide +kernel
theorem dX9_ban_22 : decode cX9_ban 22 = .ok (.getfield 47, 3) := by decide +kernel
theorem dX9_ban_25 : decode cX9_ban 25 = .ok (.iload_n 1, 1) := by decide +kernel
theorem dX9_ban_26 : decode cX9_ban 26 = .ok (.iload_n 2, 1) := by decide +kernel
theorem dX9_ban_27 : decode cX9_ban 27 = .ok (.iload_n 3, 1) := by decide +kernel
theorem dX9_ban_28 : decode cX9_ban 28 = .ok (.invokevirtual 198, 3) := by decide +kernel
theorem dX9_ban_31 : decode cX9_ban 31 = .ok (.ireturn, 1) := by decide +kernel
set_option maxRecDepth 20000 in
theorem ggX9_breach_X0_clashing : GoodIn wsX9_breach wsX0_clashing := goodIn_r _ [7, 8, 27] (by decide +kernel) (by decide +kernel)
set_option maxRecDepth 20000 in
theorem gX9_breach_X0_clashing : GoodIn wsX9_breach (wsV RX9 202 RX0 yX0_clashing wsX0_clashing) := goodIn_app (goodIn_of _ (by decide +kernel)) ggX9_breach_X0_clashing
theorem dX9_breach_0 : decode cX9_breach 0 = .ok (.iconst 0, 1) := by decide +kernel
theorem dX9_breach_1 : decode cX9_breach 1 = .ok (.istore_n 1, 1) := by decide +kernel
theorem dX9_breach_2 : decode cX9_breach 2 = .ok (.iconst 0, 1) := by decide +kernel
theorem dX9_breach_3 : decode cX9_breach 3 = .ok (.istore_n 2, 1) := by decide +kernel
theorem dX9_breach_4 : decode cX9_breach 4 = .ok (.iload_n 2, 1) := by decide +kernel
theorem dX9_breach_5 : decode cX9_breach 5 = .ok (.aload_n 0, 1) := by decide +kernel
theorem dX9_breach_6 : decode cX9_breach 6 = .ok (.getfield 19, 3) := by decide +kernel
theorem dX9_breach_9 : decode cX9_breach 9 = .ok (.getfield 93, 3) := by decide +kernel
theorem dX9_breach_12 : decode cX9_breach 12 = .ok (.if_icmp .ge 34, 3) := by decide +kernel
theorem dX9_breach_15 : decode cX9_breach 15 = .ok (.aload_n 0, 1) := by decide +kernel
theorem dX9_breach_16 : decode cX9_breach 16 = .ok (.getfield 47, 3) := by decide +kernel
theorem dX9_breach_19 : decode cX9_breach 19 = .ok (.aload_n 0, 1) := by decide +kernel
theorem dX9_breach_20 : decode cX9_breach 20 = .ok (.getfield 19, 3) := by decide +kernel
theorem dX9_breach_23 : decode cX9_breach 23 = .ok (.getfield 112, 3) := by decide +kernel
theorem dX9_breach_26 : decode cX9_breach 26 = .ok (.iload_n 2, 1) := by decide +kernel
theorem dX9_breach_27 : decode cX9_breach 27 = .ok (.iaload, 1) := by decide +kernel
theorem dX9_breach_28 : decode cX9_breach 28 = .ok (.invokevirtual 202, 3) := by decide +kernel
theorem dX9_breach_31 : decode cX9_breach 31 = .ok (.ifCond .eq 9, 3) := by decide +kernel
theorem dX9_breach_34 : decode cX9_breach 34 = .ok (.iload_n 1, 1) := by decide +kernel
theorem dX9_breach_35 : decode cX9_breach 35 = .ok (.iconst 1, 1) := by decide +kernel
theorem dX9_breach_36 : decode cX9_breach 36 = .ok (.iload_n 2, 1) := by decide +kernel
theorem dX9_breach_37 : decode cX9_breach 37 = .ok (.ishl, 1) := by decide +kernel
theorem dX9_breach_38 : decode cX9_breach 38 = .ok (.ior, 1) := by decide +kernel
theorem dX9_breach_39 : decode cX9_breach 39 = .ok (.istore_n 1, 1) := by decide +kernel
theorem dX9_breach_40 : decode cX9_breach 40 = .ok (.iinc 2 1, 3) := by decide +kernel
theorem dX9_breach_43 : decode cX9_breach 43 = .ok (.goto (-39), 3) := by decide +kernel
theorem dX9_breach_46 : decode cX9_breach 46 = .ok (.iload_n 1, 1) := by decide +kernel
theorem dX9_breach_47 : decode cX9_breach 47 = .ok (.ireturn, 1) := by decide +kernel
set_option maxRecDepth 20000 in
theorem ggX9_least_X9_noPerson : GoodIn wsX9_least wsX9_noPerson := goodIn_r _ [7, 1, 56, 57, 58, 59, 60, 61, 62, 63, 64, 65, 66, 67, 68, 69, 70, 71, 72, 73] (by decide +kernel) (by decide +kernel)
set_option maxRecDepth 20000 in
theorem gX9_least_X9_noPerson : GoodIn wsX9_least (wsV RX9 100 RX9 yX9_noPerson wsX9_noPerson) := goodIn_app (goodIn_of _ (by decide +kernel)) ggX9_least_X9_noPerson
set_option maxRecDepth 20000 in
theorem ggX9_least_X0_clashing : GoodIn wsX9_least wsX0_clashing := goodIn_r _ [12, 13, 74] (by decide +kernel) (by decide +kernel)
set_option maxRecDepth 20000 in
theorem gX9_least_X0_clashing : GoodIn wsX9_least (wsV RX9 202 RX0 yX0_clashing wsX0_clashing) := goodIn_app (goodIn_of _ (by decide +kernel)) ggX9_least_X0_clashing
set_option maxRecDepth 20000 in
theorem ggX9_least_X9_keptOf : GoodIn wsX9_least wsX9_keptOf := goodIn_r _ [17, 18, 19, 20, 1, 21, 22, 23, 24, 25, 26, 27, 28, 29, 30, 31, 32, 33, 34, 35, 36, 37, 38, 39, 40, 41, 42, 43, 44, 45, 56, 57, 58, 59, 60, 61, 62, 63, 64, 65, 66, 67, 68, 69, 70, 71, 72, 73, 75, 76, 77, 78, 79, 80, 81, 82] (by decide +kernel) (by decide +kernel)
set_option maxRecDepth 20000 in
theorem gX9_least_X9_keptOf : GoodIn wsX9_least (wsV RX9 115 RX9 yX9_keptOf wsX9_keptOf) := goodIn_app (goodIn_of _ (by decide +kernel)) ggX9_least_X9_keptOf
set_option maxRecDepth 20000 in
theorem ggX9_least_X9_isLighter : GoodIn wsX9_least wsX9_isLighter := goodIn_r _ [48, 49, 50, 51, 52, 53, 54, 55] (by decide +kernel) (by decide +kernel)
set_option maxRecDepth 20000 in
theorem gX9_least_X9_isLighter : GoodIn wsX9_least (va_wsS RX9 205 yX9_isLighter wsX9_isLighter) := goodIn_app (goodIn_of _ (by decide +kernel)) ggX9_least_X9_isLighter
theorem dX9_least_0 : decode cX9_least 0 = .ok (.aload_n 0, 1) := by decide +kernel
theorem dX9_least_1 : decode cX9_least 1 = .ok (.iload_n 1, 1) := by decide +kernel
theorem dX9_least_2 : decode cX9_least 2 = .ok (.invokevirtual 100, 3) := by decide +kernel
theorem dX9_least_5 : decode cX9_least 5 = .ok (.ifCond .eq 5, 3) := by decide +kernel
theorem dX9_least_8 : decode cX9_least 8 = .ok (.iconst (-1), 1) := by decide +kernel
theorem dX9_least_9 : decode cX9_least 9 = .ok (.ireturn, 1) := by decide +kernel
theorem dX9_least_10 : decode cX9_least 10 = .ok (.aload_n 0, 1) := by decide +kernel
theorem dX9_least_11 : decode cX9_least 11 = .ok (.getfield 19, 3) := by decide +kernel
theorem dX9_least_14 : decode cX9_least 14 = .ok (.getfield 112, 3) := by decide +kernel
theorem dX9_least_17 : decode cX9_least 17 = .ok (.iload_n 1, 1) := by decide +kernel
theorem dX9_least_18 : decode cX9_least 18 = .ok (.iaload, 1) := by decide +kernel
theorem dX9_least_19 : decode cX9_least 19 = .ok (.istore_n 2, 1) := by decide +kernel
theorem dX9_least_20 : decode cX9_least 20 = .ok (.aload_n 0, 1) := by decide +kernel
theorem dX9_least_21 : decode cX9_least 21 = .ok (.getfield 47, 3) := by decide +kernel
theorem dX9_least_24 : decode cX9_least 24 = .ok (.iload_n 2, 1) := by decide +kernel
theorem dX9_least_25 : decode cX9_least 25 = .ok (.invokevirtual 202, 3) := by decide +kernel
theorem dX9_least_28 : decode cX9_least 28 = .ok (.istore_n 3, 1) := by decide +kernel
theorem dX9_least_29 : decode cX9_least 29 = .ok (.iload_n 3, 1) := by decide +kernel
theorem dX9_least_30 : decode cX9_least 30 = .ok (.ifCond .ne 5, 3) := by decide +kernel
theorem dX9_least_33 : decode cX9_least 33 = .ok (.iconst 0, 1) := by decide +kernel
theorem dX9_least_34 : decode cX9_least 34 = .ok (.ireturn, 1) := by decide +kernel
theorem dX9_least_35 : decode cX9_least 35 = .ok (.aload_n 0, 1) := by decide +kernel
theorem dX9_least_36 : decode cX9_least 36 = .ok (.iload_n 1, 1) := by decide +kernel
theorem dX9_least_37 : decode cX9_least 37 = .ok (.invokevirtual 115, 3) := by decide +kernel
theorem dX9_least_40 : decode cX9_least 40 = .ok (.istore 4, 2) := by decide +kernel
theorem dX9_least_42 : decode cX9_least 42 = .ok (.iload_n 3, 1) := by decide +kernel
theorem dX9_least_43 : decode cX9_least 43 = .ok (.istore 5, 2) := by decide +kernel
theorem dX9_least_45 : decode cX9_least 45 = .ok (.iconst 1, 1) := by decide +kernel
theorem dX9_least_46 : decode cX9_least 46 = .ok (.istore 6, 2) := by decide +kernel
theorem dX9_least_48 : decode cX9_least 48 = .ok (.iload 6, 2) := by decide +kernel
theorem dX9_least_50 : decode cX9_least 50 = .ok (.iload_n 3, 1) := by decide +kernel
theorem dX9_least_51 : decode cX9_least 51 = .ok (.if_icmp .ge 50, 3) := by decide +kernel
theorem dX9_least_54 : decode cX9_least 54 = .ok (.iload 6, 2) := by decide +kernel
theorem dX9_least_56 : decode cX9_least 56 = .ok (.iload_n 3, 1) := by decide +kernel
theorem dX9_least_57 : decode cX9_least 57 = .ok (.iconst (-1), 1) := by decide +kernel
theorem dX9_least_58 : decode cX9_least 58 = .ok (.ixor, 1) := by decide +kernel
theorem dX9_least_59 : decode cX9_least 59 = .ok (.iand, 1) := by decide +kernel
theorem dX9_least_60 : decode cX9_least 60 = .ok (.ifCond .ne 35, 3) := by decide +kernel
theorem dX9_least_63 : decode cX9_least 63 = .ok (.iload 6, 2) := by decide +kernel
theorem dX9_least_65 : decode cX9_least 65 = .ok (.iload 5, 2) := by decide +kernel
theorem dX9_least_67 : decode cX9_least 67 = .ok (.iload 4, 2) := by decide +kernel
theorem dX9_least_69 : decode cX9_least 69 = .ok (.invokestatic 205, 3) := by decide +kernel
theorem dX9_least_72 : decode cX9_least 72 = .ok (.ifCond .eq 23, 3) := by decide +kernel
theorem dX9_least_75 : decode cX9_least 75 = .ok (.aload_n 0, 1) := by decide +kernel
theorem dX9_least_76 : decode cX9_least 76 = .ok (.getfield 47, 3) := by decide +kernel
theorem dX9_least_79 : decode cX9_least 79 = .ok (.iload_n 2, 1) := by decide +kernel
theorem dX9_least_80 : decode cX9_least 80 = .ok (.iload 6, 2) := by decide +kernel
theorem dX9_least_82 : decode cX9_least 82 = .ok (.iconst (-1), 1) := by decide +kernel
theorem dX9_least_83 : decode cX9_least 83 = .ok (.ixor, 1) := by decide +kernel
theorem dX9_least_84 : decode cX9_least 84 = .ok (.iand, 1) := by decide +kernel
theorem dX9_least_85 : decode cX9_least 85 = .ok (.invokevirtual 202, 3) := by decide +kernel
theorem dX9_least_88 : decode cX9_least 88 = .ok (.ifCond .ne 7, 3) := by decide +kernel
theorem dX9_least_91 : decode cX9_least 91 = .ok (.iload 6, 2) := by decide +kernel
theorem dX9_least_93 : decode cX9_least 93 = .ok (.istore 5, 2) := by decide +kernel
theorem dX9_least_95 : decode cX9_least 95 = .ok (.iinc 6 1, 3) := by decide +kernel
theorem dX9_least_98 : decode cX9_least 98 = .ok (.goto (-50), 3) := by decide +kernel
theorem dX9_least_101 : decode cX9_least 101 = .ok (.iload 5, 2) := by decide +kernel
theorem dX9_least_103 : decode cX9_least 103 = .ok (.ireturn, 1) := by decide +kernel
set_option maxRecDepth 20000 in
theorem ggX9_badRole_X0_clashing : GoodIn wsX9_badRole wsX0_clashing := goodIn_r _ [7, 8, 31] (by decide +kernel) (by decide +kernel)
set_option maxRecDepth 20000 in
theorem gX9_badRole_X0_clashing : GoodIn wsX9_badRole (wsV RX9 202 RX0 yX0_clashing wsX0_clashing) := goodIn_app (goodIn_of _ (by decide +kernel)) ggX9_badRole_X0_clashing
theorem dX9_badRole_0 : decode cX9_badRole 0 = .ok (.iconst 0, 1) := by decide +kernel
theorem dX9_badRole_1 : decode cX9_badRole 1 = .ok (.istore_n 1, 1) := by decide +kernel
theorem dX9_badRole_2 : decode cX9_badRole 2 = .ok (.iload_n 1, 1) := by decide +kernel
theorem dX9_badRole_3 : decode cX9_badRole 3 = .ok (.aload_n 0, 1) := by decide +kernel
theorem dX9_badRole_4 : decode cX9_badRole 4 = .ok (.getfield 40, 3) := by decide +kernel
theorem dX9_badRole_7 : decode cX9_badRole 7 = .ok (.getfield 180, 3) := by decide +kernel
theorem dX9_badRole_10 : decode cX9_badRole 10 = .ok (.if_icmp .ge 30, 3) := by decide +kernel
theorem dX9_badRole_13 : decode cX9_badRole 13 = .ok (.aload_n 0, 1) := by decide +kernel
theorem dX9_badRole_14 : decode cX9_badRole 14 = .ok (.getfield 47, 3) := by decide +kernel
theorem dX9_badRole_17 : decode cX9_badRole 17 = .ok (.aload_n 0, 1) := by decide +kernel
theorem dX9_badRole_18 : decode cX9_badRole 18 = .ok (.getfield 40, 3) := by decide +kernel
theorem dX9_badRole_21 : decode cX9_badRole 21 = .ok (.getfield 184, 3) := by decide +kernel
theorem dX9_badRole_24 : decode cX9_badRole 24 = .ok (.iload_n 1, 1) := by decide +kernel
theorem dX9_badRole_25 : decode cX9_badRole 25 = .ok (.iaload, 1) := by decide +kernel
theorem dX9_badRole_26 : decode cX9_badRole 26 = .ok (.invokevirtual 202, 3) := by decide +kernel
theorem dX9_badRole_29 : decode cX9_badRole 29 = .ok (.ifCond .eq 5, 3) := by decide +kernel
theorem dX9_badRole_32 : decode cX9_badRole 32 = .ok (.iload_n 1, 1) := by decide +kernel
theorem dX9_badRole_33 : decode cX9_badRole 33 = .ok (.ireturn, 1) := by decide +kernel
theorem dX9_badRole_34 : decode cX9_badRole 34 = .ok (.iinc 1 1, 3) := by decide +kernel
theorem dX9_badRole_37 : decode cX9_badRole 37 = .ok (.goto (-35), 3) := by decide +kernel
theorem dX9_badRole_40 : decode cX9_badRole 40 = .ok (.bipush (-9), 2) := by decide +kernel
theorem dX9_badRole_42 : decode cX9_badRole 42 = .ok (.ireturn, 1) := by decide +kernel
set_option maxRecDepth 20000 in
theorem ggX9_plan_X9_lookAtKept : GoodIn wsX9_plan wsX9_lookAtKept := goodIn_r _ [8, 3, 2, 9, 10, 11, 7, 12, 13, 14, 15, 16, 17, 18, 19, 20, 21, 22, 23, 24, 25, 26, 27, 28, 29, 30, 31, 32, 33, 34, 35, 36, 37, 38, 39, 40, 58, 59, 60, 61, 62, 63, 64, 65, 66, 67, 68, 69, 70, 71, 72, 73, 74, 75, 76, 77, 78, 79, 80, 81, 82, 83] (by decide +kernel) (by decide +kernel)
set_option maxRecDepth 20000 in
theorem gX9_plan_X9_lookAtKept : GoodIn wsX9_plan (wsV RX9 168 RX9 yX9_lookAtKept wsX9_lookAtKept) := goodIn_app (goodIn_of _ (by decide +kernel)) ggX9_plan_X9_lookAtKept
set_option maxRecDepth 20000 in
theorem ggX9_plan_X3_make : GoodIn wsX9_plan wsX3_make := goodIn_r _ [45, 46, 47, 48, 49, 7, 50, 51, 52, 53, 54, 55, 56, 57, 84, 85, 86] (by decide +kernel) (by decide +kernel)
set_option maxRecDepth 20000 in
theorem gX9_plan_X3_make : GoodIn wsX9_plan (wsV RX9 209 RX3 yX3_make wsX3_make) := goodIn_app (goodIn_of _ (by decide +kernel)) ggX9_plan_X3_make
theorem dX9_plan_0 : decode cX9_plan 0 = .ok (.iload_n 1, 1) := by decide +kernel
theorem dX9_plan_1 : decode cX9_plan 1 = .ok (.ifCond .eq 7, 3) := by decide +kernel
theorem dX9_plan_4 : decode cX9_plan 4 = .ok (.aload_n 0, 1) := by decide +kernel
theorem dX9_plan_5 : decode cX9_plan 5 = .ok (.invokevirtual 168, 3) := by decide +kernel
theorem dX9_plan_8 : decode cX9_plan 8 = .ok (.aload_n 0, 1) := by decide +kernel
theorem dX9_plan_9 : decode cX9_plan 9 = .ok (.getfield 54, 3) := by decide +kernel
theorem dX9_plan_12 : decode cX9_plan 12 = .ok (.iload_n 1, 1) := by decide +kernel
theorem dX9_plan_13 : decode cX9_plan 13 = .ok (.ifCond .eq 10, 3) := by decide +kernel
theorem dX9_plan_16 : decode cX9_plan 16 = .ok (.aload_n 0, 1) := by decide +kernel
theorem dX9_plan_17 : decode cX9_plan 17 = .ok (.getfield 72, 3) := by decide +kernel
theorem dX9_plan_20 : decode cX9_plan 20 = .ok (.goto 10, 3) := by decide +kernel
theorem dX9_plan_23 : decode cX9_plan 23 = .ok (.aload_n 0, 1) := by decide +kernel
theorem dX9_plan_24 : decode cX9_plan 24 = .ok (.getfield 19, 3) := by decide +kernel
theorem dX9_plan_27 : decode cX9_plan 27 = .ok (.getfield 112, 3) := by decide +kernel
theorem dX9_plan_30 : decode cX9_plan 30 = .ok (.aload_n 0, 1) := by decide +kernel
theorem dX9_plan_31 : decode cX9_plan 31 = .ok (.getfield 19, 3) := by decide +kernel
theorem dX9_plan_34 : decode cX9_plan 34 = .ok (.getfield 93, 3) := by decide +kernel
theorem dX9_plan_37 : decode cX9_plan 37 = .ok (.invokevirtual 209, 3) := by decide +kernel
theorem dX9_plan_40 : decode cX9_plan 40 = .ok (.ireturn, 1) := by decide +kernel
set_option maxRecDepth 20000 in
theorem ggX9_takeOut_X9_noPerson : GoodIn wsX9_takeOut wsX9_noPerson := goodIn_r _ [6, 7, 17, 18, 19, 20, 21, 22, 23, 24, 25, 26, 27, 28, 29, 33, 34, 35, 36, 37] (by decide +kernel) (by decide +kernel)
set_option maxRecDepth 20000 in
theorem gX9_takeOut_X9_noPerson : GoodIn wsX9_takeOut (wsV RX9 100 RX9 yX9_noPerson wsX9_noPerson) := goodIn_app (goodIn_of _ (by decide +kernel)) ggX9_takeOut_X9_noPerson
set_option maxRecDepth 20000 in
theorem ggX9_takeOut_X9_noRight : GoodIn wsX9_takeOut wsX9_noRight := goodIn_r _ [10] (by decide +kernel) (by decide +kernel)
set_option maxRecDepth 20000 in
theorem gX9_takeOut_X9_noRight : GoodIn wsX9_takeOut (va_wsS RX9 137 yX9_noRight wsX9_noRight) := goodIn_app (goodIn_of _ (by decide +kernel)) ggX9_takeOut_X9_noRight
set_option maxRecDepth 20000 in
theorem ggX9_takeOut_X3_drop : GoodIn wsX9_takeOut wsX3_drop := goodIn_r _ [15, 16, 30, 31, 32] (by decide +kernel) (by decide +kernel)
set_option maxRecDepth 20000 in
theorem gX9_takeOut_X3_drop : GoodIn wsX9_takeOut (wsV RX9 218 RX3 yX3_drop wsX3_drop) := goodIn_app (goodIn_of _ (by decide +kernel)) ggX9_takeOut_X3_drop
theorem dX9_takeOut_0 : decode cX9_takeOut 0 = .ok (.aload_n 0, 1) := by decide +kernel
theorem dX9_takeOut_1 : decode cX9_takeOut 1 = .ok (.iload_n 1, 1) := by decide +kernel
theorem dX9_takeOut_2 : decode cX9_takeOut 2 = .ok (.invokevirtual 100, 3) := by decide +kernel
theorem dX9_takeOut_5 : decode cX9_takeOut 5 = .ok (.ifCond .ne 31, 3) := by decide +kernel
theorem dX9_takeOut_8 : decode cX9_takeOut 8 = .ok (.iload_n 2, 1) := by decide +kernel
theorem dX9_takeOut_9 : decode cX9_takeOut 9 = .ok (.invokestatic 137, 3) := by decide +kernel
theorem dX9_takeOut_12 : decode cX9_takeOut 12 = .ok (.ifCond .ne 24, 3) := by decide +kernel
theorem dX9_takeOut_15 : decode cX9_takeOut 15 = .ok (.aload_n 0, 1) := by decide +kernel
theorem dX9_takeOut_16 : decode cX9_takeOut 16 = .ok (.getfield 54, 3) := by decide +kernel
theorem dX9_takeOut_19 : decode cX9_takeOut 19 = .ok (.getfield 213, 3) := by decide +kernel
theorem dX9_takeOut_22 : decode cX9_takeOut 22 = .ok (.ifCond .eq 16, 3) := by decide +kernel
theorem dX9_takeOut_25 : decode cX9_takeOut 25 = .ok (.iload_n 1, 1) := by decide +kernel
theorem dX9_takeOut_26 : decode cX9_takeOut 26 = .ok (.aload_n 0, 1) := by decide +kernel
theorem dX9_takeOut_27 : decode cX9_takeOut 27 = .ok (.getfield 54, 3) := by decide +kernel
theorem dX9_takeOut_30 : decode cX9_takeOut 30 = .ok (.getfield 217, 3) := by decide +kernel
theorem dX9_takeOut_33 : decode cX9_takeOut 33 = .ok (.if_icmp .lt 5, 3) := by decide +kernel
theorem dX9_takeOut_36 : decode cX9_takeOut 36 = .ok (.iconst (-1), 1) := by decide +kernel
theorem dX9_takeOut_37 : decode cX9_takeOut 37 = .ok (.ireturn, 1) := by decide +kernel
theorem dX9_takeOut_38 : decode cX9_takeOut 38 = .ok (.aload_n 0, 1) := by decide +kernel
theorem dX9_takeOut_39 : decode cX9_takeOut 39 = .ok (.getfield 54, 3) := by decide +kernel
theorem dX9_takeOut_42 : decode cX9_takeOut 42 = .ok (.getfield 213, 3) := by decide +kernel
theorem dX9_takeOut_45 : decode cX9_takeOut 45 = .ok (.ifCond .ne 6, 3) := by decide +kernel
theorem dX9_takeOut_48 : decode cX9_takeOut 48 = .ok (.bipush (-4), 2) := by decide +kernel
theorem dX9_takeOut_50 : decode cX9_takeOut 50 = .ok (.ireturn, 1) := by decide +kernel
theorem dX9_takeOut_51 : decode cX9_takeOut 51 = .ok (.aload_n 0, 1) := by decide +kernel
theorem dX9_takeOut_52 : decode cX9_takeOut 52 = .ok (.getfield 54, 3) := by decide +kernel
theorem dX9_takeOut_55 : decode cX9_takeOut 55 = .ok (.iload_n 1, 1) := by decide +kernel
theorem dX9_takeOut_56 : decode cX9_takeOut 56 = .ok (.iload_n 2, 1) := by decide +kernel
theorem dX9_takeOut_57 : decode cX9_takeOut 57 = .ok (.invokevirtual 218, 3) := by decide +kernel
theorem dX9_takeOut_60 : decode cX9_takeOut 60 = .ok (.ireturn, 1) := by decide +kernel
set_option maxRecDepth 20000 in
theorem ggX9_stopped_X9_noLastDays : GoodIn wsX9_stopped wsX9_noLastDays := goodIn_r _ [6] (by decide +kernel) (by decide +kernel)
set_option maxRecDepth 20000 in
theorem gX9_stopped_X9_noLastDays : GoodIn wsX9_stopped (va_wsS RX9 221 yX9_noLastDays wsX9_noLastDays) := goodIn_app (goodIn_of _ (by decide +kernel)) ggX9_stopped_X9_noLastDays
set_option maxRecDepth 20000 in
theorem ggX9_stopped_X9_isStopped : GoodIn wsX9_stopped wsX9_isStopped := goodIn_r _ [10, 11, 2, 1, 12, 13, 14, 15, 16, 17, 18, 19, 20, 21, 22, 23, 24, 25, 26, 27, 28, 29, 30, 31, 32, 33, 34, 35, 36, 37, 41, 42, 43, 44, 45, 46, 47, 48, 38, 39, 40] (by decide +kernel) (by decide +kernel)
set_option maxRecDepth 20000 in
theorem gX9_stopped_X9_isStopped : GoodIn wsX9_stopped (wsV RX9 224 RX9 yX9_isStopped wsX9_isStopped) := goodIn_app (goodIn_of _ (by decide +kernel)) ggX9_stopped_X9_isStopped
theorem dX9_stopped_0 : decode cX9_stopped 0 = .ok (.iload_n 1, 1) := by decide +kernel
theorem dX9_stopped_1 : decode cX9_stopped 1 = .ok (.invokestatic 221, 3) := by decide +kernel
theorem dX9_stopped_4 : decode cX9_stopped 4 = .ok (.ifCond .eq 5, 3) := by decide +kernel
theorem dX9_stopped_7 : decode cX9_stopped 7 = .ok (.iconst (-1), 1) := by decide +kernel
theorem dX9_stopped_8 : decode cX9_stopped 8 = .ok (.ireturn, 1) := by decide +kernel
theorem dX9_stopped_9 : decode cX9_stopped 9 = .ok (.aload_n 0, 1) := by decide +kernel
theorem dX9_stopped_10 : decode cX9_stopped 10 = .ok (.getfield 54, 3) := by decide +kernel
theorem dX9_stopped_13 : decode cX9_stopped 13 = .ok (.getfield 213, 3) := by decide +kernel
theorem dX9_stopped_16 : decode cX9_stopped 16 = .ok (.ifCond .ne 6, 3) := by decide +kernel
theorem dX9_stopped_19 : decode cX9_stopped 19 = .ok (.bipush (-4), 2) := by decide +kernel
theorem dX9_stopped_21 : decode cX9_stopped 21 = .ok (.ireturn, 1) := by decide +kernel
end
section
theorem dX9_stopped_22 : decode cX9_stopped 22 = .ok (.iconst 0, 1) := by decide +kernel
theorem dX9_stopped_23 : decode cX9_stopped 23 = .ok (.istore_n 2, 1) := by decide +kernel
theorem dX9_stopped_24 : decode cX9_stopped 24 = .ok (.iconst 0, 1) := by decide +kernel
theorem dX9_stopped_25 : decode cX9_stopped 25 = .ok (.istore_n 3, 1) := by decide +kernel
theorem dX9_stopped_26 : decode cX9_stopped 26 = .ok (.iload_n 3, 1) := by decide +kernel
theorem dX9_stopped_27 : decode cX9_stopped 27 = .ok (.aload_n 0, 1) := by decide +kernel
theorem dX9_stopped_28 : decode cX9_stopped 28 = .ok (.getfield 26, 3) := by decide +kernel
theorem dX9_stopped_31 : decode cX9_stopped 31 = .ok (.getfield 140, 3) := by decide +kernel
theorem dX9_stopped_34 : decode cX9_stopped 34 = .ok (.if_icmp .ge 21, 3) := by decide +kernel
theorem dX9_stopped_37 : decode cX9_stopped 37 = .ok (.aload_n 0, 1) := by decide +kernel
theorem dX9_stopped_38 : decode cX9_stopped 38 = .ok (.iload_n 3, 1) := by decide +kernel
theorem dX9_stopped_39 : decode cX9_stopped 39 = .ok (.iload_n 1, 1) := by decide +kernel
theorem dX9_stopped_40 : decode cX9_stopped 40 = .ok (.invokevirtual 224, 3) := by decide +kernel
theorem dX9_stopped_43 : decode cX9_stopped 43 = .ok (.ifCond .eq 6, 3) := by decide +kernel
theorem dX9_stopped_46 : decode cX9_stopped 46 = .ok (.iinc 2 1, 3) := by decide +kernel
theorem dX9_stopped_49 : decode cX9_stopped 49 = .ok (.iinc 3 1, 3) := by decide +kernel
theorem dX9_stopped_52 : decode cX9_stopped 52 = .ok (.goto (-26), 3) := by decide +kernel
theorem dX9_stopped_55 : decode cX9_stopped 55 = .ok (.iload_n 2, 1) := by decide +kernel
theorem dX9_stopped_56 : decode cX9_stopped 56 = .ok (.ireturn, 1) := by decide +kernel
set_option maxRecDepth 20000 in
theorem ggX9_stop_X9_noLastDays : GoodIn wsX9_stop wsX9_noLastDays := goodIn_r _ [6] (by decide +kernel) (by decide +kernel)
set_option maxRecDepth 20000 in
theorem gX9_stop_X9_noLastDays : GoodIn wsX9_stop (va_wsS RX9 221 yX9_noLastDays wsX9_noLastDays) := goodIn_app (goodIn_of _ (by decide +kernel)) ggX9_stop_X9_noLastDays
set_option maxRecDepth 20000 in
theorem ggX9_stop_X9_isStopped : GoodIn wsX9_stop wsX9_isStopped := goodIn_r _ [10, 11, 2, 1, 12, 13, 14, 15, 16, 17, 18, 19, 20, 21, 22, 23, 24, 25, 26, 27, 28, 29, 30, 31, 32, 33, 34, 35, 36, 37, 41, 42, 43, 44, 45, 46, 47, 48, 38, 39, 40] (by decide +kernel) (by decide +kernel)
set_option maxRecDepth 20000 in
theorem gX9_stop_X9_isStopped : GoodIn wsX9_stop (wsV RX9 224 RX9 yX9_isStopped wsX9_isStopped) := goodIn_app (goodIn_of _ (by decide +kernel)) ggX9_stop_X9_isStopped
theorem dX9_stop_0 : decode cX9_stop 0 = .ok (.iload_n 1, 1) := by decide +kernel
theorem dX9_stop_1 : decode cX9_stop 1 = .ok (.invokestatic 221, 3) := by decide +kernel
theorem dX9_stop_4 : decode cX9_stop 4 = .ok (.ifCond .ne 7, 3) := by decide +kernel
theorem dX9_stop_7 : decode cX9_stop 7 = .ok (.iload_n 2, 1) := by decide +kernel
theorem dX9_stop_8 : decode cX9_stop 8 = .ok (.ifCond .ge 5, 3) := by decide +kernel
theorem dX9_stop_11 : decode cX9_stop 11 = .ok (.iconst (-1), 1) := by decide +kernel
theorem dX9_stop_12 : decode cX9_stop 12 = .ok (.ireturn, 1) := by decide +kernel
theorem dX9_stop_13 : decode cX9_stop 13 = .ok (.aload_n 0, 1) := by decide +kernel
theorem dX9_stop_14 : decode cX9_stop 14 = .ok (.getfield 54, 3) := by decide +kernel
theorem dX9_stop_17 : decode cX9_stop 17 = .ok (.getfield 213, 3) := by decide +kernel
theorem dX9_stop_20 : decode cX9_stop 20 = .ok (.ifCond .ne 6, 3) := by decide +kernel
theorem dX9_stop_23 : decode cX9_stop 23 = .ok (.bipush (-4), 2) := by decide +kernel
theorem dX9_stop_25 : decode cX9_stop 25 = .ok (.ireturn, 1) := by decide +kernel
theorem dX9_stop_26 : decode cX9_stop 26 = .ok (.iload_n 2, 1) := by decide +kernel
theorem dX9_stop_27 : decode cX9_stop 27 = .ok (.istore_n 3, 1) := by decide +kernel
theorem dX9_stop_28 : decode cX9_stop 28 = .ok (.iload_n 3, 1) := by decide +kernel
theorem dX9_stop_29 : decode cX9_stop 29 = .ok (.aload_n 0, 1) := by decide +kernel
theorem dX9_stop_30 : decode cX9_stop 30 = .ok (.getfield 26, 3) := by decide +kernel
theorem dX9_stop_33 : decode cX9_stop 33 = .ok (.getfield 140, 3) := by decide +kernel
theorem dX9_stop_36 : decode cX9_stop 36 = .ok (.if_icmp .ge 20, 3) := by decide +kernel
theorem dX9_stop_39 : decode cX9_stop 39 = .ok (.aload_n 0, 1) := by decide +kernel
theorem dX9_stop_40 : decode cX9_stop 40 = .ok (.iload_n 3, 1) := by decide +kernel
theorem dX9_stop_41 : decode cX9_stop 41 = .ok (.iload_n 1, 1) := by decide +kernel
theorem dX9_stop_42 : decode cX9_stop 42 = .ok (.invokevirtual 224, 3) := by decide +kernel
theorem dX9_stop_45 : decode cX9_stop 45 = .ok (.ifCond .eq 5, 3) := by decide +kernel
theorem dX9_stop_48 : decode cX9_stop 48 = .ok (.iload_n 3, 1) := by decide +kernel
theorem dX9_stop_49 : decode cX9_stop 49 = .ok (.ireturn, 1) := by decide +kernel
theorem dX9_stop_50 : decode cX9_stop 50 = .ok (.iinc 3 1, 3) := by decide +kernel
theorem dX9_stop_53 : decode cX9_stop 53 = .ok (.goto (-25), 3) := by decide +kernel
theorem dX9_stop_56 : decode cX9_stop 56 = .ok (.bipush (-9), 2) := by decide +kernel
theorem dX9_stop_58 : decode cX9_stop 58 = .ok (.ireturn, 1) := by decide +kernel
theorem dX9_used_0 : decode cX9_used 0 = .ok (.iload_n 1, 1) := by decide +kernel
theorem dX9_used_1 : decode cX9_used 1 = .ok (.ifCond .lt 14, 3) := by decide +kernel
theorem dX9_used_4 : decode cX9_used 4 = .ok (.iload_n 1, 1) := by decide +kernel
theorem dX9_used_5 : decode cX9_used 5 = .ok (.aload_n 0, 1) := by decide +kernel
theorem dX9_used_6 : decode cX9_used 6 = .ok (.getfield 26, 3) := by decide +kernel
theorem dX9_used_9 : decode cX9_used 9 = .ok (.getfield 140, 3) := by decide +kernel
theorem dX9_used_12 : decode cX9_used 12 = .ok (.if_icmp .lt 5, 3) := by decide +kernel
theorem dX9_used_15 : decode cX9_used 15 = .ok (.iconst (-1), 1) := by decide +kernel
theorem dX9_used_16 : decode cX9_used 16 = .ok (.ireturn, 1) := by decide +kernel
theorem dX9_used_17 : decode cX9_used 17 = .ok (.iload_n 2, 1) := by decide +kernel
theorem dX9_used_18 : decode cX9_used 18 = .ok (.tableswitch 56 0 2 #[26, 36, 46], 26) := by decide +kernel
theorem dX9_used_44 : decode cX9_used 44 = .ok (.aload_n 0, 1) := by decide +kernel
theorem dX9_used_45 : decode cX9_used 45 = .ok (.getfield 26, 3) := by decide +kernel
theorem dX9_used_48 : decode cX9_used 48 = .ok (.getfield 227, 3) := by decide +kernel
theorem dX9_used_51 : decode cX9_used 51 = .ok (.iload_n 1, 1) := by decide +kernel
theorem dX9_used_52 : decode cX9_used 52 = .ok (.iaload, 1) := by decide +kernel
theorem dX9_used_53 : decode cX9_used 53 = .ok (.ireturn, 1) := by decide +kernel
theorem dX9_used_54 : decode cX9_used 54 = .ok (.aload_n 0, 1) := by decide +kernel
theorem dX9_used_55 : decode cX9_used 55 = .ok (.getfield 26, 3) := by decide +kernel
theorem dX9_used_58 : decode cX9_used 58 = .ok (.getfield 230, 3) := by decide +kernel
theorem dX9_used_61 : decode cX9_used 61 = .ok (.iload_n 1, 1) := by decide +kernel
theorem dX9_used_62 : decode cX9_used 62 = .ok (.iaload, 1) := by decide +kernel
theorem dX9_used_63 : decode cX9_used 63 = .ok (.ireturn, 1) := by decide +kernel
theorem dX9_used_64 : decode cX9_used 64 = .ok (.aload_n 0, 1) := by decide +kernel
theorem dX9_used_65 : decode cX9_used 65 = .ok (.getfield 26, 3) := by decide +kernel
theorem dX9_used_68 : decode cX9_used 68 = .ok (.getfield 233, 3) := by decide +kernel
theorem dX9_used_71 : decode cX9_used 71 = .ok (.iload_n 1, 1) := by decide +kernel
theorem dX9_used_72 : decode cX9_used 72 = .ok (.iaload, 1) := by decide +kernel
theorem dX9_used_73 : decode cX9_used 73 = .ok (.ireturn, 1) := by decide +kernel
theorem dX9_used_74 : decode cX9_used 74 = .ok (.iconst (-1), 1) := by decide +kernel
theorem dX9_used_75 : decode cX9_used 75 = .ok (.ireturn, 1) := by decide +kernel
set_option maxRecDepth 20000 in
theorem ggX9_apply_X5_strikeAllBut : GoodIn wsX9_apply wsX5_strikeAllBut := goodIn_r _ [8, 9, 10, 11, 12, 13, 14, 15, 16, 17, 18, 39, 40, 41, 42, 43] (by decide +kernel) (by decide +kernel)
set_option maxRecDepth 20000 in
theorem gX9_apply_X5_strikeAllBut : GoodIn wsX9_apply (wsV RX9 161 RX5 yX5_strikeAllBut wsX5_strikeAllBut) := goodIn_app (goodIn_of _ (by decide +kernel)) ggX9_apply_X5_strikeAllBut
set_option maxRecDepth 20000 in
theorem ggX9_apply_X5_give : GoodIn wsX9_apply wsX5_give := goodIn_r _ [22, 9, 10, 39, 40, 41, 42, 43] (by decide +kernel) (by decide +kernel)
set_option maxRecDepth 20000 in
theorem gX9_apply_X5_give : GoodIn wsX9_apply (wsV RX9 106 RX5 yX5_give wsX5_give) := goodIn_app (goodIn_of _ (by decide +kernel)) ggX9_apply_X5_give
theorem dX9_apply_0 : decode cX9_apply 0 = .ok (.aload_n 0, 1) := by decide +kernel
theorem dX9_apply_1 : decode cX9_apply 1 = .ok (.getfield 54, 3) := by decide +kernel
theorem dX9_apply_4 : decode cX9_apply 4 = .ok (.getfield 213, 3) := by decide +kernel
theorem dX9_apply_7 : decode cX9_apply 7 = .ok (.ifCond .eq 20, 3) := by decide +kernel
theorem dX9_apply_10 : decode cX9_apply 10 = .ok (.aload_n 0, 1) := by decide +kernel
theorem dX9_apply_11 : decode cX9_apply 11 = .ok (.getfield 54, 3) := by decide +kernel
theorem dX9_apply_14 : decode cX9_apply 14 = .ok (.getfield 217, 3) := by decide +kernel
theorem dX9_apply_17 : decode cX9_apply 17 = .ok (.aload_n 0, 1) := by decide +kernel
theorem dX9_apply_18 : decode cX9_apply 18 = .ok (.getfield 19, 3) := by decide +kernel
theorem dX9_apply_21 : decode cX9_apply 21 = .ok (.getfield 93, 3) := by decide +kernel
theorem dX9_apply_24 : decode cX9_apply 24 = .ok (.if_icmp .eq 6, 3) := by decide +kernel
theorem dX9_apply_27 : decode cX9_apply 27 = .ok (.bipush (-4), 2) := by decide +kernel
theorem dX9_apply_29 : decode cX9_apply 29 = .ok (.ireturn, 1) := by decide +kernel
theorem dX9_apply_30 : decode cX9_apply 30 = .ok (.iconst 0, 1) := by decide +kernel
theorem dX9_apply_31 : decode cX9_apply 31 = .ok (.istore_n 1, 1) := by decide +kernel
theorem dX9_apply_32 : decode cX9_apply 32 = .ok (.iconst 0, 1) := by decide +kernel
theorem dX9_apply_33 : decode cX9_apply 33 = .ok (.istore_n 2, 1) := by decide +kernel
theorem dX9_apply_34 : decode cX9_apply 34 = .ok (.iload_n 2, 1) := by decide +kernel
theorem dX9_apply_35 : decode cX9_apply 35 = .ok (.aload_n 0, 1) := by decide +kernel
theorem dX9_apply_36 : decode cX9_apply 36 = .ok (.getfield 19, 3) := by decide +kernel
theorem dX9_apply_39 : decode cX9_apply 39 = .ok (.getfield 93, 3) := by decide +kernel
theorem dX9_apply_42 : decode cX9_apply 42 = .ok (.if_icmp .ge 54, 3) := by decide +kernel
theorem dX9_apply_45 : decode cX9_apply 45 = .ok (.iload_n 1, 1) := by decide +kernel
theorem dX9_apply_46 : decode cX9_apply 46 = .ok (.aload_n 0, 1) := by decide +kernel
theorem dX9_apply_47 : decode cX9_apply 47 = .ok (.getfield 19, 3) := by decide +kernel
theorem dX9_apply_50 : decode cX9_apply 50 = .ok (.iload_n 2, 1) := by decide +kernel
theorem dX9_apply_51 : decode cX9_apply 51 = .ok (.aload_n 0, 1) := by decide +kernel
theorem dX9_apply_52 : decode cX9_apply 52 = .ok (.getfield 54, 3) := by decide +kernel
theorem dX9_apply_55 : decode cX9_apply 55 = .ok (.getfield 236, 3) := by decide +kernel
theorem dX9_apply_58 : decode cX9_apply 58 = .ok (.iload_n 2, 1) := by decide +kernel
theorem dX9_apply_59 : decode cX9_apply 59 = .ok (.iaload, 1) := by decide +kernel
theorem dX9_apply_60 : decode cX9_apply 60 = .ok (.aload_n 0, 1) := by decide +kernel
theorem dX9_apply_61 : decode cX9_apply 61 = .ok (.getfield 10, 3) := by decide +kernel
theorem dX9_apply_64 : decode cX9_apply 64 = .ok (.getfield 134, 3) := by decide +kernel
theorem dX9_apply_67 : decode cX9_apply 67 = .ok (.invokevirtual 161, 3) := by decide +kernel
theorem dX9_apply_70 : decode cX9_apply 70 = .ok (.iadd, 1) := by decide +kernel
theorem dX9_apply_71 : decode cX9_apply 71 = .ok (.istore_n 1, 1) := by decide +kernel
theorem dX9_apply_72 : decode cX9_apply 72 = .ok (.aload_n 0, 1) := by decide +kernel
theorem dX9_apply_73 : decode cX9_apply 73 = .ok (.getfield 19, 3) := by decide +kernel
theorem dX9_apply_76 : decode cX9_apply 76 = .ok (.iload_n 2, 1) := by decide +kernel
theorem dX9_apply_77 : decode cX9_apply 77 = .ok (.aload_n 0, 1) := by decide +kernel
theorem dX9_apply_78 : decode cX9_apply 78 = .ok (.getfield 54, 3) := by decide +kernel
theorem dX9_apply_81 : decode cX9_apply 81 = .ok (.getfield 236, 3) := by decide +kernel
theorem dX9_apply_84 : decode cX9_apply 84 = .ok (.iload_n 2, 1) := by decide +kernel
theorem dX9_apply_85 : decode cX9_apply 85 = .ok (.iaload, 1) := by decide +kernel
theorem dX9_apply_86 : decode cX9_apply 86 = .ok (.invokevirtual 106, 3) := by decide +kernel
theorem dX9_apply_89 : decode cX9_apply 89 = .ok (.pop, 1) := by decide +kernel
theorem dX9_apply_90 : decode cX9_apply 90 = .ok (.iinc 2 1, 3) := by decide +kernel
theorem dX9_apply_93 : decode cX9_apply 93 = .ok (.goto (-59), 3) := by decide +kernel
theorem dX9_apply_96 : decode cX9_apply 96 = .ok (.iload_n 1, 1) := by decide +kernel
theorem dX9_apply_97 : decode cX9_apply 97 = .ok (.ireturn, 1) := by decide +kernel
set_option maxRecDepth 20000 in
theorem ggX9_sheet_X9_noSheet : GoodIn wsX9_sheet wsX9_noSheet := goodIn_r _ [6] (by decide +kernel) (by decide +kernel)
set_option maxRecDepth 20000 in
theorem gX9_sheet_X9_noSheet : GoodIn wsX9_sheet (va_wsS RX9 237 yX9_noSheet wsX9_noSheet) := goodIn_app (goodIn_of _ (by decide +kernel)) ggX9_sheet_X9_noSheet
set_option maxRecDepth 20000 in
theorem ggX9_sheet_X4_answer : GoodIn wsX9_sheet wsX4_answer := goodIn_r _ [11, 12, 13, 34, 35] (by decide +kernel) (by decide +kernel)
set_option maxRecDepth 20000 in
theorem gX9_sheet_X4_answer : GoodIn wsX9_sheet (wsV RX9 155 RX4 yX4_answer wsX4_answer) := goodIn_app (goodIn_of _ (by decide +kernel)) ggX9_sheet_X4_answer
set_option maxRecDepth 20000 in
theorem ggX9_sheet_X7_lay : GoodIn wsX9_sheet wsX7_lay := goodIn_r _ [18, 19, 20, 36, 37] (by decide +kernel) (by decide +kernel)
set_option maxRecDepth 20000 in
theorem gX9_sheet_X7_lay : GoodIn wsX9_sheet (wsV RX9 240 RX7 yX7_lay wsX7_lay) := goodIn_app (goodIn_of _ (by decide +kernel)) ggX9_sheet_X7_lay
theorem dX9_sheet_0 : decode cX9_sheet 0 = .ok (.iload_n 1, 1) := by decide +kernel
theorem dX9_sheet_1 : decode cX9_sheet 1 = .ok (.invokestatic 237, 3) := by decide +kernel
theorem dX9_sheet_4 : decode cX9_sheet 4 = .ok (.ifCond .ne 9, 3) := by decide +kernel
theorem dX9_sheet_7 : decode cX9_sheet 7 = .ok (.iload_n 2, 1) := by decide +kernel
theorem dX9_sheet_8 : decode cX9_sheet 8 = .ok (.bipush 10, 2) := by decide +kernel
theorem dX9_sheet_10 : decode cX9_sheet 10 = .ok (.if_icmp .le 5, 3) := by decide +kernel
theorem dX9_sheet_13 : decode cX9_sheet 13 = .ok (.iconst (-1), 1) := by decide +kernel
theorem dX9_sheet_14 : decode cX9_sheet 14 = .ok (.ireturn, 1) := by decide +kernel
theorem dX9_sheet_15 : decode cX9_sheet 15 = .ok (.iload_n 2, 1) := by decide +kernel
theorem dX9_sheet_16 : decode cX9_sheet 16 = .ok (.ifCond .ge 12, 3) := by decide +kernel
theorem dX9_sheet_19 : decode cX9_sheet 19 = .ok (.aload_n 0, 1) := by decide +kernel
theorem dX9_sheet_20 : decode cX9_sheet 20 = .ok (.getfield 68, 3) := by decide +kernel
theorem dX9_sheet_23 : decode cX9_sheet 23 = .ok (.iconst 4, 1) := by decide +kernel
theorem dX9_sheet_24 : decode cX9_sheet 24 = .ok (.invokevirtual 155, 3) := by decide +kernel
theorem dX9_sheet_27 : decode cX9_sheet 27 = .ok (.ireturn, 1) := by decide +kernel
theorem dX9_sheet_28 : decode cX9_sheet 28 = .ok (.aload_n 0, 1) := by decide +kernel
theorem dX9_sheet_29 : decode cX9_sheet 29 = .ok (.getfield 61, 3) := by decide +kernel
theorem dX9_sheet_32 : decode cX9_sheet 32 = .ok (.iload_n 1, 1) := by decide +kernel
theorem dX9_sheet_33 : decode cX9_sheet 33 = .ok (.iload_n 2, 1) := by decide +kernel
theorem dX9_sheet_34 : decode cX9_sheet 34 = .ok (.invokevirtual 240, 3) := by decide +kernel
theorem dX9_sheet_37 : decode cX9_sheet 37 = .ok (.ireturn, 1) := by decide +kernel
set_option maxRecDepth 20000 in
theorem ggX9_save_X9_noSheet : GoodIn wsX9_save wsX9_noSheet := goodIn_r _ [7] (by decide +kernel) (by decide +kernel)
set_option maxRecDepth 20000 in
theorem gX9_save_X9_noSheet : GoodIn wsX9_save (va_wsS RX9 237 yX9_noSheet wsX9_noSheet) := goodIn_app (goodIn_of _ (by decide +kernel)) ggX9_save_X9_noSheet
set_option maxRecDepth 20000 in
theorem ggX9_save_X7_isMissing : GoodIn wsX9_save wsX7_isMissing := goodIn_r _ [12, 13, 48, 49] (by decide +kernel) (by decide +kernel)
set_option maxRecDepth 20000 in
theorem gX9_save_X7_isMissing : GoodIn wsX9_save (wsV RX9 243 RX7 yX7_isMissing wsX7_isMissing) := goodIn_app (goodIn_of _ (by decide +kernel)) ggX9_save_X7_isMissing
set_option maxRecDepth 20000 in
theorem ggX9_save_X4_answer : GoodIn wsX9_save wsX4_answer := goodIn_r _ [18, 19, 20, 50, 51] (by decide +kernel) (by decide +kernel)
set_option maxRecDepth 20000 in
theorem gX9_save_X4_answer : GoodIn wsX9_save (wsV RX9 155 RX4 yX4_answer wsX4_answer) := goodIn_app (goodIn_of _ (by decide +kernel)) ggX9_save_X4_answer
set_option maxRecDepth 20000 in
theorem ggX9_save_X7_write : GoodIn wsX9_save wsX7_write := goodIn_r _ [24, 13, 25, 26, 27, 28, 29, 48, 49] (by decide +kernel) (by decide +kernel)
set_option maxRecDepth 20000 in
theorem gX9_save_X7_write : GoodIn wsX9_save (wsV RX9 246 RX7 yX7_write wsX7_write) := goodIn_app (goodIn_of _ (by decide +kernel)) ggX9_save_X7_write
theorem dX9_save_0 : decode cX9_save 0 = .ok (.iload_n 1, 1) := by decide +kernel
theorem dX9_save_1 : decode cX9_save 1 = .ok (.invokestatic 237, 3) := by decide +kernel
theorem dX9_save_4 : decode cX9_save 4 = .ok (.ifCond .eq 5, 3) := by decide +kernel
theorem dX9_save_7 : decode cX9_save 7 = .ok (.iconst (-1), 1) := by decide +kernel
theorem dX9_save_8 : decode cX9_save 8 = .ok (.ireturn, 1) := by decide +kernel
theorem dX9_save_9 : decode cX9_save 9 = .ok (.aload_n 0, 1) := by decide +kernel
theorem dX9_save_10 : decode cX9_save 10 = .ok (.getfield 61, 3) := by decide +kernel
theorem dX9_save_13 : decode cX9_save 13 = .ok (.iload_n 1, 1) := by decide +kernel
theorem dX9_save_14 : decode cX9_save 14 = .ok (.invokevirtual 243, 3) := by decide +kernel
theorem dX9_save_17 : decode cX9_save 17 = .ok (.ifCond .eq 12, 3) := by decide +kernel
theorem dX9_save_20 : decode cX9_save 20 = .ok (.aload_n 0, 1) := by decide +kernel
theorem dX9_save_21 : decode cX9_save 21 = .ok (.getfield 68, 3) := by decide +kernel
theorem dX9_save_24 : decode cX9_save 24 = .ok (.iconst 1, 1) := by decide +kernel
theorem dX9_save_25 : decode cX9_save 25 = .ok (.invokevirtual 155, 3) := by decide +kernel
theorem dX9_save_28 : decode cX9_save 28 = .ok (.ireturn, 1) := by decide +kernel
theorem dX9_save_29 : decode cX9_save 29 = .ok (.aload_n 0, 1) := by decide +kernel
theorem dX9_save_30 : decode cX9_save 30 = .ok (.getfield 61, 3) := by decide +kernel
theorem dX9_save_33 : decode cX9_save 33 = .ok (.iload_n 1, 1) := by decide +kernel
theorem dX9_save_34 : decode cX9_save 34 = .ok (.aload_n 0, 1) := by decide +kernel
theorem dX9_save_35 : decode cX9_save 35 = .ok (.getfield 19, 3) := by decide +kernel
theorem dX9_save_38 : decode cX9_save 38 = .ok (.getfield 112, 3) := by decide +kernel
theorem dX9_save_41 : decode cX9_save 41 = .ok (.aload_n 0, 1) := by decide +kernel
theorem dX9_save_42 : decode cX9_save 42 = .ok (.getfield 19, 3) := by decide +kernel
theorem dX9_save_45 : decode cX9_save 45 = .ok (.getfield 93, 3) := by decide +kernel
theorem dX9_save_48 : decode cX9_save 48 = .ok (.invokevirtual 246, 3) := by decide +kernel
theorem dX9_save_51 : decode cX9_save 51 = .ok (.ireturn, 1) := by decide +kernel
set_option maxRecDepth 20000 in
theorem ggX9_load_X9_noSheet : GoodIn wsX9_load wsX9_noSheet := goodIn_r _ [7] (by decide +kernel) (by decide +kernel)
set_option maxRecDepth 20000 in
theorem gX9_load_X9_noSheet : GoodIn wsX9_load (va_wsS RX9 237 yX9_noSheet wsX9_noSheet) := goodIn_app (goodIn_of _ (by decide +kernel)) ggX9_load_X9_noSheet
set_option maxRecDepth 20000 in
theorem ggX9_load_X9_noPerson : GoodIn wsX9_load wsX9_noPerson := goodIn_r _ [11, 3, 37, 38, 39, 40, 41, 42, 43, 44, 45, 46, 47, 48, 49, 52, 53, 54, 55, 56] (by decide +kernel) (by decide +kernel)
set_option maxRecDepth 20000 in
theorem gX9_load_X9_noPerson : GoodIn wsX9_load (wsV RX9 100 RX9 yX9_noPerson wsX9_noPerson) := goodIn_app (goodIn_of _ (by decide +kernel)) ggX9_load_X9_noPerson
set_option maxRecDepth 20000 in
theorem ggX9_load_X7_isMissing : GoodIn wsX9_load wsX7_isMissing := goodIn_r _ [16, 17, 50, 51] (by decide +kernel) (by decide +kernel)
set_option maxRecDepth 20000 in
theorem gX9_load_X7_isMissing : GoodIn wsX9_load (wsV RX9 243 RX7 yX7_isMissing wsX7_isMissing) := goodIn_app (goodIn_of _ (by decide +kernel)) ggX9_load_X7_isMissing
set_option maxRecDepth 20000 in
theorem ggX9_load_X4_answer : GoodIn wsX9_load wsX4_answer := goodIn_r _ [22, 23, 24, 57, 58] (by decide +kernel) (by decide +kernel)
set_option maxRecDepth 20000 in
theorem gX9_load_X4_answer : GoodIn wsX9_load (wsV RX9 155 RX4 yX4_answer wsX4_answer) := goodIn_app (goodIn_of _ (by decide +kernel)) ggX9_load_X4_answer
set_option maxRecDepth 20000 in
theorem ggX9_load_X7_at : GoodIn wsX9_load wsX7_at := goodIn_r _ [28, 29, 50, 51] (by decide +kernel) (by decide +kernel)
set_option maxRecDepth 20000 in
theorem gX9_load_X7_at : GoodIn wsX9_load (wsV RX9 253 RX7 yX7_at wsX7_at) := goodIn_app (goodIn_of _ (by decide +kernel)) ggX9_load_X7_at
set_option maxRecDepth 20000 in
theorem ggX9_load_X5_give : GoodIn wsX9_load wsX5_give := goodIn_r _ [34, 35, 36, 52, 53, 54, 55, 56] (by decide +kernel) (by decide +kernel)
set_option maxRecDepth 20000 in
theorem gX9_load_X5_give : GoodIn wsX9_load (wsV RX9 106 RX5 yX5_give wsX5_give) := goodIn_app (goodIn_of _ (by decide +kernel)) ggX9_load_X5_give
theorem dX9_load_0 : decode cX9_load 0 = .ok (.iload_n 1, 1) := by decide +kernel
theorem dX9_load_1 : decode cX9_load 1 = .ok (.invokestatic 237, 3) := by decide +kernel
theorem dX9_load_4 : decode cX9_load 4 = .ok (.ifCond .ne 11, 3) := by decide +kernel
theorem dX9_load_7 : decode cX9_load 7 = .ok (.aload_n 0, 1) := by decide +kernel
theorem dX9_load_8 : decode cX9_load 8 = .ok (.iload_n 3, 1) := by decide +kernel
theorem dX9_load_9 : decode cX9_load 9 = .ok (.invokevirtual 100, 3) := by decide +kernel
theorem dX9_load_12 : decode cX9_load 12 = .ok (.ifCond .eq 5, 3) := by decide +kernel
theorem dX9_load_15 : decode cX9_load 15 = .ok (.iconst (-1), 1) := by decide +kernel
theorem dX9_load_16 : decode cX9_load 16 = .ok (.ireturn, 1) := by decide +kernel
theorem dX9_load_17 : decode cX9_load 17 = .ok (.aload_n 0, 1) := by decide +kernel
theorem dX9_load_18 : decode cX9_load 18 = .ok (.getfield 61, 3) := by decide +kernel
theorem dX9_load_21 : decode cX9_load 21 = .ok (.iload_n 1, 1) := by decide +kernel
theorem dX9_load_22 : decode cX9_load 22 = .ok (.invokevirtual 243, 3) := by decide +kernel
theorem dX9_load_25 : decode cX9_load 25 = .ok (.ifCond .eq 12, 3) := by decide +kernel
theorem dX9_load_28 : decode cX9_load 28 = .ok (.aload_n 0, 1) := by decide +kernel
theorem dX9_load_29 : decode cX9_load 29 = .ok (.getfield 68, 3) := by decide +kernel
theorem dX9_load_32 : decode cX9_load 32 = .ok (.iconst 1, 1) := by decide +kernel
theorem dX9_load_33 : decode cX9_load 33 = .ok (.invokevirtual 155, 3) := by decide +kernel
theorem dX9_load_36 : decode cX9_load 36 = .ok (.ireturn, 1) := by decide +kernel
theorem dX9_load_37 : decode cX9_load 37 = .ok (.iload_n 2, 1) := by decide +kernel
theorem dX9_load_38 : decode cX9_load 38 = .ok (.ifCond .lt 16, 3) := by decide +kernel
theorem dX9_load_41 : decode cX9_load 41 = .ok (.iload_n 2, 1) := by decide +kernel
theorem dX9_load_42 : decode cX9_load 42 = .ok (.aload_n 0, 1) := by decide +kernel
theorem dX9_load_43 : decode cX9_load 43 = .ok (.getfield 61, 3) := by decide +kernel
theorem dX9_load_46 : decode cX9_load 46 = .ok (.getfield 250, 3) := by decide +kernel
theorem dX9_load_49 : decode cX9_load 49 = .ok (.iload_n 1, 1) := by decide +kernel
theorem dX9_load_50 : decode cX9_load 50 = .ok (.iaload, 1) := by decide +kernel
theorem dX9_load_51 : decode cX9_load 51 = .ok (.if_icmp .lt 12, 3) := by decide +kernel
theorem dX9_load_54 : decode cX9_load 54 = .ok (.aload_n 0, 1) := by decide +kernel
theorem dX9_load_55 : decode cX9_load 55 = .ok (.getfield 68, 3) := by decide +kernel
theorem dX9_load_58 : decode cX9_load 58 = .ok (.iconst 2, 1) := by decide +kernel
theorem dX9_load_59 : decode cX9_load 59 = .ok (.invokevirtual 155, 3) := by decide +kernel
theorem dX9_load_62 : decode cX9_load 62 = .ok (.ireturn, 1) := by decide +kernel
theorem dX9_load_63 : decode cX9_load 63 = .ok (.aload_n 0, 1) := by decide +kernel
theorem dX9_load_64 : decode cX9_load 64 = .ok (.getfield 19, 3) := by decide +kernel
theorem dX9_load_67 : decode cX9_load 67 = .ok (.iload_n 3, 1) := by decide +kernel
theorem dX9_load_68 : decode cX9_load 68 = .ok (.aload_n 0, 1) := by decide +kernel
theorem dX9_load_69 : decode cX9_load 69 = .ok (.getfield 61, 3) := by decide +kernel
theorem dX9_load_72 : decode cX9_load 72 = .ok (.iload_n 1, 1) := by decide +kernel
theorem dX9_load_73 : decode cX9_load 73 = .ok (.iload_n 2, 1) := by decide +kernel
theorem dX9_load_74 : decode cX9_load 74 = .ok (.invokevirtual 253, 3) := by decide +kernel
theorem dX9_load_77 : decode cX9_load 77 = .ok (.invokevirtual 106, 3) := by decide +kernel
theorem dX9_load_80 : decode cX9_load 80 = .ok (.pop, 1) := by decide +kernel
theorem dX9_load_81 : decode cX9_load 81 = .ok (.iconst 1, 1) := by decide +kernel
theorem dX9_load_82 : decode cX9_load 82 = .ok (.ireturn, 1) := by decide +kernel
set_option maxRecDepth 20000 in
theorem ggX9_tear_X9_noSheet : GoodIn wsX9_tear wsX9_noSheet := goodIn_r _ [6] (by decide +kernel) (by decide +kernel)
set_option maxRecDepth 20000 in
theorem gX9_tear_X9_noSheet : GoodIn wsX9_tear (va_wsS RX9 237 yX9_noSheet wsX9_noSheet) := goodIn_app (goodIn_of _ (by decide +kernel)) ggX9_tear_X9_noSheet
set_option maxRecDepth 20000 in
theorem ggX9_tear_X7_isMissing : GoodIn wsX9_tear wsX7_isMissing := goodIn_r _ [11, 12, 33, 34] (by decide +kernel) (by decide +kernel)
set_option maxRecDepth 20000 in
theorem gX9_tear_X7_isMissing : GoodIn wsX9_tear (wsV RX9 243 RX7 yX7_isMissing wsX7_isMissing) := goodIn_app (goodIn_of _ (by decide +kernel)) ggX9_tear_X7_isMissing
set_option maxRecDepth 20000 in
theorem ggX9_tear_X4_answer : GoodIn wsX9_tear wsX4_answer := goodIn_r _ [17, 18, 19, 35, 36] (by decide +kernel) (by decide +kernel)
set_option maxRecDepth 20000 in
theorem gX9_tear_X4_answer : GoodIn wsX9_tear (wsV RX9 155 RX4 yX4_answer wsX4_answer) := goodIn_app (goodIn_of _ (by decide +kernel)) ggX9_tear_X4_answer
theorem dX9_tear_0 : decode cX9_tear 0 = .ok (.iload_n 1, 1) := by decide +kernel
theorem dX9_tear_1 : decode cX9_tear 1 = .ok (.invokestatic 237, 3) := by decide +kernel
theorem dX9_tear_4 : decode cX9_tear 4 = .ok (.ifCond .eq 5, 3) := by decide +kernel
theorem dX9_tear_7 : decode cX9_tear 7 = .ok (.iconst (-1), 1) := by decide +kernel
theorem dX9_tear_8 : decode cX9_tear 8 = .ok (.ireturn, 1) := by decide +kernel
theorem dX9_tear_9 : decode cX9_tear 9 = .ok (.aload_n 0, 1) := by decide +kernel
theorem dX9_tear_10 : decode cX9_tear 10 = .ok (.getfield 61, 3) := by decide +kernel
theorem dX9_tear_13 : decode cX9_tear 13 = .ok (.iload_n 1, 1) := by decide +kernel
theorem dX9_tear_14 : decode cX9_tear 14 = .ok (.invokevirtual 243, 3) := by decide +kernel
theorem dX9_tear_17 : decode cX9_tear 17 = .ok (.ifCond .eq 12, 3) := by decide +kernel
theorem dX9_tear_20 : decode cX9_tear 20 = .ok (.aload_n 0, 1) := by decide +kernel
theorem dX9_tear_21 : decode cX9_tear 21 = .ok (.getfield 68, 3) := by decide +kernel
theorem dX9_tear_24 : decode cX9_tear 24 = .ok (.iconst 1, 1) := by decide +kernel
theorem dX9_tear_25 : decode cX9_tear 25 = .ok (.invokevirtual 155, 3) := by decide +kernel
theorem dX9_tear_28 : decode cX9_tear 28 = .ok (.ireturn, 1) := by decide +kernel
theorem dX9_tear_29 : decode cX9_tear 29 = .ok (.aload_n 0, 1) := by decide +kernel
theorem dX9_tear_30 : decode cX9_tear 30 = .ok (.getfield 61, 3) := by decide +kernel
theorem dX9_tear_33 : decode cX9_tear 33 = .ok (.getfield 250, 3) := by decide +kernel
theorem dX9_tear_36 : decode cX9_tear 36 = .ok (.iload_n 1, 1) := by decide +kernel
theorem dX9_tear_37 : decode cX9_tear 37 = .ok (.iconst (-1), 1) := by decide +kernel
theorem dX9_tear_38 : decode cX9_tear 38 = .ok (.iastore, 1) := by decide +kernel
theorem dX9_tear_39 : decode cX9_tear 39 = .ok (.iconst 1, 1) := by decide +kernel
theorem dX9_tear_40 : decode cX9_tear 40 = .ok (.ireturn, 1) := by decide +kernel
set_option maxRecDepth 20000 in
theorem ggX9_copy_X9_noSheet : GoodIn wsX9_copy wsX9_noSheet := goodIn_r _ [6] (by decide +kernel) (by decide +kernel)
set_option maxRecDepth 20000 in
theorem gX9_copy_X9_noSheet : GoodIn wsX9_copy (va_wsS RX9 237 yX9_noSheet wsX9_noSheet) := goodIn_app (goodIn_of _ (by decide +kernel)) ggX9_copy_X9_noSheet
set_option maxRecDepth 20000 in
theorem ggX9_copy_X4_answer : GoodIn wsX9_copy wsX4_answer := goodIn_r _ [11, 12, 13, 46, 47] (by decide +kernel) (by decide +kernel)
set_option maxRecDepth 20000 in
theorem gX9_copy_X4_answer : GoodIn wsX9_copy (wsV RX9 155 RX4 yX4_answer wsX4_answer) := goodIn_app (goodIn_of _ (by decide +kernel)) ggX9_copy_X4_answer
set_option maxRecDepth 20000 in
theorem ggX9_copy_X7_isMissing : GoodIn wsX9_copy wsX7_isMissing := goodIn_r _ [18, 19, 48, 49] (by decide +kernel) (by decide +kernel)
set_option maxRecDepth 20000 in
theorem gX9_copy_X7_isMissing : GoodIn wsX9_copy (wsV RX9 243 RX7 yX7_isMissing wsX7_isMissing) := goodIn_app (goodIn_of _ (by decide +kernel)) ggX9_copy_X7_isMissing
set_option maxRecDepth 20000 in
theorem ggX9_copy_X7_spans : GoodIn wsX9_copy wsX7_spans := goodIn_r _ [23, 19, 48, 49] (by decide +kernel) (by decide +kernel)
set_option maxRecDepth 20000 in
theorem gX9_copy_X7_spans : GoodIn wsX9_copy (wsV RX9 256 RX7 yX7_spans wsX7_spans) := goodIn_app (goodIn_of _ (by decide +kernel)) ggX9_copy_X7_spans
set_option maxRecDepth 20000 in
theorem ggX9_copy_X7_move : GoodIn wsX9_copy wsX7_move := goodIn_r _ [27, 28, 29, 30, 31, 32, 48, 49] (by decide +kernel) (by decide +kernel)
set_option maxRecDepth 20000 in
theorem gX9_copy_X7_move : GoodIn wsX9_copy (wsV RX9 259 RX7 yX7_move wsX7_move) := goodIn_app (goodIn_of _ (by decide +kernel)) ggX9_copy_X7_move
theorem dX9_copy_0 : decode cX9_copy 0 = .ok (.iload_n 1, 1) := by decide +kernel
theorem dX9_copy_1 : decode cX9_copy 1 = .ok (.invokestatic 237, 3) := by decide +kernel
theorem dX9_copy_4 : decode cX9_copy 4 = .ok (.ifCond .ne 10, 3) := by decide +kernel
theorem dX9_copy_7 : decode cX9_copy 7 = .ok (.iload_n 3, 1) := by decide +kernel
theorem dX9_copy_8 : decode cX9_copy 8 = .ok (.invokestatic 237, 3) := by decide +kernel
theorem dX9_copy_11 : decode cX9_copy 11 = .ok (.ifCond .eq 5, 3) := by decide +kernel
theorem dX9_copy_14 : decode cX9_copy 14 = .ok (.iconst (-1), 1) := by decide +kernel
theorem dX9_copy_15 : decode cX9_copy 15 = .ok (.ireturn, 1) := by decide +kernel
theorem dX9_copy_16 : decode cX9_copy 16 = .ok (.iload 5, 2) := by decide +kernel
theorem dX9_copy_18 : decode cX9_copy 18 = .ok (.ifCond .ge 12, 3) := by decide +kernel
theorem dX9_copy_21 : decode cX9_copy 21 = .ok (.aload_n 0, 1) := by decide +kernel
theorem dX9_copy_22 : decode cX9_copy 22 = .ok (.getfield 68, 3) := by decide +kernel
theorem dX9_copy_25 : decode cX9_copy 25 = .ok (.iconst 4, 1) := by decide +kernel
theorem dX9_copy_26 : decode cX9_copy 26 = .ok (.invokevirtual 155, 3) := by decide +kernel
theorem dX9_copy_29 : decode cX9_copy 29 = .ok (.ireturn, 1) := by decide +kernel
theorem dX9_copy_30 : decode cX9_copy 30 = .ok (.aload_n 0, 1) := by decide +kernel
theorem dX9_copy_31 : decode cX9_copy 31 = .ok (.getfield 61, 3) := by decide +kernel
theorem dX9_copy_34 : decode cX9_copy 34 = .ok (.iload_n 1, 1) := by decide +kernel
theorem dX9_copy_35 : decode cX9_copy 35 = .ok (.invokevirtual 243, 3) := by decide +kernel
theorem dX9_copy_38 : decode cX9_copy 38 = .ok (.ifCond .ne 14, 3) := by decide +kernel
theorem dX9_copy_41 : decode cX9_copy 41 = .ok (.aload_n 0, 1) := by decide +kernel
theorem dX9_copy_42 : decode cX9_copy 42 = .ok (.getfield 61, 3) := by decide +kernel
theorem dX9_copy_45 : decode cX9_copy 45 = .ok (.iload_n 3, 1) := by decide +kernel
theorem dX9_copy_46 : decode cX9_copy 46 = .ok (.invokevirtual 243, 3) := by decide +kernel
theorem dX9_copy_49 : decode cX9_copy 49 = .ok (.ifCond .eq 12, 3) := by decide +kernel
theorem dX9_copy_52 : decode cX9_copy 52 = .ok (.aload_n 0, 1) := by decide +kernel
theorem dX9_copy_53 : decode cX9_copy 53 = .ok (.getfield 68, 3) := by decide +kernel
theorem dX9_copy_56 : decode cX9_copy 56 = .ok (.iconst 1, 1) := by decide +kernel
theorem dX9_copy_57 : decode cX9_copy 57 = .ok (.invokevirtual 155, 3) := by decide +kernel
theorem dX9_copy_60 : decode cX9_copy 60 = .ok (.ireturn, 1) := by decide +kernel
theorem dX9_copy_61 : decode cX9_copy 61 = .ok (.aload_n 0, 1) := by decide +kernel
theorem dX9_copy_62 : decode cX9_copy 62 = .ok (.getfield 61, 3) := by decide +kernel
theorem dX9_copy_65 : decode cX9_copy 65 = .ok (.iload_n 1, 1) := by decide +kernel
theorem dX9_copy_66 : decode cX9_copy 66 = .ok (.iload_n 2, 1) := by decide +kernel
theorem dX9_copy_67 : decode cX9_copy 67 = .ok (.iload 5, 2) := by decide +kernel
theorem dX9_copy_69 : decode cX9_copy 69 = .ok (.invokevirtual 256, 3) := by decide +kernel
theorem dX9_copy_72 : decode cX9_copy 72 = .ok (.ifCond .eq 18, 3) := by decide +kernel
theorem dX9_copy_75 : decode cX9_copy 75 = .ok (.aload_n 0, 1) := by decide +kernel
theorem dX9_copy_76 : decode cX9_copy 76 = .ok (.getfield 61, 3) := by decide +kernel
theorem dX9_copy_79 : decode cX9_copy 79 = .ok (.iload_n 3, 1) := by decide +kernel
theorem dX9_copy_80 : decode cX9_copy 80 = .ok (.iload 4, 2) := by decide +kernel
theorem dX9_copy_82 : decode cX9_copy 82 = .ok (.iload 5, 2) := by decide +kernel
theorem dX9_copy_84 : decode cX9_copy 84 = .ok (.invokevirtual 256, 3) := by decide +kernel
theorem dX9_copy_87 : decode cX9_copy 87 = .ok (.ifCond .ne 12, 3) := by decide +kernel
theorem dX9_copy_90 : decode cX9_copy 90 = .ok (.aload_n 0, 1) := by decide +kernel
theorem dX9_copy_91 : decode cX9_copy 91 = .ok (.getfield 68, 3) := by decide +kernel
theorem dX9_copy_94 : decode cX9_copy 94 = .ok (.iconst 2, 1) := by decide +kernel
theorem dX9_copy_95 : decode cX9_copy 95 = .ok (.invokevirtual 155, 3) := by decide +kernel
theorem dX9_copy_98 : decode cX9_copy 98 = .ok (.ireturn, 1) := by decide +kernel
theorem dX9_copy_99 : decode cX9_copy 99 = .ok (.aload_n 0, 1) := by decide +kernel
theorem dX9_copy_100 : decode cX9_copy 100 = .ok (.getfield 61, 3) := by decide +kernel
theorem dX9_copy_103 : decode cX9_copy 103 = .ok (.iload_n 1, 1) := by decide +kernel
theorem dX9_copy_104 : decode cX9_copy 104 = .ok (.iload_n 2, 1) := by decide +kernel
theorem dX9_copy_105 : decode cX9_copy 105 = .ok (.iload_n 3, 1) := by decide +kernel
theorem dX9_copy_106 : decode cX9_copy 106 = .ok (.iload 4, 2) := by decide +kernel
theorem dX9_copy_108 : decode cX9_copy 108 = .ok (.iload 5, 2) := by decide +kernel
theorem dX9_copy_110 : decode cX9_copy 110 = .ok (.invokevirtual 259, 3) := by decide +kernel
theorem dX9_copy_113 : decode cX9_copy 113 = .ok (.iconst 1, 1) := by decide +kernel
theorem dX9_copy_114 : decode cX9_copy 114 = .ok (.ireturn, 1) := by decide +kernel
theorem dX9_asked_0 : decode cX9_asked 0 = .ok (.aload_n 0, 1) := by decide +kernel
theorem dX9_asked_1 : decode cX9_asked 1 = .ok (.getfield 83, 3) := by decide +kernel
theorem dX9_asked_4 : decode cX9_asked 4 = .ok (.ireturn, 1) := by decide +kernel
set_option maxRecDepth 20000 in
theorem ggX9_count_X9_totalOf : GoodIn wsX9_count wsX9_totalOf := goodIn_r _ [9, 10, 11, 12, 13, 14, 15, 16] (by decide +kernel) (by decide +kernel)
set_option maxRecDepth 20000 in
theorem gX9_count_X9_totalOf : GoodIn wsX9_count (va_wsS RX9 263 yX9_totalOf wsX9_totalOf) := goodIn_app (goodIn_of _ (by decide +kernel)) ggX9_count_X9_totalOf
set_option maxRecDepth 20000 in
theorem ggX9_count_X9_lookAtKept : GoodIn wsX9_count wsX9_lookAtKept := goodIn_r _ [20, 1, 4, 21, 22, 23, 8, 24, 3, 2, 25, 26, 27, 28, 29, 30, 31, 32, 33, 34, 35, 36, 37, 38, 39, 40, 41, 42, 43, 44, 45, 46, 47, 48, 49, 50, 51, 52, 53, 54, 55, 56, 57, 58, 59, 60, 61, 62, 63, 64, 65, 66, 67, 68, 73, 74, 75, 76, 69, 70, 71, 72] (by decide +kernel) (by decide +kernel)
set_option maxRecDepth 20000 in
theorem gX9_count_X9_lookAtKept : GoodIn wsX9_count (wsV RX9 168 RX9 yX9_lookAtKept wsX9_lookAtKept) := goodIn_app (goodIn_of _ (by decide +kernel)) ggX9_count_X9_lookAtKept
theorem dX9_count_0 : decode cX9_count 0 = .ok (.iload_n 1, 1) := by decide +kernel
theorem dX9_count_1 : decode cX9_count 1 = .ok (.tableswitch 115 0 5 #[39, 47, 55, 63, 81, 100], 39) := by decide +kernel
theorem dX9_count_40 : decode cX9_count 40 = .ok (.aload_n 0, 1) := by decide +kernel
theorem dX9_count_41 : decode cX9_count 41 = .ok (.getfield 19, 3) := by decide +kernel
theorem dX9_count_44 : decode cX9_count 44 = .ok (.getfield 93, 3) := by decide +kernel
theorem dX9_count_47 : decode cX9_count 47 = .ok (.ireturn, 1) := by decide +kernel
theorem dX9_count_48 : decode cX9_count 48 = .ok (.aload_n 0, 1) := by decide +kernel
theorem dX9_count_49 : decode cX9_count 49 = .ok (.getfield 10, 3) := by decide +kernel
theorem dX9_count_52 : decode cX9_count 52 = .ok (.getfield 134, 3) := by decide +kernel
theorem dX9_count_55 : decode cX9_count 55 = .ok (.ireturn, 1) := by decide +kernel
theorem dX9_count_56 : decode cX9_count 56 = .ok (.aload_n 0, 1) := by decide +kernel
theorem dX9_count_57 : decode cX9_count 57 = .ok (.getfield 26, 3) := by decide +kernel
theorem dX9_count_60 : decode cX9_count 60 = .ok (.getfield 140, 3) := by decide +kernel
theorem dX9_count_63 : decode cX9_count 63 = .ok (.ireturn, 1) := by decide +kernel
theorem dX9_count_64 : decode cX9_count 64 = .ok (.aload_n 0, 1) := by decide +kernel
theorem dX9_count_65 : decode cX9_count 65 = .ok (.getfield 19, 3) := by decide +kernel
theorem dX9_count_68 : decode cX9_count 68 = .ok (.getfield 112, 3) := by decide +kernel
theorem dX9_count_71 : decode cX9_count 71 = .ok (.aload_n 0, 1) := by decide +kernel
theorem dX9_count_72 : decode cX9_count 72 = .ok (.getfield 19, 3) := by decide +kernel
theorem dX9_count_75 : decode cX9_count 75 = .ok (.getfield 93, 3) := by decide +kernel
theorem dX9_count_78 : decode cX9_count 78 = .ok (.invokestatic 263, 3) := by decide +kernel
theorem dX9_count_81 : decode cX9_count 81 = .ok (.ireturn, 1) := by decide +kernel
theorem dX9_count_82 : decode cX9_count 82 = .ok (.aload_n 0, 1) := by decide +kernel
theorem dX9_count_83 : decode cX9_count 83 = .ok (.invokevirtual 168, 3) := by decide +kernel
theorem dX9_count_86 : decode cX9_count 86 = .ok (.aload_n 0, 1) := by decide +kernel
theorem dX9_count_87 : decode cX9_count 87 = .ok (.getfield 72, 3) := by decide +kernel
theorem dX9_count_90 : decode cX9_count 90 = .ok (.aload_n 0, 1) := by decide +kernel
theorem dX9_count_91 : decode cX9_count 91 = .ok (.getfield 19, 3) := by decide +kernel
theorem dX9_count_94 : decode cX9_count 94 = .ok (.getfield 93, 3) := by decide +kernel
theorem dX9_count_97 : decode cX9_count 97 = .ok (.invokestatic 263, 3) := by decide +kernel
theorem dX9_count_100 : decode cX9_count 100 = .ok (.ireturn, 1) := by decide +kernel
theorem dX9_count_101 : decode cX9_count 101 = .ok (.aload_n 0, 1) := by decide +kernel
theorem dX9_count_102 : decode cX9_count 102 = .ok (.getfield 47, 3) := by decide +kernel
theorem dX9_count_105 : decode cX9_count 105 = .ok (.getfield 266, 3) := by decide +kernel
theorem dX9_count_108 : decode cX9_count 108 = .ok (.bipush 12, 2) := by decide +kernel
theorem dX9_count_110 : decode cX9_count 110 = .ok (.invokestatic 263, 3) := by decide +kernel
theorem dX9_count_113 : decode cX9_count 113 = .ok (.iconst 2, 1) := by decide +kernel
theorem dX9_count_114 : decode cX9_count 114 = .ok (.idiv, 1) := by decide +kernel
theorem dX9_count_115 : decode cX9_count 115 = .ok (.ireturn, 1) := by decide +kernel
theorem dX9_count_116 : decode cX9_count 116 = .ok (.iconst (-1), 1) := by decide +kernel
theorem dX9_count_117 : decode cX9_count 117 = .ok (.ireturn, 1) := by decide +kernel
theorem dX9_finding_0 : decode cX9_finding 0 = .ok (.aload_n 0, 1) := by decide +kernel
theorem dX9_finding_1 : decode cX9_finding 1 = .ok (.getfield 68, 3) := by decide +kernel
theorem dX9_finding_4 : decode cX9_finding 4 = .ok (.getfield 269, 3) := by decide +kernel
theorem dX9_finding_7 : decode cX9_finding 7 = .ok (.ireturn, 1) := by decide +kernel
theorem dX9_findings_0 : decode cX9_findings 0 = .ok (.iload_n 1, 1) := by decide +kernel
theorem dX9_findings_1 : decode cX9_findings 1 = .ok (.iconst 1, 1) := by decide +kernel
theorem dX9_findings_2 : decode cX9_findings 2 = .ok (.if_icmp .lt 8, 3) := by decide +kernel
theorem dX9_findings_5 : decode cX9_findings 5 = .ok (.iload_n 1, 1) := by decide +kernel
theorem dX9_findings_6 : decode cX9_findings 6 = .ok (.iconst 4, 1) := by decide +kernel
theorem dX9_findings_7 : decode cX9_findings 7 = .ok (.if_icmp .le 5, 3) := by decide +kernel
theorem dX9_findings_10 : decode cX9_findings 10 = .ok (.iconst (-1), 1) := by decide +kernel
theorem dX9_findings_11 : decode cX9_findings 11 = .ok (.ireturn, 1) := by decide +kernel
theorem dX9_findings_12 : decode cX9_findings 12 = .ok (.aload_n 0, 1) := by decide +kernel
theorem dX9_findings_13 : decode cX9_findings 13 = .ok (.getfield 68, 3) := by decide +kernel
theorem dX9_findings_16 : decode cX9_findings 16 = .ok (.getfield 272, 3) := by decide +kernel
theorem dX9_findings_19 : decode cX9_findings 19 = .ok (.iload_n 1, 1) := by decide +kernel
theorem dX9_findings_20 : decode cX9_findings 20 = .ok (.iaload, 1) := by decide +kernel
theorem dX9_findings_21 : decode cX9_findings 21 = .ok (.ireturn, 1) := by decide +kernel
set_option maxRecDepth 20000 in
theorem ggX9_digest_X9_digestOfPeople : GoodIn wsX9_digest wsX9_digestOfPeople := goodIn_r _ [11, 12, 2, 13, 5, 14, 15, 16, 10, 17, 18, 19, 20, 21, 4, 3, 22, 23, 24, 25, 26, 27, 28, 29, 30, 31, 32, 33, 34, 35, 36, 37, 38, 39, 40, 41, 42, 43, 44, 45, 46, 47, 48, 49, 50, 62, 63, 64, 65, 66, 67, 68, 69, 70, 71, 72, 73, 74, 84, 85, 86, 87, 88, 79, 80, 81, 82, 75, 76, 77, 78] (by decide +kernel) (by decide +kernel)
set_option maxRecDepth 20000 in
theorem gX9_digest_X9_digestOfPeople : GoodIn wsX9_digest (wsV RX9 277 RX9 yX9_digestOfPeople wsX9_digestOfPeople) := goodIn_app (goodIn_of _ (by decide +kernel)) ggX9_digest_X9_digestOfPeople
set_option maxRecDepth 20000 in
theorem ggX9_digest_X9_digestOfSheets : GoodIn wsX9_digest wsX9_digestOfSheets := goodIn_r _ [54, 2, 55, 56, 57, 58, 59, 60, 61, 62, 63, 64, 65, 66, 67, 68, 69, 70, 71, 72, 73, 74, 89, 90] (by decide +kernel) (by decide +kernel)
set_option maxRecDepth 20000 in
theorem gX9_digest_X9_digestOfSheets : GoodIn wsX9_digest (wsV RX9 283 RX9 yX9_digestOfSheets wsX9_digestOfSheets) := goodIn_app (goodIn_of _ (by decide +kernel)) ggX9_digest_X9_digestOfSheets
theorem dX9_digest_0 : decode cX9_digest 0 = .ok (.aload_n 0, 1) := by decide +kernel
theorem dX9_digest_1 : decode cX9_digest 1 = .ok (.ldc2_w 275, 3) := by decide +kernel
theorem dX9_digest_4 : decode cX9_digest 4 = .ok (.invokevirtual 277, 3) := by decide +kernel
theorem dX9_digest_7 : decode cX9_digest 7 = .ok (.lstore_n 1, 1) := by decide +kernel
theorem dX9_digest_8 : decode cX9_digest 8 = .ok (.ldc2_w 281, 3) := by decide +kernel
theorem dX9_digest_11 : decode cX9_digest 11 = .ok (.lload_n 1, 1) := by decide +kernel
theorem dX9_digest_12 : decode cX9_digest 12 = .ok (.lmul, 1) := by decide +kernel
theorem dX9_digest_13 : decode cX9_digest 13 = .ok (.aload_n 0, 1) := by decide +kernel
theorem dX9_digest_14 : decode cX9_digest 14 = .ok (.getfield 79, 3) := by decide +kernel
theorem dX9_digest_17 : decode cX9_digest 17 = .ok (.i2l, 1) := by decide +kernel
theorem dX9_digest_18 : decode cX9_digest 18 = .ok (.ladd, 1) := by decide +kernel
theorem dX9_digest_19 : decode cX9_digest 19 = .ok (.lstore_n 1, 1) := by decide +kernel
theorem dX9_digest_20 : decode cX9_digest 20 = .ok (.ldc2_w 281, 3) := by decide +kernel
theorem dX9_digest_23 : decode cX9_digest 23 = .ok (.lload_n 1, 1) := by decide +kernel
theorem dX9_digest_24 : decode cX9_digest 24 = .ok (.lmul, 1) := by decide +kernel
theorem dX9_digest_25 : decode cX9_digest 25 = .ok (.aload_n 0, 1) := by decide +kernel
theorem dX9_digest_26 : decode cX9_digest 26 = .ok (.getfield 10, 3) := by decide +kernel
theorem dX9_digest_29 : decode cX9_digest 29 = .ok (.getfield 134, 3) := by decide +kernel
theorem dX9_digest_32 : decode cX9_digest 32 = .ok (.i2l, 1) := by decide +kernel
theorem dX9_digest_33 : decode cX9_digest 33 = .ok (.ladd, 1) := by decide +kernel
theorem dX9_digest_34 : decode cX9_digest 34 = .ok (.lstore_n 1, 1) := by decide +kernel
theorem dX9_digest_35 : decode cX9_digest 35 = .ok (.iconst 0, 1) := by decide +kernel
theorem dX9_digest_36 : decode cX9_digest 36 = .ok (.istore_n 3, 1) := by decide +kernel
theorem dX9_digest_37 : decode cX9_digest 37 = .ok (.iload_n 3, 1) := by decide +kernel
theorem dX9_digest_38 : decode cX9_digest 38 = .ok (.aload_n 0, 1) := by decide +kernel
theorem dX9_digest_39 : decode cX9_digest 39 = .ok (.getfield 26, 3) := by decide +kernel
theorem dX9_digest_42 : decode cX9_digest 42 = .ok (.getfield 140, 3) := by decide +kernel
theorem dX9_digest_45 : decode cX9_digest 45 = .ok (.if_icmp .ge 60, 3) := by decide +kernel
theorem dX9_digest_48 : decode cX9_digest 48 = .ok (.ldc2_w 281, 3) := by decide +kernel
theorem dX9_digest_51 : decode cX9_digest 51 = .ok (.lload_n 1, 1) := by decide +kernel
theorem dX9_digest_52 : decode cX9_digest 52 = .ok (.lmul, 1) := by decide +kernel
theorem dX9_digest_53 : decode cX9_digest 53 = .ok (.aload_n 0, 1) := by decide +kernel
theorem dX9_digest_54 : decode cX9_digest 54 = .ok (.getfield 26, 3) := by decide +kernel
theorem dX9_digest_57 : decode cX9_digest 57 = .ok (.getfield 227, 3) := by decide +kernel
theorem dX9_digest_60 : decode cX9_digest 60 = .ok (.iload_n 3, 1) := by decide +kernel
theorem dX9_digest_61 : decode cX9_digest 61 = .ok (.iaload, 1) := by decide +kernel
theorem dX9_digest_62 : decode cX9_digest 62 = .ok (.i2l, 1) := by decide +kernel
theorem dX9_digest_63 : decode cX9_digest 63 = .ok (.ladd, 1) := by decide +kernel
theorem dX9_digest_64 : decode cX9_digest 64 = .ok (.lstore_n 1, 1) := by decide +kernel
theorem dX9_digest_65 : decode cX9_digest 65 = .ok (.ldc2_w 281, 3) := by decide +kernel
theorem dX9_digest_68 : decode cX9_digest 68 = .ok (.lload_n 1, 1) := by decide +kernel
theorem dX9_digest_69 : decode cX9_digest 69 = .ok (.lmul, 1) := by decide +kernel
theorem dX9_digest_70 : decode cX9_digest 70 = .ok (.aload_n 0, 1) := by decide +kernel
theorem dX9_digest_71 : decode cX9_digest 71 = .ok (.getfield 26, 3) := by decide +kernel
theorem dX9_digest_74 : decode cX9_digest 74 = .ok (.getfield 230, 3) := by decide +kernel
theorem dX9_digest_77 : decode cX9_digest 77 = .ok (.iload_n 3, 1) := by decide +kernel
theorem dX9_digest_78 : decode cX9_digest 78 = .ok (.iaload, 1) := by decide +kernel
theorem dX9_digest_79 : decode cX9_digest 79 = .ok (.i2l, 1) := by decide +kernel
theorem dX9_digest_80 : decode cX9_digest 80 = .ok (.ladd, 1) := by decide +kernel
theorem dX9_digest_81 : decode cX9_digest 81 = .ok (.lstore_n 1, 1) := by decide +kernel
theorem dX9_digest_82 : decode cX9_digest 82 = .ok (.ldc2_w 281, 3) := by decide +kernel
theorem dX9_digest_85 : decode cX9_digest 85 = .ok (.lload_n 1, 1) := by decide +kernel
theorem dX9_digest_86 : decode cX9_digest 86 = .ok (.lmul, 1) := by decide +kernel
theorem dX9_digest_87 : decode cX9_digest 87 = .ok (.aload_n 0, 1) := by decide +kernel
theorem dX9_digest_88 : decode cX9_digest 88 = .ok (.getfield 26, 3) := by decide +kernel
theorem dX9_digest_91 : decode cX9_digest 91 = .ok (.getfield 233, 3) := by decide +kernel
theorem dX9_digest_94 : decode cX9_digest 94 = .ok (.iload_n 3, 1) := by decide +kernel
theorem dX9_digest_95 : decode cX9_digest 95 = .ok (.iaload, 1) := by decide +kernel
theorem dX9_digest_96 : decode cX9_digest 96 = .ok (.i2l, 1) := by decide +kernel
theorem dX9_digest_97 : decode cX9_digest 97 = .ok (.ladd, 1) := by decide +kernel
theorem dX9_digest_98 : decode cX9_digest 98 = .ok (.lstore_n 1, 1) := by decide +kernel
theorem dX9_digest_99 : decode cX9_digest 99 = .ok (.iinc 3 1, 3) := by decide +kernel
theorem dX9_digest_102 : decode cX9_digest 102 = .ok (.goto (-65), 3) := by decide +kernel
theorem dX9_digest_105 : decode cX9_digest 105 = .ok (.iconst 0, 1) := by decide +kernel
theorem dX9_digest_106 : decode cX9_digest 106 = .ok (.istore_n 3, 1) := by decide +kernel
theorem dX9_digest_107 : decode cX9_digest 107 = .ok (.iload_n 3, 1) := by decide +kernel
theorem dX9_digest_108 : decode cX9_digest 108 = .ok (.bipush 12, 2) := by decide +kernel
theorem dX9_digest_110 : decode cX9_digest 110 = .ok (.if_icmp .ge 26, 3) := by decide +kernel
theorem dX9_digest_113 : decode cX9_digest 113 = .ok (.ldc2_w 281, 3) := by decide +kernel
theorem dX9_digest_116 : decode cX9_digest 116 = .ok (.lload_n 1, 1) := by decide +kernel
theorem dX9_digest_117 : decode cX9_digest 117 = .ok (.lmul, 1) := by decide +kernel
theorem dX9_digest_118 : decode cX9_digest 118 = .ok (.aload_n 0, 1) := by decide +kernel
theorem dX9_digest_119 : decode cX9_digest 119 = .ok (.getfield 47, 3) := by decide +kernel
theorem dX9_digest_122 : decode cX9_digest 122 = .ok (.getfield 266, 3) := by decide +kernel
theorem dX9_digest_125 : decode cX9_digest 125 = .ok (.iload_n 3, 1) := by decide +kernel
theorem dX9_digest_126 : decode cX9_digest 126 = .ok (.iaload, 1) := by decide +kernel
theorem dX9_digest_127 : decode cX9_digest 127 = .ok (.i2l, 1) := by decide +kernel
theorem dX9_digest_128 : decode cX9_digest 128 = .ok (.ladd, 1) := by decide +kernel
theorem dX9_digest_129 : decode cX9_digest 129 = .ok (.lstore_n 1, 1) := by decide +kernel
theorem dX9_digest_130 : decode cX9_digest 130 = .ok (.iinc 3 1, 3) := by decide +kernel
theorem dX9_digest_133 : decode cX9_digest 133 = .ok (.goto (-26), 3) := by decide +kernel
theorem dX9_digest_136 : decode cX9_digest 136 = .ok (.aload_n 0, 1) := by decide +kernel
theorem dX9_digest_137 : decode cX9_digest 137 = .ok (.lload_n 1, 1) := by decide +kernel
theorem dX9_digest_138 : decode cX9_digest 138 = .ok (.invokevirtual 283, 3) := by decide +kernel
theorem dX9_digest_141 : decode cX9_digest 141 = .ok (.lreturn, 1) := by decide +kernel
set_option maxRecDepth 20000 in
theorem ggX9_digestOfPeople_X9_lookAtKept : GoodIn wsX9_digestOfPeople wsX9_lookAtKept := goodIn_r _ [9, 1, 3, 10, 11, 12, 8, 13, 4, 14, 15, 16, 17, 18, 19, 20, 21, 22, 23, 24, 25, 26, 27, 28, 29, 30, 31, 32, 33, 34, 35, 36, 37, 38, 39, 40, 45, 46, 47, 48, 49, 50, 51, 52, 53, 54, 55, 56, 57, 58, 59, 60, 61, 62, 63, 64, 65, 66, 67, 68, 69, 70] (by decide +kernel) (by decide +kernel)
set_option maxRecDepth 20000 in
theorem gX9_digestOfPeople_X9_lookAtKept : GoodIn wsX9_digestOfPeople (wsV RX9 168 RX9 yX9_lookAtKept wsX9_lookAtKept) := goodIn_app (goodIn_of _ (by decide +kernel)) ggX9_digestOfPeople_X9_lookAtKept
set_option maxRecDepth 20000 in
theorem ggX9_digestOfPeople_X8_ofPerson : GoodIn wsX9_digestOfPeople wsX8_ofPerson := goodIn_r _ [44, 21, 22, 63, 64, 65, 66] (by decide +kernel) (by decide +kernel)
set_option maxRecDepth 20000 in
theorem gX9_digestOfPeople_X8_ofPerson : GoodIn wsX9_digestOfPeople (wsV RX9 122 RX8 yX8_ofPerson wsX8_ofPerson) := goodIn_app (goodIn_of _ (by decide +kernel)) ggX9_digestOfPeople_X8_ofPerson
theorem dX9_digestOfPeople_0 : decode cX9_digestOfPeople 0 = .ok (.lload_n 1, 1) := by decide +kernel
theorem dX9_digestOfPeople_1 : decode cX9_digestOfPeople 1 = .ok (.lstore_n 3, 1) := by decide +kernel
theorem dX9_digestOfPeople_2 : decode cX9_digestOfPeople 2 = .ok (.aload_n 0, 1) := by decide +kernel
theorem dX9_digestOfPeople_3 : decode cX9_digestOfPeople 3 = .ok (.invokevirtual 168, 3) := by decide +kernel
theorem dX9_digestOfPeople_6 : decode cX9_digestOfPeople 6 = .ok (.iconst 0, 1) := by decide +kernel
theorem dX9_digestOfPeople_7 : decode cX9_digestOfPeople 7 = .ok (.istore 5, 2) := by decide +kernel
theorem dX9_digestOfPeople_9 : decode cX9_digestOfPeople 9 = .ok (.iload 5, 2) := by decide +kernel
theorem dX9_digestOfPeople_11 : decode cX9_digestOfPeople 11 = .ok (.aload_n 0, 1) := by decide +kernel
theorem dX9_digestOfPeople_12 : decode cX9_digestOfPeople 12 = .ok (.getfield 19, 3) := by decide +kernel
theorem dX9_digestOfPeople_15 : decode cX9_digestOfPeople 15 = .ok (.getfield 93, 3) := by decide +kernel
theorem dX9_digestOfPeople_18 : decode cX9_digestOfPeople 18 = .ok (.if_icmp .ge 95, 3) := by decide +kernel
theorem dX9_digestOfPeople_21 : decode cX9_digestOfPeople 21 = .ok (.ldc2_w 281, 3) := by decide +kernel
theorem dX9_digestOfPeople_24 : decode cX9_digestOfPeople 24 = .ok (.lload_n 3, 1) := by decide +kernel
theorem dX9_digestOfPeople_25 : decode cX9_digestOfPeople 25 = .ok (.lmul, 1) := by decide +kernel
theorem dX9_digestOfPeople_26 : decode cX9_digestOfPeople 26 = .ok (.aload_n 0, 1) := by decide +kernel
theorem dX9_digestOfPeople_27 : decode cX9_digestOfPeople 27 = .ok (.getfield 19, 3) := by decide +kernel
theorem dX9_digestOfPeople_30 : decode cX9_digestOfPeople 30 = .ok (.getfield 109, 3) := by decide +kernel
theorem dX9_digestOfPeople_33 : decode cX9_digestOfPeople 33 = .ok (.iload 5, 2) := by decide +kernel
theorem dX9_digestOfPeople_35 : decode cX9_digestOfPeople 35 = .ok (.iaload, 1) := by decide +kernel
theorem dX9_digestOfPeople_36 : decode cX9_digestOfPeople 36 = .ok (.i2l, 1) := by decide +kernel
theorem dX9_digestOfPeople_37 : decode cX9_digestOfPeople 37 = .ok (.ladd, 1) := by decide +kernel
theorem dX9_digestOfPeople_38 : decode cX9_digestOfPeople 38 = .ok (.lstore_n 3, 1) := by decide +kernel
theorem dX9_digestOfPeople_39 : decode cX9_digestOfPeople 39 = .ok (.ldc2_w 281, 3) := by decide +kernel
theorem dX9_digestOfPeople_42 : decode cX9_digestOfPeople 42 = .ok (.lload_n 3, 1) := by decide +kernel
theorem dX9_digestOfPeople_43 : decode cX9_digestOfPeople 43 = .ok (.lmul, 1) := by decide +kernel
theorem dX9_digestOfPeople_44 : decode cX9_digestOfPeople 44 = .ok (.aload_n 0, 1) := by decide +kernel
theorem dX9_digestOfPeople_45 : decode cX9_digestOfPeople 45 = .ok (.getfield 19, 3) := by decide +kernel
theorem dX9_digestOfPeople_48 : decode cX9_digestOfPeople 48 = .ok (.getfield 112, 3) := by decide +kernel
theorem dX9_digestOfPeople_51 : decode cX9_digestOfPeople 51 = .ok (.iload 5, 2) := by decide +kernel
theorem dX9_digestOfPeople_53 : decode cX9_digestOfPeople 53 = .ok (.iaload, 1) := by decide +kernel
theorem dX9_digestOfPeople_54 : decode cX9_digestOfPeople 54 = .ok (.i2l, 1) := by decide +kernel
theorem dX9_digestOfPeople_55 : decode cX9_digestOfPeople 55 = .ok (.ladd, 1) := by decide +kernel
theorem dX9_digestOfPeople_56 : decode cX9_digestOfPeople 56 = .ok (.lstore_n 3, 1) := by decide +kernel
theorem dX9_digestOfPeople_57 : decode cX9_digestOfPeople 57 = .ok (.ldc2_w 281, 3) := by decide +kernel
theorem dX9_digestOfPeople_60 : decode cX9_digestOfPeople 60 = .ok (.lload_n 3, 1) := by decide +kernel
theorem dX9_digestOfPeople_61 : decode cX9_digestOfPeople 61 = .ok (.lmul, 1) := by decide +kernel
theorem dX9_digestOfPeople_62 : decode cX9_digestOfPeople 62 = .ok (.aload_n 0, 1) := by decide +kernel
theorem dX9_digestOfPeople_63 : decode cX9_digestOfPeople 63 = .ok (.getfield 72, 3) := by decide +kernel
theorem dX9_digestOfPeople_66 : decode cX9_digestOfPeople 66 = .ok (.iload 5, 2) := by decide +kernel
theorem dX9_digestOfPeople_68 : decode cX9_digestOfPeople 68 = .ok (.iaload, 1) := by decide +kernel
theorem dX9_digestOfPeople_69 : decode cX9_digestOfPeople 69 = .ok (.i2l, 1) := by decide +kernel
theorem dX9_digestOfPeople_70 : decode cX9_digestOfPeople 70 = .ok (.ladd, 1) := by decide +kernel
theorem dX9_digestOfPeople_71 : decode cX9_digestOfPeople 71 = .ok (.lstore_n 3, 1) := by decide +kernel
theorem dX9_digestOfPeople_72 : decode cX9_digestOfPeople 72 = .ok (.ldc2_w 281, 3) := by decide +kernel
theorem dX9_digestOfPeople_75 : decode cX9_digestOfPeople 75 = .ok (.lload_n 3, 1) := by decide +kernel
theorem dX9_digestOfPeople_76 : decode cX9_digestOfPeople 76 = .ok (.lmul, 1) := by decide +kernel
theorem dX9_digestOfPeople_77 : decode cX9_digestOfPeople 77 = .ok (.aload_n 0, 1) := by decide +kernel
theorem dX9_digestOfPeople_78 : decode cX9_digestOfPeople 78 = .ok (.getfield 19, 3) := by decide +kernel
theorem dX9_digestOfPeople_81 : decode cX9_digestOfPeople 81 = .ok (.getfield 119, 3) := by decide +kernel
theorem dX9_digestOfPeople_84 : decode cX9_digestOfPeople 84 = .ok (.iload 5, 2) := by decide +kernel
theorem dX9_digestOfPeople_86 : decode cX9_digestOfPeople 86 = .ok (.iaload, 1) := by decide +kernel
theorem dX9_digestOfPeople_87 : decode cX9_digestOfPeople 87 = .ok (.i2l, 1) := by decide +kernel
theorem dX9_digestOfPeople_88 : decode cX9_digestOfPeople 88 = .ok (.ladd, 1) := by decide +kernel
theorem dX9_digestOfPeople_89 : decode cX9_digestOfPeople 89 = .ok (.lstore_n 3, 1) := by decide +kernel
theorem dX9_digestOfPeople_90 : decode cX9_digestOfPeople 90 = .ok (.ldc2_w 281, 3) := by decide +kernel
theorem dX9_digestOfPeople_93 : decode cX9_digestOfPeople 93 = .ok (.lload_n 3, 1) := by decide +kernel
theorem dX9_digestOfPeople_94 : decode cX9_digestOfPeople 94 = .ok (.lmul, 1) := by decide +kernel
theorem dX9_digestOfPeople_95 : decode cX9_digestOfPeople 95 = .ok (.aload_n 0, 1) := by decide +kernel
theorem dX9_digestOfPeople_96 : decode cX9_digestOfPeople 96 = .ok (.getfield 26, 3) := by decide +kernel
theorem dX9_digestOfPeople_99 : decode cX9_digestOfPeople 99 = .ok (.iload 5, 2) := by decide +kernel
theorem dX9_digestOfPeople_101 : decode cX9_digestOfPeople 101 = .ok (.invokevirtual 122, 3) := by decide +kernel
theorem dX9_digestOfPeople_104 : decode cX9_digestOfPeople 104 = .ok (.i2l, 1) := by decide +kernel
theorem dX9_digestOfPeople_105 : decode cX9_digestOfPeople 105 = .ok (.ladd, 1) := by decide +kernel
theorem dX9_digestOfPeople_106 : decode cX9_digestOfPeople 106 = .ok (.lstore_n 3, 1) := by decide +kernel
theorem dX9_digestOfPeople_107 : decode cX9_digestOfPeople 107 = .ok (.iinc 5 1, 3) := by decide +kernel
theorem dX9_digestOfPeople_110 : decode cX9_digestOfPeople 110 = .ok (.goto (-101), 3) := by decide +kernel
theorem dX9_digestOfPeople_113 : decode cX9_digestOfPeople 113 = .ok (.lload_n 3, 1) := by decide +kernel
theorem dX9_digestOfPeople_114 : decode cX9_digestOfPeople 114 = .ok (.lreturn, 1) := by decide +kernel
set_option maxRecDepth 20000 in
theorem ggX9_digestOfSheets_X7_at : GoodIn wsX9_digestOfSheets wsX7_at := goodIn_r _ [7, 8, 22, 23] (by decide +kernel) (by decide +kernel)
set_option maxRecDepth 20000 in
theorem gX9_digestOfSheets_X7_at : GoodIn wsX9_digestOfSheets (wsV RX9 253 RX7 yX7_at wsX7_at) := goodIn_app (goodIn_of _ (by decide +kernel)) ggX9_digestOfSheets_X7_at
theorem dX9_digestOfSheets_0 : decode cX9_digestOfSheets 0 = .ok (.lload_n 1, 1) := by decide +kernel
theorem dX9_digestOfSheets_1 : decode cX9_digestOfSheets 1 = .ok (.lstore_n 3, 1) := by decide +kernel
theorem dX9_digestOfSheets_2 : decode cX9_digestOfSheets 2 = .ok (.iconst 0, 1) := by decide +kernel
theorem dX9_digestOfSheets_3 : decode cX9_digestOfSheets 3 = .ok (.istore 5, 2) := by decide +kernel
theorem dX9_digestOfSheets_5 : decode cX9_digestOfSheets 5 = .ok (.iload 5, 2) := by decide +kernel
theorem dX9_digestOfSheets_7 : decode cX9_digestOfSheets 7 = .ok (.iconst 4, 1) := by decide +kernel
theorem dX9_digestOfSheets_8 : decode cX9_digestOfSheets 8 = .ok (.if_icmp .ge 70, 3) := by decide +kernel
theorem dX9_digestOfSheets_11 : decode cX9_digestOfSheets 11 = .ok (.ldc2_w 281, 3) := by decide +kernel
theorem dX9_digestOfSheets_14 : decode cX9_digestOfSheets 14 = .ok (.lload_n 3, 1) := by decide +kernel
theorem dX9_digestOfSheets_15 : decode cX9_digestOfSheets 15 = .ok (.lmul, 1) := by decide +kernel
theorem dX9_digestOfSheets_16 : decode cX9_digestOfSheets 16 = .ok (.aload_n 0, 1) := by decide +kernel
theorem dX9_digestOfSheets_17 : decode cX9_digestOfSheets 17 = .ok (.getfield 61, 3) := by decide +kernel
theorem dX9_digestOfSheets_20 : decode cX9_digestOfSheets 20 = .ok (.getfield 250, 3) := by decide +kernel
theorem dX9_digestOfSheets_23 : decode cX9_digestOfSheets 23 = .ok (.iload 5, 2) := by decide +kernel
theorem dX9_digestOfSheets_25 : decode cX9_digestOfSheets 25 = .ok (.iaload, 1) := by decide +kernel
theorem dX9_digestOfSheets_26 : decode cX9_digestOfSheets 26 = .ok (.i2l, 1) := by decide +kernel
theorem dX9_digestOfSheets_27 : decode cX9_digestOfSheets 27 = .ok (.ladd, 1) := by decide +kernel
theorem dX9_digestOfSheets_28 : decode cX9_digestOfSheets 28 = .ok (.lstore_n 3, 1) := by decide +kernel
theorem dX9_digestOfSheets_29 : decode cX9_digestOfSheets 29 = .ok (.iconst 0, 1) := by decide +kernel
theorem dX9_digestOfSheets_30 : decode cX9_digestOfSheets 30 = .ok (.istore 6, 2) := by decide +kernel
theorem dX9_digestOfSheets_32 : decode cX9_digestOfSheets 32 = .ok (.iload 6, 2) := by decide +kernel
theorem dX9_digestOfSheets_34 : decode cX9_digestOfSheets 34 = .ok (.aload_n 0, 1) := by decide +kernel
theorem dX9_digestOfSheets_35 : decode cX9_digestOfSheets 35 = .ok (.getfield 61, 3) := by decide +kernel
theorem dX9_digestOfSheets_38 : decode cX9_digestOfSheets 38 = .ok (.getfield 250, 3) := by decide +kernel
theorem dX9_digestOfSheets_41 : decode cX9_digestOfSheets 41 = .ok (.iload 5, 2) := by decide +kernel
theorem dX9_digestOfSheets_43 : decode cX9_digestOfSheets 43 = .ok (.iaload, 1) := by decide +kernel
theorem dX9_digestOfSheets_44 : decode cX9_digestOfSheets 44 = .ok (.if_icmp .ge 28, 3) := by decide +kernel
theorem dX9_digestOfSheets_47 : decode cX9_digestOfSheets 47 = .ok (.ldc2_w 281, 3) := by decide +kernel
theorem dX9_digestOfSheets_50 : decode cX9_digestOfSheets 50 = .ok (.lload_n 3, 1) := by decide +kernel
theorem dX9_digestOfSheets_51 : decode cX9_digestOfSheets 51 = .ok (.lmul, 1) := by decide +kernel
theorem dX9_digestOfSheets_52 : decode cX9_digestOfSheets 52 = .ok (.aload_n 0, 1) := by decide +kernel
theorem dX9_digestOfSheets_53 : decode cX9_digestOfSheets 53 = .ok (.getfield 61, 3) := by decide +kernel
theorem dX9_digestOfSheets_56 : decode cX9_digestOfSheets 56 = .ok (.iload 5, 2) := by decide +kernel
theorem dX9_digestOfSheets_58 : decode cX9_digestOfSheets 58 = .ok (.iload 6, 2) := by decide +kernel
theorem dX9_digestOfSheets_60 : decode cX9_digestOfSheets 60 = .ok (.invokevirtual 253, 3) := by decide +kernel
theorem dX9_digestOfSheets_63 : decode cX9_digestOfSheets 63 = .ok (.i2l, 1) := by decide +kernel
theorem dX9_digestOfSheets_64 : decode cX9_digestOfSheets 64 = .ok (.ladd, 1) := by decide +kernel
theorem dX9_digestOfSheets_65 : decode cX9_digestOfSheets 65 = .ok (.lstore_n 3, 1) := by decide +kernel
theorem dX9_digestOfSheets_66 : decode cX9_digestOfSheets 66 = .ok (.iinc 6 1, 3) := by decide +kernel
theorem dX9_digestOfSheets_69 : decode cX9_digestOfSheets 69 = .ok (.goto (-37), 3) := by decide +kernel
theorem dX9_digestOfSheets_72 : decode cX9_digestOfSheets 72 = .ok (.iinc 5 1, 3) := by decide +kernel
theorem dX9_digestOfSheets_75 : decode cX9_digestOfSheets 75 = .ok (.goto (-70), 3) := by decide +kernel
theorem dX9_digestOfSheets_78 : decode cX9_digestOfSheets 78 = .ok (.lload_n 3, 1) := by decide +kernel
theorem dX9_digestOfSheets_79 : decode cX9_digestOfSheets 79 = .ok (.lreturn, 1) := by decide +kernel
theorem dX9_noPerson_0 : decode cX9_noPerson 0 = .ok (.iload_n 1, 1) := by decide +kernel
theorem dX9_noPerson_1 : decode cX9_noPerson 1 = .ok (.ifCond .lt 14, 3) := by decide +kernel
theorem dX9_noPerson_4 : decode cX9_noPerson 4 = .ok (.iload_n 1, 1) := by decide +kernel
theorem dX9_noPerson_5 : decode cX9_noPerson 5 = .ok (.aload_n 0, 1) := by decide +kernel
theorem dX9_noPerson_6 : decode cX9_noPerson 6 = .ok (.getfield 19, 3) := by decide +kernel
theorem dX9_noPerson_9 : decode cX9_noPerson 9 = .ok (.getfield 93, 3) := by decide +kernel
theorem dX9_noPerson_12 : decode cX9_noPerson 12 = .ok (.if_icmp .lt 7, 3) := by decide +kernel
theorem dX9_noPerson_15 : decode cX9_noPerson 15 = .ok (.iconst 1, 1) := by decide +kernel
theorem dX9_noPerson_16 : decode cX9_noPerson 16 = .ok (.goto 4, 3) := by decide +kernel
theorem dX9_noPerson_19 : decode cX9_noPerson 19 = .ok (.iconst 0, 1) := by decide +kernel
theorem dX9_noPerson_20 : decode cX9_noPerson 20 = .ok (.ireturn, 1) := by decide +kernel
theorem dX9_noRight_0 : decode cX9_noRight 0 = .ok (.iload_n 0, 1) := by decide +kernel
theorem dX9_noRight_1 : decode cX9_noRight 1 = .ok (.ifCond .lt 9, 3) := by decide +kernel
theorem dX9_noRight_4 : decode cX9_noRight 4 = .ok (.iload_n 0, 1) := by decide +kernel
theorem dX9_noRight_5 : decode cX9_noRight 5 = .ok (.bipush 12, 2) := by decide +kernel
theorem dX9_noRight_7 : decode cX9_noRight 7 = .ok (.if_icmp .lt 7, 3) := by decide +kernel
theorem dX9_noRight_10 : decode cX9_noRight 10 = .ok (.iconst 1, 1) := by decide +kernel
theorem dX9_noRight_11 : decode cX9_noRight 11 = .ok (.goto 4, 3) := by decide +kernel
theorem dX9_noRight_14 : decode cX9_noRight 14 = .ok (.iconst 0, 1) := by decide +kernel
theorem dX9_noRight_15 : decode cX9_noRight 15 = .ok (.ireturn, 1) := by decide +kernel
theorem dX9_noMarkSet_0 : decode cX9_noMarkSet 0 = .ok (.iload_n 0, 1) := by decide +kernel
theorem dX9_noMarkSet_1 : decode cX9_noMarkSet 1 = .ok (.ifCond .lt 10, 3) := by decide +kernel
theorem dX9_noMarkSet_4 : decode cX9_noMarkSet 4 = .ok (.iload_n 0, 1) := by decide +kernel
theorem dX9_noMarkSet_5 : decode cX9_noMarkSet 5 = .ok (.sipush 256, 3) := by decide +kernel
theorem dX9_noMarkSet_8 : decode cX9_noMarkSet 8 = .ok (.if_icmp .lt 7, 3) := by decide +kernel
theorem dX9_noMarkSet_11 : decode cX9_noMarkSet 11 = .ok (.iconst 1, 1) := by decide +kernel
theorem dX9_noMarkSet_12 : decode cX9_noMarkSet 12 = .ok (.goto 4, 3) := by decide +kernel
theorem dX9_noMarkSet_15 : decode cX9_noMarkSet 15 = .ok (.iconst 0, 1) := by decide +kernel
theorem dX9_noMarkSet_16 : decode cX9_noMarkSet 16 = .ok (.ireturn, 1) := by decide +kernel
theorem dX9_noRightSet_0 : decode cX9_noRightSet 0 = .ok (.iload_n 0, 1) := by decide +kernel
theorem dX9_noRightSet_1 : decode cX9_noRightSet 1 = .ok (.ifCond .lt 10, 3) := by decide +kernel
theorem dX9_noRightSet_4 : decode cX9_noRightSet 4 = .ok (.iload_n 0, 1) := by decide +kernel
theorem dX9_noRightSet_5 : decode cX9_noRightSet 5 = .ok (.sipush 4096, 3) := by decide +kernel
theorem dX9_noRightSet_8 : decode cX9_noRightSet 8 = .ok (.if_icmp .lt 7, 3) := by decide +kernel
theorem dX9_noRightSet_11 : decode cX9_noRightSet 11 = .ok (.iconst 1, 1) := by decide +kernel
theorem dX9_noRightSet_12 : decode cX9_noRightSet 12 = .ok (.goto 4, 3) := by decide +kernel
theorem dX9_noRightSet_15 : decode cX9_noRightSet 15 = .ok (.iconst 0, 1) := by decide +kernel
theorem dX9_noRightSet_16 : decode cX9_noRightSet 16 = .ok (.ireturn, 1) := by decide +kernel
theorem dX9_noSheet_0 : decode cX9_noSheet 0 = .ok (.iload_n 0, 1) := by decide +kernel
theorem dX9_noSheet_1 : decode cX9_noSheet 1 = .ok (.ifCond .lt 8, 3) := by decide +kernel
theorem dX9_noSheet_4 : decode cX9_noSheet 4 = .ok (.iload_n 0, 1) := by decide +kernel
theorem dX9_noSheet_5 : decode cX9_noSheet 5 = .ok (.iconst 4, 1) := by decide +kernel
theorem dX9_noSheet_6 : decode cX9_noSheet 6 = .ok (.if_icmp .lt 7, 3) := by decide +kernel
theorem dX9_noSheet_9 : decode cX9_noSheet 9 = .ok (.iconst 1, 1) := by decide +kernel
theorem dX9_noSheet_10 : decode cX9_noSheet 10 = .ok (.goto 4, 3) := by decide +kernel
theorem dX9_noSheet_13 : decode cX9_noSheet 13 = .ok (.iconst 0, 1) := by decide +kernel
theorem dX9_noSheet_14 : decode cX9_noSheet 14 = .ok (.ireturn, 1) := by decide +kernel
theorem dX9_noLastDays_0 : decode cX9_noLastDays 0 = .ok (.iload_n 0, 1) := by decide +kernel
theorem dX9_noLastDays_1 : decode cX9_noLastDays 1 = .ok (.iconst 1, 1) := by decide +kernel
theorem dX9_noLastDays_2 : decode cX9_noLastDays 2 = .ok (.if_icmp .lt 10, 3) := by decide +kernel
theorem dX9_noLastDays_5 : decode cX9_noLastDays 5 = .ok (.iload_n 0, 1) := by decide +kernel
theorem dX9_noLastDays_6 : decode cX9_noLastDays 6 = .ok (.sipush 1000, 3) := by decide +kernel
theorem dX9_noLastDays_9 : decode cX9_noLastDays 9 = .ok (.if_icmp .le 7, 3) := by decide +kernel
theorem dX9_noLastDays_12 : decode cX9_noLastDays 12 = .ok (.iconst 1, 1) := by decide +kernel
theorem dX9_noLastDays_13 : decode cX9_noLastDays 13 = .ok (.goto 4, 3) := by decide +kernel
theorem dX9_noLastDays_16 : decode cX9_noLastDays 16 = .ok (.iconst 0, 1) := by decide +kernel
theorem dX9_noLastDays_17 : decode cX9_noLastDays 17 = .ok (.ireturn, 1) := by decide +kernel
set_option maxRecDepth 20000 in
theorem ggX9_keptOf_X8_recent : GoodIn wsX9_keptOf wsX8_recent := goodIn_r _ [9, 10, 11, 12, 13, 14, 15, 16, 17, 18, 19, 48, 49, 50, 51, 52, 53, 54, 55] (by decide +kernel) (by decide +kernel)
set_option maxRecDepth 20000 in
theorem gX9_keptOf_X8_recent : GoodIn wsX9_keptOf (wsV RX9 286 RX8 yX8_recent wsX8_recent) := goodIn_app (goodIn_of _ (by decide +kernel)) ggX9_keptOf_X8_recent
set_option maxRecDepth 20000 in
theorem ggX9_keptOf_X8_seasonal : GoodIn wsX9_keptOf wsX8_seasonal := goodIn_r _ [23, 10, 11, 12, 13, 14, 15, 16, 17, 18, 19, 24, 25, 26, 27, 28, 29, 48, 49, 50, 51, 52, 53, 54, 55] (by decide +kernel) (by decide +kernel)
set_option maxRecDepth 20000 in
theorem gX9_keptOf_X8_seasonal : GoodIn wsX9_keptOf (wsV RX9 290 RX8 yX8_seasonal wsX8_seasonal) := goodIn_app (goodIn_of _ (by decide +kernel)) ggX9_keptOf_X8_seasonal
theorem dX9_keptOf_0 : decode cX9_keptOf 0 = .ok (.aload_n 0, 1) := by decide +kernel
theorem dX9_keptOf_1 : decode cX9_keptOf 1 = .ok (.getfield 26, 3) := by decide +kernel
theorem dX9_keptOf_4 : decode cX9_keptOf 4 = .ok (.iload_n 1, 1) := by decide +kernel
theorem dX9_keptOf_5 : decode cX9_keptOf 5 = .ok (.aload_n 0, 1) := by decide +kernel
theorem dX9_keptOf_6 : decode cX9_keptOf 6 = .ok (.getfield 10, 3) := by decide +kernel
theorem dX9_keptOf_9 : decode cX9_keptOf 9 = .ok (.invokevirtual 286, 3) := by decide +kernel
theorem dX9_keptOf_12 : decode cX9_keptOf 12 = .ok (.aload_n 0, 1) := by decide +kernel
theorem dX9_keptOf_13 : decode cX9_keptOf 13 = .ok (.getfield 26, 3) := by decide +kernel
theorem dX9_keptOf_16 : decode cX9_keptOf 16 = .ok (.iload_n 1, 1) := by decide +kernel
theorem dX9_keptOf_17 : decode cX9_keptOf 17 = .ok (.aload_n 0, 1) := by decide +kernel
theorem dX9_keptOf_18 : decode cX9_keptOf 18 = .ok (.getfield 10, 3) := by decide +kernel
theorem dX9_keptOf_21 : decode cX9_keptOf 21 = .ok (.invokevirtual 290, 3) := by decide +kernel
theorem dX9_keptOf_24 : decode cX9_keptOf 24 = .ok (.ior, 1) := by decide +kernel
theorem dX9_keptOf_25 : decode cX9_keptOf 25 = .ok (.aload_n 0, 1) := by decide +kernel
theorem dX9_keptOf_26 : decode cX9_keptOf 26 = .ok (.getfield 79, 3) := by decide +kernel
theorem dX9_keptOf_29 : decode cX9_keptOf 29 = .ok (.ior, 1) := by decide +kernel
theorem dX9_keptOf_30 : decode cX9_keptOf 30 = .ok (.istore_n 2, 1) := by decide +kernel
theorem dX9_keptOf_31 : decode cX9_keptOf 31 = .ok (.aload_n 0, 1) := by decide +kernel
theorem dX9_keptOf_32 : decode cX9_keptOf 32 = .ok (.getfield 19, 3) := by decide +kernel
theorem dX9_keptOf_35 : decode cX9_keptOf 35 = .ok (.getfield 112, 3) := by decide +kernel
theorem dX9_keptOf_38 : decode cX9_keptOf 38 = .ok (.iload_n 1, 1) := by decide +kernel
theorem dX9_keptOf_39 : decode cX9_keptOf 39 = .ok (.iaload, 1) := by decide +kernel
theorem dX9_keptOf_40 : decode cX9_keptOf 40 = .ok (.iload_n 2, 1) := by decide +kernel
theorem dX9_keptOf_41 : decode cX9_keptOf 41 = .ok (.iand, 1) := by decide +kernel
theorem dX9_keptOf_42 : decode cX9_keptOf 42 = .ok (.ireturn, 1) := by decide +kernel
set_option maxRecDepth 20000 in
theorem ggX9_lookAtKept_X9_keptOf : GoodIn wsX9_lookAtKept wsX9_keptOf := goodIn_r _ [7, 8, 9, 10, 1, 11, 12, 13, 14, 15, 16, 17, 18, 19, 20, 21, 22, 23, 24, 25, 26, 27, 28, 29, 30, 31, 32, 33, 34, 35, 36, 37, 38, 39, 40, 41, 42, 43, 44, 45, 46, 47, 48, 49, 50, 51, 52, 53, 54, 55, 56, 57, 58, 59, 60, 61] (by decide +kernel) (by decide +kernel)
set_option maxRecDepth 20000 in
theorem gX9_lookAtKept_X9_keptOf : GoodIn wsX9_lookAtKept (wsV RX9 115 RX9 yX9_keptOf wsX9_keptOf) := goodIn_app (goodIn_of _ (by decide +kernel)) ggX9_lookAtKept_X9_keptOf
theorem dX9_lookAtKept_0 : decode cX9_lookAtKept 0 = .ok (.iconst 0, 1) := by decide +kernel
theorem dX9_lookAtKept_1 : decode cX9_lookAtKept 1 = .ok (.istore_n 1, 1) := by decide +kernel
theorem dX9_lookAtKept_2 : decode cX9_lookAtKept 2 = .ok (.iload_n 1, 1) := by decide +kernel
theorem dX9_lookAtKept_3 : decode cX9_lookAtKept 3 = .ok (.aload_n 0, 1) := by decide +kernel
theorem dX9_lookAtKept_4 : decode cX9_lookAtKept 4 = .ok (.getfield 19, 3) := by decide +kernel
theorem dX9_lookAtKept_7 : decode cX9_lookAtKept 7 = .ok (.getfield 93, 3) := by decide +kernel
theorem dX9_lookAtKept_10 : decode cX9_lookAtKept 10 = .ok (.if_icmp .ge 20, 3) := by decide +kernel
theorem dX9_lookAtKept_13 : decode cX9_lookAtKept 13 = .ok (.aload_n 0, 1) := by decide +kernel
theorem dX9_lookAtKept_14 : decode cX9_lookAtKept 14 = .ok (.getfield 72, 3) := by decide +kernel
theorem dX9_lookAtKept_17 : decode cX9_lookAtKept 17 = .ok (.iload_n 1, 1) := by decide +kernel
theorem dX9_lookAtKept_18 : decode cX9_lookAtKept 18 = .ok (.aload_n 0, 1) := by decide +kernel
theorem dX9_lookAtKept_19 : decode cX9_lookAtKept 19 = .ok (.iload_n 1, 1) := by decide +kernel
theorem dX9_lookAtKept_20 : decode cX9_lookAtKept 20 = .ok (.invokevirtual 115, 3) := by decide +kernel
theorem dX9_lookAtKept_23 : decode cX9_lookAtKept 23 = .ok (.iastore, 1) := by decide +kernel
theorem dX9_lookAtKept_24 : decode cX9_lookAtKept 24 = .ok (.iinc 1 1, 3) := by decide +kernel
theorem dX9_lookAtKept_27 : decode cX9_lookAtKept 27 = .ok (.goto (-25), 3) := by decide +kernel
theorem dX9_lookAtKept_30 : decode cX9_lookAtKept 30 = .ok (.return_, 1) := by decide +kernel
set_option maxRecDepth 20000 in
theorem ggX9_kindOf_X8_recent : GoodIn wsX9_kindOf wsX8_recent := goodIn_r _ [8, 9, 10, 11, 12, 13, 14, 15, 16, 17, 18, 42, 43, 44, 45, 46, 47, 48, 49] (by decide +kernel) (by decide +kernel)
set_option maxRecDepth 20000 in
theorem gX9_kindOf_X8_recent : GoodIn wsX9_kindOf (wsV RX9 286 RX8 yX8_recent wsX8_recent) := goodIn_app (goodIn_of _ (by decide +kernel)) ggX9_kindOf_X8_recent
set_option maxRecDepth 20000 in
theorem ggX9_kindOf_X8_seasonal : GoodIn wsX9_kindOf wsX8_seasonal := goodIn_r _ [22, 9, 10, 11, 12, 13, 14, 15, 16, 17, 18, 23, 24, 25, 26, 27, 28, 42, 43, 44, 45, 46, 47, 48, 49] (by decide +kernel) (by decide +kernel)
set_option maxRecDepth 20000 in
theorem gX9_kindOf_X8_seasonal : GoodIn wsX9_kindOf (wsV RX9 290 RX8 yX8_seasonal wsX8_seasonal) := goodIn_app (goodIn_of _ (by decide +kernel)) ggX9_kindOf_X8_seasonal
theorem dX9_kindOf_0 : decode cX9_kindOf 0 = .ok (.iconst 1, 1) := by decide +kernel
theorem dX9_kindOf_1 : decode cX9_kindOf 1 = .ok (.iload_n 2, 1) := by decide +kernel
theorem dX9_kindOf_2 : decode cX9_kindOf 2 = .ok (.ishl, 1) := by decide +kernel
theorem dX9_kindOf_3 : decode cX9_kindOf 3 = .ok (.istore_n 3, 1) := by decide +kernel
theorem dX9_kindOf_4 : decode cX9_kindOf 4 = .ok (.aload_n 0, 1) := by decide +kernel
theorem dX9_kindOf_5 : decode cX9_kindOf 5 = .ok (.getfield 26, 3) := by decide +kernel
theorem dX9_kindOf_8 : decode cX9_kindOf 8 = .ok (.iload_n 1, 1) := by decide +kernel
theorem dX9_kindOf_9 : decode cX9_kindOf 9 = .ok (.aload_n 0, 1) := by decide +kernel
theorem dX9_kindOf_10 : decode cX9_kindOf 10 = .ok (.getfield 10, 3) := by decide +kernel
theorem dX9_kindOf_13 : decode cX9_kindOf 13 = .ok (.invokevirtual 286, 3) := by decide +kernel
theorem dX9_kindOf_16 : decode cX9_kindOf 16 = .ok (.iload_n 3, 1) := by decide +kernel
theorem dX9_kindOf_17 : decode cX9_kindOf 17 = .ok (.iand, 1) := by decide +kernel
theorem dX9_kindOf_18 : decode cX9_kindOf 18 = .ok (.ifCond .eq 5, 3) := by decide +kernel
theorem dX9_kindOf_21 : decode cX9_kindOf 21 = .ok (.iconst 1, 1) := by decide +kernel
theorem dX9_kindOf_22 : decode cX9_kindOf 22 = .ok (.ireturn, 1) := by decide +kernel
theorem dX9_kindOf_23 : decode cX9_kindOf 23 = .ok (.aload_n 0, 1) := by decide +kernel
theorem dX9_kindOf_24 : decode cX9_kindOf 24 = .ok (.getfield 26, 3) := by decide +kernel
theorem dX9_kindOf_27 : decode cX9_kindOf 27 = .ok (.iload_n 1, 1) := by decide +kernel
theorem dX9_kindOf_28 : decode cX9_kindOf 28 = .ok (.aload_n 0, 1) := by decide +kernel
theorem dX9_kindOf_29 : decode cX9_kindOf 29 = .ok (.getfield 10, 3) := by decide +kernel
theorem dX9_kindOf_32 : decode cX9_kindOf 32 = .ok (.invokevirtual 290, 3) := by decide +kernel
theorem dX9_kindOf_35 : decode cX9_kindOf 35 = .ok (.iload_n 3, 1) := by decide +kernel
theorem dX9_kindOf_36 : decode cX9_kindOf 36 = .ok (.iand, 1) := by decide +kernel
theorem dX9_kindOf_37 : decode cX9_kindOf 37 = .ok (.ifCond .eq 5, 3) := by decide +kernel
theorem dX9_kindOf_40 : decode cX9_kindOf 40 = .ok (.iconst 2, 1) := by decide +kernel
theorem dX9_kindOf_41 : decode cX9_kindOf 41 = .ok (.ireturn, 1) := by decide +kernel
theorem dX9_kindOf_42 : decode cX9_kindOf 42 = .ok (.aload_n 0, 1) := by decide +kernel
theorem dX9_kindOf_43 : decode cX9_kindOf 43 = .ok (.getfield 79, 3) := by decide +kernel
theorem dX9_kindOf_46 : decode cX9_kindOf 46 = .ok (.iload_n 3, 1) := by decide +kernel
theorem dX9_kindOf_47 : decode cX9_kindOf 47 = .ok (.iand, 1) := by decide +kernel
theorem dX9_kindOf_48 : decode cX9_kindOf 48 = .ok (.ifCond .eq 7, 3) := by decide +kernel
theorem dX9_kindOf_51 : decode cX9_kindOf 51 = .ok (.iconst 3, 1) := by decide +kernel
theorem dX9_kindOf_52 : decode cX9_kindOf 52 = .ok (.goto 4, 3) := by decide +kernel
theorem dX9_kindOf_55 : decode cX9_kindOf 55 = .ok (.iconst 0, 1) := by decide +kernel
theorem dX9_kindOf_56 : decode cX9_kindOf 56 = .ok (.ireturn, 1) := by decide +kernel
theorem dX9_isOfKind_0 : decode cX9_isOfKind 0 = .ok (.iload_n 1, 1) := by decide +kernel
theorem dX9_isOfKind_1 : decode cX9_isOfKind 1 = .ok (.ifCond .eq 18, 3) := by decide +kernel
theorem dX9_isOfKind_4 : decode cX9_isOfKind 4 = .ok (.iload_n 0, 1) := by decide +kernel
theorem dX9_isOfKind_5 : decode cX9_isOfKind 5 = .ok (.iload_n 1, 1) := by decide +kernel
theorem dX9_isOfKind_6 : decode cX9_isOfKind 6 = .ok (.if_icmp .eq 13, 3) := by decide +kernel
theorem dX9_isOfKind_9 : decode cX9_isOfKind 9 = .ok (.iload_n 1, 1) := by decide +kernel
theorem dX9_isOfKind_10 : decode cX9_isOfKind 10 = .ok (.iconst 1, 1) := by decide +kernel
theorem dX9_isOfKind_11 : decode cX9_isOfKind 11 = .ok (.if_icmp .ne 12, 3) := by decide +kernel
theorem dX9_isOfKind_14 : decode cX9_isOfKind 14 = .ok (.iload_n 0, 1) := by decide +kernel
theorem dX9_isOfKind_15 : decode cX9_isOfKind 15 = .ok (.iconst 2, 1) := by decide +kernel
theorem dX9_isOfKind_16 : decode cX9_isOfKind 16 = .ok (.if_icmp .ne 7, 3) := by decide +kernel
theorem dX9_isOfKind_19 : decode cX9_isOfKind 19 = .ok (.iconst 1, 1) := by decide +kernel
theorem dX9_isOfKind_20 : decode cX9_isOfKind 20 = .ok (.goto 4, 3) := by decide +kernel
theorem dX9_isOfKind_23 : decode cX9_isOfKind 23 = .ok (.iconst 0, 1) := by decide +kernel
theorem dX9_isOfKind_24 : decode cX9_isOfKind 24 = .ok (.ireturn, 1) := by decide +kernel
set_option maxRecDepth 20000 in
theorem ggX9_isStopped_X2_isWithinLast : GoodIn wsX9_isStopped wsX2_isWithinLast := goodIn_r _ [8, 9, 34, 35, 36, 37] (by decide +kernel) (by decide +kernel)
set_option maxRecDepth 20000 in
theorem gX9_isStopped_X2_isWithinLast : GoodIn wsX9_isStopped (wsV RX9 293 RX2 yX2_isWithinLast wsX2_isWithinLast) := goodIn_app (goodIn_of _ (by decide +kernel)) ggX9_isStopped_X2_isWithinLast
set_option maxRecDepth 20000 in
theorem ggX9_isStopped_X3_allows : GoodIn wsX9_isStopped wsX3_allows := goodIn_r _ [14, 15, 16, 38, 39, 40] (by decide +kernel) (by decide +kernel)
set_option maxRecDepth 20000 in
theorem gX9_isStopped_X3_allows : GoodIn wsX9_isStopped (wsV RX9 296 RX3 yX3_allows wsX3_allows) := goodIn_app (goodIn_of _ (by decide +kernel)) ggX9_isStopped_X3_allows
theorem dX9_isStopped_0 : decode cX9_isStopped 0 = .ok (.aload_n 0, 1) := by decide +kernel
theorem dX9_isStopped_1 : decode cX9_isStopped 1 = .ok (.getfield 10, 3) := by decide +kernel
theorem dX9_isStopped_4 : decode cX9_isStopped 4 = .ok (.aload_n 0, 1) := by decide +kernel
theorem dX9_isStopped_5 : decode cX9_isStopped 5 = .ok (.getfield 26, 3) := by decide +kernel
theorem dX9_isStopped_8 : decode cX9_isStopped 8 = .ok (.getfield 233, 3) := by decide +kernel
theorem dX9_isStopped_11 : decode cX9_isStopped 11 = .ok (.iload_n 1, 1) := by decide +kernel
theorem dX9_isStopped_12 : decode cX9_isStopped 12 = .ok (.iaload, 1) := by decide +kernel
theorem dX9_isStopped_13 : decode cX9_isStopped 13 = .ok (.iload_n 2, 1) := by decide +kernel
theorem dX9_isStopped_14 : decode cX9_isStopped 14 = .ok (.invokevirtual 293, 3) := by decide +kernel
theorem dX9_isStopped_17 : decode cX9_isStopped 17 = .ok (.ifCond .eq 35, 3) := by decide +kernel
theorem dX9_isStopped_20 : decode cX9_isStopped 20 = .ok (.aload_n 0, 1) := by decide +kernel
theorem dX9_isStopped_21 : decode cX9_isStopped 21 = .ok (.getfield 54, 3) := by decide +kernel
theorem dX9_isStopped_24 : decode cX9_isStopped 24 = .ok (.aload_n 0, 1) := by decide +kernel
theorem dX9_isStopped_25 : decode cX9_isStopped 25 = .ok (.getfield 26, 3) := by decide +kernel
theorem dX9_isStopped_28 : decode cX9_isStopped 28 = .ok (.getfield 227, 3) := by decide +kernel
theorem dX9_isStopped_31 : decode cX9_isStopped 31 = .ok (.iload_n 1, 1) := by decide +kernel
theorem dX9_isStopped_32 : decode cX9_isStopped 32 = .ok (.iaload, 1) := by decide +kernel
theorem dX9_isStopped_33 : decode cX9_isStopped 33 = .ok (.aload_n 0, 1) := by decide +kernel
theorem dX9_isStopped_34 : decode cX9_isStopped 34 = .ok (.getfield 26, 3) := by decide +kernel
theorem dX9_isStopped_37 : decode cX9_isStopped 37 = .ok (.getfield 230, 3) := by decide +kernel
theorem dX9_isStopped_40 : decode cX9_isStopped 40 = .ok (.iload_n 1, 1) := by decide +kernel
theorem dX9_isStopped_41 : decode cX9_isStopped 41 = .ok (.iaload, 1) := by decide +kernel
theorem dX9_isStopped_42 : decode cX9_isStopped 42 = .ok (.invokevirtual 296, 3) := by decide +kernel
theorem dX9_isStopped_45 : decode cX9_isStopped 45 = .ok (.ifCond .ne 7, 3) := by decide +kernel
theorem dX9_isStopped_48 : decode cX9_isStopped 48 = .ok (.iconst 1, 1) := by decide +kernel
theorem dX9_isStopped_49 : decode cX9_isStopped 49 = .ok (.goto 4, 3) := by decide +kernel
theorem dX9_isStopped_52 : decode cX9_isStopped 52 = .ok (.iconst 0, 1) := by decide +kernel
theorem dX9_isStopped_53 : decode cX9_isStopped 53 = .ok (.ireturn, 1) := by decide +kernel
set_option maxRecDepth 20000 in
theorem ggX9_isLighter_J6_bitCount_0f7a4 : GoodIn wsX9_isLighter wsJ6_bitCount_0f7a4 := goodIn_r _ [4, 5, 6, 7] (by decide +kernel) (by decide +kernel)
set_option maxRecDepth 20000 in
theorem gX9_isLighter_J6_bitCount_0f7a4 : GoodIn wsX9_isLighter (va_wsS RX9 193 yJ6_bitCount_0f7a4 wsJ6_bitCount_0f7a4) := goodIn_app (goodIn_of _ (by decide +kernel)) ggX9_isLighter_J6_bitCount_0f7a4
theorem dX9_isLighter_0 : decode cX9_isLighter 0 = .ok (.iload_n 0, 1) := by decide +kernel
theorem dX9_isLighter_1 : decode cX9_isLighter 1 = .ok (.invokestatic 193, 3) := by decide +kernel
theorem dX9_isLighter_4 : decode cX9_isLighter 4 = .ok (.iload_n 1, 1) := by decide +kernel
theorem dX9_isLighter_5 : decode cX9_isLighter 5 = .ok (.invokestatic 193, 3) := by decide +kernel
theorem dX9_isLighter_8 : decode cX9_isLighter 8 = .ok (.isub, 1) := by decide +kernel
theorem dX9_isLighter_9 : decode cX9_isLighter 9 = .ok (.istore_n 3, 1) := by decide +kernel
theorem dX9_isLighter_10 : decode cX9_isLighter 10 = .ok (.iload_n 3, 1) := by decide +kernel
theorem dX9_isLighter_11 : decode cX9_isLighter 11 = .ok (.ifCond .eq 13, 3) := by decide +kernel
theorem dX9_isLighter_14 : decode cX9_isLighter 14 = .ok (.iload_n 3, 1) := by decide +kernel
theorem dX9_isLighter_15 : decode cX9_isLighter 15 = .ok (.ifCond .ge 7, 3) := by decide +kernel
theorem dX9_isLighter_18 : decode cX9_isLighter 18 = .ok (.iconst 1, 1) := by decide +kernel
theorem dX9_isLighter_19 : decode cX9_isLighter 19 = .ok (.goto 4, 3) := by decide +kernel
theorem dX9_isLighter_22 : decode cX9_isLighter 22 = .ok (.iconst 0, 1) := by decide +kernel
theorem dX9_isLighter_23 : decode cX9_isLighter 23 = .ok (.ireturn, 1) := by decide +kernel
theorem dX9_isLighter_24 : decode cX9_isLighter 24 = .ok (.iload_n 0, 1) := by decide +kernel
theorem dX9_isLighter_25 : decode cX9_isLighter 25 = .ok (.iload_n 2, 1) := by decide +kernel
theorem dX9_isLighter_26 : decode cX9_isLighter 26 = .ok (.iand, 1) := by decide +kernel
theorem dX9_isLighter_27 : decode cX9_isLighter 27 = .ok (.invokestatic 193, 3) := by decide +kernel
theorem dX9_isLighter_30 : decode cX9_isLighter 30 = .ok (.iload_n 1, 1) := by decide +kernel
theorem dX9_isLighter_31 : decode cX9_isLighter 31 = .ok (.iload_n 2, 1) := by decide +kernel
theorem dX9_isLighter_32 : decode cX9_isLighter 32 = .ok (.iand, 1) := by decide +kernel
theorem dX9_isLighter_33 : decode cX9_isLighter 33 = .ok (.invokestatic 193, 3) := by decide +kernel
theorem dX9_isLighter_36 : decode cX9_isLighter 36 = .ok (.if_icmp .ge 7, 3) := by decide +kernel
theorem dX9_isLighter_39 : decode cX9_isLighter 39 = .ok (.iconst 1, 1) := by decide +kernel
theorem dX9_isLighter_40 : decode cX9_isLighter 40 = .ok (.goto 4, 3) := by decide +kernel
theorem dX9_isLighter_43 : decode cX9_isLighter 43 = .ok (.iconst 0, 1) := by decide +kernel
theorem dX9_isLighter_44 : decode cX9_isLighter 44 = .ok (.ireturn, 1) := by decide +kernel
set_option maxRecDepth 20000 in
theorem ggX9_totalOf_J6_bitCount_0f7a4 : GoodIn wsX9_totalOf wsJ6_bitCount_0f7a4 := goodIn_r _ [4, 5, 6, 7] (by decide +kernel) (by decide +kernel)
set_option maxRecDepth 20000 in
theorem gX9_totalOf_J6_bitCount_0f7a4 : GoodIn wsX9_totalOf (va_wsS RX9 193 yJ6_bitCount_0f7a4 wsJ6_bitCount_0f7a4) := goodIn_app (goodIn_of _ (by decide +kernel)) ggX9_totalOf_J6_bitCount_0f7a4
theorem dX9_totalOf_0 : decode cX9_totalOf 0 = .ok (.iconst 0, 1) := by decide +kernel
theorem dX9_totalOf_1 : decode cX9_totalOf 1 = .ok (.istore_n 2, 1) := by decide +kernel
theorem dX9_totalOf_2 : decode cX9_totalOf 2 = .ok (.iconst 0, 1) := by decide +kernel
theorem dX9_totalOf_3 : decode cX9_totalOf 3 = .ok (.istore_n 3, 1) := by decide +kernel
theorem dX9_totalOf_4 : decode cX9_totalOf 4 = .ok (.iload_n 3, 1) := by decide +kernel
theorem dX9_totalOf_5 : decode cX9_totalOf 5 = .ok (.iload_n 1, 1) := by decide +kernel
theorem dX9_totalOf_6 : decode cX9_totalOf 6 = .ok (.if_icmp .ge 24, 3) := by decide +kernel
theorem dX9_totalOf_9 : decode cX9_totalOf 9 = .ok (.iload_n 3, 1) := by decide +kernel
theorem dX9_totalOf_10 : decode cX9_totalOf 10 = .ok (.aload_n 0, 1) := by decide +kernel
theorem dX9_totalOf_11 : decode cX9_totalOf 11 = .ok (.arraylength, 1) := by decide +kernel
theorem dX9_totalOf_12 : decode cX9_totalOf 12 = .ok (.if_icmp .ge 18, 3) := by decide +kernel
theorem dX9_totalOf_15 : decode cX9_totalOf 15 = .ok (.iload_n 2, 1) := by decide +kernel
theorem dX9_totalOf_16 : decode cX9_totalOf 16 = .ok (.aload_n 0, 1) := by decide +kernel
theorem dX9_totalOf_17 : decode cX9_totalOf 17 = .ok (.iload_n 3, 1) := by decide +kernel
theorem dX9_totalOf_18 : decode cX9_totalOf 18 = .ok (.iaload, 1) := by decide +kernel
theorem dX9_totalOf_19 : decode cX9_totalOf 19 = .ok (.invokestatic 193, 3) := by decide +kernel
theorem dX9_totalOf_22 : decode cX9_totalOf 22 = .ok (.iadd, 1) := by decide +kernel
theorem dX9_totalOf_23 : decode cX9_totalOf 23 = .ok (.istore_n 2, 1) := by decide +kernel
theorem dX9_totalOf_24 : decode cX9_totalOf 24 = .ok (.iinc 3 1, 3) := by decide +kernel
theorem dX9_totalOf_27 : decode cX9_totalOf 27 = .ok (.goto (-23), 3) := by decide +kernel
theorem dX9_totalOf_30 : decode cX9_totalOf 30 = .ok (.iload_n 2, 1) := by decide +kernel
theorem dX9_totalOf_31 : decode cX9_totalOf 31 = .ok (.ireturn, 1) := by decide +kernel
theorem dX10_init_0 : decode cX10_init 0 = .ok (.aload_n 0, 1) := by decide +kernel
theorem dX10_init_1 : decode cX10_init 1 = .ok (.invokespecial 1, 3) := by decide +kernel
theorem dX10_init_4 : decode cX10_init 4 = .ok (.aload_n 0, 1) := by decide +kernel
theorem dX10_init_5 : decode cX10_init 5 = .ok (.iconst 5, 1) := by decide +kernel
theorem dX10_init_6 : decode cX10_init 6 = .ok (.newarray .int, 2) := by decide +kernel
theorem dX10_init_8 : decode cX10_init 8 = .ok (.putfield 7, 3) := by decide +kernel
theorem dX10_init_11 : decode cX10_init 11 = .ok (.aload_n 0, 1) := by decide +kernel
theorem dX10_init_12 : decode cX10_init 12 = .ok (.bipush 10, 2) := by decide +kernel
theorem dX10_init_14 : decode cX10_init 14 = .ok (.newarray .int, 2) := by decide +kernel
theorem dX10_init_16 : decode cX10_init 16 = .ok (.putfield 13, 3) := by decide +kernel
theorem dX10_init_19 : decode cX10_init 19 = .ok (.aload_n 0, 1) := by decide +kernel
theorem dX10_init_20 : decode cX10_init 20 = .ok (.bipush 10, 2) := by decide +kernel
theorem dX10_init_22 : decode cX10_init 22 = .ok (.newarray .int, 2) := by decide +kernel
theorem dX10_init_24 : decode cX10_init 24 = .ok (.putfield 16, 3) := by decide +kernel
theorem dX10_init_27 : decode cX10_init 27 = .ok (.aload_n 0, 1) := by decide +kernel
theorem dX10_init_28 : decode cX10_init 28 = .ok (.bipush 120, 2) := by decide +kernel
theorem dX10_init_30 : decode cX10_init 30 = .ok (.newarray .int, 2) := by decide +kernel
theorem dX10_init_32 : decode cX10_init 32 = .ok (.putfield 19, 3) := by decide +kernel
theorem dX10_init_35 : decode cX10_init 35 = .ok (.aload_n 0, 1) := by decide +kernel
theorem dX10_init_36 : decode cX10_init 36 = .ok (.bipush 30, 2) := by decide +kernel
theorem dX10_init_38 : decode cX10_init 38 = .ok (.putfield 22, 3) := by decide +kernel
theorem dX10_init_41 : decode cX10_init 41 = .ok (.aload_n 0, 1) := by decide +kernel
theorem dX10_init_42 : decode cX10_init 42 = .ok (.bipush 100, 2) := by decide +kernel
theorem dX10_init_44 : decode cX10_init 44 = .ok (.putfield 26, 3) := by decide +kernel
theorem dX10_init_47 : decode cX10_init 47 = .ok (.aload_n 0, 1) := by decide +kernel
theorem dX10_init_48 : decode cX10_init 48 = .ok (.bipush 60, 2) := by decide +kernel
theorem dX10_init_50 : decode cX10_init 50 = .ok (.putfield 29, 3) := by decide +kernel
theorem dX10_init_53 : decode cX10_init 53 = .ok (.aload_n 0, 1) := by decide +kernel
theorem dX10_init_54 : decode cX10_init 54 = .ok (.sipush 400, 3) := by decide +kernel
theorem dX10_init_57 : decode cX10_init 57 = .ok (.newarray .int, 2) := by decide +kernel
theorem dX10_init_59 : decode cX10_init 59 = .ok (.putfield 32, 3) := by decide +kernel
theorem dX10_init_62 : decode cX10_init 62 = .ok (.aload_n 0, 1) := by decide +kernel
theorem dX10_init_63 : decode cX10_init 63 = .ok (.sipush 400, 3) := by decide +kernel
theorem dX10_init_66 : decode cX10_init 66 = .ok (.newarray .int, 2) := by decide +kernel
theorem dX10_init_68 : decode cX10_init 68 = .ok (.putfield 35, 3) := by decide +kernel
theorem dX10_init_71 : decode cX10_init 71 = .ok (.aload_n 0, 1) := by decide +kernel
theorem dX10_init_72 : decode cX10_init 72 = .ok (.sipush 400, 3) := by decide +kernel
theorem dX10_init_75 : decode cX10_init 75 = .ok (.newarray .int, 2) := by decide +kernel
theorem dX10_init_77 : decode cX10_init 77 = .ok (.putfield 38, 3) := by decide +kernel
theorem dX10_init_80 : decode cX10_init 80 = .ok (.aload_n 0, 1) := by decide +kernel
theorem dX10_init_81 : decode cX10_init 81 = .ok (.iconst 3, 1) := by decide +kernel
theorem dX10_init_82 : decode cX10_init 82 = .ok (.newarray .int, 2) := by decide +kernel
theorem dX10_init_84 : decode cX10_init 84 = .ok (.putfield 41, 3) := by decide +kernel
theorem dX10_init_87 : decode cX10_init 87 = .ok (.aload_n 0, 1) := by decide +kernel
theorem dX10_init_88 : decode cX10_init 88 = .ok (.bipush 10, 2) := by decide +kernel
theorem dX10_init_90 : decode cX10_init 90 = .ok (.newarray .int, 2) := by decide +kernel
theorem dX10_init_92 : decode cX10_init 92 = .ok (.putfield 44, 3) := by decide +kernel
theorem dX10_init_95 : decode cX10_init 95 = .ok (.aload_n 0, 1) := by decide +kernel
theorem dX10_init_96 : decode cX10_init 96 = .ok (.sipush 4096, 3) := by decide +kernel
theorem dX10_init_99 : decode cX10_init 99 = .ok (.newarray .boolean, 2) := by decide +kernel
theorem dX10_init_101 : decode cX10_init 101 = .ok (.putfield 47, 3) := by decide +kernel
theorem dX10_init_104 : decode cX10_init 104 = .ok (.aload_n 0, 1) := by decide +kernel
theorem dX10_init_105 : decode cX10_init 105 = .ok (.bipush 64, 2) := by decide +kernel
theorem dX10_init_107 : decode cX10_init 107 = .ok (.newarray .int, 2) := by decide +kernel
theorem dX10_init_109 : decode cX10_init 109 = .ok (.putfield 51, 3) := by decide +kernel
theorem dX10_init_112 : decode cX10_init 112 = .ok (.aload_n 0, 1) := by decide +kernel
theorem dX10_init_113 : decode cX10_init 113 = .ok (.bipush 64, 2) := by decide +kernel
theorem dX10_init_115 : decode cX10_init 115 = .ok (.newarray .int, 2) := by decide +kernel
theorem dX10_init_117 : decode cX10_init 117 = .ok (.putfield 54, 3) := by decide +kernel
theorem dX10_init_120 : decode cX10_init 120 = .ok (.aload_n 0, 1) := by decide +kernel
theorem dX10_init_121 : decode cX10_init 121 = .ok (.bipush 64, 2) := by decide +kernel
theorem dX10_init_123 : decode cX10_init 123 = .ok (.newarray .int, 2) := by decide +kernel
theorem dX10_init_125 : decode cX10_init 125 = .ok (.putfield 57, 3) := by decide +kernel
theorem dX10_init_128 : decode cX10_init 128 = .ok (.aload_n 0, 1) := by decide +kernel
theorem dX10_init_129 : decode cX10_init 129 = .ok (.bipush 64, 2) := by decide +kernel
theorem dX10_init_131 : decode cX10_init 131 = .ok (.newarray .int, 2) := by decide +kernel
theorem dX10_init_133 : decode cX10_init 133 = .ok (.putfield 60, 3) := by decide +kernel
theorem dX10_init_136 : decode cX10_init 136 = .ok (.aload_n 0, 1) := by decide +kernel
theorem dX10_init_137 : decode cX10_init 137 = .ok (.bipush 12, 2) := by decide +kernel
theorem dX10_init_139 : decode cX10_init 139 = .ok (.newarray .int, 2) := by decide +kernel
theorem dX10_init_141 : decode cX10_init 141 = .ok (.putfield 63, 3) := by decide +kernel
theorem dX10_init_144 : decode cX10_init 144 = .ok (.aload_n 0, 1) := by decide +kernel
theorem dX10_init_145 : decode cX10_init 145 = .ok (.bipush (-9), 2) := by decide +kernel
theorem dX10_init_147 : decode cX10_init 147 = .ok (.putfield 66, 3) := by decide +kernel
theorem dX10_init_150 : decode cX10_init 150 = .ok (.aload_n 0, 1) := by decide +kernel
theorem dX10_init_151 : decode cX10_init 151 = .ok (.bipush 10, 2) := by decide +kernel
theorem dX10_init_153 : decode cX10_init 153 = .ok (.newarray .int, 2) := by decide +kernel
theorem dX10_init_155 : decode cX10_init 155 = .ok (.putfield 69, 3) := by decide +kernel
theorem dX10_init_158 : decode cX10_init 158 = .ok (.aload_n 0, 1) := by decide +kernel
theorem dX10_init_159 : decode cX10_init 159 = .ok (.iconst 4, 1) := by decide +kernel
theorem dX10_init_160 : decode cX10_init 160 = .ok (.newarray .int, 2) := by decide +kernel
theorem dX10_init_162 : decode cX10_init 162 = .ok (.putfield 72, 3) := by decide +kernel
theorem dX10_init_165 : decode cX10_init 165 = .ok (.aload_n 0, 1) := by decide +kernel
theorem dX10_init_166 : decode cX10_init 166 = .ok (.bipush 40, 2) := by decide +kernel
theorem dX10_init_168 : decode cX10_init 168 = .ok (.newarray .int, 2) := by decide +kernel
theorem dX10_init_170 : decode cX10_init 170 = .ok (.putfield 75, 3) := by decide +kernel
theorem dX10_init_173 : decode cX10_init 173 = .ok (.aload_n 0, 1) := by decide +kernel
theorem dX10_init_174 : decode cX10_init 174 = .ok (.bipush 10, 2) := by decide +kernel
theorem dX10_init_176 : decode cX10_init 176 = .ok (.newarray .int, 2) := by decide +kernel
theorem dX10_init_178 : decode cX10_init 178 = .ok (.putfield 78, 3) := by decide +kernel
theorem dX10_init_181 : decode cX10_init 181 = .ok (.iconst 0, 1) := by decide +kernel
theorem dX10_init_182 : decode cX10_init 182 = .ok (.istore_n 1, 1) := by decide +kernel
theorem dX10_init_183 : decode cX10_init 183 = .ok (.iload_n 1, 1) := by decide +kernel
theorem dX10_init_184 : decode cX10_init 184 = .ok (.bipush 120, 2) := by decide +kernel
theorem dX10_init_186 : decode cX10_init 186 = .ok (.if_icmp .ge 17, 3) := by decide +kernel
theorem dX10_init_189 : decode cX10_init 189 = .ok (.aload_n 0, 1) := by decide +kernel
theorem dX10_init_190 : decode cX10_init 190 = .ok (.getfield 19, 3) := by decide +kernel
theorem dX10_init_193 : decode cX10_init 193 = .ok (.iload_n 1, 1) := by decide +kernel
theorem dX10_init_194 : decode cX10_init 194 = .ok (.bipush (-9), 2) := by decide +kernel
theorem dX10_init_196 : decode cX10_init 196 = .ok (.iastore, 1) := by decide +kernel
theorem dX10_init_197 : decode cX10_init 197 = .ok (.iinc 1 1, 3) := by decide +kernel
theorem dX10_init_200 : decode cX10_init 200 = .ok (.goto (-17), 3) := by decide +kernel
theorem dX10_init_203 : decode cX10_init 203 = .ok (.iconst 0, 1) := by decide +kernel
theorem dX10_init_204 : decode cX10_init 204 = .ok (.istore_n 1, 1) := by decide +kernel
theorem dX10_init_205 : decode cX10_init 205 = .ok (.iload_n 1, 1) := by decide +kernel
theorem dX10_init_206 : decode cX10_init 206 = .ok (.iconst 4, 1) := by decide +kernel
theorem dX10_init_207 : decode cX10_init 207 = .ok (.if_icmp .ge 17, 3) := by decide +kernel
theorem dX10_init_210 : decode cX10_init 210 = .ok (.aload_n 0, 1) := by decide +kernel
theorem dX10_init_211 : decode cX10_init 211 = .ok (.getfield 72, 3) := by decide +kernel
theorem dX10_init_214 : decode cX10_init 214 = .ok (.iload_n 1, 1) := by decide +kernel
theorem dX10_init_215 : decode cX10_init 215 = .ok (.bipush (-9), 2) := by decide +kernel
theorem dX10_init_217 : decode cX10_init 217 = .ok (.iastore, 1) := by decide +kernel
theorem dX10_init_218 : decode cX10_init 218 = .ok (.iinc 1 1, 3) := by decide +kernel
theorem dX10_init_221 : decode cX10_init 221 = .ok (.goto (-16), 3) := by decide +kernel
theorem dX10_init_224 : decode cX10_init 224 = .ok (.return_, 1) := by decide +kernel
theorem dX10_in_0 : decode cX10_in 0 = .ok (.iload_n 0, 1) := by decide +kernel
theorem dX10_in_1 : decode cX10_in 1 = .ok (.iload_n 1, 1) := by decide +kernel
theorem dX10_in_2 : decode cX10_in 2 = .ok (.if_icmp .lt 12, 3) := by decide +kernel
theorem dX10_in_5 : decode cX10_in 5 = .ok (.iload_n 0, 1) := by decide +kernel
theorem dX10_in_6 : decode cX10_in 6 = .ok (.iload_n 2, 1) := by decide +kernel
theorem dX10_in_7 : decode cX10_in 7 = .ok (.if_icmp .gt 7, 3) := by decide +kernel
theorem dX10_in_10 : decode cX10_in 10 = .ok (.iconst 1, 1) := by decide +kernel
theorem dX10_in_11 : decode cX10_in 11 = .ok (.goto 4, 3) := by decide +kernel
theorem dX10_in_14 : decode cX10_in 14 = .ok (.iconst 0, 1) := by decide +kernel
theorem dX10_in_15 : decode cX10_in 15 = .ok (.ireturn, 1) := by decide +kernel
theorem dX10_meets_0 : decode cX10_meets 0 = .ok (.aload_n 0, 1) := by decide +kernel
theorem dX10_meets_1 : decode cX10_meets 1 = .ok (.iload_n 1, 1) := by decide +kernel
theorem dX10_meets_2 : decode cX10_meets 2 = .ok (.putfield 81, 3) := by decide +kernel
theorem dX10_meets_5 : decode cX10_meets 5 = .ok (.aload_n 0, 1) := by decide +kernel
theorem dX10_meets_6 : decode cX10_meets 6 = .ok (.getfield 7, 3) := by decide +kernel
theorem dX10_meets_9 : decode cX10_meets 9 = .ok (.iload_n 1, 1) := by decide +kernel
theorem dX10_meets_10 : decode cX10_meets 10 = .ok (.dup2, 1) := by decide +kernel
theorem dX10_meets_11 : decode cX10_meets 11 = .ok (.iaload, 1) := by decide +kernel
theorem dX10_meets_12 : decode cX10_meets 12 = .ok (.iconst 1, 1) := by decide +kernel
theorem dX10_meets_13 : decode cX10_meets 13 = .ok (.iadd, 1) := by decide +kernel
theorem dX10_meets_14 : decode cX10_meets 14 = .ok (.iastore, 1) := by decide +kernel
theorem dX10_meets_15 : decode cX10_meets 15 = .ok (.bipush (-3), 2) := by decide +kernel
theorem dX10_meets_17 : decode cX10_meets 17 = .ok (.ireturn, 1) := by decide +kernel
theorem dX10_has_0 : decode cX10_has 0 = .ok (.iload_n 0, 1) := by decide +kernel
theorem dX10_has_1 : decode cX10_has 1 = .ok (.iload_n 1, 1) := by decide +kernel
theorem dX10_has_2 : decode cX10_has 2 = .ok (.ishr, 1) := by decide +kernel
theorem dX10_has_3 : decode cX10_has 3 = .ok (.iconst 1, 1) := by decide +kernel
theorem dX10_has_4 : decode cX10_has 4 = .ok (.iand, 1) := by decide +kernel
theorem dX10_has_5 : decode cX10_has 5 = .ok (.iconst 1, 1) := by decide +kernel
theorem dX10_has_6 : decode cX10_has 6 = .ok (.if_icmp .ne 7, 3) := by decide +kernel
theorem dX10_has_9 : decode cX10_has 9 = .ok (.iconst 1, 1) := by decide +kernel
theorem dX10_has_10 : decode cX10_has 10 = .ok (.goto 4, 3) := by decide +kernel
theorem dX10_has_13 : decode cX10_has 13 = .ok (.iconst 0, 1) := by decide +kernel
theorem dX10_has_14 : decode cX10_has 14 = .ok (.ireturn, 1) := by decide +kernel
theorem dX10_bits_0 : decode cX10_bits 0 = .ok (.iconst 0, 1) := by decide +kernel
theorem dX10_bits_1 : decode cX10_bits 1 = .ok (.istore_n 1, 1) := by decide +kernel
theorem dX10_bits_2 : decode cX10_bits 2 = .ok (.iconst 0, 1) := by decide +kernel
theorem dX10_bits_3 : decode cX10_bits 3 = .ok (.istore_n 2, 1) := by decide +kernel
theorem dX10_bits_4 : decode cX10_bits 4 = .ok (.iload_n 2, 1) := by decide +kernel
theorem dX10_bits_5 : decode cX10_bits 5 = .ok (.bipush 12, 2) := by decide +kernel
theorem dX10_bits_7 : decode cX10_bits 7 = .ok (.if_icmp .ge 17, 3) := by decide +kernel
theorem dX10_bits_10 : decode cX10_bits 10 = .ok (.iload_n 1, 1) := by decide +kernel
theorem dX10_bits_11 : decode cX10_bits 11 = .ok (.iload_n 0, 1) := by decide +kernel
theorem dX10_bits_12 : decode cX10_bits 12 = .ok (.iload_n 2, 1) := by decide +kernel
theorem dX10_bits_13 : decode cX10_bits 13 = .ok (.ishr, 1) := by decide +kernel
theorem dX10_bits_14 : decode cX10_bits 14 = .ok (.iconst 1, 1) := by decide +kernel
theorem dX10_bits_15 : decode cX10_bits 15 = .ok (.iand, 1) := by decide +kernel
theorem dX10_bits_16 : decode cX10_bits 16 = .ok (.iadd, 1) := by decide +kernel
theorem dX10_bits_17 : decode cX10_bits 17 = .ok (.istore_n 1, 1) := by decide +kernel
theorem dX10_bits_18 : decode cX10_bits 18 = .ok (.iinc 2 1, 3) := by decide +kernel
theorem dX10_bits_21 : decode cX10_bits 21 = .ok (.goto (-17), 3) := by decide +kernel
theorem dX10_bits_24 : decode cX10_bits 24 = .ok (.iload_n 1, 1) := by decide +kernel
theorem dX10_bits_25 : decode cX10_bits 25 = .ok (.ireturn, 1) := by decide +kernel
set_option maxRecDepth 20000 in
theorem ggX10_isPerson_X10_in : GoodIn wsX10_isPerson wsX10_in := goodIn_r _ [5] (by decide +kernel) (by decide +kernel)
set_option maxRecDepth 20000 in
theorem gX10_isPerson_X10_in : GoodIn wsX10_isPerson (va_wsS RX10 87 yX10_in wsX10_in) := goodIn_app (goodIn_of _ (by decide +kernel)) ggX10_isPerson_X10_in
theorem dX10_isPerson_0 : decode cX10_isPerson 0 = .ok (.iload_n 1, 1) := by decide +kernel
theorem dX10_isPerson_1 : decode cX10_isPerson 1 = .ok (.iconst 0, 1) := by decide +kernel
theorem dX10_isPerson_2 : decode cX10_isPerson 2 = .ok (.aload_n 0, 1) := by decide +kernel
theorem dX10_isPerson_3 : decode cX10_isPerson 3 = .ok (.getfield 84, 3) := by decide +kernel
theorem dX10_isPerson_6 : decode cX10_isPerson 6 = .ok (.iconst 1, 1) := by decide +kernel
theorem dX10_isPerson_7 : decode cX10_isPerson 7 = .ok (.isub, 1) := by decide +kernel
theorem dX10_isPerson_8 : decode cX10_isPerson 8 = .ok (.invokestatic 87, 3) := by decide +kernel
theorem dX10_isPerson_11 : decode cX10_isPerson 11 = .ok (.ireturn, 1) := by decide +kernel
set_option maxRecDepth 20000 in
theorem ggX10_isRight_X10_in : GoodIn wsX10_isRight wsX10_in := goodIn_r _ [4] (by decide +kernel) (by decide +kernel)
set_option maxRecDepth 20000 in
theorem gX10_isRight_X10_in : GoodIn wsX10_isRight (va_wsS RX10 87 yX10_in wsX10_in) := goodIn_app (goodIn_of _ (by decide +kernel)) ggX10_isRight_X10_in
theorem dX10_isRight_0 : decode cX10_isRight 0 = .ok (.iload_n 0, 1) := by decide +kernel
theorem dX10_isRight_1 : decode cX10_isRight 1 = .ok (.iconst 0, 1) := by decide +kernel
theorem dX10_isRight_2 : decode cX10_isRight 2 = .ok (.bipush 11, 2) := by decide +kernel
theorem dX10_isRight_4 : decode cX10_isRight 4 = .ok (.invokestatic 87, 3) := by decide +kernel
theorem dX10_isRight_7 : decode cX10_isRight 7 = .ok (.ireturn, 1) := by decide +kernel
set_option maxRecDepth 20000 in
theorem ggX10_person_X10_in : GoodIn wsX10_person wsX10_in := goodIn_r _ [7] (by decide +kernel) (by decide +kernel)
set_option maxRecDepth 20000 in
theorem gX10_person_X10_in : GoodIn wsX10_person (va_wsS RX10 87 yX10_in wsX10_in) := goodIn_app (goodIn_of _ (by decide +kernel)) ggX10_person_X10_in
theorem dX10_person_0 : decode cX10_person 0 = .ok (.iload_n 1, 1) := by decide +kernel
theorem dX10_person_1 : decode cX10_person 1 = .ok (.iconst 0, 1) := by decide +kernel
theorem dX10_person_2 : decode cX10_person 2 = .ok (.sipush 255, 3) := by decide +kernel
theorem dX10_person_5 : decode cX10_person 5 = .ok (.invokestatic 87, 3) := by decide +kernel
theorem dX10_person_8 : decode cX10_person 8 = .ok (.ifCond .eq 14, 3) := by decide +kernel
theorem dX10_person_11 : decode cX10_person 11 = .ok (.iload_n 2, 1) := by decide +kernel
theorem dX10_person_12 : decode cX10_person 12 = .ok (.iconst 0, 1) := by decide +kernel
theorem dX10_person_13 : decode cX10_person 13 = .ok (.sipush 4095, 3) := by decide +kernel
theorem dX10_person_16 : decode cX10_person 16 = .ok (.invokestatic 87, 3) := by decide +kernel
theorem dX10_person_19 : decode cX10_person 19 = .ok (.ifCond .ne 5, 3) := by decide +kernel
theorem dX10_person_22 : decode cX10_person 22 = .ok (.iconst (-1), 1) := by decide +kernel
theorem dX10_person_23 : decode cX10_person 23 = .ok (.ireturn, 1) := by decide +kernel
theorem dX10_person_24 : decode cX10_person 24 = .ok (.aload_n 0, 1) := by decide +kernel
theorem dX10_person_25 : decode cX10_person 25 = .ok (.getfield 84, 3) := by decide +kernel
theorem dX10_person_28 : decode cX10_person 28 = .ok (.bipush 10, 2) := by decide +kernel
theorem dX10_person_30 : decode cX10_person 30 = .ok (.if_icmp .ne 6, 3) := by decide +kernel
theorem dX10_person_33 : decode cX10_person 33 = .ok (.bipush (-2), 2) := by decide +kernel
theorem dX10_person_35 : decode cX10_person 35 = .ok (.ireturn, 1) := by decide +kernel
theorem dX10_person_36 : decode cX10_person 36 = .ok (.aload_n 0, 1) := by decide +kernel
theorem dX10_person_37 : decode cX10_person 37 = .ok (.getfield 13, 3) := by decide +kernel
theorem dX10_person_40 : decode cX10_person 40 = .ok (.aload_n 0, 1) := by decide +kernel
theorem dX10_person_41 : decode cX10_person 41 = .ok (.getfield 84, 3) := by decide +kernel
theorem dX10_person_44 : decode cX10_person 44 = .ok (.iload_n 1, 1) := by decide +kernel
theorem dX10_person_45 : decode cX10_person 45 = .ok (.iastore, 1) := by decide +kernel
theorem dX10_person_46 : decode cX10_person 46 = .ok (.aload_n 0, 1) := by decide +kernel
theorem dX10_person_47 : decode cX10_person 47 = .ok (.getfield 16, 3) := by decide +kernel
theorem dX10_person_50 : decode cX10_person 50 = .ok (.aload_n 0, 1) := by decide +kernel
theorem dX10_person_51 : decode cX10_person 51 = .ok (.getfield 84, 3) := by decide +kernel
theorem dX10_person_54 : decode cX10_person 54 = .ok (.iload_n 2, 1) := by decide +kernel
theorem dX10_person_55 : decode cX10_person 55 = .ok (.iastore, 1) := by decide +kernel
theorem dX10_person_56 : decode cX10_person 56 = .ok (.aload_n 0, 1) := by decide +kernel
theorem dX10_person_57 : decode cX10_person 57 = .ok (.dup, 1) := by decide +kernel
theorem dX10_person_58 : decode cX10_person 58 = .ok (.getfield 84, 3) := by decide +kernel
theorem dX10_person_61 : decode cX10_person 61 = .ok (.iconst 1, 1) := by decide +kernel
theorem dX10_person_62 : decode cX10_person 62 = .ok (.iadd, 1) := by decide +kernel
theorem dX10_person_63 : decode cX10_person 63 = .ok (.putfield 84, 3) := by decide +kernel
theorem dX10_person_66 : decode cX10_person 66 = .ok (.aload_n 0, 1) := by decide +kernel
theorem dX10_person_67 : decode cX10_person 67 = .ok (.getfield 84, 3) := by decide +kernel
theorem dX10_person_70 : decode cX10_person 70 = .ok (.iconst 1, 1) := by decide +kernel
theorem dX10_person_71 : decode cX10_person 71 = .ok (.isub, 1) := by decide +kernel
end
section
theorem dX10_person_72 : decode cX10_person 72 = .ok (.ireturn, 1) := by decide +kernel
set_option maxRecDepth 20000 in
theorem ggX10_give_X10_has : GoodIn wsX10_give wsX10_has := goodIn_r _ [6] (by decide +kernel) (by decide +kernel)
set_option maxRecDepth 20000 in
theorem gX10_give_X10_has : GoodIn wsX10_give (va_wsS RX10 91 yX10_has wsX10_has) := goodIn_app (goodIn_of _ (by decide +kernel)) ggX10_give_X10_has
theorem dX10_give_0 : decode cX10_give 0 = .ok (.aload_n 0, 1) := by decide +kernel
theorem dX10_give_1 : decode cX10_give 1 = .ok (.getfield 16, 3) := by decide +kernel
theorem dX10_give_4 : decode cX10_give 4 = .ok (.iload_n 1, 1) := by decide +kernel
theorem dX10_give_5 : decode cX10_give 5 = .ok (.iaload, 1) := by decide +kernel
theorem dX10_give_6 : decode cX10_give 6 = .ok (.istore_n 3, 1) := by decide +kernel
theorem dX10_give_7 : decode cX10_give 7 = .ok (.aload_n 0, 1) := by decide +kernel
theorem dX10_give_8 : decode cX10_give 8 = .ok (.getfield 16, 3) := by decide +kernel
theorem dX10_give_11 : decode cX10_give 11 = .ok (.iload_n 1, 1) := by decide +kernel
theorem dX10_give_12 : decode cX10_give 12 = .ok (.iload_n 2, 1) := by decide +kernel
theorem dX10_give_13 : decode cX10_give 13 = .ok (.iastore, 1) := by decide +kernel
theorem dX10_give_14 : decode cX10_give 14 = .ok (.iconst 0, 1) := by decide +kernel
theorem dX10_give_15 : decode cX10_give 15 = .ok (.istore 4, 2) := by decide +kernel
theorem dX10_give_17 : decode cX10_give 17 = .ok (.iload 4, 2) := by decide +kernel
theorem dX10_give_19 : decode cX10_give 19 = .ok (.bipush 12, 2) := by decide +kernel
theorem dX10_give_21 : decode cX10_give 21 = .ok (.if_icmp .ge 47, 3) := by decide +kernel
theorem dX10_give_24 : decode cX10_give 24 = .ok (.aload_n 0, 1) := by decide +kernel
theorem dX10_give_25 : decode cX10_give 25 = .ok (.getfield 19, 3) := by decide +kernel
theorem dX10_give_28 : decode cX10_give 28 = .ok (.bipush 12, 2) := by decide +kernel
theorem dX10_give_30 : decode cX10_give 30 = .ok (.iload_n 1, 1) := by decide +kernel
theorem dX10_give_31 : decode cX10_give 31 = .ok (.imul, 1) := by decide +kernel
theorem dX10_give_32 : decode cX10_give 32 = .ok (.iload 4, 2) := by decide +kernel
theorem dX10_give_34 : decode cX10_give 34 = .ok (.iadd, 1) := by decide +kernel
theorem dX10_give_35 : decode cX10_give 35 = .ok (.iload_n 2, 1) := by decide +kernel
theorem dX10_give_36 : decode cX10_give 36 = .ok (.iload 4, 2) := by decide +kernel
theorem dX10_give_38 : decode cX10_give 38 = .ok (.invokestatic 91, 3) := by decide +kernel
theorem dX10_give_41 : decode cX10_give 41 = .ok (.ifCond .eq 8, 3) := by decide +kernel
theorem dX10_give_44 : decode cX10_give 44 = .ok (.bipush (-9), 2) := by decide +kernel
theorem dX10_give_46 : decode cX10_give 46 = .ok (.goto 15, 3) := by decide +kernel
theorem dX10_give_49 : decode cX10_give 49 = .ok (.aload_n 0, 1) := by decide +kernel
theorem dX10_give_50 : decode cX10_give 50 = .ok (.getfield 19, 3) := by decide +kernel
theorem dX10_give_53 : decode cX10_give 53 = .ok (.bipush 12, 2) := by decide +kernel
theorem dX10_give_55 : decode cX10_give 55 = .ok (.iload_n 1, 1) := by decide +kernel
theorem dX10_give_56 : decode cX10_give 56 = .ok (.imul, 1) := by decide +kernel
theorem dX10_give_57 : decode cX10_give 57 = .ok (.iload 4, 2) := by decide +kernel
theorem dX10_give_59 : decode cX10_give 59 = .ok (.iadd, 1) := by decide +kernel
theorem dX10_give_60 : decode cX10_give 60 = .ok (.iaload, 1) := by decide +kernel
theorem dX10_give_61 : decode cX10_give 61 = .ok (.iastore, 1) := by decide +kernel
theorem dX10_give_62 : decode cX10_give 62 = .ok (.iinc 4 1, 3) := by decide +kernel
theorem dX10_give_65 : decode cX10_give 65 = .ok (.goto (-48), 3) := by decide +kernel
theorem dX10_give_68 : decode cX10_give 68 = .ok (.iload_n 3, 1) := by decide +kernel
theorem dX10_give_69 : decode cX10_give 69 = .ok (.ireturn, 1) := by decide +kernel
set_option maxRecDepth 20000 in
theorem ggX10_change_X10_isPerson : GoodIn wsX10_change wsX10_isPerson := goodIn_r _ [6, 7, 8, 9, 5, 10, 20, 21, 22, 23, 24, 25, 26, 27, 28, 29, 30, 31, 32, 33, 34, 35, 36, 37, 38, 39, 40, 41, 42, 43, 44, 45, 46, 47, 48, 49, 50, 51] (by decide +kernel) (by decide +kernel)
set_option maxRecDepth 20000 in
theorem gX10_change_X10_isPerson : GoodIn wsX10_change (wsV RX10 95 RX10 yX10_isPerson wsX10_isPerson) := goodIn_app (goodIn_of _ (by decide +kernel)) ggX10_change_X10_isPerson
set_option maxRecDepth 20000 in
theorem ggX10_change_X10_in : GoodIn wsX10_change wsX10_in := goodIn_r _ [10] (by decide +kernel) (by decide +kernel)
set_option maxRecDepth 20000 in
theorem gX10_change_X10_in : GoodIn wsX10_change (va_wsS RX10 87 yX10_in wsX10_in) := goodIn_app (goodIn_of _ (by decide +kernel)) ggX10_change_X10_in
set_option maxRecDepth 20000 in
theorem ggX10_change_X10_give : GoodIn wsX10_change wsX10_give := goodIn_r _ [14, 15, 16, 17, 18, 5, 19, 20, 21, 22, 23, 24, 25, 26, 27, 28, 29, 30, 31, 32, 33, 34, 35, 36, 37, 38, 39, 40, 41, 42, 43, 44, 45, 46, 47, 48, 49, 50, 51] (by decide +kernel) (by decide +kernel)
set_option maxRecDepth 20000 in
theorem gX10_change_X10_give : GoodIn wsX10_change (wsV RX10 99 RX10 yX10_give wsX10_give) := goodIn_app (goodIn_of _ (by decide +kernel)) ggX10_change_X10_give
theorem dX10_change_0 : decode cX10_change 0 = .ok (.aload_n 0, 1) := by decide +kernel
theorem dX10_change_1 : decode cX10_change 1 = .ok (.iload_n 1, 1) := by decide +kernel
theorem dX10_change_2 : decode cX10_change 2 = .ok (.invokevirtual 95, 3) := by decide +kernel
theorem dX10_change_5 : decode cX10_change 5 = .ok (.ifCond .eq 33, 3) := by decide +kernel
theorem dX10_change_8 : decode cX10_change 8 = .ok (.iload_n 2, 1) := by decide +kernel
theorem dX10_change_9 : decode cX10_change 9 = .ok (.iconst 0, 1) := by decide +kernel
theorem dX10_change_10 : decode cX10_change 10 = .ok (.iconst 1, 1) := by decide +kernel
theorem dX10_change_11 : decode cX10_change 11 = .ok (.invokestatic 87, 3) := by decide +kernel
theorem dX10_change_14 : decode cX10_change 14 = .ok (.ifCond .eq 24, 3) := by decide +kernel
theorem dX10_change_17 : decode cX10_change 17 = .ok (.iload_n 3, 1) := by decide +kernel
theorem dX10_change_18 : decode cX10_change 18 = .ok (.iconst 0, 1) := by decide +kernel
theorem dX10_change_19 : decode cX10_change 19 = .ok (.iload_n 2, 1) := by decide +kernel
theorem dX10_change_20 : decode cX10_change 20 = .ok (.ifCond .ne 9, 3) := by decide +kernel
theorem dX10_change_23 : decode cX10_change 23 = .ok (.sipush 255, 3) := by decide +kernel
theorem dX10_change_26 : decode cX10_change 26 = .ok (.goto 6, 3) := by decide +kernel
theorem dX10_change_29 : decode cX10_change 29 = .ok (.sipush 4095, 3) := by decide +kernel
theorem dX10_change_32 : decode cX10_change 32 = .ok (.invokestatic 87, 3) := by decide +kernel
theorem dX10_change_35 : decode cX10_change 35 = .ok (.ifCond .ne 5, 3) := by decide +kernel
theorem dX10_change_38 : decode cX10_change 38 = .ok (.iconst (-1), 1) := by decide +kernel
theorem dX10_change_39 : decode cX10_change 39 = .ok (.ireturn, 1) := by decide +kernel
theorem dX10_change_40 : decode cX10_change 40 = .ok (.iload_n 2, 1) := by decide +kernel
theorem dX10_change_41 : decode cX10_change 41 = .ok (.iconst 1, 1) := by decide +kernel
theorem dX10_change_42 : decode cX10_change 42 = .ok (.if_icmp .ne 10, 3) := by decide +kernel
theorem dX10_change_45 : decode cX10_change 45 = .ok (.aload_n 0, 1) := by decide +kernel
theorem dX10_change_46 : decode cX10_change 46 = .ok (.iload_n 1, 1) := by decide +kernel
theorem dX10_change_47 : decode cX10_change 47 = .ok (.iload_n 3, 1) := by decide +kernel
theorem dX10_change_48 : decode cX10_change 48 = .ok (.invokevirtual 99, 3) := by decide +kernel
theorem dX10_change_51 : decode cX10_change 51 = .ok (.ireturn, 1) := by decide +kernel
theorem dX10_change_52 : decode cX10_change 52 = .ok (.aload_n 0, 1) := by decide +kernel
theorem dX10_change_53 : decode cX10_change 53 = .ok (.getfield 13, 3) := by decide +kernel
theorem dX10_change_56 : decode cX10_change 56 = .ok (.iload_n 1, 1) := by decide +kernel
theorem dX10_change_57 : decode cX10_change 57 = .ok (.iaload, 1) := by decide +kernel
theorem dX10_change_58 : decode cX10_change 58 = .ok (.istore 4, 2) := by decide +kernel
theorem dX10_change_60 : decode cX10_change 60 = .ok (.aload_n 0, 1) := by decide +kernel
theorem dX10_change_61 : decode cX10_change 61 = .ok (.getfield 13, 3) := by decide +kernel
theorem dX10_change_64 : decode cX10_change 64 = .ok (.iload_n 1, 1) := by decide +kernel
theorem dX10_change_65 : decode cX10_change 65 = .ok (.iload_n 3, 1) := by decide +kernel
theorem dX10_change_66 : decode cX10_change 66 = .ok (.iastore, 1) := by decide +kernel
theorem dX10_change_67 : decode cX10_change 67 = .ok (.iload 4, 2) := by decide +kernel
theorem dX10_change_69 : decode cX10_change 69 = .ok (.ireturn, 1) := by decide +kernel
set_option maxRecDepth 20000 in
theorem ggX10_kindOf_X10_has : GoodIn wsX10_kindOf wsX10_has := goodIn_r _ [12] (by decide +kernel) (by decide +kernel)
set_option maxRecDepth 20000 in
theorem gX10_kindOf_X10_has : GoodIn wsX10_kindOf (va_wsS RX10 91 yX10_has wsX10_has) := goodIn_app (goodIn_of _ (by decide +kernel)) ggX10_kindOf_X10_has
theorem dX10_kindOf_0 : decode cX10_kindOf 0 = .ok (.iconst 0, 1) := by decide +kernel
theorem dX10_kindOf_1 : decode cX10_kindOf 1 = .ok (.istore_n 3, 1) := by decide +kernel
theorem dX10_kindOf_2 : decode cX10_kindOf 2 = .ok (.iconst 0, 1) := by decide +kernel
theorem dX10_kindOf_3 : decode cX10_kindOf 3 = .ok (.istore 4, 2) := by decide +kernel
theorem dX10_kindOf_5 : decode cX10_kindOf 5 = .ok (.iconst 0, 1) := by decide +kernel
theorem dX10_kindOf_6 : decode cX10_kindOf 6 = .ok (.istore 5, 2) := by decide +kernel
theorem dX10_kindOf_8 : decode cX10_kindOf 8 = .ok (.iload 5, 2) := by decide +kernel
theorem dX10_kindOf_10 : decode cX10_kindOf 10 = .ok (.aload_n 0, 1) := by decide +kernel
theorem dX10_kindOf_11 : decode cX10_kindOf 11 = .ok (.getfield 103, 3) := by decide +kernel
theorem dX10_kindOf_14 : decode cX10_kindOf 14 = .ok (.if_icmp .ge 116, 3) := by decide +kernel
theorem dX10_kindOf_17 : decode cX10_kindOf 17 = .ok (.aload_n 0, 1) := by decide +kernel
theorem dX10_kindOf_18 : decode cX10_kindOf 18 = .ok (.getfield 32, 3) := by decide +kernel
theorem dX10_kindOf_21 : decode cX10_kindOf 21 = .ok (.iload 5, 2) := by decide +kernel
theorem dX10_kindOf_23 : decode cX10_kindOf 23 = .ok (.iaload, 1) := by decide +kernel
theorem dX10_kindOf_24 : decode cX10_kindOf 24 = .ok (.iload_n 1, 1) := by decide +kernel
theorem dX10_kindOf_25 : decode cX10_kindOf 25 = .ok (.if_icmp .ne 99, 3) := by decide +kernel
theorem dX10_kindOf_28 : decode cX10_kindOf 28 = .ok (.aload_n 0, 1) := by decide +kernel
theorem dX10_kindOf_29 : decode cX10_kindOf 29 = .ok (.getfield 35, 3) := by decide +kernel
theorem dX10_kindOf_32 : decode cX10_kindOf 32 = .ok (.iload 5, 2) := by decide +kernel
theorem dX10_kindOf_34 : decode cX10_kindOf 34 = .ok (.iaload, 1) := by decide +kernel
theorem dX10_kindOf_35 : decode cX10_kindOf 35 = .ok (.iload_n 2, 1) := by decide +kernel
theorem dX10_kindOf_36 : decode cX10_kindOf 36 = .ok (.if_icmp .ne 88, 3) := by decide +kernel
theorem dX10_kindOf_39 : decode cX10_kindOf 39 = .ok (.aload_n 0, 1) := by decide +kernel
theorem dX10_kindOf_40 : decode cX10_kindOf 40 = .ok (.getfield 106, 3) := by decide +kernel
theorem dX10_kindOf_43 : decode cX10_kindOf 43 = .ok (.aload_n 0, 1) := by decide +kernel
theorem dX10_kindOf_44 : decode cX10_kindOf 44 = .ok (.getfield 38, 3) := by decide +kernel
theorem dX10_kindOf_47 : decode cX10_kindOf 47 = .ok (.iload 5, 2) := by decide +kernel
theorem dX10_kindOf_49 : decode cX10_kindOf 49 = .ok (.iaload, 1) := by decide +kernel
theorem dX10_kindOf_50 : decode cX10_kindOf 50 = .ok (.isub, 1) := by decide +kernel
theorem dX10_kindOf_51 : decode cX10_kindOf 51 = .ok (.istore 6, 2) := by decide +kernel
theorem dX10_kindOf_53 : decode cX10_kindOf 53 = .ok (.iload_n 3, 1) := by decide +kernel
theorem dX10_kindOf_54 : decode cX10_kindOf 54 = .ok (.ifCond .ne 12, 3) := by decide +kernel
theorem dX10_kindOf_57 : decode cX10_kindOf 57 = .ok (.iload 6, 2) := by decide +kernel
theorem dX10_kindOf_59 : decode cX10_kindOf 59 = .ok (.aload_n 0, 1) := by decide +kernel
theorem dX10_kindOf_60 : decode cX10_kindOf 60 = .ok (.getfield 22, 3) := by decide +kernel
theorem dX10_kindOf_63 : decode cX10_kindOf 63 = .ok (.if_icmp .ge 7, 3) := by decide +kernel
theorem dX10_kindOf_66 : decode cX10_kindOf 66 = .ok (.iconst 1, 1) := by decide +kernel
theorem dX10_kindOf_67 : decode cX10_kindOf 67 = .ok (.goto 4, 3) := by decide +kernel
theorem dX10_kindOf_70 : decode cX10_kindOf 70 = .ok (.iconst 0, 1) := by decide +kernel
theorem dX10_kindOf_71 : decode cX10_kindOf 71 = .ok (.istore_n 3, 1) := by decide +kernel
theorem dX10_kindOf_72 : decode cX10_kindOf 72 = .ok (.iconst 0, 1) := by decide +kernel
theorem dX10_kindOf_73 : decode cX10_kindOf 73 = .ok (.istore 7, 2) := by decide +kernel
theorem dX10_kindOf_75 : decode cX10_kindOf 75 = .ok (.iload 7, 2) := by decide +kernel
theorem dX10_kindOf_77 : decode cX10_kindOf 77 = .ok (.aload_n 0, 1) := by decide +kernel
theorem dX10_kindOf_78 : decode cX10_kindOf 78 = .ok (.getfield 22, 3) := by decide +kernel
theorem dX10_kindOf_81 : decode cX10_kindOf 81 = .ok (.if_icmp .ge 43, 3) := by decide +kernel
theorem dX10_kindOf_84 : decode cX10_kindOf 84 = .ok (.iload 6, 2) := by decide +kernel
theorem dX10_kindOf_86 : decode cX10_kindOf 86 = .ok (.aload_n 0, 1) := by decide +kernel
theorem dX10_kindOf_87 : decode cX10_kindOf 87 = .ok (.getfield 22, 3) := by decide +kernel
theorem dX10_kindOf_90 : decode cX10_kindOf 90 = .ok (.if_icmp .lt 34, 3) := by decide +kernel
theorem dX10_kindOf_93 : decode cX10_kindOf 93 = .ok (.iload 4, 2) := by decide +kernel
theorem dX10_kindOf_95 : decode cX10_kindOf 95 = .ok (.ifCond .ne 16, 3) := by decide +kernel
theorem dX10_kindOf_98 : decode cX10_kindOf 98 = .ok (.iload 6, 2) := by decide +kernel
theorem dX10_kindOf_100 : decode cX10_kindOf 100 = .ok (.iload 7, 2) := by decide +kernel
theorem dX10_kindOf_102 : decode cX10_kindOf 102 = .ok (.iadd, 1) := by decide +kernel
theorem dX10_kindOf_103 : decode cX10_kindOf 103 = .ok (.aload_n 0, 1) := by decide +kernel
theorem dX10_kindOf_104 : decode cX10_kindOf 104 = .ok (.getfield 26, 3) := by decide +kernel
theorem dX10_kindOf_107 : decode cX10_kindOf 107 = .ok (.irem, 1) := by decide +kernel
theorem dX10_kindOf_108 : decode cX10_kindOf 108 = .ok (.ifCond .ne 7, 3) := by decide +kernel
theorem dX10_kindOf_111 : decode cX10_kindOf 111 = .ok (.iconst 1, 1) := by decide +kernel
theorem dX10_kindOf_112 : decode cX10_kindOf 112 = .ok (.goto 4, 3) := by decide +kernel
theorem dX10_kindOf_115 : decode cX10_kindOf 115 = .ok (.iconst 0, 1) := by decide +kernel
theorem dX10_kindOf_116 : decode cX10_kindOf 116 = .ok (.istore 4, 2) := by decide +kernel
theorem dX10_kindOf_118 : decode cX10_kindOf 118 = .ok (.iinc 7 1, 3) := by decide +kernel
theorem dX10_kindOf_121 : decode cX10_kindOf 121 = .ok (.goto (-46), 3) := by decide +kernel
theorem dX10_kindOf_124 : decode cX10_kindOf 124 = .ok (.iinc 5 1, 3) := by decide +kernel
theorem dX10_kindOf_127 : decode cX10_kindOf 127 = .ok (.goto (-119), 3) := by decide +kernel
theorem dX10_kindOf_130 : decode cX10_kindOf 130 = .ok (.iload_n 3, 1) := by decide +kernel
theorem dX10_kindOf_131 : decode cX10_kindOf 131 = .ok (.ifCond .eq 7, 3) := by decide +kernel
theorem dX10_kindOf_134 : decode cX10_kindOf 134 = .ok (.iconst 1, 1) := by decide +kernel
theorem dX10_kindOf_135 : decode cX10_kindOf 135 = .ok (.goto 28, 3) := by decide +kernel
theorem dX10_kindOf_138 : decode cX10_kindOf 138 = .ok (.iload 4, 2) := by decide +kernel
theorem dX10_kindOf_140 : decode cX10_kindOf 140 = .ok (.ifCond .eq 7, 3) := by decide +kernel
theorem dX10_kindOf_143 : decode cX10_kindOf 143 = .ok (.iconst 2, 1) := by decide +kernel
theorem dX10_kindOf_144 : decode cX10_kindOf 144 = .ok (.goto 19, 3) := by decide +kernel
theorem dX10_kindOf_147 : decode cX10_kindOf 147 = .ok (.aload_n 0, 1) := by decide +kernel
theorem dX10_kindOf_148 : decode cX10_kindOf 148 = .ok (.getfield 109, 3) := by decide +kernel
theorem dX10_kindOf_151 : decode cX10_kindOf 151 = .ok (.iload_n 2, 1) := by decide +kernel
theorem dX10_kindOf_152 : decode cX10_kindOf 152 = .ok (.invokestatic 91, 3) := by decide +kernel
theorem dX10_kindOf_155 : decode cX10_kindOf 155 = .ok (.ifCond .eq 7, 3) := by decide +kernel
theorem dX10_kindOf_158 : decode cX10_kindOf 158 = .ok (.iconst 3, 1) := by decide +kernel
theorem dX10_kindOf_159 : decode cX10_kindOf 159 = .ok (.goto 4, 3) := by decide +kernel
theorem dX10_kindOf_162 : decode cX10_kindOf 162 = .ok (.iconst 0, 1) := by decide +kernel
theorem dX10_kindOf_163 : decode cX10_kindOf 163 = .ok (.ireturn, 1) := by decide +kernel
set_option maxRecDepth 20000 in
theorem ggX10_keptOf_X10_has : GoodIn wsX10_keptOf wsX10_has := goodIn_r _ [5] (by decide +kernel) (by decide +kernel)
set_option maxRecDepth 20000 in
theorem gX10_keptOf_X10_has : GoodIn wsX10_keptOf (va_wsS RX10 91 yX10_has wsX10_has) := goodIn_app (goodIn_of _ (by decide +kernel)) ggX10_keptOf_X10_has
set_option maxRecDepth 20000 in
theorem ggX10_keptOf_X10_kindOf : GoodIn wsX10_keptOf wsX10_kindOf := goodIn_r _ [9, 10, 11, 12, 13, 14, 15, 16, 17, 2, 3, 4, 5, 18, 19, 20, 21, 22, 23, 24, 25, 26, 27, 28, 29, 30, 31, 32, 33, 34, 35, 36, 37, 38, 39, 40, 41, 42, 43, 44, 45, 46, 47, 48, 49] (by decide +kernel) (by decide +kernel)
set_option maxRecDepth 20000 in
theorem gX10_keptOf_X10_kindOf : GoodIn wsX10_keptOf (wsV RX10 112 RX10 yX10_kindOf wsX10_kindOf) := goodIn_app (goodIn_of _ (by decide +kernel)) ggX10_keptOf_X10_kindOf
theorem dX10_keptOf_0 : decode cX10_keptOf 0 = .ok (.iconst 0, 1) := by decide +kernel
theorem dX10_keptOf_1 : decode cX10_keptOf 1 = .ok (.istore_n 2, 1) := by decide +kernel
theorem dX10_keptOf_2 : decode cX10_keptOf 2 = .ok (.iconst 0, 1) := by decide +kernel
theorem dX10_keptOf_3 : decode cX10_keptOf 3 = .ok (.istore_n 3, 1) := by decide +kernel
theorem dX10_keptOf_4 : decode cX10_keptOf 4 = .ok (.iload_n 3, 1) := by decide +kernel
theorem dX10_keptOf_5 : decode cX10_keptOf 5 = .ok (.bipush 12, 2) := by decide +kernel
theorem dX10_keptOf_7 : decode cX10_keptOf 7 = .ok (.if_icmp .ge 41, 3) := by decide +kernel
theorem dX10_keptOf_10 : decode cX10_keptOf 10 = .ok (.iload_n 2, 1) := by decide +kernel
theorem dX10_keptOf_11 : decode cX10_keptOf 11 = .ok (.aload_n 0, 1) := by decide +kernel
theorem dX10_keptOf_12 : decode cX10_keptOf 12 = .ok (.getfield 16, 3) := by decide +kernel
theorem dX10_keptOf_15 : decode cX10_keptOf 15 = .ok (.iload_n 1, 1) := by decide +kernel
theorem dX10_keptOf_16 : decode cX10_keptOf 16 = .ok (.iaload, 1) := by decide +kernel
theorem dX10_keptOf_17 : decode cX10_keptOf 17 = .ok (.iload_n 3, 1) := by decide +kernel
theorem dX10_keptOf_18 : decode cX10_keptOf 18 = .ok (.invokestatic 91, 3) := by decide +kernel
theorem dX10_keptOf_21 : decode cX10_keptOf 21 = .ok (.ifCond .eq 18, 3) := by decide +kernel
theorem dX10_keptOf_24 : decode cX10_keptOf 24 = .ok (.aload_n 0, 1) := by decide +kernel
theorem dX10_keptOf_25 : decode cX10_keptOf 25 = .ok (.iload_n 1, 1) := by decide +kernel
theorem dX10_keptOf_26 : decode cX10_keptOf 26 = .ok (.iload_n 3, 1) := by decide +kernel
theorem dX10_keptOf_27 : decode cX10_keptOf 27 = .ok (.invokevirtual 112, 3) := by decide +kernel
theorem dX10_keptOf_30 : decode cX10_keptOf 30 = .ok (.ifCond .le 9, 3) := by decide +kernel
theorem dX10_keptOf_33 : decode cX10_keptOf 33 = .ok (.iconst 1, 1) := by decide +kernel
theorem dX10_keptOf_34 : decode cX10_keptOf 34 = .ok (.iload_n 3, 1) := by decide +kernel
theorem dX10_keptOf_35 : decode cX10_keptOf 35 = .ok (.ishl, 1) := by decide +kernel
theorem dX10_keptOf_36 : decode cX10_keptOf 36 = .ok (.goto 4, 3) := by decide +kernel
theorem dX10_keptOf_39 : decode cX10_keptOf 39 = .ok (.iconst 0, 1) := by decide +kernel
theorem dX10_keptOf_40 : decode cX10_keptOf 40 = .ok (.ior, 1) := by decide +kernel
theorem dX10_keptOf_41 : decode cX10_keptOf 41 = .ok (.istore_n 2, 1) := by decide +kernel
theorem dX10_keptOf_42 : decode cX10_keptOf 42 = .ok (.iinc 3 1, 3) := by decide +kernel
theorem dX10_keptOf_45 : decode cX10_keptOf 45 = .ok (.goto (-41), 3) := by decide +kernel
theorem dX10_keptOf_48 : decode cX10_keptOf 48 = .ok (.iload_n 2, 1) := by decide +kernel
theorem dX10_keptOf_49 : decode cX10_keptOf 49 = .ok (.ireturn, 1) := by decide +kernel
set_option maxRecDepth 20000 in
theorem ggX10_tells_X10_keptOf : GoodIn wsX10_tells wsX10_keptOf := goodIn_r _ [10, 2, 11, 12, 9, 13, 14, 15, 16, 17, 4, 5, 18, 19, 20, 21, 22, 23, 24, 25, 26, 27, 28, 29, 30, 31, 32, 33, 34, 35, 36, 37, 38, 39, 40, 41, 42, 43, 44, 45, 46, 47, 48, 49, 50, 51, 52, 53, 54, 55] (by decide +kernel) (by decide +kernel)
set_option maxRecDepth 20000 in
theorem gX10_tells_X10_keptOf : GoodIn wsX10_tells (wsV RX10 115 RX10 yX10_keptOf wsX10_keptOf) := goodIn_app (goodIn_of _ (by decide +kernel)) ggX10_tells_X10_keptOf
theorem dX10_tells_0 : decode cX10_tells 0 = .ok (.iconst 0, 1) := by decide +kernel
theorem dX10_tells_1 : decode cX10_tells 1 = .ok (.istore_n 3, 1) := by decide +kernel
theorem dX10_tells_2 : decode cX10_tells 2 = .ok (.iload_n 2, 1) := by decide +kernel
theorem dX10_tells_3 : decode cX10_tells 3 = .ok (.tableswitch 93 0 3 #[29, 36, 43, 49], 29) := by decide +kernel
theorem dX10_tells_32 : decode cX10_tells 32 = .ok (.aload_n 0, 1) := by decide +kernel
theorem dX10_tells_33 : decode cX10_tells 33 = .ok (.getfield 13, 3) := by decide +kernel
theorem dX10_tells_36 : decode cX10_tells 36 = .ok (.iload_n 1, 1) := by decide +kernel
theorem dX10_tells_37 : decode cX10_tells 37 = .ok (.iaload, 1) := by decide +kernel
theorem dX10_tells_38 : decode cX10_tells 38 = .ok (.ireturn, 1) := by decide +kernel
theorem dX10_tells_39 : decode cX10_tells 39 = .ok (.aload_n 0, 1) := by decide +kernel
theorem dX10_tells_40 : decode cX10_tells 40 = .ok (.getfield 16, 3) := by decide +kernel
theorem dX10_tells_43 : decode cX10_tells 43 = .ok (.iload_n 1, 1) := by decide +kernel
theorem dX10_tells_44 : decode cX10_tells 44 = .ok (.iaload, 1) := by decide +kernel
theorem dX10_tells_45 : decode cX10_tells 45 = .ok (.ireturn, 1) := by decide +kernel
theorem dX10_tells_46 : decode cX10_tells 46 = .ok (.aload_n 0, 1) := by decide +kernel
theorem dX10_tells_47 : decode cX10_tells 47 = .ok (.iload_n 1, 1) := by decide +kernel
theorem dX10_tells_48 : decode cX10_tells 48 = .ok (.invokevirtual 115, 3) := by decide +kernel
theorem dX10_tells_51 : decode cX10_tells 51 = .ok (.ireturn, 1) := by decide +kernel
theorem dX10_tells_52 : decode cX10_tells 52 = .ok (.iconst 0, 1) := by decide +kernel
theorem dX10_tells_53 : decode cX10_tells 53 = .ok (.istore 4, 2) := by decide +kernel
theorem dX10_tells_55 : decode cX10_tells 55 = .ok (.iload 4, 2) := by decide +kernel
theorem dX10_tells_57 : decode cX10_tells 57 = .ok (.bipush 12, 2) := by decide +kernel
theorem dX10_tells_59 : decode cX10_tells 59 = .ok (.if_icmp .ge 35, 3) := by decide +kernel
theorem dX10_tells_62 : decode cX10_tells 62 = .ok (.iload_n 3, 1) := by decide +kernel
theorem dX10_tells_63 : decode cX10_tells 63 = .ok (.aload_n 0, 1) := by decide +kernel
theorem dX10_tells_64 : decode cX10_tells 64 = .ok (.getfield 19, 3) := by decide +kernel
theorem dX10_tells_67 : decode cX10_tells 67 = .ok (.bipush 12, 2) := by decide +kernel
theorem dX10_tells_69 : decode cX10_tells 69 = .ok (.iload_n 1, 1) := by decide +kernel
theorem dX10_tells_70 : decode cX10_tells 70 = .ok (.imul, 1) := by decide +kernel
theorem dX10_tells_71 : decode cX10_tells 71 = .ok (.iload 4, 2) := by decide +kernel
theorem dX10_tells_73 : decode cX10_tells 73 = .ok (.iadd, 1) := by decide +kernel
theorem dX10_tells_74 : decode cX10_tells 74 = .ok (.iaload, 1) := by decide +kernel
theorem dX10_tells_75 : decode cX10_tells 75 = .ok (.ifCond .lt 10, 3) := by decide +kernel
theorem dX10_tells_78 : decode cX10_tells 78 = .ok (.iconst 1, 1) := by decide +kernel
theorem dX10_tells_79 : decode cX10_tells 79 = .ok (.iload 4, 2) := by decide +kernel
theorem dX10_tells_81 : decode cX10_tells 81 = .ok (.ishl, 1) := by decide +kernel
theorem dX10_tells_82 : decode cX10_tells 82 = .ok (.goto 4, 3) := by decide +kernel
theorem dX10_tells_85 : decode cX10_tells 85 = .ok (.iconst 0, 1) := by decide +kernel
theorem dX10_tells_86 : decode cX10_tells 86 = .ok (.ior, 1) := by decide +kernel
theorem dX10_tells_87 : decode cX10_tells 87 = .ok (.istore_n 3, 1) := by decide +kernel
theorem dX10_tells_88 : decode cX10_tells 88 = .ok (.iinc 4 1, 3) := by decide +kernel
theorem dX10_tells_91 : decode cX10_tells 91 = .ok (.goto (-36), 3) := by decide +kernel
theorem dX10_tells_94 : decode cX10_tells 94 = .ok (.iload_n 3, 1) := by decide +kernel
theorem dX10_tells_95 : decode cX10_tells 95 = .ok (.ireturn, 1) := by decide +kernel
theorem dX10_tells_96 : decode cX10_tells 96 = .ok (.iconst 0, 1) := by decide +kernel
theorem dX10_tells_97 : decode cX10_tells 97 = .ok (.istore 4, 2) := by decide +kernel
theorem dX10_tells_99 : decode cX10_tells 99 = .ok (.iload 4, 2) := by decide +kernel
theorem dX10_tells_101 : decode cX10_tells 101 = .ok (.aload_n 0, 1) := by decide +kernel
theorem dX10_tells_102 : decode cX10_tells 102 = .ok (.getfield 103, 3) := by decide +kernel
theorem dX10_tells_105 : decode cX10_tells 105 = .ok (.if_icmp .ge 28, 3) := by decide +kernel
theorem dX10_tells_108 : decode cX10_tells 108 = .ok (.iload_n 3, 1) := by decide +kernel
theorem dX10_tells_109 : decode cX10_tells 109 = .ok (.aload_n 0, 1) := by decide +kernel
theorem dX10_tells_110 : decode cX10_tells 110 = .ok (.getfield 32, 3) := by decide +kernel
theorem dX10_tells_113 : decode cX10_tells 113 = .ok (.iload 4, 2) := by decide +kernel
theorem dX10_tells_115 : decode cX10_tells 115 = .ok (.iaload, 1) := by decide +kernel
theorem dX10_tells_116 : decode cX10_tells 116 = .ok (.iload_n 1, 1) := by decide +kernel
theorem dX10_tells_117 : decode cX10_tells 117 = .ok (.if_icmp .ne 7, 3) := by decide +kernel
theorem dX10_tells_120 : decode cX10_tells 120 = .ok (.iconst 1, 1) := by decide +kernel
theorem dX10_tells_121 : decode cX10_tells 121 = .ok (.goto 4, 3) := by decide +kernel
theorem dX10_tells_124 : decode cX10_tells 124 = .ok (.iconst 0, 1) := by decide +kernel
theorem dX10_tells_125 : decode cX10_tells 125 = .ok (.iadd, 1) := by decide +kernel
theorem dX10_tells_126 : decode cX10_tells 126 = .ok (.istore_n 3, 1) := by decide +kernel
theorem dX10_tells_127 : decode cX10_tells 127 = .ok (.iinc 4 1, 3) := by decide +kernel
theorem dX10_tells_130 : decode cX10_tells 130 = .ok (.goto (-31), 3) := by decide +kernel
theorem dX10_tells_133 : decode cX10_tells 133 = .ok (.iload_n 3, 1) := by decide +kernel
theorem dX10_tells_134 : decode cX10_tells 134 = .ok (.ireturn, 1) := by decide +kernel
set_option maxRecDepth 20000 in
theorem ggX10_told_X10_isPerson : GoodIn wsX10_told wsX10_isPerson := goodIn_r _ [5, 6, 7, 8, 4, 9, 36, 37, 38, 39, 40, 41, 42, 43, 44, 45, 46, 47, 48, 49, 50, 51, 52, 53, 54, 55, 56, 57, 58, 59, 60, 61, 62, 63, 64, 65, 66, 67] (by decide +kernel) (by decide +kernel)
set_option maxRecDepth 20000 in
theorem gX10_told_X10_isPerson : GoodIn wsX10_told (wsV RX10 95 RX10 yX10_isPerson wsX10_isPerson) := goodIn_app (goodIn_of _ (by decide +kernel)) ggX10_told_X10_isPerson
set_option maxRecDepth 20000 in
theorem ggX10_told_X10_in : GoodIn wsX10_told wsX10_in := goodIn_r _ [9] (by decide +kernel) (by decide +kernel)
set_option maxRecDepth 20000 in
theorem gX10_told_X10_in : GoodIn wsX10_told (va_wsS RX10 87 yX10_in wsX10_in) := goodIn_app (goodIn_of _ (by decide +kernel)) ggX10_told_X10_in
set_option maxRecDepth 20000 in
theorem ggX10_told_X10_tells : GoodIn wsX10_told wsX10_tells := goodIn_r _ [13, 14, 15, 16, 17, 18, 19, 20, 21, 4, 22, 23, 24, 25, 26, 27, 28, 29, 30, 31, 32, 33, 34, 35, 36, 37, 38, 39, 40, 41, 42, 43, 44, 45, 46, 47, 48, 49, 50, 51, 52, 53, 54, 55, 56, 57, 58, 59, 60, 61, 62, 63, 64, 65, 66, 67] (by decide +kernel) (by decide +kernel)
set_option maxRecDepth 20000 in
theorem gX10_told_X10_tells : GoodIn wsX10_told (wsV RX10 119 RX10 yX10_tells wsX10_tells) := goodIn_app (goodIn_of _ (by decide +kernel)) ggX10_told_X10_tells
theorem dX10_told_0 : decode cX10_told 0 = .ok (.aload_n 0, 1) := by decide +kernel
theorem dX10_told_1 : decode cX10_told 1 = .ok (.iload_n 1, 1) := by decide +kernel
theorem dX10_told_2 : decode cX10_told 2 = .ok (.invokevirtual 95, 3) := by decide +kernel
theorem dX10_told_5 : decode cX10_told 5 = .ok (.ifCond .eq 21, 3) := by decide +kernel
theorem dX10_told_8 : decode cX10_told 8 = .ok (.iload_n 2, 1) := by decide +kernel
theorem dX10_told_9 : decode cX10_told 9 = .ok (.iconst 0, 1) := by decide +kernel
theorem dX10_told_10 : decode cX10_told 10 = .ok (.iconst 4, 1) := by decide +kernel
theorem dX10_told_11 : decode cX10_told 11 = .ok (.invokestatic 87, 3) := by decide +kernel
theorem dX10_told_14 : decode cX10_told 14 = .ok (.ifCond .eq 12, 3) := by decide +kernel
theorem dX10_told_17 : decode cX10_told 17 = .ok (.aload_n 0, 1) := by decide +kernel
theorem dX10_told_18 : decode cX10_told 18 = .ok (.iload_n 1, 1) := by decide +kernel
theorem dX10_told_19 : decode cX10_told 19 = .ok (.iload_n 2, 1) := by decide +kernel
theorem dX10_told_20 : decode cX10_told 20 = .ok (.invokevirtual 119, 3) := by decide +kernel
theorem dX10_told_23 : decode cX10_told 23 = .ok (.goto 4, 3) := by decide +kernel
theorem dX10_told_26 : decode cX10_told 26 = .ok (.iconst (-1), 1) := by decide +kernel
theorem dX10_told_27 : decode cX10_told 27 = .ok (.ireturn, 1) := by decide +kernel
set_option maxRecDepth 20000 in
theorem ggX10_standby_X10_in : GoodIn wsX10_standby wsX10_in := goodIn_r _ [5] (by decide +kernel) (by decide +kernel)
set_option maxRecDepth 20000 in
theorem gX10_standby_X10_in : GoodIn wsX10_standby (va_wsS RX10 87 yX10_in wsX10_in) := goodIn_app (goodIn_of _ (by decide +kernel)) ggX10_standby_X10_in
theorem dX10_standby_0 : decode cX10_standby 0 = .ok (.iload_n 1, 1) := by decide +kernel
theorem dX10_standby_1 : decode cX10_standby 1 = .ok (.iconst 0, 1) := by decide +kernel
theorem dX10_standby_2 : decode cX10_standby 2 = .ok (.sipush 4095, 3) := by decide +kernel
theorem dX10_standby_5 : decode cX10_standby 5 = .ok (.invokestatic 87, 3) := by decide +kernel
theorem dX10_standby_8 : decode cX10_standby 8 = .ok (.ifCond .ne 5, 3) := by decide +kernel
theorem dX10_standby_11 : decode cX10_standby 11 = .ok (.iconst (-1), 1) := by decide +kernel
theorem dX10_standby_12 : decode cX10_standby 12 = .ok (.ireturn, 1) := by decide +kernel
theorem dX10_standby_13 : decode cX10_standby 13 = .ok (.aload_n 0, 1) := by decide +kernel
theorem dX10_standby_14 : decode cX10_standby 14 = .ok (.getfield 109, 3) := by decide +kernel
theorem dX10_standby_17 : decode cX10_standby 17 = .ok (.istore_n 2, 1) := by decide +kernel
theorem dX10_standby_18 : decode cX10_standby 18 = .ok (.aload_n 0, 1) := by decide +kernel
theorem dX10_standby_19 : decode cX10_standby 19 = .ok (.iload_n 1, 1) := by decide +kernel
theorem dX10_standby_20 : decode cX10_standby 20 = .ok (.putfield 109, 3) := by decide +kernel
theorem dX10_standby_23 : decode cX10_standby 23 = .ok (.iload_n 2, 1) := by decide +kernel
theorem dX10_standby_24 : decode cX10_standby 24 = .ok (.ireturn, 1) := by decide +kernel
set_option maxRecDepth 20000 in
theorem ggX10_rule_X10_in : GoodIn wsX10_rule wsX10_in := goodIn_r _ [7] (by decide +kernel) (by decide +kernel)
set_option maxRecDepth 20000 in
theorem gX10_rule_X10_in : GoodIn wsX10_rule (va_wsS RX10 87 yX10_in wsX10_in) := goodIn_app (goodIn_of _ (by decide +kernel)) ggX10_rule_X10_in
theorem dX10_rule_0 : decode cX10_rule 0 = .ok (.iload_n 1, 1) := by decide +kernel
theorem dX10_rule_1 : decode cX10_rule 1 = .ok (.iconst 1, 1) := by decide +kernel
theorem dX10_rule_2 : decode cX10_rule 2 = .ok (.sipush 999, 3) := by decide +kernel
theorem dX10_rule_5 : decode cX10_rule 5 = .ok (.invokestatic 87, 3) := by decide +kernel
theorem dX10_rule_8 : decode cX10_rule 8 = .ok (.ifCond .eq 25, 3) := by decide +kernel
theorem dX10_rule_11 : decode cX10_rule 11 = .ok (.iload_n 2, 1) := by decide +kernel
theorem dX10_rule_12 : decode cX10_rule 12 = .ok (.iconst 1, 1) := by decide +kernel
theorem dX10_rule_13 : decode cX10_rule 13 = .ok (.sipush 999, 3) := by decide +kernel
theorem dX10_rule_16 : decode cX10_rule 16 = .ok (.invokestatic 87, 3) := by decide +kernel
theorem dX10_rule_19 : decode cX10_rule 19 = .ok (.ifCond .eq 14, 3) := by decide +kernel
theorem dX10_rule_22 : decode cX10_rule 22 = .ok (.iload_n 3, 1) := by decide +kernel
theorem dX10_rule_23 : decode cX10_rule 23 = .ok (.iconst 0, 1) := by decide +kernel
theorem dX10_rule_24 : decode cX10_rule 24 = .ok (.sipush 999, 3) := by decide +kernel
theorem dX10_rule_27 : decode cX10_rule 27 = .ok (.invokestatic 87, 3) := by decide +kernel
theorem dX10_rule_30 : decode cX10_rule 30 = .ok (.ifCond .ne 5, 3) := by decide +kernel
theorem dX10_rule_33 : decode cX10_rule 33 = .ok (.iconst (-1), 1) := by decide +kernel
theorem dX10_rule_34 : decode cX10_rule 34 = .ok (.ireturn, 1) := by decide +kernel
theorem dX10_rule_35 : decode cX10_rule 35 = .ok (.aload_n 0, 1) := by decide +kernel
theorem dX10_rule_36 : decode cX10_rule 36 = .ok (.iload_n 1, 1) := by decide +kernel
theorem dX10_rule_37 : decode cX10_rule 37 = .ok (.putfield 22, 3) := by decide +kernel
theorem dX10_rule_40 : decode cX10_rule 40 = .ok (.aload_n 0, 1) := by decide +kernel
theorem dX10_rule_41 : decode cX10_rule 41 = .ok (.iload_n 2, 1) := by decide +kernel
theorem dX10_rule_42 : decode cX10_rule 42 = .ok (.putfield 26, 3) := by decide +kernel
theorem dX10_rule_45 : decode cX10_rule 45 = .ok (.aload_n 0, 1) := by decide +kernel
theorem dX10_rule_46 : decode cX10_rule 46 = .ok (.iload_n 3, 1) := by decide +kernel
theorem dX10_rule_47 : decode cX10_rule 47 = .ok (.putfield 29, 3) := by decide +kernel
theorem dX10_rule_50 : decode cX10_rule 50 = .ok (.iconst 1, 1) := by decide +kernel
theorem dX10_rule_51 : decode cX10_rule 51 = .ok (.ireturn, 1) := by decide +kernel
theorem dX10_later_0 : decode cX10_later 0 = .ok (.iload_n 1, 1) := by decide +kernel
theorem dX10_later_1 : decode cX10_later 1 = .ok (.ifCond .lt 15, 3) := by decide +kernel
theorem dX10_later_4 : decode cX10_later 4 = .ok (.iload_n 1, 1) := by decide +kernel
theorem dX10_later_5 : decode cX10_later 5 = .ok (.sipush 999, 3) := by decide +kernel
theorem dX10_later_8 : decode cX10_later 8 = .ok (.aload_n 0, 1) := by decide +kernel
theorem dX10_later_9 : decode cX10_later 9 = .ok (.getfield 106, 3) := by decide +kernel
theorem dX10_later_12 : decode cX10_later 12 = .ok (.isub, 1) := by decide +kernel
theorem dX10_later_13 : decode cX10_later 13 = .ok (.if_icmp .le 5, 3) := by decide +kernel
theorem dX10_later_16 : decode cX10_later 16 = .ok (.iconst (-1), 1) := by decide +kernel
theorem dX10_later_17 : decode cX10_later 17 = .ok (.ireturn, 1) := by decide +kernel
theorem dX10_later_18 : decode cX10_later 18 = .ok (.aload_n 0, 1) := by decide +kernel
theorem dX10_later_19 : decode cX10_later 19 = .ok (.dup, 1) := by decide +kernel
theorem dX10_later_20 : decode cX10_later 20 = .ok (.getfield 106, 3) := by decide +kernel
theorem dX10_later_23 : decode cX10_later 23 = .ok (.iload_n 1, 1) := by decide +kernel
theorem dX10_later_24 : decode cX10_later 24 = .ok (.iadd, 1) := by decide +kernel
theorem dX10_later_25 : decode cX10_later 25 = .ok (.putfield 106, 3) := by decide +kernel
theorem dX10_later_28 : decode cX10_later 28 = .ok (.aload_n 0, 1) := by decide +kernel
theorem dX10_later_29 : decode cX10_later 29 = .ok (.getfield 106, 3) := by decide +kernel
theorem dX10_later_32 : decode cX10_later 32 = .ok (.ireturn, 1) := by decide +kernel
set_option maxRecDepth 20000 in
theorem ggX10_use_X10_isPerson : GoodIn wsX10_use wsX10_isPerson := goodIn_r _ [11, 12, 13, 14, 10, 15, 22, 23, 24, 25, 26, 27, 28, 29, 30, 31, 32, 33, 34, 35, 36, 37, 38, 39, 40, 41, 42, 43, 44, 45, 46, 47, 48, 49, 50, 51, 52, 53] (by decide +kernel) (by decide +kernel)
set_option maxRecDepth 20000 in
theorem gX10_use_X10_isPerson : GoodIn wsX10_use (wsV RX10 95 RX10 yX10_isPerson wsX10_isPerson) := goodIn_app (goodIn_of _ (by decide +kernel)) ggX10_use_X10_isPerson
set_option maxRecDepth 20000 in
theorem ggX10_use_X10_isRight : GoodIn wsX10_use wsX10_isRight := goodIn_r _ [18, 13, 14, 10, 15] (by decide +kernel) (by decide +kernel)
set_option maxRecDepth 20000 in
theorem gX10_use_X10_isRight : GoodIn wsX10_use (va_wsS RX10 122 yX10_isRight wsX10_isRight) := goodIn_app (goodIn_of _ (by decide +kernel)) ggX10_use_X10_isRight
set_option maxRecDepth 20000 in
theorem ggX10_use_X10_in : GoodIn wsX10_use wsX10_in := goodIn_r _ [15] (by decide +kernel) (by decide +kernel)
set_option maxRecDepth 20000 in
theorem gX10_use_X10_in : GoodIn wsX10_use (va_wsS RX10 87 yX10_in wsX10_in) := goodIn_app (goodIn_of _ (by decide +kernel)) ggX10_use_X10_in
set_option maxRecDepth 20000 in
theorem ggX10_use_X10_has : GoodIn wsX10_use wsX10_has := goodIn_r _ [21] (by decide +kernel) (by decide +kernel)
set_option maxRecDepth 20000 in
theorem gX10_use_X10_has : GoodIn wsX10_use (va_wsS RX10 91 yX10_has wsX10_has) := goodIn_app (goodIn_of _ (by decide +kernel)) ggX10_use_X10_has
theorem dX10_use_0 : decode cX10_use 0 = .ok (.aload_n 0, 1) := by decide +kernel
theorem dX10_use_1 : decode cX10_use 1 = .ok (.iload_n 1, 1) := by decide +kernel
theorem dX10_use_2 : decode cX10_use 2 = .ok (.invokevirtual 95, 3) := by decide +kernel
theorem dX10_use_5 : decode cX10_use 5 = .ok (.ifCond .eq 22, 3) := by decide +kernel
theorem dX10_use_8 : decode cX10_use 8 = .ok (.iload_n 2, 1) := by decide +kernel
theorem dX10_use_9 : decode cX10_use 9 = .ok (.invokestatic 122, 3) := by decide +kernel
theorem dX10_use_12 : decode cX10_use 12 = .ok (.ifCond .eq 15, 3) := by decide +kernel
theorem dX10_use_15 : decode cX10_use 15 = .ok (.iload_n 3, 1) := by decide +kernel
theorem dX10_use_16 : decode cX10_use 16 = .ok (.iconst 0, 1) := by decide +kernel
theorem dX10_use_17 : decode cX10_use 17 = .ok (.aload_n 0, 1) := by decide +kernel
theorem dX10_use_18 : decode cX10_use 18 = .ok (.getfield 106, 3) := by decide +kernel
theorem dX10_use_21 : decode cX10_use 21 = .ok (.invokestatic 87, 3) := by decide +kernel
theorem dX10_use_24 : decode cX10_use 24 = .ok (.ifCond .ne 5, 3) := by decide +kernel
theorem dX10_use_27 : decode cX10_use 27 = .ok (.iconst (-1), 1) := by decide +kernel
theorem dX10_use_28 : decode cX10_use 28 = .ok (.ireturn, 1) := by decide +kernel
theorem dX10_use_29 : decode cX10_use 29 = .ok (.aload_n 0, 1) := by decide +kernel
theorem dX10_use_30 : decode cX10_use 30 = .ok (.getfield 103, 3) := by decide +kernel
theorem dX10_use_33 : decode cX10_use 33 = .ok (.sipush 400, 3) := by decide +kernel
theorem dX10_use_36 : decode cX10_use 36 = .ok (.if_icmp .ne 6, 3) := by decide +kernel
theorem dX10_use_39 : decode cX10_use 39 = .ok (.bipush (-2), 2) := by decide +kernel
theorem dX10_use_41 : decode cX10_use 41 = .ok (.ireturn, 1) := by decide +kernel
theorem dX10_use_42 : decode cX10_use 42 = .ok (.aload_n 0, 1) := by decide +kernel
theorem dX10_use_43 : decode cX10_use 43 = .ok (.getfield 16, 3) := by decide +kernel
theorem dX10_use_46 : decode cX10_use 46 = .ok (.iload_n 1, 1) := by decide +kernel
theorem dX10_use_47 : decode cX10_use 47 = .ok (.iaload, 1) := by decide +kernel
theorem dX10_use_48 : decode cX10_use 48 = .ok (.iload_n 2, 1) := by decide +kernel
theorem dX10_use_49 : decode cX10_use 49 = .ok (.invokestatic 91, 3) := by decide +kernel
theorem dX10_use_52 : decode cX10_use 52 = .ok (.ifCond .ne 6, 3) := by decide +kernel
theorem dX10_use_55 : decode cX10_use 55 = .ok (.bipush (-4), 2) := by decide +kernel
theorem dX10_use_57 : decode cX10_use 57 = .ok (.ireturn, 1) := by decide +kernel
theorem dX10_use_58 : decode cX10_use 58 = .ok (.aload_n 0, 1) := by decide +kernel
theorem dX10_use_59 : decode cX10_use 59 = .ok (.getfield 32, 3) := by decide +kernel
theorem dX10_use_62 : decode cX10_use 62 = .ok (.aload_n 0, 1) := by decide +kernel
theorem dX10_use_63 : decode cX10_use 63 = .ok (.getfield 103, 3) := by decide +kernel
theorem dX10_use_66 : decode cX10_use 66 = .ok (.iload_n 1, 1) := by decide +kernel
theorem dX10_use_67 : decode cX10_use 67 = .ok (.iastore, 1) := by decide +kernel
theorem dX10_use_68 : decode cX10_use 68 = .ok (.aload_n 0, 1) := by decide +kernel
theorem dX10_use_69 : decode cX10_use 69 = .ok (.getfield 35, 3) := by decide +kernel
theorem dX10_use_72 : decode cX10_use 72 = .ok (.aload_n 0, 1) := by decide +kernel
theorem dX10_use_73 : decode cX10_use 73 = .ok (.getfield 103, 3) := by decide +kernel
theorem dX10_use_76 : decode cX10_use 76 = .ok (.iload_n 2, 1) := by decide +kernel
theorem dX10_use_77 : decode cX10_use 77 = .ok (.iastore, 1) := by decide +kernel
theorem dX10_use_78 : decode cX10_use 78 = .ok (.aload_n 0, 1) := by decide +kernel
theorem dX10_use_79 : decode cX10_use 79 = .ok (.getfield 38, 3) := by decide +kernel
theorem dX10_use_82 : decode cX10_use 82 = .ok (.aload_n 0, 1) := by decide +kernel
theorem dX10_use_83 : decode cX10_use 83 = .ok (.getfield 103, 3) := by decide +kernel
theorem dX10_use_86 : decode cX10_use 86 = .ok (.aload_n 0, 1) := by decide +kernel
theorem dX10_use_87 : decode cX10_use 87 = .ok (.getfield 106, 3) := by decide +kernel
theorem dX10_use_90 : decode cX10_use 90 = .ok (.iload_n 3, 1) := by decide +kernel
theorem dX10_use_91 : decode cX10_use 91 = .ok (.isub, 1) := by decide +kernel
theorem dX10_use_92 : decode cX10_use 92 = .ok (.iastore, 1) := by decide +kernel
theorem dX10_use_93 : decode cX10_use 93 = .ok (.aload_n 0, 1) := by decide +kernel
theorem dX10_use_94 : decode cX10_use 94 = .ok (.dup, 1) := by decide +kernel
theorem dX10_use_95 : decode cX10_use 95 = .ok (.getfield 103, 3) := by decide +kernel
theorem dX10_use_98 : decode cX10_use 98 = .ok (.iconst 1, 1) := by decide +kernel
theorem dX10_use_99 : decode cX10_use 99 = .ok (.iadd, 1) := by decide +kernel
theorem dX10_use_100 : decode cX10_use 100 = .ok (.putfield 103, 3) := by decide +kernel
theorem dX10_use_103 : decode cX10_use 103 = .ok (.aload_n 0, 1) := by decide +kernel
theorem dX10_use_104 : decode cX10_use 104 = .ok (.getfield 103, 3) := by decide +kernel
theorem dX10_use_107 : decode cX10_use 107 = .ok (.ireturn, 1) := by decide +kernel
set_option maxRecDepth 20000 in
theorem ggX10_kind_X10_isPerson : GoodIn wsX10_kind wsX10_isPerson := goodIn_r _ [6, 7, 8, 9, 5, 10, 29, 30, 31, 32, 33, 34, 35, 36, 37, 38, 39, 40, 41, 42, 43, 44, 45, 46, 47, 48, 49, 50, 51, 52, 53, 54, 55, 56, 57, 58, 59, 60] (by decide +kernel) (by decide +kernel)
set_option maxRecDepth 20000 in
theorem gX10_kind_X10_isPerson : GoodIn wsX10_kind (wsV RX10 95 RX10 yX10_isPerson wsX10_isPerson) := goodIn_app (goodIn_of _ (by decide +kernel)) ggX10_kind_X10_isPerson
set_option maxRecDepth 20000 in
theorem ggX10_kind_X10_isRight : GoodIn wsX10_kind wsX10_isRight := goodIn_r _ [13, 8, 9, 5, 10] (by decide +kernel) (by decide +kernel)
set_option maxRecDepth 20000 in
theorem gX10_kind_X10_isRight : GoodIn wsX10_kind (va_wsS RX10 122 yX10_isRight wsX10_isRight) := goodIn_app (goodIn_of _ (by decide +kernel)) ggX10_kind_X10_isRight
set_option maxRecDepth 20000 in
theorem ggX10_kind_X10_has : GoodIn wsX10_kind wsX10_has := goodIn_r _ [16] (by decide +kernel) (by decide +kernel)
set_option maxRecDepth 20000 in
theorem gX10_kind_X10_has : GoodIn wsX10_kind (va_wsS RX10 91 yX10_has wsX10_has) := goodIn_app (goodIn_of _ (by decide +kernel)) ggX10_kind_X10_has
set_option maxRecDepth 20000 in
theorem ggX10_kind_X10_kindOf : GoodIn wsX10_kind wsX10_kindOf := goodIn_r _ [20, 21, 22, 23, 24, 25, 26, 27, 28, 14, 15, 5, 16, 29, 30, 31, 32, 33, 34, 35, 36, 37, 38, 39, 40, 41, 42, 43, 44, 45, 46, 47, 48, 49, 50, 51, 52, 53, 54, 55, 56, 57, 58, 59, 60] (by decide +kernel) (by decide +kernel)
set_option maxRecDepth 20000 in
theorem gX10_kind_X10_kindOf : GoodIn wsX10_kind (wsV RX10 112 RX10 yX10_kindOf wsX10_kindOf) := goodIn_app (goodIn_of _ (by decide +kernel)) ggX10_kind_X10_kindOf
theorem dX10_kind_0 : decode cX10_kind 0 = .ok (.aload_n 0, 1) := by decide +kernel
theorem dX10_kind_1 : decode cX10_kind 1 = .ok (.iload_n 1, 1) := by decide +kernel
theorem dX10_kind_2 : decode cX10_kind 2 = .ok (.invokevirtual 95, 3) := by decide +kernel
theorem dX10_kind_5 : decode cX10_kind 5 = .ok (.ifCond .eq 10, 3) := by decide +kernel
theorem dX10_kind_8 : decode cX10_kind 8 = .ok (.iload_n 2, 1) := by decide +kernel
theorem dX10_kind_9 : decode cX10_kind 9 = .ok (.invokestatic 122, 3) := by decide +kernel
theorem dX10_kind_12 : decode cX10_kind 12 = .ok (.ifCond .ne 5, 3) := by decide +kernel
theorem dX10_kind_15 : decode cX10_kind 15 = .ok (.iconst (-1), 1) := by decide +kernel
theorem dX10_kind_16 : decode cX10_kind 16 = .ok (.ireturn, 1) := by decide +kernel
theorem dX10_kind_17 : decode cX10_kind 17 = .ok (.aload_n 0, 1) := by decide +kernel
theorem dX10_kind_18 : decode cX10_kind 18 = .ok (.getfield 16, 3) := by decide +kernel
theorem dX10_kind_21 : decode cX10_kind 21 = .ok (.iload_n 1, 1) := by decide +kernel
theorem dX10_kind_22 : decode cX10_kind 22 = .ok (.iaload, 1) := by decide +kernel
theorem dX10_kind_23 : decode cX10_kind 23 = .ok (.iload_n 2, 1) := by decide +kernel
theorem dX10_kind_24 : decode cX10_kind 24 = .ok (.invokestatic 91, 3) := by decide +kernel
theorem dX10_kind_27 : decode cX10_kind 27 = .ok (.ifCond .eq 12, 3) := by decide +kernel
theorem dX10_kind_30 : decode cX10_kind 30 = .ok (.aload_n 0, 1) := by decide +kernel
theorem dX10_kind_31 : decode cX10_kind 31 = .ok (.iload_n 1, 1) := by decide +kernel
theorem dX10_kind_32 : decode cX10_kind 32 = .ok (.iload_n 2, 1) := by decide +kernel
theorem dX10_kind_33 : decode cX10_kind 33 = .ok (.invokevirtual 112, 3) := by decide +kernel
theorem dX10_kind_36 : decode cX10_kind 36 = .ok (.goto 5, 3) := by decide +kernel
theorem dX10_kind_39 : decode cX10_kind 39 = .ok (.bipush (-4), 2) := by decide +kernel
theorem dX10_kind_41 : decode cX10_kind 41 = .ok (.ireturn, 1) := by decide +kernel
set_option maxRecDepth 20000 in
theorem ggX10_uses_X10_isPerson : GoodIn wsX10_uses wsX10_isPerson := goodIn_r _ [9, 10, 11, 12, 8, 13, 35, 36, 37, 38, 39, 40, 41, 42, 43, 44, 45, 46, 47, 48, 49, 50, 51, 52, 53, 54, 55, 56, 57, 58, 59, 60, 61, 62, 63, 64, 65, 66] (by decide +kernel) (by decide +kernel)
set_option maxRecDepth 20000 in
theorem gX10_uses_X10_isPerson : GoodIn wsX10_uses (wsV RX10 95 RX10 yX10_isPerson wsX10_isPerson) := goodIn_app (goodIn_of _ (by decide +kernel)) ggX10_uses_X10_isPerson
set_option maxRecDepth 20000 in
theorem ggX10_uses_X10_isRight : GoodIn wsX10_uses wsX10_isRight := goodIn_r _ [16, 11, 12, 8, 13] (by decide +kernel) (by decide +kernel)
set_option maxRecDepth 20000 in
theorem gX10_uses_X10_isRight : GoodIn wsX10_uses (va_wsS RX10 122 yX10_isRight wsX10_isRight) := goodIn_app (goodIn_of _ (by decide +kernel)) ggX10_uses_X10_isRight
set_option maxRecDepth 20000 in
theorem ggX10_uses_X10_in : GoodIn wsX10_uses wsX10_in := goodIn_r _ [13] (by decide +kernel) (by decide +kernel)
set_option maxRecDepth 20000 in
theorem gX10_uses_X10_in : GoodIn wsX10_uses (va_wsS RX10 87 yX10_in wsX10_in) := goodIn_app (goodIn_of _ (by decide +kernel)) ggX10_uses_X10_in
set_option maxRecDepth 20000 in
theorem ggX10_uses_X10_has : GoodIn wsX10_uses wsX10_has := goodIn_r _ [19] (by decide +kernel) (by decide +kernel)
set_option maxRecDepth 20000 in
theorem gX10_uses_X10_has : GoodIn wsX10_uses (va_wsS RX10 91 yX10_has wsX10_has) := goodIn_app (goodIn_of _ (by decide +kernel)) ggX10_uses_X10_has
set_option maxRecDepth 20000 in
theorem ggX10_uses_X10_kindOf : GoodIn wsX10_uses wsX10_kindOf := goodIn_r _ [23, 2, 3, 4, 24, 25, 26, 27, 28, 17, 18, 8, 19, 35, 36, 37, 38, 39, 40, 41, 42, 43, 44, 45, 46, 47, 48, 49, 50, 51, 52, 53, 54, 55, 56, 57, 58, 59, 60, 61, 62, 63, 64, 65, 66] (by decide +kernel) (by decide +kernel)
set_option maxRecDepth 20000 in
theorem gX10_uses_X10_kindOf : GoodIn wsX10_uses (wsV RX10 112 RX10 yX10_kindOf wsX10_kindOf) := goodIn_app (goodIn_of _ (by decide +kernel)) ggX10_uses_X10_kindOf
set_option maxRecDepth 20000 in
theorem ggX10_uses_X10_meets : GoodIn wsX10_uses wsX10_meets := goodIn_r _ [32, 33, 34, 35, 36, 37, 38, 39, 40, 41, 42, 43, 44, 45, 46, 47, 48, 49, 50, 51, 52, 53, 54, 55, 56, 57, 58, 59, 60, 61, 62, 63, 64, 65, 66] (by decide +kernel) (by decide +kernel)
set_option maxRecDepth 20000 in
theorem gX10_uses_X10_meets : GoodIn wsX10_uses (wsV RX10 125 RX10 yX10_meets wsX10_meets) := goodIn_app (goodIn_of _ (by decide +kernel)) ggX10_uses_X10_meets
theorem dX10_uses_0 : decode cX10_uses 0 = .ok (.aload_n 0, 1) := by decide +kernel
theorem dX10_uses_1 : decode cX10_uses 1 = .ok (.iload_n 1, 1) := by decide +kernel
theorem dX10_uses_2 : decode cX10_uses 2 = .ok (.invokevirtual 95, 3) := by decide +kernel
theorem dX10_uses_5 : decode cX10_uses 5 = .ok (.ifCond .eq 19, 3) := by decide +kernel
theorem dX10_uses_8 : decode cX10_uses 8 = .ok (.iload_n 2, 1) := by decide +kernel
theorem dX10_uses_9 : decode cX10_uses 9 = .ok (.invokestatic 122, 3) := by decide +kernel
theorem dX10_uses_12 : decode cX10_uses 12 = .ok (.ifCond .eq 12, 3) := by decide +kernel
theorem dX10_uses_15 : decode cX10_uses 15 = .ok (.iload_n 3, 1) := by decide +kernel
theorem dX10_uses_16 : decode cX10_uses 16 = .ok (.iconst 0, 1) := by decide +kernel
theorem dX10_uses_17 : decode cX10_uses 17 = .ok (.iconst 3, 1) := by decide +kernel
theorem dX10_uses_18 : decode cX10_uses 18 = .ok (.invokestatic 87, 3) := by decide +kernel
theorem dX10_uses_21 : decode cX10_uses 21 = .ok (.ifCond .ne 5, 3) := by decide +kernel
theorem dX10_uses_24 : decode cX10_uses 24 = .ok (.iconst (-1), 1) := by decide +kernel
theorem dX10_uses_25 : decode cX10_uses 25 = .ok (.ireturn, 1) := by decide +kernel
theorem dX10_uses_26 : decode cX10_uses 26 = .ok (.aload_n 0, 1) := by decide +kernel
theorem dX10_uses_27 : decode cX10_uses 27 = .ok (.getfield 16, 3) := by decide +kernel
theorem dX10_uses_30 : decode cX10_uses 30 = .ok (.iload_n 1, 1) := by decide +kernel
theorem dX10_uses_31 : decode cX10_uses 31 = .ok (.iaload, 1) := by decide +kernel
theorem dX10_uses_32 : decode cX10_uses 32 = .ok (.iload_n 2, 1) := by decide +kernel
theorem dX10_uses_33 : decode cX10_uses 33 = .ok (.invokestatic 91, 3) := by decide +kernel
theorem dX10_uses_36 : decode cX10_uses 36 = .ok (.ifCond .ne 6, 3) := by decide +kernel
theorem dX10_uses_39 : decode cX10_uses 39 = .ok (.bipush (-4), 2) := by decide +kernel
theorem dX10_uses_41 : decode cX10_uses 41 = .ok (.ireturn, 1) := by decide +kernel
theorem dX10_uses_42 : decode cX10_uses 42 = .ok (.aload_n 0, 1) := by decide +kernel
theorem dX10_uses_43 : decode cX10_uses 43 = .ok (.iload_n 1, 1) := by decide +kernel
theorem dX10_uses_44 : decode cX10_uses 44 = .ok (.iload_n 2, 1) := by decide +kernel
theorem dX10_uses_45 : decode cX10_uses 45 = .ok (.invokevirtual 112, 3) := by decide +kernel
theorem dX10_uses_48 : decode cX10_uses 48 = .ok (.istore 4, 2) := by decide +kernel
theorem dX10_uses_50 : decode cX10_uses 50 = .ok (.iload_n 3, 1) := by decide +kernel
theorem dX10_uses_51 : decode cX10_uses 51 = .ok (.ifCond .eq 26, 3) := by decide +kernel
theorem dX10_uses_54 : decode cX10_uses 54 = .ok (.iload_n 3, 1) := by decide +kernel
theorem dX10_uses_55 : decode cX10_uses 55 = .ok (.iload 4, 2) := by decide +kernel
theorem dX10_uses_57 : decode cX10_uses 57 = .ok (.if_icmp .eq 20, 3) := by decide +kernel
theorem dX10_uses_60 : decode cX10_uses 60 = .ok (.iload_n 3, 1) := by decide +kernel
theorem dX10_uses_61 : decode cX10_uses 61 = .ok (.iconst 1, 1) := by decide +kernel
theorem dX10_uses_62 : decode cX10_uses 62 = .ok (.if_icmp .ne 9, 3) := by decide +kernel
theorem dX10_uses_65 : decode cX10_uses 65 = .ok (.iload 4, 2) := by decide +kernel
theorem dX10_uses_67 : decode cX10_uses 67 = .ok (.iconst 2, 1) := by decide +kernel
theorem dX10_uses_68 : decode cX10_uses 68 = .ok (.if_icmp .eq 9, 3) := by decide +kernel
theorem dX10_uses_71 : decode cX10_uses 71 = .ok (.aload_n 0, 1) := by decide +kernel
theorem dX10_uses_72 : decode cX10_uses 72 = .ok (.iconst 3, 1) := by decide +kernel
theorem dX10_uses_73 : decode cX10_uses 73 = .ok (.invokevirtual 125, 3) := by decide +kernel
theorem dX10_uses_76 : decode cX10_uses 76 = .ok (.ireturn, 1) := by decide +kernel
theorem dX10_uses_77 : decode cX10_uses 77 = .ok (.iconst 0, 1) := by decide +kernel
theorem dX10_uses_78 : decode cX10_uses 78 = .ok (.istore 5, 2) := by decide +kernel
theorem dX10_uses_80 : decode cX10_uses 80 = .ok (.iconst 0, 1) := by decide +kernel
theorem dX10_uses_81 : decode cX10_uses 81 = .ok (.istore 6, 2) := by decide +kernel
theorem dX10_uses_83 : decode cX10_uses 83 = .ok (.iload 6, 2) := by decide +kernel
theorem dX10_uses_85 : decode cX10_uses 85 = .ok (.aload_n 0, 1) := by decide +kernel
theorem dX10_uses_86 : decode cX10_uses 86 = .ok (.getfield 103, 3) := by decide +kernel
theorem dX10_uses_89 : decode cX10_uses 89 = .ok (.if_icmp .ge 41, 3) := by decide +kernel
theorem dX10_uses_92 : decode cX10_uses 92 = .ok (.iload 5, 2) := by decide +kernel
theorem dX10_uses_94 : decode cX10_uses 94 = .ok (.aload_n 0, 1) := by decide +kernel
theorem dX10_uses_95 : decode cX10_uses 95 = .ok (.getfield 32, 3) := by decide +kernel
theorem dX10_uses_98 : decode cX10_uses 98 = .ok (.iload 6, 2) := by decide +kernel
theorem dX10_uses_100 : decode cX10_uses 100 = .ok (.iaload, 1) := by decide +kernel
theorem dX10_uses_101 : decode cX10_uses 101 = .ok (.iload_n 1, 1) := by decide +kernel
theorem dX10_uses_102 : decode cX10_uses 102 = .ok (.if_icmp .ne 18, 3) := by decide +kernel
theorem dX10_uses_105 : decode cX10_uses 105 = .ok (.aload_n 0, 1) := by decide +kernel
theorem dX10_uses_106 : decode cX10_uses 106 = .ok (.getfield 35, 3) := by decide +kernel
theorem dX10_uses_109 : decode cX10_uses 109 = .ok (.iload 6, 2) := by decide +kernel
theorem dX10_uses_111 : decode cX10_uses 111 = .ok (.iaload, 1) := by decide +kernel
theorem dX10_uses_112 : decode cX10_uses 112 = .ok (.iload_n 2, 1) := by decide +kernel
theorem dX10_uses_113 : decode cX10_uses 113 = .ok (.if_icmp .ne 7, 3) := by decide +kernel
theorem dX10_uses_116 : decode cX10_uses 116 = .ok (.iconst 1, 1) := by decide +kernel
theorem dX10_uses_117 : decode cX10_uses 117 = .ok (.goto 4, 3) := by decide +kernel
theorem dX10_uses_120 : decode cX10_uses 120 = .ok (.iconst 0, 1) := by decide +kernel
theorem dX10_uses_121 : decode cX10_uses 121 = .ok (.iadd, 1) := by decide +kernel
theorem dX10_uses_122 : decode cX10_uses 122 = .ok (.istore 5, 2) := by decide +kernel
theorem dX10_uses_124 : decode cX10_uses 124 = .ok (.iinc 6 1, 3) := by decide +kernel
theorem dX10_uses_127 : decode cX10_uses 127 = .ok (.goto (-44), 3) := by decide +kernel
theorem dX10_uses_130 : decode cX10_uses 130 = .ok (.iload 5, 2) := by decide +kernel
theorem dX10_uses_132 : decode cX10_uses 132 = .ok (.ireturn, 1) := by decide +kernel
set_option maxRecDepth 20000 in
theorem ggX10_strikeBut_X10_has : GoodIn wsX10_strikeBut wsX10_has := goodIn_r _ [7] (by decide +kernel) (by decide +kernel)
set_option maxRecDepth 20000 in
theorem gX10_strikeBut_X10_has : GoodIn wsX10_strikeBut (va_wsS RX10 91 yX10_has wsX10_has) := goodIn_app (goodIn_of _ (by decide +kernel)) ggX10_strikeBut_X10_has
theorem dX10_strikeBut_0 : decode cX10_strikeBut 0 = .ok (.iconst 0, 1) := by decide +kernel
theorem dX10_strikeBut_1 : decode cX10_strikeBut 1 = .ok (.istore_n 3, 1) := by decide +kernel
theorem dX10_strikeBut_2 : decode cX10_strikeBut 2 = .ok (.iconst 0, 1) := by decide +kernel
theorem dX10_strikeBut_3 : decode cX10_strikeBut 3 = .ok (.istore 4, 2) := by decide +kernel
theorem dX10_strikeBut_5 : decode cX10_strikeBut 5 = .ok (.iload 4, 2) := by decide +kernel
theorem dX10_strikeBut_7 : decode cX10_strikeBut 7 = .ok (.bipush 12, 2) := by decide +kernel
theorem dX10_strikeBut_9 : decode cX10_strikeBut 9 = .ok (.if_icmp .ge 51, 3) := by decide +kernel
theorem dX10_strikeBut_12 : decode cX10_strikeBut 12 = .ok (.aload_n 0, 1) := by decide +kernel
theorem dX10_strikeBut_13 : decode cX10_strikeBut 13 = .ok (.getfield 16, 3) := by decide +kernel
theorem dX10_strikeBut_16 : decode cX10_strikeBut 16 = .ok (.iload_n 1, 1) := by decide +kernel
theorem dX10_strikeBut_17 : decode cX10_strikeBut 17 = .ok (.iaload, 1) := by decide +kernel
theorem dX10_strikeBut_18 : decode cX10_strikeBut 18 = .ok (.iload 4, 2) := by decide +kernel
theorem dX10_strikeBut_20 : decode cX10_strikeBut 20 = .ok (.invokestatic 91, 3) := by decide +kernel
theorem dX10_strikeBut_23 : decode cX10_strikeBut 23 = .ok (.ifCond .eq 31, 3) := by decide +kernel
theorem dX10_strikeBut_26 : decode cX10_strikeBut 26 = .ok (.iload_n 2, 1) := by decide +kernel
theorem dX10_strikeBut_27 : decode cX10_strikeBut 27 = .ok (.iload 4, 2) := by decide +kernel
theorem dX10_strikeBut_29 : decode cX10_strikeBut 29 = .ok (.invokestatic 91, 3) := by decide +kernel
theorem dX10_strikeBut_32 : decode cX10_strikeBut 32 = .ok (.ifCond .ne 22, 3) := by decide +kernel
theorem dX10_strikeBut_35 : decode cX10_strikeBut 35 = .ok (.aload_n 0, 1) := by decide +kernel
theorem dX10_strikeBut_36 : decode cX10_strikeBut 36 = .ok (.getfield 19, 3) := by decide +kernel
theorem dX10_strikeBut_39 : decode cX10_strikeBut 39 = .ok (.bipush 12, 2) := by decide +kernel
theorem dX10_strikeBut_41 : decode cX10_strikeBut 41 = .ok (.iload_n 1, 1) := by decide +kernel
theorem dX10_strikeBut_42 : decode cX10_strikeBut 42 = .ok (.imul, 1) := by decide +kernel
theorem dX10_strikeBut_43 : decode cX10_strikeBut 43 = .ok (.iload 4, 2) := by decide +kernel
theorem dX10_strikeBut_45 : decode cX10_strikeBut 45 = .ok (.iadd, 1) := by decide +kernel
theorem dX10_strikeBut_46 : decode cX10_strikeBut 46 = .ok (.aload_n 0, 1) := by decide +kernel
theorem dX10_strikeBut_47 : decode cX10_strikeBut 47 = .ok (.getfield 106, 3) := by decide +kernel
theorem dX10_strikeBut_50 : decode cX10_strikeBut 50 = .ok (.iastore, 1) := by decide +kernel
theorem dX10_strikeBut_51 : decode cX10_strikeBut 51 = .ok (.iinc 3 1, 3) := by decide +kernel
theorem dX10_strikeBut_54 : decode cX10_strikeBut 54 = .ok (.iinc 4 1, 3) := by decide +kernel
theorem dX10_strikeBut_57 : decode cX10_strikeBut 57 = .ok (.goto (-52), 3) := by decide +kernel
theorem dX10_strikeBut_60 : decode cX10_strikeBut 60 = .ok (.aload_n 0, 1) := by decide +kernel
theorem dX10_strikeBut_61 : decode cX10_strikeBut 61 = .ok (.getfield 16, 3) := by decide +kernel
theorem dX10_strikeBut_64 : decode cX10_strikeBut 64 = .ok (.iload_n 1, 1) := by decide +kernel
theorem dX10_strikeBut_65 : decode cX10_strikeBut 65 = .ok (.dup2, 1) := by decide +kernel
theorem dX10_strikeBut_66 : decode cX10_strikeBut 66 = .ok (.iaload, 1) := by decide +kernel
theorem dX10_strikeBut_67 : decode cX10_strikeBut 67 = .ok (.iload_n 2, 1) := by decide +kernel
theorem dX10_strikeBut_68 : decode cX10_strikeBut 68 = .ok (.iand, 1) := by decide +kernel
theorem dX10_strikeBut_69 : decode cX10_strikeBut 69 = .ok (.iastore, 1) := by decide +kernel
theorem dX10_strikeBut_70 : decode cX10_strikeBut 70 = .ok (.iload_n 3, 1) := by decide +kernel
theorem dX10_strikeBut_71 : decode cX10_strikeBut 71 = .ok (.ireturn, 1) := by decide +kernel
set_option maxRecDepth 20000 in
theorem ggX10_strike_X10_isPerson : GoodIn wsX10_strike wsX10_isPerson := goodIn_r _ [5, 6, 7, 8, 4, 9, 35, 36, 37, 38, 39, 40, 41, 42, 43, 44, 45, 46, 47, 48, 49, 50, 51, 52, 53, 54, 55, 56, 57, 58, 59, 60, 61, 62, 63, 64, 65, 66] (by decide +kernel) (by decide +kernel)
set_option maxRecDepth 20000 in
theorem gX10_strike_X10_isPerson : GoodIn wsX10_strike (wsV RX10 95 RX10 yX10_isPerson wsX10_isPerson) := goodIn_app (goodIn_of _ (by decide +kernel)) ggX10_strike_X10_isPerson
set_option maxRecDepth 20000 in
theorem ggX10_strike_X10_keptOf : GoodIn wsX10_strike wsX10_keptOf := goodIn_r _ [13, 14, 15, 16, 4, 17, 18, 19, 20, 21, 22, 23, 24, 25, 26, 27, 28, 29, 35, 36, 37, 38, 39, 40, 41, 42, 43, 44, 45, 46, 47, 48, 49, 50, 51, 52, 53, 54, 55, 56, 57, 58, 59, 60, 61, 62, 63, 64, 65, 66] (by decide +kernel) (by decide +kernel)
set_option maxRecDepth 20000 in
theorem gX10_strike_X10_keptOf : GoodIn wsX10_strike (wsV RX10 115 RX10 yX10_keptOf wsX10_keptOf) := goodIn_app (goodIn_of _ (by decide +kernel)) ggX10_strike_X10_keptOf
set_option maxRecDepth 20000 in
theorem ggX10_strike_X10_strikeBut : GoodIn wsX10_strike wsX10_strikeBut := goodIn_r _ [33, 14, 34, 25, 15, 16, 4, 17, 35, 36, 37, 38, 39, 40, 41, 42, 43, 44, 45, 46, 47, 48, 49, 50, 51, 52, 53, 54, 55, 56, 57, 58, 59, 60, 61, 62, 63, 64, 65, 66] (by decide +kernel) (by decide +kernel)
set_option maxRecDepth 20000 in
theorem gX10_strike_X10_strikeBut : GoodIn wsX10_strike (wsV RX10 128 RX10 yX10_strikeBut wsX10_strikeBut) := goodIn_app (goodIn_of _ (by decide +kernel)) ggX10_strike_X10_strikeBut
theorem dX10_strike_0 : decode cX10_strike 0 = .ok (.aload_n 0, 1) := by decide +kernel
theorem dX10_strike_1 : decode cX10_strike 1 = .ok (.iload_n 1, 1) := by decide +kernel
theorem dX10_strike_2 : decode cX10_strike 2 = .ok (.invokevirtual 95, 3) := by decide +kernel
theorem dX10_strike_5 : decode cX10_strike 5 = .ok (.ifCond .eq 16, 3) := by decide +kernel
theorem dX10_strike_8 : decode cX10_strike 8 = .ok (.aload_n 0, 1) := by decide +kernel
theorem dX10_strike_9 : decode cX10_strike 9 = .ok (.iload_n 1, 1) := by decide +kernel
theorem dX10_strike_10 : decode cX10_strike 10 = .ok (.aload_n 0, 1) := by decide +kernel
theorem dX10_strike_11 : decode cX10_strike 11 = .ok (.iload_n 1, 1) := by decide +kernel
theorem dX10_strike_12 : decode cX10_strike 12 = .ok (.invokevirtual 115, 3) := by decide +kernel
theorem dX10_strike_15 : decode cX10_strike 15 = .ok (.invokevirtual 128, 3) := by decide +kernel
theorem dX10_strike_18 : decode cX10_strike 18 = .ok (.goto 4, 3) := by decide +kernel
theorem dX10_strike_21 : decode cX10_strike 21 = .ok (.iconst (-1), 1) := by decide +kernel
theorem dX10_strike_22 : decode cX10_strike 22 = .ok (.ireturn, 1) := by decide +kernel
set_option maxRecDepth 20000 in
theorem ggX10_ask_X10_isPerson : GoodIn wsX10_ask wsX10_isPerson := goodIn_r _ [10, 11, 12, 13, 9, 14, 21, 22, 23, 24, 25, 26, 27, 28, 29, 30, 31, 32, 33, 34, 35, 36, 37, 38, 39, 40, 41, 42, 43, 44, 45, 46, 47, 48, 49, 50, 51, 52] (by decide +kernel) (by decide +kernel)
set_option maxRecDepth 20000 in
theorem gX10_ask_X10_isPerson : GoodIn wsX10_ask (wsV RX10 95 RX10 yX10_isPerson wsX10_isPerson) := goodIn_app (goodIn_of _ (by decide +kernel)) ggX10_ask_X10_isPerson
set_option maxRecDepth 20000 in
theorem ggX10_ask_X10_isRight : GoodIn wsX10_ask wsX10_isRight := goodIn_r _ [17, 12, 13, 9, 14] (by decide +kernel) (by decide +kernel)
set_option maxRecDepth 20000 in
theorem gX10_ask_X10_isRight : GoodIn wsX10_ask (va_wsS RX10 122 yX10_isRight wsX10_isRight) := goodIn_app (goodIn_of _ (by decide +kernel)) ggX10_ask_X10_isRight
set_option maxRecDepth 20000 in
theorem ggX10_ask_X10_has : GoodIn wsX10_ask wsX10_has := goodIn_r _ [20] (by decide +kernel) (by decide +kernel)
set_option maxRecDepth 20000 in
theorem gX10_ask_X10_has : GoodIn wsX10_ask (va_wsS RX10 91 yX10_has wsX10_has) := goodIn_app (goodIn_of _ (by decide +kernel)) ggX10_ask_X10_has
theorem dX10_ask_0 : decode cX10_ask 0 = .ok (.aload_n 0, 1) := by decide +kernel
theorem dX10_ask_1 : decode cX10_ask 1 = .ok (.iload_n 1, 1) := by decide +kernel
theorem dX10_ask_2 : decode cX10_ask 2 = .ok (.invokevirtual 95, 3) := by decide +kernel
theorem dX10_ask_5 : decode cX10_ask 5 = .ok (.ifCond .eq 10, 3) := by decide +kernel
theorem dX10_ask_8 : decode cX10_ask 8 = .ok (.iload_n 2, 1) := by decide +kernel
theorem dX10_ask_9 : decode cX10_ask 9 = .ok (.invokestatic 122, 3) := by decide +kernel
theorem dX10_ask_12 : decode cX10_ask 12 = .ok (.ifCond .ne 5, 3) := by decide +kernel
theorem dX10_ask_15 : decode cX10_ask 15 = .ok (.iconst (-1), 1) := by decide +kernel
theorem dX10_ask_16 : decode cX10_ask 16 = .ok (.ireturn, 1) := by decide +kernel
theorem dX10_ask_17 : decode cX10_ask 17 = .ok (.aload_n 0, 1) := by decide +kernel
theorem dX10_ask_18 : decode cX10_ask 18 = .ok (.getfield 19, 3) := by decide +kernel
theorem dX10_ask_21 : decode cX10_ask 21 = .ok (.bipush 12, 2) := by decide +kernel
theorem dX10_ask_23 : decode cX10_ask 23 = .ok (.iload_n 1, 1) := by decide +kernel
theorem dX10_ask_24 : decode cX10_ask 24 = .ok (.imul, 1) := by decide +kernel
theorem dX10_ask_25 : decode cX10_ask 25 = .ok (.iload_n 2, 1) := by decide +kernel
theorem dX10_ask_26 : decode cX10_ask 26 = .ok (.iadd, 1) := by decide +kernel
theorem dX10_ask_27 : decode cX10_ask 27 = .ok (.iaload, 1) := by decide +kernel
theorem dX10_ask_28 : decode cX10_ask 28 = .ok (.istore_n 3, 1) := by decide +kernel
theorem dX10_ask_29 : decode cX10_ask 29 = .ok (.aload_n 0, 1) := by decide +kernel
theorem dX10_ask_30 : decode cX10_ask 30 = .ok (.getfield 16, 3) := by decide +kernel
theorem dX10_ask_33 : decode cX10_ask 33 = .ok (.iload_n 1, 1) := by decide +kernel
theorem dX10_ask_34 : decode cX10_ask 34 = .ok (.iaload, 1) := by decide +kernel
theorem dX10_ask_35 : decode cX10_ask 35 = .ok (.iload_n 2, 1) := by decide +kernel
theorem dX10_ask_36 : decode cX10_ask 36 = .ok (.invokestatic 91, 3) := by decide +kernel
theorem dX10_ask_39 : decode cX10_ask 39 = .ok (.ifCond .eq 7, 3) := by decide +kernel
theorem dX10_ask_42 : decode cX10_ask 42 = .ok (.iconst 2, 1) := by decide +kernel
theorem dX10_ask_43 : decode cX10_ask 43 = .ok (.goto 25, 3) := by decide +kernel
theorem dX10_ask_46 : decode cX10_ask 46 = .ok (.iload_n 3, 1) := by decide +kernel
theorem dX10_ask_47 : decode cX10_ask 47 = .ok (.ifCond .lt 20, 3) := by decide +kernel
theorem dX10_ask_50 : decode cX10_ask 50 = .ok (.aload_n 0, 1) := by decide +kernel
theorem dX10_ask_51 : decode cX10_ask 51 = .ok (.getfield 106, 3) := by decide +kernel
theorem dX10_ask_54 : decode cX10_ask 54 = .ok (.iload_n 3, 1) := by decide +kernel
theorem dX10_ask_55 : decode cX10_ask 55 = .ok (.isub, 1) := by decide +kernel
theorem dX10_ask_56 : decode cX10_ask 56 = .ok (.aload_n 0, 1) := by decide +kernel
theorem dX10_ask_57 : decode cX10_ask 57 = .ok (.getfield 29, 3) := by decide +kernel
theorem dX10_ask_60 : decode cX10_ask 60 = .ok (.if_icmp .gt 7, 3) := by decide +kernel
theorem dX10_ask_63 : decode cX10_ask 63 = .ok (.iconst 1, 1) := by decide +kernel
theorem dX10_ask_64 : decode cX10_ask 64 = .ok (.goto 4, 3) := by decide +kernel
theorem dX10_ask_67 : decode cX10_ask 67 = .ok (.iconst 0, 1) := by decide +kernel
theorem dX10_ask_68 : decode cX10_ask 68 = .ok (.istore 4, 2) := by decide +kernel
theorem dX10_ask_70 : decode cX10_ask 70 = .ok (.iload 4, 2) := by decide +kernel
theorem dX10_ask_72 : decode cX10_ask 72 = .ok (.iconst 1, 1) := by decide +kernel
theorem dX10_ask_73 : decode cX10_ask 73 = .ok (.if_icmp .ne 28, 3) := by decide +kernel
theorem dX10_ask_76 : decode cX10_ask 76 = .ok (.aload_n 0, 1) := by decide +kernel
theorem dX10_ask_77 : decode cX10_ask 77 = .ok (.getfield 16, 3) := by decide +kernel
theorem dX10_ask_80 : decode cX10_ask 80 = .ok (.iload_n 1, 1) := by decide +kernel
theorem dX10_ask_81 : decode cX10_ask 81 = .ok (.dup2, 1) := by decide +kernel
theorem dX10_ask_82 : decode cX10_ask 82 = .ok (.iaload, 1) := by decide +kernel
theorem dX10_ask_83 : decode cX10_ask 83 = .ok (.iconst 1, 1) := by decide +kernel
theorem dX10_ask_84 : decode cX10_ask 84 = .ok (.iload_n 2, 1) := by decide +kernel
theorem dX10_ask_85 : decode cX10_ask 85 = .ok (.ishl, 1) := by decide +kernel
theorem dX10_ask_86 : decode cX10_ask 86 = .ok (.ior, 1) := by decide +kernel
theorem dX10_ask_87 : decode cX10_ask 87 = .ok (.iastore, 1) := by decide +kernel
theorem dX10_ask_88 : decode cX10_ask 88 = .ok (.aload_n 0, 1) := by decide +kernel
theorem dX10_ask_89 : decode cX10_ask 89 = .ok (.getfield 19, 3) := by decide +kernel
theorem dX10_ask_92 : decode cX10_ask 92 = .ok (.bipush 12, 2) := by decide +kernel
theorem dX10_ask_94 : decode cX10_ask 94 = .ok (.iload_n 1, 1) := by decide +kernel
theorem dX10_ask_95 : decode cX10_ask 95 = .ok (.imul, 1) := by decide +kernel
theorem dX10_ask_96 : decode cX10_ask 96 = .ok (.iload_n 2, 1) := by decide +kernel
theorem dX10_ask_97 : decode cX10_ask 97 = .ok (.iadd, 1) := by decide +kernel
theorem dX10_ask_98 : decode cX10_ask 98 = .ok (.bipush (-9), 2) := by decide +kernel
theorem dX10_ask_100 : decode cX10_ask 100 = .ok (.iastore, 1) := by decide +kernel
theorem dX10_ask_101 : decode cX10_ask 101 = .ok (.aload_n 0, 1) := by decide +kernel
theorem dX10_ask_102 : decode cX10_ask 102 = .ok (.getfield 41, 3) := by decide +kernel
theorem dX10_ask_105 : decode cX10_ask 105 = .ok (.iload 4, 2) := by decide +kernel
theorem dX10_ask_107 : decode cX10_ask 107 = .ok (.dup2, 1) := by decide +kernel
theorem dX10_ask_108 : decode cX10_ask 108 = .ok (.iaload, 1) := by decide +kernel
theorem dX10_ask_109 : decode cX10_ask 109 = .ok (.iconst 1, 1) := by decide +kernel
theorem dX10_ask_110 : decode cX10_ask 110 = .ok (.iadd, 1) := by decide +kernel
theorem dX10_ask_111 : decode cX10_ask 111 = .ok (.iastore, 1) := by decide +kernel
theorem dX10_ask_112 : decode cX10_ask 112 = .ok (.iload 4, 2) := by decide +kernel
theorem dX10_ask_114 : decode cX10_ask 114 = .ok (.ireturn, 1) := by decide +kernel
set_option maxRecDepth 20000 in
theorem ggX10_asks_X10_in : GoodIn wsX10_asks wsX10_in := goodIn_r _ [5] (by decide +kernel) (by decide +kernel)
set_option maxRecDepth 20000 in
theorem gX10_asks_X10_in : GoodIn wsX10_asks (va_wsS RX10 87 yX10_in wsX10_in) := goodIn_app (goodIn_of _ (by decide +kernel)) ggX10_asks_X10_in
theorem dX10_asks_0 : decode cX10_asks 0 = .ok (.iload_n 1, 1) := by decide +kernel
theorem dX10_asks_1 : decode cX10_asks 1 = .ok (.iconst 0, 1) := by decide +kernel
theorem dX10_asks_2 : decode cX10_asks 2 = .ok (.iconst 2, 1) := by decide +kernel
theorem dX10_asks_3 : decode cX10_asks 3 = .ok (.invokestatic 87, 3) := by decide +kernel
theorem dX10_asks_6 : decode cX10_asks 6 = .ok (.ifCond .eq 12, 3) := by decide +kernel
theorem dX10_asks_9 : decode cX10_asks 9 = .ok (.aload_n 0, 1) := by decide +kernel
theorem dX10_asks_10 : decode cX10_asks 10 = .ok (.getfield 41, 3) := by decide +kernel
theorem dX10_asks_13 : decode cX10_asks 13 = .ok (.iload_n 1, 1) := by decide +kernel
theorem dX10_asks_14 : decode cX10_asks 14 = .ok (.iaload, 1) := by decide +kernel
theorem dX10_asks_15 : decode cX10_asks 15 = .ok (.goto 4, 3) := by decide +kernel
theorem dX10_asks_18 : decode cX10_asks 18 = .ok (.iconst (-1), 1) := by decide +kernel
theorem dX10_asks_19 : decode cX10_asks 19 = .ok (.ireturn, 1) := by decide +kernel
set_option maxRecDepth 20000 in
theorem ggX10_setCandidates_X10_keptOf : GoodIn wsX10_setCandidates wsX10_keptOf := goodIn_r _ [8, 9, 10, 11, 7, 12, 13, 14, 15, 16, 17, 18, 19, 20, 21, 22, 23, 24, 25, 26, 27, 28, 29, 30, 31, 32, 33, 34, 35, 36, 37, 38, 39, 40, 41, 42, 43, 44, 45, 46, 47, 48, 49, 50, 51, 52, 53, 54, 55, 56] (by decide +kernel) (by decide +kernel)
set_option maxRecDepth 20000 in
theorem gX10_setCandidates_X10_keptOf : GoodIn wsX10_setCandidates (wsV RX10 115 RX10 yX10_keptOf wsX10_keptOf) := goodIn_app (goodIn_of _ (by decide +kernel)) ggX10_setCandidates_X10_keptOf
set_option maxRecDepth 20000 in
theorem ggX10_setCandidates_X10_has : GoodIn wsX10_setCandidates wsX10_has := goodIn_r _ [12] (by decide +kernel) (by decide +kernel)
set_option maxRecDepth 20000 in
theorem gX10_setCandidates_X10_has : GoodIn wsX10_setCandidates (va_wsS RX10 91 yX10_has wsX10_has) := goodIn_app (goodIn_of _ (by decide +kernel)) ggX10_setCandidates_X10_has
theorem dX10_setCandidates_0 : decode cX10_setCandidates 0 = .ok (.iconst 0, 1) := by decide +kernel
theorem dX10_setCandidates_1 : decode cX10_setCandidates 1 = .ok (.istore_n 1, 1) := by decide +kernel
theorem dX10_setCandidates_2 : decode cX10_setCandidates 2 = .ok (.iload_n 1, 1) := by decide +kernel
theorem dX10_setCandidates_3 : decode cX10_setCandidates 3 = .ok (.sipush 4096, 3) := by decide +kernel
theorem dX10_setCandidates_6 : decode cX10_setCandidates 6 = .ok (.if_icmp .ge 16, 3) := by decide +kernel
theorem dX10_setCandidates_9 : decode cX10_setCandidates 9 = .ok (.aload_n 0, 1) := by decide +kernel
theorem dX10_setCandidates_10 : decode cX10_setCandidates 10 = .ok (.getfield 47, 3) := by decide +kernel
theorem dX10_setCandidates_13 : decode cX10_setCandidates 13 = .ok (.iload_n 1, 1) := by decide +kernel
theorem dX10_setCandidates_14 : decode cX10_setCandidates 14 = .ok (.iconst 0, 1) := by decide +kernel
theorem dX10_setCandidates_15 : decode cX10_setCandidates 15 = .ok (.bastore, 1) := by decide +kernel
theorem dX10_setCandidates_16 : decode cX10_setCandidates 16 = .ok (.iinc 1 1, 3) := by decide +kernel
theorem dX10_setCandidates_19 : decode cX10_setCandidates 19 = .ok (.goto (-17), 3) := by decide +kernel
theorem dX10_setCandidates_22 : decode cX10_setCandidates 22 = .ok (.iconst 0, 1) := by decide +kernel
theorem dX10_setCandidates_23 : decode cX10_setCandidates 23 = .ok (.istore_n 1, 1) := by decide +kernel
theorem dX10_setCandidates_24 : decode cX10_setCandidates 24 = .ok (.iload_n 1, 1) := by decide +kernel
theorem dX10_setCandidates_25 : decode cX10_setCandidates 25 = .ok (.aload_n 0, 1) := by decide +kernel
theorem dX10_setCandidates_26 : decode cX10_setCandidates 26 = .ok (.getfield 84, 3) := by decide +kernel
theorem dX10_setCandidates_29 : decode cX10_setCandidates 29 = .ok (.if_icmp .ge 20, 3) := by decide +kernel
theorem dX10_setCandidates_32 : decode cX10_setCandidates 32 = .ok (.aload_n 0, 1) := by decide +kernel
theorem dX10_setCandidates_33 : decode cX10_setCandidates 33 = .ok (.getfield 44, 3) := by decide +kernel
theorem dX10_setCandidates_36 : decode cX10_setCandidates 36 = .ok (.iload_n 1, 1) := by decide +kernel
theorem dX10_setCandidates_37 : decode cX10_setCandidates 37 = .ok (.aload_n 0, 1) := by decide +kernel
theorem dX10_setCandidates_38 : decode cX10_setCandidates 38 = .ok (.iload_n 1, 1) := by decide +kernel
theorem dX10_setCandidates_39 : decode cX10_setCandidates 39 = .ok (.invokevirtual 115, 3) := by decide +kernel
theorem dX10_setCandidates_42 : decode cX10_setCandidates 42 = .ok (.iastore, 1) := by decide +kernel
theorem dX10_setCandidates_43 : decode cX10_setCandidates 43 = .ok (.iinc 1 1, 3) := by decide +kernel
theorem dX10_setCandidates_46 : decode cX10_setCandidates 46 = .ok (.goto (-22), 3) := by decide +kernel
theorem dX10_setCandidates_49 : decode cX10_setCandidates 49 = .ok (.iconst 1, 1) := by decide +kernel
theorem dX10_setCandidates_50 : decode cX10_setCandidates 50 = .ok (.istore_n 1, 1) := by decide +kernel
theorem dX10_setCandidates_51 : decode cX10_setCandidates 51 = .ok (.iload_n 1, 1) := by decide +kernel
theorem dX10_setCandidates_52 : decode cX10_setCandidates 52 = .ok (.iconst 1, 1) := by decide +kernel
theorem dX10_setCandidates_53 : decode cX10_setCandidates 53 = .ok (.aload_n 0, 1) := by decide +kernel
theorem dX10_setCandidates_54 : decode cX10_setCandidates 54 = .ok (.getfield 84, 3) := by decide +kernel
theorem dX10_setCandidates_57 : decode cX10_setCandidates 57 = .ok (.ishl, 1) := by decide +kernel
theorem dX10_setCandidates_58 : decode cX10_setCandidates 58 = .ok (.if_icmp .ge 67, 3) := by decide +kernel
theorem dX10_setCandidates_61 : decode cX10_setCandidates 61 = .ok (.sipush 4095, 3) := by decide +kernel
theorem dX10_setCandidates_64 : decode cX10_setCandidates 64 = .ok (.istore_n 2, 1) := by decide +kernel
theorem dX10_setCandidates_65 : decode cX10_setCandidates 65 = .ok (.iconst 0, 1) := by decide +kernel
theorem dX10_setCandidates_66 : decode cX10_setCandidates 66 = .ok (.istore_n 3, 1) := by decide +kernel
theorem dX10_setCandidates_67 : decode cX10_setCandidates 67 = .ok (.iload_n 3, 1) := by decide +kernel
theorem dX10_setCandidates_68 : decode cX10_setCandidates 68 = .ok (.aload_n 0, 1) := by decide +kernel
theorem dX10_setCandidates_69 : decode cX10_setCandidates 69 = .ok (.getfield 84, 3) := by decide +kernel
theorem dX10_setCandidates_72 : decode cX10_setCandidates 72 = .ok (.if_icmp .ge 32, 3) := by decide +kernel
theorem dX10_setCandidates_75 : decode cX10_setCandidates 75 = .ok (.iload_n 2, 1) := by decide +kernel
theorem dX10_setCandidates_76 : decode cX10_setCandidates 76 = .ok (.iload_n 1, 1) := by decide +kernel
theorem dX10_setCandidates_77 : decode cX10_setCandidates 77 = .ok (.iload_n 3, 1) := by decide +kernel
theorem dX10_setCandidates_78 : decode cX10_setCandidates 78 = .ok (.invokestatic 91, 3) := by decide +kernel
theorem dX10_setCandidates_81 : decode cX10_setCandidates 81 = .ok (.ifCond .eq 12, 3) := by decide +kernel
theorem dX10_setCandidates_84 : decode cX10_setCandidates 84 = .ok (.aload_n 0, 1) := by decide +kernel
theorem dX10_setCandidates_85 : decode cX10_setCandidates 85 = .ok (.getfield 44, 3) := by decide +kernel
theorem dX10_setCandidates_88 : decode cX10_setCandidates 88 = .ok (.iload_n 3, 1) := by decide +kernel
theorem dX10_setCandidates_89 : decode cX10_setCandidates 89 = .ok (.iaload, 1) := by decide +kernel
theorem dX10_setCandidates_90 : decode cX10_setCandidates 90 = .ok (.goto 6, 3) := by decide +kernel
theorem dX10_setCandidates_93 : decode cX10_setCandidates 93 = .ok (.sipush 4095, 3) := by decide +kernel
theorem dX10_setCandidates_96 : decode cX10_setCandidates 96 = .ok (.iand, 1) := by decide +kernel
theorem dX10_setCandidates_97 : decode cX10_setCandidates 97 = .ok (.istore_n 2, 1) := by decide +kernel
theorem dX10_setCandidates_98 : decode cX10_setCandidates 98 = .ok (.iinc 3 1, 3) := by decide +kernel
theorem dX10_setCandidates_101 : decode cX10_setCandidates 101 = .ok (.goto (-34), 3) := by decide +kernel
theorem dX10_setCandidates_104 : decode cX10_setCandidates 104 = .ok (.aload_n 0, 1) := by decide +kernel
theorem dX10_setCandidates_105 : decode cX10_setCandidates 105 = .ok (.getfield 47, 3) := by decide +kernel
theorem dX10_setCandidates_108 : decode cX10_setCandidates 108 = .ok (.iload_n 2, 1) := by decide +kernel
theorem dX10_setCandidates_109 : decode cX10_setCandidates 109 = .ok (.iload_n 2, 1) := by decide +kernel
theorem dX10_setCandidates_110 : decode cX10_setCandidates 110 = .ok (.ifCond .eq 7, 3) := by decide +kernel
theorem dX10_setCandidates_113 : decode cX10_setCandidates 113 = .ok (.iconst 1, 1) := by decide +kernel
theorem dX10_setCandidates_114 : decode cX10_setCandidates 114 = .ok (.goto 4, 3) := by decide +kernel
theorem dX10_setCandidates_117 : decode cX10_setCandidates 117 = .ok (.iconst 0, 1) := by decide +kernel
theorem dX10_setCandidates_118 : decode cX10_setCandidates 118 = .ok (.bastore, 1) := by decide +kernel
theorem dX10_setCandidates_119 : decode cX10_setCandidates 119 = .ok (.iinc 1 1, 3) := by decide +kernel
theorem dX10_setCandidates_122 : decode cX10_setCandidates 122 = .ok (.goto (-71), 3) := by decide +kernel
theorem dX10_setCandidates_125 : decode cX10_setCandidates 125 = .ok (.iconst 0, 1) := by decide +kernel
theorem dX10_setCandidates_126 : decode cX10_setCandidates 126 = .ok (.istore_n 1, 1) := by decide +kernel
theorem dX10_setCandidates_127 : decode cX10_setCandidates 127 = .ok (.iconst 1, 1) := by decide +kernel
theorem dX10_setCandidates_128 : decode cX10_setCandidates 128 = .ok (.istore_n 2, 1) := by decide +kernel
theorem dX10_setCandidates_129 : decode cX10_setCandidates 129 = .ok (.iload_n 2, 1) := by decide +kernel
theorem dX10_setCandidates_130 : decode cX10_setCandidates 130 = .ok (.sipush 4096, 3) := by decide +kernel
theorem dX10_setCandidates_133 : decode cX10_setCandidates 133 = .ok (.if_icmp .ge 26, 3) := by decide +kernel
theorem dX10_setCandidates_136 : decode cX10_setCandidates 136 = .ok (.iload_n 1, 1) := by decide +kernel
theorem dX10_setCandidates_137 : decode cX10_setCandidates 137 = .ok (.aload_n 0, 1) := by decide +kernel
theorem dX10_setCandidates_138 : decode cX10_setCandidates 138 = .ok (.getfield 47, 3) := by decide +kernel
theorem dX10_setCandidates_141 : decode cX10_setCandidates 141 = .ok (.iload_n 2, 1) := by decide +kernel
theorem dX10_setCandidates_142 : decode cX10_setCandidates 142 = .ok (.baload, 1) := by decide +kernel
theorem dX10_setCandidates_143 : decode cX10_setCandidates 143 = .ok (.ifCond .eq 7, 3) := by decide +kernel
theorem dX10_setCandidates_146 : decode cX10_setCandidates 146 = .ok (.iconst 1, 1) := by decide +kernel
theorem dX10_setCandidates_147 : decode cX10_setCandidates 147 = .ok (.goto 4, 3) := by decide +kernel
theorem dX10_setCandidates_150 : decode cX10_setCandidates 150 = .ok (.iconst 0, 1) := by decide +kernel
theorem dX10_setCandidates_151 : decode cX10_setCandidates 151 = .ok (.iadd, 1) := by decide +kernel
theorem dX10_setCandidates_152 : decode cX10_setCandidates 152 = .ok (.istore_n 1, 1) := by decide +kernel
theorem dX10_setCandidates_153 : decode cX10_setCandidates 153 = .ok (.iinc 2 1, 3) := by decide +kernel
theorem dX10_setCandidates_156 : decode cX10_setCandidates 156 = .ok (.goto (-27), 3) := by decide +kernel
theorem dX10_setCandidates_159 : decode cX10_setCandidates 159 = .ok (.iload_n 1, 1) := by decide +kernel
theorem dX10_setCandidates_160 : decode cX10_setCandidates 160 = .ok (.ireturn, 1) := by decide +kernel
set_option maxRecDepth 20000 in
theorem ggX10_candidates_X10_setCandidates : GoodIn wsX10_candidates wsX10_setCandidates := goodIn_r _ [5, 6, 7, 8, 9, 10, 11, 4, 12, 13, 14, 15, 16, 17, 18, 19, 20, 21, 22, 23, 24, 25, 26, 27, 28, 29, 30, 31, 32, 33, 34, 35, 36, 37, 38, 39, 40, 41, 42, 43, 44, 45, 46, 47, 48, 49, 50, 51, 52, 53, 54, 55, 56, 57, 58, 59, 60] (by decide +kernel) (by decide +kernel)
set_option maxRecDepth 20000 in
theorem gX10_candidates_X10_setCandidates : GoodIn wsX10_candidates (wsV RX10 131 RX10 yX10_setCandidates wsX10_setCandidates) := goodIn_app (goodIn_of _ (by decide +kernel)) ggX10_candidates_X10_setCandidates
theorem dX10_candidates_0 : decode cX10_candidates 0 = .ok (.aload_n 0, 1) := by decide +kernel
theorem dX10_candidates_1 : decode cX10_candidates 1 = .ok (.invokevirtual 131, 3) := by decide +kernel
theorem dX10_candidates_4 : decode cX10_candidates 4 = .ok (.ireturn, 1) := by decide +kernel
set_option maxRecDepth 20000 in
theorem ggX10_open_X10_has : GoodIn wsX10_open wsX10_has := goodIn_r _ [7] (by decide +kernel) (by decide +kernel)
set_option maxRecDepth 20000 in
theorem gX10_open_X10_has : GoodIn wsX10_open (va_wsS RX10 91 yX10_has wsX10_has) := goodIn_app (goodIn_of _ (by decide +kernel)) ggX10_open_X10_has
theorem dX10_open_0 : decode cX10_open 0 = .ok (.iconst 0, 1) := by decide +kernel
theorem dX10_open_1 : decode cX10_open 1 = .ok (.istore_n 2, 1) := by decide +kernel
theorem dX10_open_2 : decode cX10_open 2 = .ok (.iload_n 2, 1) := by decide +kernel
theorem dX10_open_3 : decode cX10_open 3 = .ok (.aload_n 0, 1) := by decide +kernel
theorem dX10_open_4 : decode cX10_open 4 = .ok (.getfield 84, 3) := by decide +kernel
theorem dX10_open_7 : decode cX10_open 7 = .ok (.if_icmp .ge 101, 3) := by decide +kernel
theorem dX10_open_10 : decode cX10_open 10 = .ok (.iconst 0, 1) := by decide +kernel
theorem dX10_open_11 : decode cX10_open 11 = .ok (.istore_n 3, 1) := by decide +kernel
theorem dX10_open_12 : decode cX10_open 12 = .ok (.iconst 0, 1) := by decide +kernel
theorem dX10_open_13 : decode cX10_open 13 = .ok (.istore 4, 2) := by decide +kernel
theorem dX10_open_15 : decode cX10_open 15 = .ok (.iload 4, 2) := by decide +kernel
theorem dX10_open_17 : decode cX10_open 17 = .ok (.iload_n 1, 1) := by decide +kernel
theorem dX10_open_18 : decode cX10_open 18 = .ok (.if_icmp .ge 42, 3) := by decide +kernel
theorem dX10_open_21 : decode cX10_open 21 = .ok (.iload_n 3, 1) := by decide +kernel
theorem dX10_open_22 : decode cX10_open 22 = .ok (.aload_n 0, 1) := by decide +kernel
theorem dX10_open_23 : decode cX10_open 23 = .ok (.getfield 54, 3) := by decide +kernel
theorem dX10_open_26 : decode cX10_open 26 = .ok (.iload 4, 2) := by decide +kernel
theorem dX10_open_28 : decode cX10_open 28 = .ok (.iaload, 1) := by decide +kernel
theorem dX10_open_29 : decode cX10_open 29 = .ok (.aload_n 0, 1) := by decide +kernel
theorem dX10_open_30 : decode cX10_open 30 = .ok (.getfield 44, 3) := by decide +kernel
theorem dX10_open_33 : decode cX10_open 33 = .ok (.iload_n 2, 1) := by decide +kernel
theorem dX10_open_34 : decode cX10_open 34 = .ok (.iaload, 1) := by decide +kernel
theorem dX10_open_35 : decode cX10_open 35 = .ok (.iconst (-1), 1) := by decide +kernel
theorem dX10_open_36 : decode cX10_open 36 = .ok (.ixor, 1) := by decide +kernel
theorem dX10_open_37 : decode cX10_open 37 = .ok (.iand, 1) := by decide +kernel
theorem dX10_open_38 : decode cX10_open 38 = .ok (.ifCond .ne 13, 3) := by decide +kernel
theorem dX10_open_41 : decode cX10_open 41 = .ok (.aload_n 0, 1) := by decide +kernel
theorem dX10_open_42 : decode cX10_open 42 = .ok (.getfield 54, 3) := by decide +kernel
theorem dX10_open_45 : decode cX10_open 45 = .ok (.iload 4, 2) := by decide +kernel
theorem dX10_open_47 : decode cX10_open 47 = .ok (.iaload, 1) := by decide +kernel
theorem dX10_open_48 : decode cX10_open 48 = .ok (.goto 4, 3) := by decide +kernel
theorem dX10_open_51 : decode cX10_open 51 = .ok (.iconst 0, 1) := by decide +kernel
theorem dX10_open_52 : decode cX10_open 52 = .ok (.ior, 1) := by decide +kernel
theorem dX10_open_53 : decode cX10_open 53 = .ok (.istore_n 3, 1) := by decide +kernel
theorem dX10_open_54 : decode cX10_open 54 = .ok (.iinc 4 1, 3) := by decide +kernel
theorem dX10_open_57 : decode cX10_open 57 = .ok (.goto (-42), 3) := by decide +kernel
theorem dX10_open_60 : decode cX10_open 60 = .ok (.iconst 0, 1) := by decide +kernel
theorem dX10_open_61 : decode cX10_open 61 = .ok (.istore 4, 2) := by decide +kernel
theorem dX10_open_63 : decode cX10_open 63 = .ok (.iload 4, 2) := by decide +kernel
theorem dX10_open_65 : decode cX10_open 65 = .ok (.bipush 12, 2) := by decide +kernel
theorem dX10_open_67 : decode cX10_open 67 = .ok (.if_icmp .ge 35, 3) := by decide +kernel
theorem dX10_open_70 : decode cX10_open 70 = .ok (.aload_n 0, 1) := by decide +kernel
theorem dX10_open_71 : decode cX10_open 71 = .ok (.getfield 44, 3) := by decide +kernel
theorem dX10_open_74 : decode cX10_open 74 = .ok (.iload_n 2, 1) := by decide +kernel
theorem dX10_open_75 : decode cX10_open 75 = .ok (.iaload, 1) := by decide +kernel
theorem dX10_open_76 : decode cX10_open 76 = .ok (.iload_n 3, 1) := by decide +kernel
theorem dX10_open_77 : decode cX10_open 77 = .ok (.iconst (-1), 1) := by decide +kernel
theorem dX10_open_78 : decode cX10_open 78 = .ok (.ixor, 1) := by decide +kernel
theorem dX10_open_79 : decode cX10_open 79 = .ok (.iand, 1) := by decide +kernel
theorem dX10_open_80 : decode cX10_open 80 = .ok (.iload 4, 2) := by decide +kernel
theorem dX10_open_82 : decode cX10_open 82 = .ok (.invokestatic 91, 3) := by decide +kernel
theorem dX10_open_85 : decode cX10_open 85 = .ok (.ifCond .eq 11, 3) := by decide +kernel
theorem dX10_open_88 : decode cX10_open 88 = .ok (.bipush 12, 2) := by decide +kernel
theorem dX10_open_90 : decode cX10_open 90 = .ok (.iload_n 2, 1) := by decide +kernel
theorem dX10_open_91 : decode cX10_open 91 = .ok (.imul, 1) := by decide +kernel
theorem dX10_open_92 : decode cX10_open 92 = .ok (.iload 4, 2) := by decide +kernel
theorem dX10_open_94 : decode cX10_open 94 = .ok (.iadd, 1) := by decide +kernel
theorem dX10_open_95 : decode cX10_open 95 = .ok (.ireturn, 1) := by decide +kernel
theorem dX10_open_96 : decode cX10_open 96 = .ok (.iinc 4 1, 3) := by decide +kernel
theorem dX10_open_99 : decode cX10_open 99 = .ok (.goto (-36), 3) := by decide +kernel
theorem dX10_open_102 : decode cX10_open 102 = .ok (.iinc 2 1, 3) := by decide +kernel
theorem dX10_open_105 : decode cX10_open 105 = .ok (.goto (-103), 3) := by decide +kernel
theorem dX10_open_108 : decode cX10_open 108 = .ok (.bipush (-9), 2) := by decide +kernel
theorem dX10_open_110 : decode cX10_open 110 = .ok (.ireturn, 1) := by decide +kernel
theorem dX10_level_0 : decode cX10_level 0 = .ok (.aload_n 0, 1) := by decide +kernel
theorem dX10_level_1 : decode cX10_level 1 = .ok (.getfield 60, 3) := by decide +kernel
theorem dX10_level_4 : decode cX10_level 4 = .ok (.iload_n 1, 1) := by decide +kernel
theorem dX10_level_5 : decode cX10_level 5 = .ok (.iload_n 2, 1) := by decide +kernel
theorem dX10_level_6 : decode cX10_level 6 = .ok (.bipush 12, 2) := by decide +kernel
theorem dX10_level_8 : decode cX10_level 8 = .ok (.idiv, 1) := by decide +kernel
theorem dX10_level_9 : decode cX10_level 9 = .ok (.iastore, 1) := by decide +kernel
theorem dX10_level_10 : decode cX10_level 10 = .ok (.aload_n 0, 1) := by decide +kernel
theorem dX10_level_11 : decode cX10_level 11 = .ok (.getfield 57, 3) := by decide +kernel
theorem dX10_level_14 : decode cX10_level 14 = .ok (.iload_n 1, 1) := by decide +kernel
theorem dX10_level_15 : decode cX10_level 15 = .ok (.iload_n 2, 1) := by decide +kernel
theorem dX10_level_16 : decode cX10_level 16 = .ok (.bipush 12, 2) := by decide +kernel
theorem dX10_level_18 : decode cX10_level 18 = .ok (.irem, 1) := by decide +kernel
theorem dX10_level_19 : decode cX10_level 19 = .ok (.iastore, 1) := by decide +kernel
theorem dX10_level_20 : decode cX10_level 20 = .ok (.aload_n 0, 1) := by decide +kernel
theorem dX10_level_21 : decode cX10_level 21 = .ok (.getfield 54, 3) := by decide +kernel
theorem dX10_level_24 : decode cX10_level 24 = .ok (.iload_n 1, 1) := by decide +kernel
theorem dX10_level_25 : decode cX10_level 25 = .ok (.iconst 0, 1) := by decide +kernel
theorem dX10_level_26 : decode cX10_level 26 = .ok (.iastore, 1) := by decide +kernel
theorem dX10_level_27 : decode cX10_level 27 = .ok (.return_, 1) := by decide +kernel
set_option maxRecDepth 20000 in
theorem ggX10_isNext_X10_has : GoodIn wsX10_isNext wsX10_has := goodIn_r _ [9] (by decide +kernel) (by decide +kernel)
set_option maxRecDepth 20000 in
theorem gX10_isNext_X10_has : GoodIn wsX10_isNext (va_wsS RX10 91 yX10_has wsX10_has) := goodIn_app (goodIn_of _ (by decide +kernel)) ggX10_isNext_X10_has
theorem dX10_isNext_0 : decode cX10_isNext 0 = .ok (.aload_n 0, 1) := by decide +kernel
theorem dX10_isNext_1 : decode cX10_isNext 1 = .ok (.getfield 54, 3) := by decide +kernel
theorem dX10_isNext_4 : decode cX10_isNext 4 = .ok (.iload_n 1, 1) := by decide +kernel
theorem dX10_isNext_5 : decode cX10_isNext 5 = .ok (.iaload, 1) := by decide +kernel
theorem dX10_isNext_6 : decode cX10_isNext 6 = .ok (.iconst 1, 1) := by decide +kernel
theorem dX10_isNext_7 : decode cX10_isNext 7 = .ok (.iadd, 1) := by decide +kernel
theorem dX10_isNext_8 : decode cX10_isNext 8 = .ok (.istore_n 2, 1) := by decide +kernel
theorem dX10_isNext_9 : decode cX10_isNext 9 = .ok (.iload_n 2, 1) := by decide +kernel
theorem dX10_isNext_10 : decode cX10_isNext 10 = .ok (.sipush 4096, 3) := by decide +kernel
theorem dX10_isNext_13 : decode cX10_isNext 13 = .ok (.if_icmp .ge 49, 3) := by decide +kernel
theorem dX10_isNext_16 : decode cX10_isNext 16 = .ok (.aload_n 0, 1) := by decide +kernel
theorem dX10_isNext_17 : decode cX10_isNext 17 = .ok (.getfield 47, 3) := by decide +kernel
theorem dX10_isNext_20 : decode cX10_isNext 20 = .ok (.iload_n 2, 1) := by decide +kernel
theorem dX10_isNext_21 : decode cX10_isNext 21 = .ok (.baload, 1) := by decide +kernel
theorem dX10_isNext_22 : decode cX10_isNext 22 = .ok (.ifCond .eq 34, 3) := by decide +kernel
theorem dX10_isNext_25 : decode cX10_isNext 25 = .ok (.iload_n 2, 1) := by decide +kernel
theorem dX10_isNext_26 : decode cX10_isNext 26 = .ok (.aload_n 0, 1) := by decide +kernel
theorem dX10_isNext_27 : decode cX10_isNext 27 = .ok (.getfield 57, 3) := by decide +kernel
theorem dX10_isNext_30 : decode cX10_isNext 30 = .ok (.iload_n 1, 1) := by decide +kernel
theorem dX10_isNext_31 : decode cX10_isNext 31 = .ok (.iaload, 1) := by decide +kernel
theorem dX10_isNext_32 : decode cX10_isNext 32 = .ok (.invokestatic 91, 3) := by decide +kernel
theorem dX10_isNext_35 : decode cX10_isNext 35 = .ok (.ifCond .eq 21, 3) := by decide +kernel
theorem dX10_isNext_38 : decode cX10_isNext 38 = .ok (.iload_n 2, 1) := by decide +kernel
theorem dX10_isNext_39 : decode cX10_isNext 39 = .ok (.aload_n 0, 1) := by decide +kernel
theorem dX10_isNext_40 : decode cX10_isNext 40 = .ok (.getfield 44, 3) := by decide +kernel
theorem dX10_isNext_43 : decode cX10_isNext 43 = .ok (.aload_n 0, 1) := by decide +kernel
theorem dX10_isNext_44 : decode cX10_isNext 44 = .ok (.getfield 60, 3) := by decide +kernel
theorem dX10_isNext_47 : decode cX10_isNext 47 = .ok (.iload_n 1, 1) := by decide +kernel
theorem dX10_isNext_48 : decode cX10_isNext 48 = .ok (.iaload, 1) := by decide +kernel
theorem dX10_isNext_49 : decode cX10_isNext 49 = .ok (.iaload, 1) := by decide +kernel
theorem dX10_isNext_50 : decode cX10_isNext 50 = .ok (.iconst (-1), 1) := by decide +kernel
theorem dX10_isNext_51 : decode cX10_isNext 51 = .ok (.ixor, 1) := by decide +kernel
theorem dX10_isNext_52 : decode cX10_isNext 52 = .ok (.iand, 1) := by decide +kernel
theorem dX10_isNext_53 : decode cX10_isNext 53 = .ok (.ifCond .eq 9, 3) := by decide +kernel
theorem dX10_isNext_56 : decode cX10_isNext 56 = .ok (.iinc 2 1, 3) := by decide +kernel
theorem dX10_isNext_59 : decode cX10_isNext 59 = .ok (.goto (-50), 3) := by decide +kernel
theorem dX10_isNext_62 : decode cX10_isNext 62 = .ok (.aload_n 0, 1) := by decide +kernel
theorem dX10_isNext_63 : decode cX10_isNext 63 = .ok (.getfield 54, 3) := by decide +kernel
theorem dX10_isNext_66 : decode cX10_isNext 66 = .ok (.iload_n 1, 1) := by decide +kernel
theorem dX10_isNext_67 : decode cX10_isNext 67 = .ok (.iload_n 2, 1) := by decide +kernel
theorem dX10_isNext_68 : decode cX10_isNext 68 = .ok (.iastore, 1) := by decide +kernel
theorem dX10_isNext_69 : decode cX10_isNext 69 = .ok (.iload_n 2, 1) := by decide +kernel
theorem dX10_isNext_70 : decode cX10_isNext 70 = .ok (.sipush 4096, 3) := by decide +kernel
theorem dX10_isNext_73 : decode cX10_isNext 73 = .ok (.if_icmp .ge 7, 3) := by decide +kernel
theorem dX10_isNext_76 : decode cX10_isNext 76 = .ok (.iconst 1, 1) := by decide +kernel
theorem dX10_isNext_77 : decode cX10_isNext 77 = .ok (.goto 4, 3) := by decide +kernel
theorem dX10_isNext_80 : decode cX10_isNext 80 = .ok (.iconst 0, 1) := by decide +kernel
theorem dX10_isNext_81 : decode cX10_isNext 81 = .ok (.ireturn, 1) := by decide +kernel
set_option maxRecDepth 20000 in
theorem ggX10_roles_X10_in : GoodIn wsX10_roles wsX10_in := goodIn_r _ [9] (by decide +kernel) (by decide +kernel)
set_option maxRecDepth 20000 in
theorem gX10_roles_X10_in : GoodIn wsX10_roles (va_wsS RX10 87 yX10_in wsX10_in) := goodIn_app (goodIn_of _ (by decide +kernel)) ggX10_roles_X10_in
set_option maxRecDepth 20000 in
theorem ggX10_roles_X10_setCandidates : GoodIn wsX10_roles wsX10_setCandidates := goodIn_r _ [13, 14, 15, 16, 17, 18, 19, 8, 20, 21, 22, 23, 24, 25, 26, 27, 28, 29, 30, 31, 32, 33, 34, 35, 36, 51, 52, 53, 54, 55, 56, 57, 58, 59, 60, 61, 62, 63, 64, 65, 66, 67, 68, 69, 70, 71, 72, 73, 74, 75, 76, 77, 78, 79, 80, 81, 82] (by decide +kernel) (by decide +kernel)
set_option maxRecDepth 20000 in
theorem gX10_roles_X10_setCandidates : GoodIn wsX10_roles (wsV RX10 131 RX10 yX10_setCandidates wsX10_setCandidates) := goodIn_app (goodIn_of _ (by decide +kernel)) ggX10_roles_X10_setCandidates
set_option maxRecDepth 20000 in
theorem ggX10_roles_X10_open : GoodIn wsX10_roles wsX10_open := goodIn_r _ [40, 15, 5, 16, 22, 23, 8, 24, 51, 52, 53, 54, 55, 56, 57, 58, 59, 60, 61, 62, 63, 64, 65, 66, 67, 68, 69, 70, 71, 72, 73, 74, 75, 76, 77, 78, 79, 80, 81, 82] (by decide +kernel) (by decide +kernel)
set_option maxRecDepth 20000 in
theorem gX10_roles_X10_open : GoodIn wsX10_roles (wsV RX10 144 RX10 yX10_open wsX10_open) := goodIn_app (goodIn_of _ (by decide +kernel)) ggX10_roles_X10_open
set_option maxRecDepth 20000 in
theorem ggX10_roles_X10_level : GoodIn wsX10_roles wsX10_level := goodIn_r _ [44, 45, 46, 5, 51, 52, 53, 54, 55, 56, 57, 58, 59, 60, 61, 62, 63, 64, 65, 66, 67, 68, 69, 70, 71, 72, 73, 74, 75, 76, 77, 78, 79, 80, 81, 82] (by decide +kernel) (by decide +kernel)
set_option maxRecDepth 20000 in
theorem gX10_roles_X10_level : GoodIn wsX10_roles (wsV RX10 147 RX10 yX10_level wsX10_level) := goodIn_app (goodIn_of _ (by decide +kernel)) ggX10_roles_X10_level
set_option maxRecDepth 20000 in
theorem ggX10_roles_X10_isNext : GoodIn wsX10_roles wsX10_isNext := goodIn_r _ [50, 5, 14, 46, 16, 45, 22, 23, 8, 24, 51, 52, 53, 54, 55, 56, 57, 58, 59, 60, 61, 62, 63, 64, 65, 66, 67, 68, 69, 70, 71, 72, 73, 74, 75, 76, 77, 78, 79, 80, 81, 82] (by decide +kernel) (by decide +kernel)
set_option maxRecDepth 20000 in
theorem gX10_roles_X10_isNext : GoodIn wsX10_roles (wsV RX10 151 RX10 yX10_isNext wsX10_isNext) := goodIn_app (goodIn_of _ (by decide +kernel)) ggX10_roles_X10_isNext
theorem dX10_roles_0 : decode cX10_roles 0 = .ok (.iload_n 1, 1) := by decide +kernel
theorem dX10_roles_1 : decode cX10_roles 1 = .ok (.iconst 1, 1) := by decide +kernel
theorem dX10_roles_2 : decode cX10_roles 2 = .ok (.sipush 20000, 3) := by decide +kernel
theorem dX10_roles_5 : decode cX10_roles 5 = .ok (.invokestatic 87, 3) := by decide +kernel
theorem dX10_roles_8 : decode cX10_roles 8 = .ok (.ifCond .ne 5, 3) := by decide +kernel
theorem dX10_roles_11 : decode cX10_roles 11 = .ok (.iconst (-1), 1) := by decide +kernel
theorem dX10_roles_12 : decode cX10_roles 12 = .ok (.ireturn, 1) := by decide +kernel
theorem dX10_roles_13 : decode cX10_roles 13 = .ok (.aload_n 0, 1) := by decide +kernel
theorem dX10_roles_14 : decode cX10_roles 14 = .ok (.invokevirtual 131, 3) := by decide +kernel
theorem dX10_roles_17 : decode cX10_roles 17 = .ok (.istore_n 2, 1) := by decide +kernel
theorem dX10_roles_18 : decode cX10_roles 18 = .ok (.aload_n 0, 1) := by decide +kernel
theorem dX10_roles_19 : decode cX10_roles 19 = .ok (.iconst 0, 1) := by decide +kernel
theorem dX10_roles_20 : decode cX10_roles 20 = .ok (.putfield 135, 3) := by decide +kernel
theorem dX10_roles_23 : decode cX10_roles 23 = .ok (.aload_n 0, 1) := by decide +kernel
theorem dX10_roles_24 : decode cX10_roles 24 = .ok (.iconst 0, 1) := by decide +kernel
theorem dX10_roles_25 : decode cX10_roles 25 = .ok (.putfield 138, 3) := by decide +kernel
theorem dX10_roles_28 : decode cX10_roles 28 = .ok (.aload_n 0, 1) := by decide +kernel
theorem dX10_roles_29 : decode cX10_roles 29 = .ok (.sipush 1000, 3) := by decide +kernel
theorem dX10_roles_32 : decode cX10_roles 32 = .ok (.putfield 141, 3) := by decide +kernel
theorem dX10_roles_35 : decode cX10_roles 35 = .ok (.iconst 0, 1) := by decide +kernel
theorem dX10_roles_36 : decode cX10_roles 36 = .ok (.istore_n 3, 1) := by decide +kernel
theorem dX10_roles_37 : decode cX10_roles 37 = .ok (.aload_n 0, 1) := by decide +kernel
theorem dX10_roles_38 : decode cX10_roles 38 = .ok (.iconst 0, 1) := by decide +kernel
theorem dX10_roles_39 : decode cX10_roles 39 = .ok (.invokevirtual 144, 3) := by decide +kernel
theorem dX10_roles_42 : decode cX10_roles 42 = .ok (.istore 4, 2) := by decide +kernel
theorem dX10_roles_44 : decode cX10_roles 44 = .ok (.iload 4, 2) := by decide +kernel
theorem dX10_roles_46 : decode cX10_roles 46 = .ok (.ifCond .ge 5, 3) := by decide +kernel
theorem dX10_roles_49 : decode cX10_roles 49 = .ok (.iconst 0, 1) := by decide +kernel
theorem dX10_roles_50 : decode cX10_roles 50 = .ok (.ireturn, 1) := by decide +kernel
theorem dX10_roles_51 : decode cX10_roles 51 = .ok (.aload_n 0, 1) := by decide +kernel
theorem dX10_roles_52 : decode cX10_roles 52 = .ok (.iconst 0, 1) := by decide +kernel
theorem dX10_roles_53 : decode cX10_roles 53 = .ok (.iload 4, 2) := by decide +kernel
theorem dX10_roles_55 : decode cX10_roles 55 = .ok (.invokevirtual 147, 3) := by decide +kernel
theorem dX10_roles_58 : decode cX10_roles 58 = .ok (.iload_n 3, 1) := by decide +kernel
theorem dX10_roles_59 : decode cX10_roles 59 = .ok (.ifCond .lt 141, 3) := by decide +kernel
theorem dX10_roles_62 : decode cX10_roles 62 = .ok (.aload_n 0, 1) := by decide +kernel
theorem dX10_roles_63 : decode cX10_roles 63 = .ok (.iload_n 3, 1) := by decide +kernel
theorem dX10_roles_64 : decode cX10_roles 64 = .ok (.invokevirtual 151, 3) := by decide +kernel
theorem dX10_roles_67 : decode cX10_roles 67 = .ok (.ifCond .ne 9, 3) := by decide +kernel
theorem dX10_roles_70 : decode cX10_roles 70 = .ok (.iinc 3 (-1), 3) := by decide +kernel
theorem dX10_roles_73 : decode cX10_roles 73 = .ok (.goto (-15), 3) := by decide +kernel
theorem dX10_roles_76 : decode cX10_roles 76 = .ok (.aload_n 0, 1) := by decide +kernel
theorem dX10_roles_77 : decode cX10_roles 77 = .ok (.getfield 135, 3) := by decide +kernel
theorem dX10_roles_80 : decode cX10_roles 80 = .ok (.iload_n 1, 1) := by decide +kernel
theorem dX10_roles_81 : decode cX10_roles 81 = .ok (.if_icmp .ne 11, 3) := by decide +kernel
theorem dX10_roles_84 : decode cX10_roles 84 = .ok (.aload_n 0, 1) := by decide +kernel
theorem dX10_roles_85 : decode cX10_roles 85 = .ok (.iconst 0, 1) := by decide +kernel
theorem dX10_roles_86 : decode cX10_roles 86 = .ok (.putfield 138, 3) := by decide +kernel
theorem dX10_roles_89 : decode cX10_roles 89 = .ok (.bipush (-6), 2) := by decide +kernel
theorem dX10_roles_91 : decode cX10_roles 91 = .ok (.ireturn, 1) := by decide +kernel
theorem dX10_roles_92 : decode cX10_roles 92 = .ok (.aload_n 0, 1) := by decide +kernel
theorem dX10_roles_93 : decode cX10_roles 93 = .ok (.dup, 1) := by decide +kernel
theorem dX10_roles_94 : decode cX10_roles 94 = .ok (.getfield 135, 3) := by decide +kernel
theorem dX10_roles_97 : decode cX10_roles 97 = .ok (.iconst 1, 1) := by decide +kernel
theorem dX10_roles_98 : decode cX10_roles 98 = .ok (.iadd, 1) := by decide +kernel
theorem dX10_roles_99 : decode cX10_roles 99 = .ok (.putfield 135, 3) := by decide +kernel
theorem dX10_roles_102 : decode cX10_roles 102 = .ok (.aload_n 0, 1) := by decide +kernel
theorem dX10_roles_103 : decode cX10_roles 103 = .ok (.iload_n 3, 1) := by decide +kernel
theorem dX10_roles_104 : decode cX10_roles 104 = .ok (.iconst 1, 1) := by decide +kernel
theorem dX10_roles_105 : decode cX10_roles 105 = .ok (.iadd, 1) := by decide +kernel
theorem dX10_roles_106 : decode cX10_roles 106 = .ok (.invokevirtual 144, 3) := by decide +kernel
theorem dX10_roles_109 : decode cX10_roles 109 = .ok (.istore 5, 2) := by decide +kernel
theorem dX10_roles_111 : decode cX10_roles 111 = .ok (.iload 5, 2) := by decide +kernel
theorem dX10_roles_113 : decode cX10_roles 113 = .ok (.ifCond .ge 59, 3) := by decide +kernel
theorem dX10_roles_116 : decode cX10_roles 116 = .ok (.iload_n 3, 1) := by decide +kernel
theorem dX10_roles_117 : decode cX10_roles 117 = .ok (.iconst 1, 1) := by decide +kernel
theorem dX10_roles_118 : decode cX10_roles 118 = .ok (.iadd, 1) := by decide +kernel
theorem dX10_roles_119 : decode cX10_roles 119 = .ok (.aload_n 0, 1) := by decide +kernel
theorem dX10_roles_120 : decode cX10_roles 120 = .ok (.getfield 141, 3) := by decide +kernel
theorem dX10_roles_123 : decode cX10_roles 123 = .ok (.if_icmp .ge 49, 3) := by decide +kernel
theorem dX10_roles_126 : decode cX10_roles 126 = .ok (.aload_n 0, 1) := by decide +kernel
theorem dX10_roles_127 : decode cX10_roles 127 = .ok (.iload_n 3, 1) := by decide +kernel
theorem dX10_roles_128 : decode cX10_roles 128 = .ok (.iconst 1, 1) := by decide +kernel
theorem dX10_roles_129 : decode cX10_roles 129 = .ok (.iadd, 1) := by decide +kernel
theorem dX10_roles_130 : decode cX10_roles 130 = .ok (.putfield 141, 3) := by decide +kernel
theorem dX10_roles_133 : decode cX10_roles 133 = .ok (.aload_n 0, 1) := by decide +kernel
theorem dX10_roles_134 : decode cX10_roles 134 = .ok (.iload_n 3, 1) := by decide +kernel
theorem dX10_roles_135 : decode cX10_roles 135 = .ok (.iconst 1, 1) := by decide +kernel
theorem dX10_roles_136 : decode cX10_roles 136 = .ok (.iadd, 1) := by decide +kernel
theorem dX10_roles_137 : decode cX10_roles 137 = .ok (.putfield 138, 3) := by decide +kernel
theorem dX10_roles_140 : decode cX10_roles 140 = .ok (.iconst 0, 1) := by decide +kernel
theorem dX10_roles_141 : decode cX10_roles 141 = .ok (.istore 6, 2) := by decide +kernel
theorem dX10_roles_143 : decode cX10_roles 143 = .ok (.iload 6, 2) := by decide +kernel
theorem dX10_roles_145 : decode cX10_roles 145 = .ok (.iload_n 3, 1) := by decide +kernel
theorem dX10_roles_146 : decode cX10_roles 146 = .ok (.if_icmp .gt 23, 3) := by decide +kernel
theorem dX10_roles_149 : decode cX10_roles 149 = .ok (.aload_n 0, 1) := by decide +kernel
theorem dX10_roles_150 : decode cX10_roles 150 = .ok (.getfield 51, 3) := by decide +kernel
theorem dX10_roles_153 : decode cX10_roles 153 = .ok (.iload 6, 2) := by decide +kernel
theorem dX10_roles_155 : decode cX10_roles 155 = .ok (.aload_n 0, 1) := by decide +kernel
theorem dX10_roles_156 : decode cX10_roles 156 = .ok (.getfield 54, 3) := by decide +kernel
theorem dX10_roles_159 : decode cX10_roles 159 = .ok (.iload 6, 2) := by decide +kernel
theorem dX10_roles_161 : decode cX10_roles 161 = .ok (.iaload, 1) := by decide +kernel
theorem dX10_roles_162 : decode cX10_roles 162 = .ok (.iastore, 1) := by decide +kernel
theorem dX10_roles_163 : decode cX10_roles 163 = .ok (.iinc 6 1, 3) := by decide +kernel
theorem dX10_roles_166 : decode cX10_roles 166 = .ok (.goto (-23), 3) := by decide +kernel
theorem dX10_roles_169 : decode cX10_roles 169 = .ok (.goto 28, 3) := by decide +kernel
theorem dX10_roles_172 : decode cX10_roles 172 = .ok (.iload 5, 2) := by decide +kernel
theorem dX10_roles_174 : decode cX10_roles 174 = .ok (.ifCond .lt 23, 3) := by decide +kernel
theorem dX10_roles_177 : decode cX10_roles 177 = .ok (.iload_n 3, 1) := by decide +kernel
theorem dX10_roles_178 : decode cX10_roles 178 = .ok (.iconst 2, 1) := by decide +kernel
theorem dX10_roles_179 : decode cX10_roles 179 = .ok (.iadd, 1) := by decide +kernel
theorem dX10_roles_180 : decode cX10_roles 180 = .ok (.aload_n 0, 1) := by decide +kernel
theorem dX10_roles_181 : decode cX10_roles 181 = .ok (.getfield 141, 3) := by decide +kernel
theorem dX10_roles_184 : decode cX10_roles 184 = .ok (.if_icmp .ge 13, 3) := by decide +kernel
theorem dX10_roles_187 : decode cX10_roles 187 = .ok (.iinc 3 1, 3) := by decide +kernel
theorem dX10_roles_190 : decode cX10_roles 190 = .ok (.aload_n 0, 1) := by decide +kernel
theorem dX10_roles_191 : decode cX10_roles 191 = .ok (.iload_n 3, 1) := by decide +kernel
theorem dX10_roles_192 : decode cX10_roles 192 = .ok (.iload 5, 2) := by decide +kernel
theorem dX10_roles_194 : decode cX10_roles 194 = .ok (.invokevirtual 147, 3) := by decide +kernel
theorem dX10_roles_197 : decode cX10_roles 197 = .ok (.goto (-139), 3) := by decide +kernel
theorem dX10_roles_200 : decode cX10_roles 200 = .ok (.aload_n 0, 1) := by decide +kernel
theorem dX10_roles_201 : decode cX10_roles 201 = .ok (.getfield 138, 3) := by decide +kernel
theorem dX10_roles_204 : decode cX10_roles 204 = .ok (.ireturn, 1) := by decide +kernel
theorem dX10_tries_0 : decode cX10_tries 0 = .ok (.aload_n 0, 1) := by decide +kernel
theorem dX10_tries_1 : decode cX10_tries 1 = .ok (.getfield 135, 3) := by decide +kernel
theorem dX10_tries_4 : decode cX10_tries 4 = .ok (.ireturn, 1) := by decide +kernel
set_option maxRecDepth 20000 in
theorem ggX10_role_X10_in : GoodIn wsX10_role wsX10_in := goodIn_r _ [6] (by decide +kernel) (by decide +kernel)
set_option maxRecDepth 20000 in
theorem gX10_role_X10_in : GoodIn wsX10_role (va_wsS RX10 87 yX10_in wsX10_in) := goodIn_app (goodIn_of _ (by decide +kernel)) ggX10_role_X10_in
theorem dX10_role_0 : decode cX10_role 0 = .ok (.iload_n 1, 1) := by decide +kernel
theorem dX10_role_1 : decode cX10_role 1 = .ok (.iconst 0, 1) := by decide +kernel
theorem dX10_role_2 : decode cX10_role 2 = .ok (.aload_n 0, 1) := by decide +kernel
theorem dX10_role_3 : decode cX10_role 3 = .ok (.getfield 138, 3) := by decide +kernel
theorem dX10_role_6 : decode cX10_role 6 = .ok (.iconst 1, 1) := by decide +kernel
theorem dX10_role_7 : decode cX10_role 7 = .ok (.isub, 1) := by decide +kernel
theorem dX10_role_8 : decode cX10_role 8 = .ok (.invokestatic 87, 3) := by decide +kernel
theorem dX10_role_11 : decode cX10_role 11 = .ok (.ifCond .eq 12, 3) := by decide +kernel
theorem dX10_role_14 : decode cX10_role 14 = .ok (.aload_n 0, 1) := by decide +kernel
theorem dX10_role_15 : decode cX10_role 15 = .ok (.getfield 51, 3) := by decide +kernel
theorem dX10_role_18 : decode cX10_role 18 = .ok (.iload_n 1, 1) := by decide +kernel
theorem dX10_role_19 : decode cX10_role 19 = .ok (.iaload, 1) := by decide +kernel
theorem dX10_role_20 : decode cX10_role 20 = .ok (.goto 5, 3) := by decide +kernel
theorem dX10_role_23 : decode cX10_role 23 = .ok (.bipush (-9), 2) := by decide +kernel
theorem dX10_role_25 : decode cX10_role 25 = .ok (.ireturn, 1) := by decide +kernel
set_option maxRecDepth 20000 in
theorem ggX10_rolesOf_X10_isPerson : GoodIn wsX10_rolesOf wsX10_isPerson := goodIn_r _ [7, 8, 9, 10, 6, 11, 32, 33, 34, 35, 36, 37, 38, 39, 40, 41, 42, 43, 44, 45, 46, 47, 48, 49, 50, 51, 52, 53, 54, 55, 56, 57, 58, 59, 60, 61, 62, 63] (by decide +kernel) (by decide +kernel)
set_option maxRecDepth 20000 in
theorem gX10_rolesOf_X10_isPerson : GoodIn wsX10_rolesOf (wsV RX10 95 RX10 yX10_isPerson wsX10_isPerson) := goodIn_app (goodIn_of _ (by decide +kernel)) ggX10_rolesOf_X10_isPerson
set_option maxRecDepth 20000 in
theorem ggX10_rolesOf_X10_keptOf : GoodIn wsX10_rolesOf wsX10_keptOf := goodIn_r _ [15, 16, 17, 18, 6, 19, 20, 21, 22, 23, 24, 25, 26, 27, 28, 29, 30, 31, 32, 33, 34, 35, 36, 37, 38, 39, 40, 41, 42, 43, 44, 45, 46, 47, 48, 49, 50, 51, 52, 53, 54, 55, 56, 57, 58, 59, 60, 61, 62, 63] (by decide +kernel) (by decide +kernel)
set_option maxRecDepth 20000 in
theorem gX10_rolesOf_X10_keptOf : GoodIn wsX10_rolesOf (wsV RX10 115 RX10 yX10_keptOf wsX10_keptOf) := goodIn_app (goodIn_of _ (by decide +kernel)) ggX10_rolesOf_X10_keptOf
theorem dX10_rolesOf_0 : decode cX10_rolesOf 0 = .ok (.aload_n 0, 1) := by decide +kernel
theorem dX10_rolesOf_1 : decode cX10_rolesOf 1 = .ok (.iload_n 1, 1) := by decide +kernel
theorem dX10_rolesOf_2 : decode cX10_rolesOf 2 = .ok (.invokevirtual 95, 3) := by decide +kernel
theorem dX10_rolesOf_5 : decode cX10_rolesOf 5 = .ok (.ifCond .ne 5, 3) := by decide +kernel
theorem dX10_rolesOf_8 : decode cX10_rolesOf 8 = .ok (.iconst (-1), 1) := by decide +kernel
theorem dX10_rolesOf_9 : decode cX10_rolesOf 9 = .ok (.ireturn, 1) := by decide +kernel
theorem dX10_rolesOf_10 : decode cX10_rolesOf 10 = .ok (.aload_n 0, 1) := by decide +kernel
theorem dX10_rolesOf_11 : decode cX10_rolesOf 11 = .ok (.iload_n 1, 1) := by decide +kernel
theorem dX10_rolesOf_12 : decode cX10_rolesOf 12 = .ok (.invokevirtual 115, 3) := by decide +kernel
theorem dX10_rolesOf_15 : decode cX10_rolesOf 15 = .ok (.istore_n 2, 1) := by decide +kernel
theorem dX10_rolesOf_16 : decode cX10_rolesOf 16 = .ok (.iconst 0, 1) := by decide +kernel
theorem dX10_rolesOf_17 : decode cX10_rolesOf 17 = .ok (.istore_n 3, 1) := by decide +kernel
end
section
theorem dX10_rolesOf_18 : decode cX10_rolesOf 18 = .ok (.iconst 0, 1) := by decide +kernel
theorem dX10_rolesOf_19 : decode cX10_rolesOf 19 = .ok (.istore 4, 2) := by decide +kernel
theorem dX10_rolesOf_21 : decode cX10_rolesOf 21 = .ok (.iload 4, 2) := by decide +kernel
theorem dX10_rolesOf_23 : decode cX10_rolesOf 23 = .ok (.aload_n 0, 1) := by decide +kernel
theorem dX10_rolesOf_24 : decode cX10_rolesOf 24 = .ok (.getfield 138, 3) := by decide +kernel
theorem dX10_rolesOf_27 : decode cX10_rolesOf 27 = .ok (.if_icmp .ge 34, 3) := by decide +kernel
theorem dX10_rolesOf_30 : decode cX10_rolesOf 30 = .ok (.iload_n 3, 1) := by decide +kernel
theorem dX10_rolesOf_31 : decode cX10_rolesOf 31 = .ok (.aload_n 0, 1) := by decide +kernel
theorem dX10_rolesOf_32 : decode cX10_rolesOf 32 = .ok (.getfield 51, 3) := by decide +kernel
theorem dX10_rolesOf_35 : decode cX10_rolesOf 35 = .ok (.iload 4, 2) := by decide +kernel
theorem dX10_rolesOf_37 : decode cX10_rolesOf 37 = .ok (.iaload, 1) := by decide +kernel
theorem dX10_rolesOf_38 : decode cX10_rolesOf 38 = .ok (.iload_n 2, 1) := by decide +kernel
theorem dX10_rolesOf_39 : decode cX10_rolesOf 39 = .ok (.iconst (-1), 1) := by decide +kernel
theorem dX10_rolesOf_40 : decode cX10_rolesOf 40 = .ok (.ixor, 1) := by decide +kernel
theorem dX10_rolesOf_41 : decode cX10_rolesOf 41 = .ok (.iand, 1) := by decide +kernel
theorem dX10_rolesOf_42 : decode cX10_rolesOf 42 = .ok (.ifCond .ne 10, 3) := by decide +kernel
theorem dX10_rolesOf_45 : decode cX10_rolesOf 45 = .ok (.iconst 1, 1) := by decide +kernel
theorem dX10_rolesOf_46 : decode cX10_rolesOf 46 = .ok (.iload 4, 2) := by decide +kernel
theorem dX10_rolesOf_48 : decode cX10_rolesOf 48 = .ok (.ishl, 1) := by decide +kernel
theorem dX10_rolesOf_49 : decode cX10_rolesOf 49 = .ok (.goto 4, 3) := by decide +kernel
theorem dX10_rolesOf_52 : decode cX10_rolesOf 52 = .ok (.iconst 0, 1) := by decide +kernel
theorem dX10_rolesOf_53 : decode cX10_rolesOf 53 = .ok (.ior, 1) := by decide +kernel
theorem dX10_rolesOf_54 : decode cX10_rolesOf 54 = .ok (.istore_n 3, 1) := by decide +kernel
theorem dX10_rolesOf_55 : decode cX10_rolesOf 55 = .ok (.iinc 4 1, 3) := by decide +kernel
theorem dX10_rolesOf_58 : decode cX10_rolesOf 58 = .ok (.goto (-37), 3) := by decide +kernel
theorem dX10_rolesOf_61 : decode cX10_rolesOf 61 = .ok (.iload_n 3, 1) := by decide +kernel
theorem dX10_rolesOf_62 : decode cX10_rolesOf 62 = .ok (.ireturn, 1) := by decide +kernel
set_option maxRecDepth 20000 in
theorem ggX10_exceptionsTo_X10_has : GoodIn wsX10_exceptionsTo wsX10_has := goodIn_r _ [7] (by decide +kernel) (by decide +kernel)
set_option maxRecDepth 20000 in
theorem gX10_exceptionsTo_X10_has : GoodIn wsX10_exceptionsTo (va_wsS RX10 91 yX10_has wsX10_has) := goodIn_app (goodIn_of _ (by decide +kernel)) ggX10_exceptionsTo_X10_has
theorem dX10_exceptionsTo_0 : decode cX10_exceptionsTo 0 = .ok (.iconst 0, 1) := by decide +kernel
theorem dX10_exceptionsTo_1 : decode cX10_exceptionsTo 1 = .ok (.istore_n 3, 1) := by decide +kernel
theorem dX10_exceptionsTo_2 : decode cX10_exceptionsTo 2 = .ok (.iconst 0, 1) := by decide +kernel
theorem dX10_exceptionsTo_3 : decode cX10_exceptionsTo 3 = .ok (.istore 4, 2) := by decide +kernel
theorem dX10_exceptionsTo_5 : decode cX10_exceptionsTo 5 = .ok (.iload 4, 2) := by decide +kernel
theorem dX10_exceptionsTo_7 : decode cX10_exceptionsTo 7 = .ok (.aload_n 0, 1) := by decide +kernel
theorem dX10_exceptionsTo_8 : decode cX10_exceptionsTo 8 = .ok (.getfield 84, 3) := by decide +kernel
theorem dX10_exceptionsTo_11 : decode cX10_exceptionsTo 11 = .ok (.if_icmp .ge 57, 3) := by decide +kernel
theorem dX10_exceptionsTo_14 : decode cX10_exceptionsTo 14 = .ok (.iload_n 2, 1) := by decide +kernel
theorem dX10_exceptionsTo_15 : decode cX10_exceptionsTo 15 = .ok (.aload_n 0, 1) := by decide +kernel
theorem dX10_exceptionsTo_16 : decode cX10_exceptionsTo 16 = .ok (.getfield 13, 3) := by decide +kernel
theorem dX10_exceptionsTo_19 : decode cX10_exceptionsTo 19 = .ok (.iload 4, 2) := by decide +kernel
theorem dX10_exceptionsTo_21 : decode cX10_exceptionsTo 21 = .ok (.iaload, 1) := by decide +kernel
theorem dX10_exceptionsTo_22 : decode cX10_exceptionsTo 22 = .ok (.iconst (-1), 1) := by decide +kernel
theorem dX10_exceptionsTo_23 : decode cX10_exceptionsTo 23 = .ok (.ixor, 1) := by decide +kernel
theorem dX10_exceptionsTo_24 : decode cX10_exceptionsTo 24 = .ok (.iand, 1) := by decide +kernel
theorem dX10_exceptionsTo_25 : decode cX10_exceptionsTo 25 = .ok (.ifCond .ne 7, 3) := by decide +kernel
theorem dX10_exceptionsTo_28 : decode cX10_exceptionsTo 28 = .ok (.iconst 1, 1) := by decide +kernel
theorem dX10_exceptionsTo_29 : decode cX10_exceptionsTo 29 = .ok (.goto 4, 3) := by decide +kernel
theorem dX10_exceptionsTo_32 : decode cX10_exceptionsTo 32 = .ok (.iconst 0, 1) := by decide +kernel
theorem dX10_exceptionsTo_33 : decode cX10_exceptionsTo 33 = .ok (.istore 5, 2) := by decide +kernel
theorem dX10_exceptionsTo_35 : decode cX10_exceptionsTo 35 = .ok (.iload_n 3, 1) := by decide +kernel
theorem dX10_exceptionsTo_36 : decode cX10_exceptionsTo 36 = .ok (.iload 5, 2) := by decide +kernel
theorem dX10_exceptionsTo_38 : decode cX10_exceptionsTo 38 = .ok (.aload_n 0, 1) := by decide +kernel
theorem dX10_exceptionsTo_39 : decode cX10_exceptionsTo 39 = .ok (.getfield 16, 3) := by decide +kernel
theorem dX10_exceptionsTo_42 : decode cX10_exceptionsTo 42 = .ok (.iload 4, 2) := by decide +kernel
theorem dX10_exceptionsTo_44 : decode cX10_exceptionsTo 44 = .ok (.iaload, 1) := by decide +kernel
theorem dX10_exceptionsTo_45 : decode cX10_exceptionsTo 45 = .ok (.iload_n 1, 1) := by decide +kernel
theorem dX10_exceptionsTo_46 : decode cX10_exceptionsTo 46 = .ok (.invokestatic 91, 3) := by decide +kernel
theorem dX10_exceptionsTo_49 : decode cX10_exceptionsTo 49 = .ok (.if_icmp .eq 10, 3) := by decide +kernel
theorem dX10_exceptionsTo_52 : decode cX10_exceptionsTo 52 = .ok (.iconst 1, 1) := by decide +kernel
theorem dX10_exceptionsTo_53 : decode cX10_exceptionsTo 53 = .ok (.iload 4, 2) := by decide +kernel
theorem dX10_exceptionsTo_55 : decode cX10_exceptionsTo 55 = .ok (.ishl, 1) := by decide +kernel
theorem dX10_exceptionsTo_56 : decode cX10_exceptionsTo 56 = .ok (.goto 4, 3) := by decide +kernel
theorem dX10_exceptionsTo_59 : decode cX10_exceptionsTo 59 = .ok (.iconst 0, 1) := by decide +kernel
theorem dX10_exceptionsTo_60 : decode cX10_exceptionsTo 60 = .ok (.ior, 1) := by decide +kernel
theorem dX10_exceptionsTo_61 : decode cX10_exceptionsTo 61 = .ok (.istore_n 3, 1) := by decide +kernel
theorem dX10_exceptionsTo_62 : decode cX10_exceptionsTo 62 = .ok (.iinc 4 1, 3) := by decide +kernel
theorem dX10_exceptionsTo_65 : decode cX10_exceptionsTo 65 = .ok (.goto (-60), 3) := by decide +kernel
theorem dX10_exceptionsTo_68 : decode cX10_exceptionsTo 68 = .ok (.iload_n 3, 1) := by decide +kernel
theorem dX10_exceptionsTo_69 : decode cX10_exceptionsTo 69 = .ok (.ireturn, 1) := by decide +kernel
set_option maxRecDepth 20000 in
theorem ggX10_marksOf_X10_isRight : GoodIn wsX10_marksOf wsX10_isRight := goodIn_r _ [6, 7, 8, 5, 9] (by decide +kernel) (by decide +kernel)
set_option maxRecDepth 20000 in
theorem gX10_marksOf_X10_isRight : GoodIn wsX10_marksOf (va_wsS RX10 122 yX10_isRight wsX10_isRight) := goodIn_app (goodIn_of _ (by decide +kernel)) ggX10_marksOf_X10_isRight
set_option maxRecDepth 20000 in
theorem ggX10_marksOf_X10_exceptionsTo : GoodIn wsX10_marksOf wsX10_exceptionsTo := goodIn_r _ [13, 1, 14, 15, 16, 17, 5, 18, 22, 23, 24, 25, 26, 27, 28, 29, 30, 31, 32, 33, 34, 35, 36, 37, 38, 39, 40, 41, 42, 43, 44, 45, 46, 47, 48, 49, 50, 51, 52, 53] (by decide +kernel) (by decide +kernel)
set_option maxRecDepth 20000 in
theorem gX10_marksOf_X10_exceptionsTo : GoodIn wsX10_marksOf (wsV RX10 154 RX10 yX10_exceptionsTo wsX10_exceptionsTo) := goodIn_app (goodIn_of _ (by decide +kernel)) ggX10_marksOf_X10_exceptionsTo
set_option maxRecDepth 20000 in
theorem ggX10_marksOf_X10_bits : GoodIn wsX10_marksOf wsX10_bits := goodIn_r _ [21] (by decide +kernel) (by decide +kernel)
set_option maxRecDepth 20000 in
theorem gX10_marksOf_X10_bits : GoodIn wsX10_marksOf (va_wsS RX10 157 yX10_bits wsX10_bits) := goodIn_app (goodIn_of _ (by decide +kernel)) ggX10_marksOf_X10_bits
theorem dX10_marksOf_0 : decode cX10_marksOf 0 = .ok (.iload_n 1, 1) := by decide +kernel
theorem dX10_marksOf_1 : decode cX10_marksOf 1 = .ok (.invokestatic 122, 3) := by decide +kernel
theorem dX10_marksOf_4 : decode cX10_marksOf 4 = .ok (.ifCond .ne 5, 3) := by decide +kernel
theorem dX10_marksOf_7 : decode cX10_marksOf 7 = .ok (.iconst (-1), 1) := by decide +kernel
theorem dX10_marksOf_8 : decode cX10_marksOf 8 = .ok (.ireturn, 1) := by decide +kernel
theorem dX10_marksOf_9 : decode cX10_marksOf 9 = .ok (.aload_n 0, 1) := by decide +kernel
theorem dX10_marksOf_10 : decode cX10_marksOf 10 = .ok (.getfield 84, 3) := by decide +kernel
theorem dX10_marksOf_13 : decode cX10_marksOf 13 = .ok (.ifCond .ne 6, 3) := by decide +kernel
theorem dX10_marksOf_16 : decode cX10_marksOf 16 = .ok (.bipush (-4), 2) := by decide +kernel
theorem dX10_marksOf_18 : decode cX10_marksOf 18 = .ok (.ireturn, 1) := by decide +kernel
theorem dX10_marksOf_19 : decode cX10_marksOf 19 = .ok (.iconst 0, 1) := by decide +kernel
theorem dX10_marksOf_20 : decode cX10_marksOf 20 = .ok (.istore_n 2, 1) := by decide +kernel
theorem dX10_marksOf_21 : decode cX10_marksOf 21 = .ok (.iconst 1, 1) := by decide +kernel
theorem dX10_marksOf_22 : decode cX10_marksOf 22 = .ok (.istore_n 3, 1) := by decide +kernel
theorem dX10_marksOf_23 : decode cX10_marksOf 23 = .ok (.iload_n 3, 1) := by decide +kernel
theorem dX10_marksOf_24 : decode cX10_marksOf 24 = .ok (.sipush 256, 3) := by decide +kernel
theorem dX10_marksOf_27 : decode cX10_marksOf 27 = .ok (.if_icmp .ge 57, 3) := by decide +kernel
theorem dX10_marksOf_30 : decode cX10_marksOf 30 = .ok (.aload_n 0, 1) := by decide +kernel
theorem dX10_marksOf_31 : decode cX10_marksOf 31 = .ok (.iload_n 1, 1) := by decide +kernel
theorem dX10_marksOf_32 : decode cX10_marksOf 32 = .ok (.iload_n 3, 1) := by decide +kernel
theorem dX10_marksOf_33 : decode cX10_marksOf 33 = .ok (.invokevirtual 154, 3) := by decide +kernel
theorem dX10_marksOf_36 : decode cX10_marksOf 36 = .ok (.invokestatic 157, 3) := by decide +kernel
theorem dX10_marksOf_39 : decode cX10_marksOf 39 = .ok (.aload_n 0, 1) := by decide +kernel
theorem dX10_marksOf_40 : decode cX10_marksOf 40 = .ok (.iload_n 1, 1) := by decide +kernel
theorem dX10_marksOf_41 : decode cX10_marksOf 41 = .ok (.iload_n 2, 1) := by decide +kernel
theorem dX10_marksOf_42 : decode cX10_marksOf 42 = .ok (.invokevirtual 154, 3) := by decide +kernel
theorem dX10_marksOf_45 : decode cX10_marksOf 45 = .ok (.invokestatic 157, 3) := by decide +kernel
theorem dX10_marksOf_48 : decode cX10_marksOf 48 = .ok (.isub, 1) := by decide +kernel
theorem dX10_marksOf_49 : decode cX10_marksOf 49 = .ok (.istore 4, 2) := by decide +kernel
theorem dX10_marksOf_51 : decode cX10_marksOf 51 = .ok (.iload 4, 2) := by decide +kernel
theorem dX10_marksOf_53 : decode cX10_marksOf 53 = .ok (.ifCond .lt 19, 3) := by decide +kernel
theorem dX10_marksOf_56 : decode cX10_marksOf 56 = .ok (.iload 4, 2) := by decide +kernel
theorem dX10_marksOf_58 : decode cX10_marksOf 58 = .ok (.ifCond .ne 18, 3) := by decide +kernel
theorem dX10_marksOf_61 : decode cX10_marksOf 61 = .ok (.iload_n 3, 1) := by decide +kernel
theorem dX10_marksOf_62 : decode cX10_marksOf 62 = .ok (.invokestatic 157, 3) := by decide +kernel
theorem dX10_marksOf_65 : decode cX10_marksOf 65 = .ok (.iload_n 2, 1) := by decide +kernel
theorem dX10_marksOf_66 : decode cX10_marksOf 66 = .ok (.invokestatic 157, 3) := by decide +kernel
theorem dX10_marksOf_69 : decode cX10_marksOf 69 = .ok (.if_icmp .ge 7, 3) := by decide +kernel
theorem dX10_marksOf_72 : decode cX10_marksOf 72 = .ok (.iload_n 3, 1) := by decide +kernel
theorem dX10_marksOf_73 : decode cX10_marksOf 73 = .ok (.goto 4, 3) := by decide +kernel
theorem dX10_marksOf_76 : decode cX10_marksOf 76 = .ok (.iload_n 2, 1) := by decide +kernel
theorem dX10_marksOf_77 : decode cX10_marksOf 77 = .ok (.istore_n 2, 1) := by decide +kernel
theorem dX10_marksOf_78 : decode cX10_marksOf 78 = .ok (.iinc 3 1, 3) := by decide +kernel
theorem dX10_marksOf_81 : decode cX10_marksOf 81 = .ok (.goto (-58), 3) := by decide +kernel
theorem dX10_marksOf_84 : decode cX10_marksOf 84 = .ok (.aload_n 0, 1) := by decide +kernel
theorem dX10_marksOf_85 : decode cX10_marksOf 85 = .ok (.aload_n 0, 1) := by decide +kernel
theorem dX10_marksOf_86 : decode cX10_marksOf 86 = .ok (.iload_n 1, 1) := by decide +kernel
theorem dX10_marksOf_87 : decode cX10_marksOf 87 = .ok (.iload_n 2, 1) := by decide +kernel
theorem dX10_marksOf_88 : decode cX10_marksOf 88 = .ok (.invokevirtual 154, 3) := by decide +kernel
theorem dX10_marksOf_91 : decode cX10_marksOf 91 = .ok (.invokestatic 157, 3) := by decide +kernel
theorem dX10_marksOf_94 : decode cX10_marksOf 94 = .ok (.putfield 160, 3) := by decide +kernel
theorem dX10_marksOf_97 : decode cX10_marksOf 97 = .ok (.iload_n 2, 1) := by decide +kernel
theorem dX10_marksOf_98 : decode cX10_marksOf 98 = .ok (.ireturn, 1) := by decide +kernel
set_option maxRecDepth 20000 in
theorem ggX10_exceptions_X10_isRight : GoodIn wsX10_exceptions wsX10_isRight := goodIn_r _ [4, 5, 6, 3, 7] (by decide +kernel) (by decide +kernel)
set_option maxRecDepth 20000 in
theorem gX10_exceptions_X10_isRight : GoodIn wsX10_exceptions (va_wsS RX10 122 yX10_isRight wsX10_isRight) := goodIn_app (goodIn_of _ (by decide +kernel)) ggX10_exceptions_X10_isRight
set_option maxRecDepth 20000 in
theorem ggX10_exceptions_X10_in : GoodIn wsX10_exceptions wsX10_in := goodIn_r _ [7] (by decide +kernel) (by decide +kernel)
set_option maxRecDepth 20000 in
theorem gX10_exceptions_X10_in : GoodIn wsX10_exceptions (va_wsS RX10 87 yX10_in wsX10_in) := goodIn_app (goodIn_of _ (by decide +kernel)) ggX10_exceptions_X10_in
set_option maxRecDepth 20000 in
theorem ggX10_exceptions_X10_exceptionsTo : GoodIn wsX10_exceptions wsX10_exceptionsTo := goodIn_r _ [11, 12, 13, 14, 15, 16, 3, 17, 18, 19, 20, 21, 22, 23, 24, 25, 26, 27, 28, 29, 30, 31, 32, 33, 34, 35, 36, 37, 38, 39, 40, 41, 42, 43, 44, 45, 46, 47, 48, 49] (by decide +kernel) (by decide +kernel)
set_option maxRecDepth 20000 in
theorem gX10_exceptions_X10_exceptionsTo : GoodIn wsX10_exceptions (wsV RX10 154 RX10 yX10_exceptionsTo wsX10_exceptionsTo) := goodIn_app (goodIn_of _ (by decide +kernel)) ggX10_exceptions_X10_exceptionsTo
theorem dX10_exceptions_0 : decode cX10_exceptions 0 = .ok (.iload_n 1, 1) := by decide +kernel
theorem dX10_exceptions_1 : decode cX10_exceptions 1 = .ok (.invokestatic 122, 3) := by decide +kernel
theorem dX10_exceptions_4 : decode cX10_exceptions 4 = .ok (.ifCond .eq 23, 3) := by decide +kernel
theorem dX10_exceptions_7 : decode cX10_exceptions 7 = .ok (.iload_n 2, 1) := by decide +kernel
theorem dX10_exceptions_8 : decode cX10_exceptions 8 = .ok (.iconst 0, 1) := by decide +kernel
theorem dX10_exceptions_9 : decode cX10_exceptions 9 = .ok (.sipush 255, 3) := by decide +kernel
theorem dX10_exceptions_12 : decode cX10_exceptions 12 = .ok (.invokestatic 87, 3) := by decide +kernel
theorem dX10_exceptions_15 : decode cX10_exceptions 15 = .ok (.ifCond .eq 12, 3) := by decide +kernel
theorem dX10_exceptions_18 : decode cX10_exceptions 18 = .ok (.aload_n 0, 1) := by decide +kernel
theorem dX10_exceptions_19 : decode cX10_exceptions 19 = .ok (.iload_n 1, 1) := by decide +kernel
theorem dX10_exceptions_20 : decode cX10_exceptions 20 = .ok (.iload_n 2, 1) := by decide +kernel
theorem dX10_exceptions_21 : decode cX10_exceptions 21 = .ok (.invokevirtual 154, 3) := by decide +kernel
theorem dX10_exceptions_24 : decode cX10_exceptions 24 = .ok (.goto 4, 3) := by decide +kernel
theorem dX10_exceptions_27 : decode cX10_exceptions 27 = .ok (.iconst (-1), 1) := by decide +kernel
theorem dX10_exceptions_28 : decode cX10_exceptions 28 = .ok (.ireturn, 1) := by decide +kernel
set_option maxRecDepth 20000 in
theorem ggX10_ban_X10_isRight : GoodIn wsX10_ban wsX10_isRight := goodIn_r _ [5, 6, 7, 4, 8] (by decide +kernel) (by decide +kernel)
set_option maxRecDepth 20000 in
theorem gX10_ban_X10_isRight : GoodIn wsX10_ban (va_wsS RX10 122 yX10_isRight wsX10_isRight) := goodIn_app (goodIn_of _ (by decide +kernel)) ggX10_ban_X10_isRight
set_option maxRecDepth 20000 in
theorem ggX10_ban_X10_has : GoodIn wsX10_ban wsX10_has := goodIn_r _ [11] (by decide +kernel) (by decide +kernel)
set_option maxRecDepth 20000 in
theorem gX10_ban_X10_has : GoodIn wsX10_ban (va_wsS RX10 91 yX10_has wsX10_has) := goodIn_app (goodIn_of _ (by decide +kernel)) ggX10_ban_X10_has
theorem dX10_ban_0 : decode cX10_ban 0 = .ok (.iload_n 1, 1) := by decide +kernel
theorem dX10_ban_1 : decode cX10_ban 1 = .ok (.invokestatic 122, 3) := by decide +kernel
theorem dX10_ban_4 : decode cX10_ban 4 = .ok (.ifCond .eq 15, 3) := by decide +kernel
theorem dX10_ban_7 : decode cX10_ban 7 = .ok (.iload_n 2, 1) := by decide +kernel
theorem dX10_ban_8 : decode cX10_ban 8 = .ok (.invokestatic 122, 3) := by decide +kernel
theorem dX10_ban_11 : decode cX10_ban 11 = .ok (.ifCond .eq 8, 3) := by decide +kernel
theorem dX10_ban_14 : decode cX10_ban 14 = .ok (.iload_n 1, 1) := by decide +kernel
theorem dX10_ban_15 : decode cX10_ban 15 = .ok (.iload_n 2, 1) := by decide +kernel
theorem dX10_ban_16 : decode cX10_ban 16 = .ok (.if_icmp .ne 5, 3) := by decide +kernel
theorem dX10_ban_19 : decode cX10_ban 19 = .ok (.iconst (-1), 1) := by decide +kernel
theorem dX10_ban_20 : decode cX10_ban 20 = .ok (.ireturn, 1) := by decide +kernel
theorem dX10_ban_21 : decode cX10_ban 21 = .ok (.aload_n 0, 1) := by decide +kernel
theorem dX10_ban_22 : decode cX10_ban 22 = .ok (.getfield 63, 3) := by decide +kernel
theorem dX10_ban_25 : decode cX10_ban 25 = .ok (.iload_n 1, 1) := by decide +kernel
theorem dX10_ban_26 : decode cX10_ban 26 = .ok (.iaload, 1) := by decide +kernel
theorem dX10_ban_27 : decode cX10_ban 27 = .ok (.iload_n 2, 1) := by decide +kernel
theorem dX10_ban_28 : decode cX10_ban 28 = .ok (.invokestatic 91, 3) := by decide +kernel
theorem dX10_ban_31 : decode cX10_ban 31 = .ok (.ifCond .eq 7, 3) := by decide +kernel
theorem dX10_ban_34 : decode cX10_ban 34 = .ok (.iconst 1, 1) := by decide +kernel
theorem dX10_ban_35 : decode cX10_ban 35 = .ok (.goto 4, 3) := by decide +kernel
theorem dX10_ban_38 : decode cX10_ban 38 = .ok (.iconst 0, 1) := by decide +kernel
theorem dX10_ban_39 : decode cX10_ban 39 = .ok (.istore 4, 2) := by decide +kernel
theorem dX10_ban_41 : decode cX10_ban 41 = .ok (.aload_n 0, 1) := by decide +kernel
theorem dX10_ban_42 : decode cX10_ban 42 = .ok (.getfield 63, 3) := by decide +kernel
theorem dX10_ban_45 : decode cX10_ban 45 = .ok (.iload_n 1, 1) := by decide +kernel
theorem dX10_ban_46 : decode cX10_ban 46 = .ok (.iload_n 3, 1) := by decide +kernel
theorem dX10_ban_47 : decode cX10_ban 47 = .ok (.ifCond .eq 16, 3) := by decide +kernel
theorem dX10_ban_50 : decode cX10_ban 50 = .ok (.aload_n 0, 1) := by decide +kernel
theorem dX10_ban_51 : decode cX10_ban 51 = .ok (.getfield 63, 3) := by decide +kernel
theorem dX10_ban_54 : decode cX10_ban 54 = .ok (.iload_n 1, 1) := by decide +kernel
theorem dX10_ban_55 : decode cX10_ban 55 = .ok (.iaload, 1) := by decide +kernel
theorem dX10_ban_56 : decode cX10_ban 56 = .ok (.iconst 1, 1) := by decide +kernel
theorem dX10_ban_57 : decode cX10_ban 57 = .ok (.iload_n 2, 1) := by decide +kernel
theorem dX10_ban_58 : decode cX10_ban 58 = .ok (.ishl, 1) := by decide +kernel
theorem dX10_ban_59 : decode cX10_ban 59 = .ok (.ior, 1) := by decide +kernel
theorem dX10_ban_60 : decode cX10_ban 60 = .ok (.goto 15, 3) := by decide +kernel
theorem dX10_ban_63 : decode cX10_ban 63 = .ok (.aload_n 0, 1) := by decide +kernel
theorem dX10_ban_64 : decode cX10_ban 64 = .ok (.getfield 63, 3) := by decide +kernel
theorem dX10_ban_67 : decode cX10_ban 67 = .ok (.iload_n 1, 1) := by decide +kernel
theorem dX10_ban_68 : decode cX10_ban 68 = .ok (.iaload, 1) := by decide +kernel
theorem dX10_ban_69 : decode cX10_ban 69 = .ok (.iconst 1, 1) := by decide +kernel
theorem dX10_ban_70 : decode cX10_ban 70 = .ok (.iload_n 2, 1) := by decide +kernel
theorem dX10_ban_71 : decode cX10_ban 71 = .ok (.ishl, 1) := by decide +kernel
theorem dX10_ban_72 : decode cX10_ban 72 = .ok (.iconst (-1), 1) := by decide +kernel
theorem dX10_ban_73 : decode cX10_ban 73 = .ok (.ixor, 1) := by decide +kernel
theorem dX10_ban_74 : decode cX10_ban 74 = .ok (.iand, 1) := by decide +kernel
theorem dX10_ban_75 : decode cX10_ban 75 = .ok (.iastore, 1) := by decide +kernel
theorem dX10_ban_76 : decode cX10_ban 76 = .ok (.aload_n 0, 1) := by decide +kernel
theorem dX10_ban_77 : decode cX10_ban 77 = .ok (.getfield 63, 3) := by decide +kernel
theorem dX10_ban_80 : decode cX10_ban 80 = .ok (.iload_n 2, 1) := by decide +kernel
theorem dX10_ban_81 : decode cX10_ban 81 = .ok (.iload_n 3, 1) := by decide +kernel
theorem dX10_ban_82 : decode cX10_ban 82 = .ok (.ifCond .eq 16, 3) := by decide +kernel
theorem dX10_ban_85 : decode cX10_ban 85 = .ok (.aload_n 0, 1) := by decide +kernel
theorem dX10_ban_86 : decode cX10_ban 86 = .ok (.getfield 63, 3) := by decide +kernel
theorem dX10_ban_89 : decode cX10_ban 89 = .ok (.iload_n 2, 1) := by decide +kernel
theorem dX10_ban_90 : decode cX10_ban 90 = .ok (.iaload, 1) := by decide +kernel
theorem dX10_ban_91 : decode cX10_ban 91 = .ok (.iconst 1, 1) := by decide +kernel
theorem dX10_ban_92 : decode cX10_ban 92 = .ok (.iload_n 1, 1) := by decide +kernel
theorem dX10_ban_93 : decode cX10_ban 93 = .ok (.ishl, 1) := by decide +kernel
theorem dX10_ban_94 : decode cX10_ban 94 = .ok (.ior, 1) := by decide +kernel
theorem dX10_ban_95 : decode cX10_ban 95 = .ok (.goto 15, 3) := by decide +kernel
theorem dX10_ban_98 : decode cX10_ban 98 = .ok (.aload_n 0, 1) := by decide +kernel
theorem dX10_ban_99 : decode cX10_ban 99 = .ok (.getfield 63, 3) := by decide +kernel
theorem dX10_ban_102 : decode cX10_ban 102 = .ok (.iload_n 2, 1) := by decide +kernel
theorem dX10_ban_103 : decode cX10_ban 103 = .ok (.iaload, 1) := by decide +kernel
theorem dX10_ban_104 : decode cX10_ban 104 = .ok (.iconst 1, 1) := by decide +kernel
theorem dX10_ban_105 : decode cX10_ban 105 = .ok (.iload_n 1, 1) := by decide +kernel
theorem dX10_ban_106 : decode cX10_ban 106 = .ok (.ishl, 1) := by decide +kernel
theorem dX10_ban_107 : decode cX10_ban 107 = .ok (.iconst (-1), 1) := by decide +kernel
theorem dX10_ban_108 : decode cX10_ban 108 = .ok (.ixor, 1) := by decide +kernel
theorem dX10_ban_109 : decode cX10_ban 109 = .ok (.iand, 1) := by decide +kernel
theorem dX10_ban_110 : decode cX10_ban 110 = .ok (.iastore, 1) := by decide +kernel
theorem dX10_ban_111 : decode cX10_ban 111 = .ok (.iload 4, 2) := by decide +kernel
theorem dX10_ban_113 : decode cX10_ban 113 = .ok (.ireturn, 1) := by decide +kernel
set_option maxRecDepth 20000 in
theorem ggX10_isBad_X10_has : GoodIn wsX10_isBad wsX10_has := goodIn_r _ [5] (by decide +kernel) (by decide +kernel)
set_option maxRecDepth 20000 in
theorem gX10_isBad_X10_has : GoodIn wsX10_isBad (va_wsS RX10 91 yX10_has wsX10_has) := goodIn_app (goodIn_of _ (by decide +kernel)) ggX10_isBad_X10_has
theorem dX10_isBad_0 : decode cX10_isBad 0 = .ok (.iconst 0, 1) := by decide +kernel
theorem dX10_isBad_1 : decode cX10_isBad 1 = .ok (.istore_n 2, 1) := by decide +kernel
theorem dX10_isBad_2 : decode cX10_isBad 2 = .ok (.iconst 0, 1) := by decide +kernel
theorem dX10_isBad_3 : decode cX10_isBad 3 = .ok (.istore_n 3, 1) := by decide +kernel
theorem dX10_isBad_4 : decode cX10_isBad 4 = .ok (.iload_n 3, 1) := by decide +kernel
theorem dX10_isBad_5 : decode cX10_isBad 5 = .ok (.bipush 12, 2) := by decide +kernel
theorem dX10_isBad_7 : decode cX10_isBad 7 = .ok (.if_icmp .ge 38, 3) := by decide +kernel
theorem dX10_isBad_10 : decode cX10_isBad 10 = .ok (.iload_n 2, 1) := by decide +kernel
theorem dX10_isBad_11 : decode cX10_isBad 11 = .ok (.ifCond .ne 22, 3) := by decide +kernel
theorem dX10_isBad_14 : decode cX10_isBad 14 = .ok (.iload_n 1, 1) := by decide +kernel
theorem dX10_isBad_15 : decode cX10_isBad 15 = .ok (.iload_n 3, 1) := by decide +kernel
theorem dX10_isBad_16 : decode cX10_isBad 16 = .ok (.invokestatic 91, 3) := by decide +kernel
theorem dX10_isBad_19 : decode cX10_isBad 19 = .ok (.ifCond .eq 18, 3) := by decide +kernel
theorem dX10_isBad_22 : decode cX10_isBad 22 = .ok (.aload_n 0, 1) := by decide +kernel
theorem dX10_isBad_23 : decode cX10_isBad 23 = .ok (.getfield 63, 3) := by decide +kernel
theorem dX10_isBad_26 : decode cX10_isBad 26 = .ok (.iload_n 3, 1) := by decide +kernel
theorem dX10_isBad_27 : decode cX10_isBad 27 = .ok (.iaload, 1) := by decide +kernel
theorem dX10_isBad_28 : decode cX10_isBad 28 = .ok (.iload_n 1, 1) := by decide +kernel
theorem dX10_isBad_29 : decode cX10_isBad 29 = .ok (.iand, 1) := by decide +kernel
theorem dX10_isBad_30 : decode cX10_isBad 30 = .ok (.ifCond .eq 7, 3) := by decide +kernel
theorem dX10_isBad_33 : decode cX10_isBad 33 = .ok (.iconst 1, 1) := by decide +kernel
theorem dX10_isBad_34 : decode cX10_isBad 34 = .ok (.goto 4, 3) := by decide +kernel
theorem dX10_isBad_37 : decode cX10_isBad 37 = .ok (.iconst 0, 1) := by decide +kernel
theorem dX10_isBad_38 : decode cX10_isBad 38 = .ok (.istore_n 2, 1) := by decide +kernel
theorem dX10_isBad_39 : decode cX10_isBad 39 = .ok (.iinc 3 1, 3) := by decide +kernel
theorem dX10_isBad_42 : decode cX10_isBad 42 = .ok (.goto (-38), 3) := by decide +kernel
theorem dX10_isBad_45 : decode cX10_isBad 45 = .ok (.iload_n 2, 1) := by decide +kernel
theorem dX10_isBad_46 : decode cX10_isBad 46 = .ok (.ireturn, 1) := by decide +kernel
set_option maxRecDepth 20000 in
theorem ggX10_breach_X10_isBad : GoodIn wsX10_breach wsX10_isBad := goodIn_r _ [7, 8, 9, 10, 6, 11, 12, 13, 14, 15, 16, 17, 18, 19, 20, 21, 22, 23, 24, 25, 26, 27, 28, 29, 30, 31, 32, 33, 34, 35, 36, 37, 38, 39, 40, 41, 42, 43] (by decide +kernel) (by decide +kernel)
set_option maxRecDepth 20000 in
theorem gX10_breach_X10_isBad : GoodIn wsX10_breach (wsV RX10 163 RX10 yX10_isBad wsX10_isBad) := goodIn_app (goodIn_of _ (by decide +kernel)) ggX10_breach_X10_isBad
theorem dX10_breach_0 : decode cX10_breach 0 = .ok (.iconst 0, 1) := by decide +kernel
theorem dX10_breach_1 : decode cX10_breach 1 = .ok (.istore_n 1, 1) := by decide +kernel
theorem dX10_breach_2 : decode cX10_breach 2 = .ok (.iconst 0, 1) := by decide +kernel
theorem dX10_breach_3 : decode cX10_breach 3 = .ok (.istore_n 2, 1) := by decide +kernel
theorem dX10_breach_4 : decode cX10_breach 4 = .ok (.iload_n 2, 1) := by decide +kernel
theorem dX10_breach_5 : decode cX10_breach 5 = .ok (.aload_n 0, 1) := by decide +kernel
theorem dX10_breach_6 : decode cX10_breach 6 = .ok (.getfield 84, 3) := by decide +kernel
theorem dX10_breach_9 : decode cX10_breach 9 = .ok (.if_icmp .ge 32, 3) := by decide +kernel
theorem dX10_breach_12 : decode cX10_breach 12 = .ok (.iload_n 1, 1) := by decide +kernel
theorem dX10_breach_13 : decode cX10_breach 13 = .ok (.aload_n 0, 1) := by decide +kernel
theorem dX10_breach_14 : decode cX10_breach 14 = .ok (.aload_n 0, 1) := by decide +kernel
theorem dX10_breach_15 : decode cX10_breach 15 = .ok (.getfield 16, 3) := by decide +kernel
theorem dX10_breach_18 : decode cX10_breach 18 = .ok (.iload_n 2, 1) := by decide +kernel
theorem dX10_breach_19 : decode cX10_breach 19 = .ok (.iaload, 1) := by decide +kernel
theorem dX10_breach_20 : decode cX10_breach 20 = .ok (.invokevirtual 163, 3) := by decide +kernel
theorem dX10_breach_23 : decode cX10_breach 23 = .ok (.ifCond .eq 9, 3) := by decide +kernel
theorem dX10_breach_26 : decode cX10_breach 26 = .ok (.iconst 1, 1) := by decide +kernel
theorem dX10_breach_27 : decode cX10_breach 27 = .ok (.iload_n 2, 1) := by decide +kernel
theorem dX10_breach_28 : decode cX10_breach 28 = .ok (.ishl, 1) := by decide +kernel
theorem dX10_breach_29 : decode cX10_breach 29 = .ok (.goto 4, 3) := by decide +kernel
theorem dX10_breach_32 : decode cX10_breach 32 = .ok (.iconst 0, 1) := by decide +kernel
theorem dX10_breach_33 : decode cX10_breach 33 = .ok (.ior, 1) := by decide +kernel
theorem dX10_breach_34 : decode cX10_breach 34 = .ok (.istore_n 1, 1) := by decide +kernel
theorem dX10_breach_35 : decode cX10_breach 35 = .ok (.iinc 2 1, 3) := by decide +kernel
theorem dX10_breach_38 : decode cX10_breach 38 = .ok (.goto (-34), 3) := by decide +kernel
theorem dX10_breach_41 : decode cX10_breach 41 = .ok (.iload_n 1, 1) := by decide +kernel
theorem dX10_breach_42 : decode cX10_breach 42 = .ok (.ireturn, 1) := by decide +kernel
set_option maxRecDepth 20000 in
theorem ggX10_least_X10_isPerson : GoodIn wsX10_least wsX10_isPerson := goodIn_r _ [6, 7, 8, 9, 5, 10, 38, 39, 40, 41, 42, 43, 44, 45, 46, 47, 48, 49, 50, 51, 52, 53, 54, 55, 56, 57, 58, 59, 60, 61, 62, 63, 64, 65, 66, 67, 68, 69] (by decide +kernel) (by decide +kernel)
set_option maxRecDepth 20000 in
theorem gX10_least_X10_isPerson : GoodIn wsX10_least (wsV RX10 95 RX10 yX10_isPerson wsX10_isPerson) := goodIn_app (goodIn_of _ (by decide +kernel)) ggX10_least_X10_isPerson
set_option maxRecDepth 20000 in
theorem ggX10_least_X10_keptOf : GoodIn wsX10_least wsX10_keptOf := goodIn_r _ [14, 1, 15, 16, 5, 17, 18, 19, 20, 21, 22, 23, 24, 25, 26, 27, 28, 29, 38, 39, 40, 41, 42, 43, 44, 45, 46, 47, 48, 49, 50, 51, 52, 53, 54, 55, 56, 57, 58, 59, 60, 61, 62, 63, 64, 65, 66, 67, 68, 69] (by decide +kernel) (by decide +kernel)
set_option maxRecDepth 20000 in
theorem gX10_least_X10_keptOf : GoodIn wsX10_least (wsV RX10 115 RX10 yX10_keptOf wsX10_keptOf) := goodIn_app (goodIn_of _ (by decide +kernel)) ggX10_least_X10_keptOf
set_option maxRecDepth 20000 in
theorem ggX10_least_X10_isBad : GoodIn wsX10_least wsX10_isBad := goodIn_r _ [33, 34, 15, 16, 5, 17, 38, 39, 40, 41, 42, 43, 44, 45, 46, 47, 48, 49, 50, 51, 52, 53, 54, 55, 56, 57, 58, 59, 60, 61, 62, 63, 64, 65, 66, 67, 68, 69] (by decide +kernel) (by decide +kernel)
set_option maxRecDepth 20000 in
theorem gX10_least_X10_isBad : GoodIn wsX10_least (wsV RX10 163 RX10 yX10_isBad wsX10_isBad) := goodIn_app (goodIn_of _ (by decide +kernel)) ggX10_least_X10_isBad
set_option maxRecDepth 20000 in
theorem ggX10_least_X10_bits : GoodIn wsX10_least wsX10_bits := goodIn_r _ [37] (by decide +kernel) (by decide +kernel)
set_option maxRecDepth 20000 in
theorem gX10_least_X10_bits : GoodIn wsX10_least (va_wsS RX10 157 yX10_bits wsX10_bits) := goodIn_app (goodIn_of _ (by decide +kernel)) ggX10_least_X10_bits
theorem dX10_least_0 : decode cX10_least 0 = .ok (.aload_n 0, 1) := by decide +kernel
theorem dX10_least_1 : decode cX10_least 1 = .ok (.iload_n 1, 1) := by decide +kernel
theorem dX10_least_2 : decode cX10_least 2 = .ok (.invokevirtual 95, 3) := by decide +kernel
theorem dX10_least_5 : decode cX10_least 5 = .ok (.ifCond .ne 5, 3) := by decide +kernel
theorem dX10_least_8 : decode cX10_least 8 = .ok (.iconst (-1), 1) := by decide +kernel
theorem dX10_least_9 : decode cX10_least 9 = .ok (.ireturn, 1) := by decide +kernel
theorem dX10_least_10 : decode cX10_least 10 = .ok (.aload_n 0, 1) := by decide +kernel
theorem dX10_least_11 : decode cX10_least 11 = .ok (.iload_n 1, 1) := by decide +kernel
theorem dX10_least_12 : decode cX10_least 12 = .ok (.invokevirtual 115, 3) := by decide +kernel
theorem dX10_least_15 : decode cX10_least 15 = .ok (.istore_n 2, 1) := by decide +kernel
theorem dX10_least_16 : decode cX10_least 16 = .ok (.aload_n 0, 1) := by decide +kernel
theorem dX10_least_17 : decode cX10_least 17 = .ok (.getfield 16, 3) := by decide +kernel
theorem dX10_least_20 : decode cX10_least 20 = .ok (.iload_n 1, 1) := by decide +kernel
theorem dX10_least_21 : decode cX10_least 21 = .ok (.iaload, 1) := by decide +kernel
theorem dX10_least_22 : decode cX10_least 22 = .ok (.istore_n 3, 1) := by decide +kernel
theorem dX10_least_23 : decode cX10_least 23 = .ok (.iconst 0, 1) := by decide +kernel
theorem dX10_least_24 : decode cX10_least 24 = .ok (.istore 4, 2) := by decide +kernel
theorem dX10_least_26 : decode cX10_least 26 = .ok (.iload 4, 2) := by decide +kernel
theorem dX10_least_28 : decode cX10_least 28 = .ok (.sipush 4095, 3) := by decide +kernel
theorem dX10_least_31 : decode cX10_least 31 = .ok (.if_icmp .gt 102, 3) := by decide +kernel
theorem dX10_least_34 : decode cX10_least 34 = .ok (.iload 4, 2) := by decide +kernel
theorem dX10_least_36 : decode cX10_least 36 = .ok (.aload_n 0, 1) := by decide +kernel
theorem dX10_least_37 : decode cX10_least 37 = .ok (.getfield 16, 3) := by decide +kernel
theorem dX10_least_40 : decode cX10_least 40 = .ok (.iload_n 1, 1) := by decide +kernel
theorem dX10_least_41 : decode cX10_least 41 = .ok (.iaload, 1) := by decide +kernel
theorem dX10_least_42 : decode cX10_least 42 = .ok (.iconst (-1), 1) := by decide +kernel
theorem dX10_least_43 : decode cX10_least 43 = .ok (.ixor, 1) := by decide +kernel
theorem dX10_least_44 : decode cX10_least 44 = .ok (.iand, 1) := by decide +kernel
theorem dX10_least_45 : decode cX10_least 45 = .ok (.ifCond .ne 82, 3) := by decide +kernel
theorem dX10_least_48 : decode cX10_least 48 = .ok (.aload_n 0, 1) := by decide +kernel
theorem dX10_least_49 : decode cX10_least 49 = .ok (.aload_n 0, 1) := by decide +kernel
theorem dX10_least_50 : decode cX10_least 50 = .ok (.getfield 16, 3) := by decide +kernel
theorem dX10_least_53 : decode cX10_least 53 = .ok (.iload_n 1, 1) := by decide +kernel
theorem dX10_least_54 : decode cX10_least 54 = .ok (.iaload, 1) := by decide +kernel
theorem dX10_least_55 : decode cX10_least 55 = .ok (.iload 4, 2) := by decide +kernel
theorem dX10_least_57 : decode cX10_least 57 = .ok (.iconst (-1), 1) := by decide +kernel
theorem dX10_least_58 : decode cX10_least 58 = .ok (.ixor, 1) := by decide +kernel
theorem dX10_least_59 : decode cX10_least 59 = .ok (.iand, 1) := by decide +kernel
theorem dX10_least_60 : decode cX10_least 60 = .ok (.invokevirtual 163, 3) := by decide +kernel
theorem dX10_least_63 : decode cX10_least 63 = .ok (.ifCond .ne 64, 3) := by decide +kernel
theorem dX10_least_66 : decode cX10_least 66 = .ok (.iload 4, 2) := by decide +kernel
theorem dX10_least_68 : decode cX10_least 68 = .ok (.invokestatic 157, 3) := by decide +kernel
theorem dX10_least_71 : decode cX10_least 71 = .ok (.iload_n 3, 1) := by decide +kernel
theorem dX10_least_72 : decode cX10_least 72 = .ok (.invokestatic 157, 3) := by decide +kernel
theorem dX10_least_75 : decode cX10_least 75 = .ok (.isub, 1) := by decide +kernel
theorem dX10_least_76 : decode cX10_least 76 = .ok (.istore 5, 2) := by decide +kernel
theorem dX10_least_78 : decode cX10_least 78 = .ok (.iload 4, 2) := by decide +kernel
theorem dX10_least_80 : decode cX10_least 80 = .ok (.iload_n 2, 1) := by decide +kernel
theorem dX10_least_81 : decode cX10_least 81 = .ok (.iand, 1) := by decide +kernel
theorem dX10_least_82 : decode cX10_least 82 = .ok (.invokestatic 157, 3) := by decide +kernel
theorem dX10_least_85 : decode cX10_least 85 = .ok (.iload_n 3, 1) := by decide +kernel
theorem dX10_least_86 : decode cX10_least 86 = .ok (.iload_n 2, 1) := by decide +kernel
theorem dX10_least_87 : decode cX10_least 87 = .ok (.iand, 1) := by decide +kernel
theorem dX10_least_88 : decode cX10_least 88 = .ok (.invokestatic 157, 3) := by decide +kernel
theorem dX10_least_91 : decode cX10_least 91 = .ok (.isub, 1) := by decide +kernel
theorem dX10_least_92 : decode cX10_least 92 = .ok (.istore 6, 2) := by decide +kernel
theorem dX10_least_94 : decode cX10_least 94 = .ok (.iload 5, 2) := by decide +kernel
theorem dX10_least_96 : decode cX10_least 96 = .ok (.ifCond .lt 24, 3) := by decide +kernel
theorem dX10_least_99 : decode cX10_least 99 = .ok (.iload 5, 2) := by decide +kernel
theorem dX10_least_101 : decode cX10_least 101 = .ok (.ifCond .ne 24, 3) := by decide +kernel
theorem dX10_least_104 : decode cX10_least 104 = .ok (.iload 6, 2) := by decide +kernel
theorem dX10_least_106 : decode cX10_least 106 = .ok (.ifCond .lt 14, 3) := by decide +kernel
theorem dX10_least_109 : decode cX10_least 109 = .ok (.iload 6, 2) := by decide +kernel
theorem dX10_least_111 : decode cX10_least 111 = .ok (.ifCond .ne 14, 3) := by decide +kernel
theorem dX10_least_114 : decode cX10_least 114 = .ok (.iload 4, 2) := by decide +kernel
theorem dX10_least_116 : decode cX10_least 116 = .ok (.iload_n 3, 1) := by decide +kernel
theorem dX10_least_117 : decode cX10_least 117 = .ok (.if_icmp .ge 8, 3) := by decide +kernel
theorem dX10_least_120 : decode cX10_least 120 = .ok (.iload 4, 2) := by decide +kernel
theorem dX10_least_122 : decode cX10_least 122 = .ok (.goto 4, 3) := by decide +kernel
theorem dX10_least_125 : decode cX10_least 125 = .ok (.iload_n 3, 1) := by decide +kernel
theorem dX10_least_126 : decode cX10_least 126 = .ok (.istore_n 3, 1) := by decide +kernel
theorem dX10_least_127 : decode cX10_least 127 = .ok (.iinc 4 1, 3) := by decide +kernel
theorem dX10_least_130 : decode cX10_least 130 = .ok (.goto (-104), 3) := by decide +kernel
theorem dX10_least_133 : decode cX10_least 133 = .ok (.iload_n 3, 1) := by decide +kernel
theorem dX10_least_134 : decode cX10_least 134 = .ok (.ireturn, 1) := by decide +kernel
set_option maxRecDepth 20000 in
theorem ggX10_badRole_X10_isBad : GoodIn wsX10_badRole wsX10_isBad := goodIn_r _ [7, 8, 9, 10, 6, 11, 12, 13, 14, 15, 16, 17, 18, 19, 20, 21, 22, 23, 24, 25, 26, 27, 28, 29, 30, 31, 32, 33, 34, 35, 36, 37, 38, 39, 40, 41, 42, 43] (by decide +kernel) (by decide +kernel)
set_option maxRecDepth 20000 in
theorem gX10_badRole_X10_isBad : GoodIn wsX10_badRole (wsV RX10 163 RX10 yX10_isBad wsX10_isBad) := goodIn_app (goodIn_of _ (by decide +kernel)) ggX10_badRole_X10_isBad
theorem dX10_badRole_0 : decode cX10_badRole 0 = .ok (.iconst 0, 1) := by decide +kernel
theorem dX10_badRole_1 : decode cX10_badRole 1 = .ok (.istore_n 1, 1) := by decide +kernel
theorem dX10_badRole_2 : decode cX10_badRole 2 = .ok (.iload_n 1, 1) := by decide +kernel
theorem dX10_badRole_3 : decode cX10_badRole 3 = .ok (.aload_n 0, 1) := by decide +kernel
theorem dX10_badRole_4 : decode cX10_badRole 4 = .ok (.getfield 138, 3) := by decide +kernel
theorem dX10_badRole_7 : decode cX10_badRole 7 = .ok (.if_icmp .ge 24, 3) := by decide +kernel
theorem dX10_badRole_10 : decode cX10_badRole 10 = .ok (.aload_n 0, 1) := by decide +kernel
theorem dX10_badRole_11 : decode cX10_badRole 11 = .ok (.aload_n 0, 1) := by decide +kernel
theorem dX10_badRole_12 : decode cX10_badRole 12 = .ok (.getfield 51, 3) := by decide +kernel
theorem dX10_badRole_15 : decode cX10_badRole 15 = .ok (.iload_n 1, 1) := by decide +kernel
theorem dX10_badRole_16 : decode cX10_badRole 16 = .ok (.iaload, 1) := by decide +kernel
theorem dX10_badRole_17 : decode cX10_badRole 17 = .ok (.invokevirtual 163, 3) := by decide +kernel
theorem dX10_badRole_20 : decode cX10_badRole 20 = .ok (.ifCond .eq 5, 3) := by decide +kernel
theorem dX10_badRole_23 : decode cX10_badRole 23 = .ok (.iload_n 1, 1) := by decide +kernel
theorem dX10_badRole_24 : decode cX10_badRole 24 = .ok (.ireturn, 1) := by decide +kernel
theorem dX10_badRole_25 : decode cX10_badRole 25 = .ok (.iinc 1 1, 3) := by decide +kernel
theorem dX10_badRole_28 : decode cX10_badRole 28 = .ok (.goto (-26), 3) := by decide +kernel
theorem dX10_badRole_31 : decode cX10_badRole 31 = .ok (.bipush (-9), 2) := by decide +kernel
theorem dX10_badRole_33 : decode cX10_badRole 33 = .ok (.ireturn, 1) := by decide +kernel
set_option maxRecDepth 20000 in
theorem ggX10_plan_X10_keptOf : GoodIn wsX10_plan wsX10_keptOf := goodIn_r _ [9, 4, 10, 11, 8, 12, 13, 14, 15, 16, 17, 18, 19, 20, 21, 22, 23, 24, 28, 29, 30, 31, 32, 33, 34, 35, 36, 37, 38, 39, 40, 41, 42, 43, 44, 45, 46, 47, 48, 49, 50, 51, 52, 53, 54, 55, 56, 57, 58, 59] (by decide +kernel) (by decide +kernel)
set_option maxRecDepth 20000 in
theorem gX10_plan_X10_keptOf : GoodIn wsX10_plan (wsV RX10 115 RX10 yX10_keptOf wsX10_keptOf) := goodIn_app (goodIn_of _ (by decide +kernel)) ggX10_plan_X10_keptOf
set_option maxRecDepth 20000 in
theorem ggX10_plan_X10_bits : GoodIn wsX10_plan wsX10_bits := goodIn_r _ [27] (by decide +kernel) (by decide +kernel)
set_option maxRecDepth 20000 in
theorem gX10_plan_X10_bits : GoodIn wsX10_plan (va_wsS RX10 157 yX10_bits wsX10_bits) := goodIn_app (goodIn_of _ (by decide +kernel)) ggX10_plan_X10_bits
theorem dX10_plan_0 : decode cX10_plan 0 = .ok (.iconst 0, 1) := by decide +kernel
theorem dX10_plan_1 : decode cX10_plan 1 = .ok (.istore_n 2, 1) := by decide +kernel
theorem dX10_plan_2 : decode cX10_plan 2 = .ok (.aload_n 0, 1) := by decide +kernel
theorem dX10_plan_3 : decode cX10_plan 3 = .ok (.aload_n 0, 1) := by decide +kernel
theorem dX10_plan_4 : decode cX10_plan 4 = .ok (.getfield 84, 3) := by decide +kernel
theorem dX10_plan_7 : decode cX10_plan 7 = .ok (.putfield 66, 3) := by decide +kernel
theorem dX10_plan_10 : decode cX10_plan 10 = .ok (.iconst 0, 1) := by decide +kernel
theorem dX10_plan_11 : decode cX10_plan 11 = .ok (.istore_n 3, 1) := by decide +kernel
theorem dX10_plan_12 : decode cX10_plan 12 = .ok (.iload_n 3, 1) := by decide +kernel
theorem dX10_plan_13 : decode cX10_plan 13 = .ok (.aload_n 0, 1) := by decide +kernel
theorem dX10_plan_14 : decode cX10_plan 14 = .ok (.getfield 84, 3) := by decide +kernel
theorem dX10_plan_17 : decode cX10_plan 17 = .ok (.if_icmp .ge 45, 3) := by decide +kernel
theorem dX10_plan_20 : decode cX10_plan 20 = .ok (.aload_n 0, 1) := by decide +kernel
theorem dX10_plan_21 : decode cX10_plan 21 = .ok (.getfield 69, 3) := by decide +kernel
theorem dX10_plan_24 : decode cX10_plan 24 = .ok (.iload_n 3, 1) := by decide +kernel
theorem dX10_plan_25 : decode cX10_plan 25 = .ok (.iload_n 1, 1) := by decide +kernel
theorem dX10_plan_26 : decode cX10_plan 26 = .ok (.ifCond .eq 11, 3) := by decide +kernel
theorem dX10_plan_29 : decode cX10_plan 29 = .ok (.aload_n 0, 1) := by decide +kernel
theorem dX10_plan_30 : decode cX10_plan 30 = .ok (.iload_n 3, 1) := by decide +kernel
theorem dX10_plan_31 : decode cX10_plan 31 = .ok (.invokevirtual 115, 3) := by decide +kernel
theorem dX10_plan_34 : decode cX10_plan 34 = .ok (.goto 9, 3) := by decide +kernel
theorem dX10_plan_37 : decode cX10_plan 37 = .ok (.aload_n 0, 1) := by decide +kernel
theorem dX10_plan_38 : decode cX10_plan 38 = .ok (.getfield 16, 3) := by decide +kernel
theorem dX10_plan_41 : decode cX10_plan 41 = .ok (.iload_n 3, 1) := by decide +kernel
theorem dX10_plan_42 : decode cX10_plan 42 = .ok (.iaload, 1) := by decide +kernel
theorem dX10_plan_43 : decode cX10_plan 43 = .ok (.iastore, 1) := by decide +kernel
theorem dX10_plan_44 : decode cX10_plan 44 = .ok (.iload_n 2, 1) := by decide +kernel
theorem dX10_plan_45 : decode cX10_plan 45 = .ok (.aload_n 0, 1) := by decide +kernel
theorem dX10_plan_46 : decode cX10_plan 46 = .ok (.getfield 69, 3) := by decide +kernel
theorem dX10_plan_49 : decode cX10_plan 49 = .ok (.iload_n 3, 1) := by decide +kernel
theorem dX10_plan_50 : decode cX10_plan 50 = .ok (.iaload, 1) := by decide +kernel
theorem dX10_plan_51 : decode cX10_plan 51 = .ok (.invokestatic 157, 3) := by decide +kernel
theorem dX10_plan_54 : decode cX10_plan 54 = .ok (.iadd, 1) := by decide +kernel
theorem dX10_plan_55 : decode cX10_plan 55 = .ok (.istore_n 2, 1) := by decide +kernel
theorem dX10_plan_56 : decode cX10_plan 56 = .ok (.iinc 3 1, 3) := by decide +kernel
theorem dX10_plan_59 : decode cX10_plan 59 = .ok (.goto (-47), 3) := by decide +kernel
theorem dX10_plan_62 : decode cX10_plan 62 = .ok (.iload_n 2, 1) := by decide +kernel
theorem dX10_plan_63 : decode cX10_plan 63 = .ok (.ireturn, 1) := by decide +kernel
set_option maxRecDepth 20000 in
theorem ggX10_takeOut_X10_isPerson : GoodIn wsX10_takeOut wsX10_isPerson := goodIn_r _ [7, 8, 9, 10, 6, 11, 18, 19, 20, 21, 22, 23, 24, 25, 26, 27, 28, 29, 30, 31, 32, 33, 34, 35, 36, 37, 38, 39, 40, 41, 42, 43, 44, 45, 46, 47, 48, 49] (by decide +kernel) (by decide +kernel)
set_option maxRecDepth 20000 in
theorem gX10_takeOut_X10_isPerson : GoodIn wsX10_takeOut (wsV RX10 95 RX10 yX10_isPerson wsX10_isPerson) := goodIn_app (goodIn_of _ (by decide +kernel)) ggX10_takeOut_X10_isPerson
set_option maxRecDepth 20000 in
theorem ggX10_takeOut_X10_isRight : GoodIn wsX10_takeOut wsX10_isRight := goodIn_r _ [14, 9, 10, 6, 11] (by decide +kernel) (by decide +kernel)
set_option maxRecDepth 20000 in
theorem gX10_takeOut_X10_isRight : GoodIn wsX10_takeOut (va_wsS RX10 122 yX10_isRight wsX10_isRight) := goodIn_app (goodIn_of _ (by decide +kernel)) ggX10_takeOut_X10_isRight
set_option maxRecDepth 20000 in
theorem ggX10_takeOut_X10_has : GoodIn wsX10_takeOut wsX10_has := goodIn_r _ [17] (by decide +kernel) (by decide +kernel)
set_option maxRecDepth 20000 in
theorem gX10_takeOut_X10_has : GoodIn wsX10_takeOut (va_wsS RX10 91 yX10_has wsX10_has) := goodIn_app (goodIn_of _ (by decide +kernel)) ggX10_takeOut_X10_has
theorem dX10_takeOut_0 : decode cX10_takeOut 0 = .ok (.aload_n 0, 1) := by decide +kernel
theorem dX10_takeOut_1 : decode cX10_takeOut 1 = .ok (.iload_n 1, 1) := by decide +kernel
theorem dX10_takeOut_2 : decode cX10_takeOut 2 = .ok (.invokevirtual 95, 3) := by decide +kernel
theorem dX10_takeOut_5 : decode cX10_takeOut 5 = .ok (.ifCond .eq 25, 3) := by decide +kernel
theorem dX10_takeOut_8 : decode cX10_takeOut 8 = .ok (.iload_n 2, 1) := by decide +kernel
theorem dX10_takeOut_9 : decode cX10_takeOut 9 = .ok (.invokestatic 122, 3) := by decide +kernel
theorem dX10_takeOut_12 : decode cX10_takeOut 12 = .ok (.ifCond .eq 18, 3) := by decide +kernel
theorem dX10_takeOut_15 : decode cX10_takeOut 15 = .ok (.aload_n 0, 1) := by decide +kernel
theorem dX10_takeOut_16 : decode cX10_takeOut 16 = .ok (.getfield 66, 3) := by decide +kernel
theorem dX10_takeOut_19 : decode cX10_takeOut 19 = .ok (.ifCond .lt 13, 3) := by decide +kernel
theorem dX10_takeOut_22 : decode cX10_takeOut 22 = .ok (.iload_n 1, 1) := by decide +kernel
theorem dX10_takeOut_23 : decode cX10_takeOut 23 = .ok (.aload_n 0, 1) := by decide +kernel
theorem dX10_takeOut_24 : decode cX10_takeOut 24 = .ok (.getfield 66, 3) := by decide +kernel
theorem dX10_takeOut_27 : decode cX10_takeOut 27 = .ok (.if_icmp .lt 5, 3) := by decide +kernel
theorem dX10_takeOut_30 : decode cX10_takeOut 30 = .ok (.iconst (-1), 1) := by decide +kernel
theorem dX10_takeOut_31 : decode cX10_takeOut 31 = .ok (.ireturn, 1) := by decide +kernel
theorem dX10_takeOut_32 : decode cX10_takeOut 32 = .ok (.aload_n 0, 1) := by decide +kernel
theorem dX10_takeOut_33 : decode cX10_takeOut 33 = .ok (.getfield 66, 3) := by decide +kernel
theorem dX10_takeOut_36 : decode cX10_takeOut 36 = .ok (.ifCond .ge 6, 3) := by decide +kernel
theorem dX10_takeOut_39 : decode cX10_takeOut 39 = .ok (.bipush (-4), 2) := by decide +kernel
theorem dX10_takeOut_41 : decode cX10_takeOut 41 = .ok (.ireturn, 1) := by decide +kernel
theorem dX10_takeOut_42 : decode cX10_takeOut 42 = .ok (.aload_n 0, 1) := by decide +kernel
theorem dX10_takeOut_43 : decode cX10_takeOut 43 = .ok (.getfield 69, 3) := by decide +kernel
theorem dX10_takeOut_46 : decode cX10_takeOut 46 = .ok (.iload_n 1, 1) := by decide +kernel
theorem dX10_takeOut_47 : decode cX10_takeOut 47 = .ok (.iaload, 1) := by decide +kernel
theorem dX10_takeOut_48 : decode cX10_takeOut 48 = .ok (.iload_n 2, 1) := by decide +kernel
theorem dX10_takeOut_49 : decode cX10_takeOut 49 = .ok (.invokestatic 91, 3) := by decide +kernel
theorem dX10_takeOut_52 : decode cX10_takeOut 52 = .ok (.ifCond .eq 7, 3) := by decide +kernel
theorem dX10_takeOut_55 : decode cX10_takeOut 55 = .ok (.iconst 1, 1) := by decide +kernel
theorem dX10_takeOut_56 : decode cX10_takeOut 56 = .ok (.goto 4, 3) := by decide +kernel
theorem dX10_takeOut_59 : decode cX10_takeOut 59 = .ok (.iconst 0, 1) := by decide +kernel
theorem dX10_takeOut_60 : decode cX10_takeOut 60 = .ok (.istore_n 3, 1) := by decide +kernel
theorem dX10_takeOut_61 : decode cX10_takeOut 61 = .ok (.aload_n 0, 1) := by decide +kernel
theorem dX10_takeOut_62 : decode cX10_takeOut 62 = .ok (.getfield 69, 3) := by decide +kernel
theorem dX10_takeOut_65 : decode cX10_takeOut 65 = .ok (.iload_n 1, 1) := by decide +kernel
theorem dX10_takeOut_66 : decode cX10_takeOut 66 = .ok (.dup2, 1) := by decide +kernel
theorem dX10_takeOut_67 : decode cX10_takeOut 67 = .ok (.iaload, 1) := by decide +kernel
theorem dX10_takeOut_68 : decode cX10_takeOut 68 = .ok (.iconst 1, 1) := by decide +kernel
theorem dX10_takeOut_69 : decode cX10_takeOut 69 = .ok (.iload_n 2, 1) := by decide +kernel
theorem dX10_takeOut_70 : decode cX10_takeOut 70 = .ok (.ishl, 1) := by decide +kernel
theorem dX10_takeOut_71 : decode cX10_takeOut 71 = .ok (.iconst (-1), 1) := by decide +kernel
theorem dX10_takeOut_72 : decode cX10_takeOut 72 = .ok (.ixor, 1) := by decide +kernel
theorem dX10_takeOut_73 : decode cX10_takeOut 73 = .ok (.iand, 1) := by decide +kernel
theorem dX10_takeOut_74 : decode cX10_takeOut 74 = .ok (.iastore, 1) := by decide +kernel
theorem dX10_takeOut_75 : decode cX10_takeOut 75 = .ok (.iload_n 3, 1) := by decide +kernel
theorem dX10_takeOut_76 : decode cX10_takeOut 76 = .ok (.ireturn, 1) := by decide +kernel
set_option maxRecDepth 20000 in
theorem ggX10_isStopped_X10_has : GoodIn wsX10_isStopped wsX10_has := goodIn_r _ [10] (by decide +kernel) (by decide +kernel)
set_option maxRecDepth 20000 in
theorem gX10_isStopped_X10_has : GoodIn wsX10_isStopped (va_wsS RX10 91 yX10_has wsX10_has) := goodIn_app (goodIn_of _ (by decide +kernel)) ggX10_isStopped_X10_has
theorem dX10_isStopped_0 : decode cX10_isStopped 0 = .ok (.aload_n 0, 1) := by decide +kernel
theorem dX10_isStopped_1 : decode cX10_isStopped 1 = .ok (.getfield 32, 3) := by decide +kernel
theorem dX10_isStopped_4 : decode cX10_isStopped 4 = .ok (.iload_n 1, 1) := by decide +kernel
theorem dX10_isStopped_5 : decode cX10_isStopped 5 = .ok (.iaload, 1) := by decide +kernel
theorem dX10_isStopped_6 : decode cX10_isStopped 6 = .ok (.istore_n 3, 1) := by decide +kernel
theorem dX10_isStopped_7 : decode cX10_isStopped 7 = .ok (.aload_n 0, 1) := by decide +kernel
theorem dX10_isStopped_8 : decode cX10_isStopped 8 = .ok (.getfield 106, 3) := by decide +kernel
theorem dX10_isStopped_11 : decode cX10_isStopped 11 = .ok (.aload_n 0, 1) := by decide +kernel
theorem dX10_isStopped_12 : decode cX10_isStopped 12 = .ok (.getfield 38, 3) := by decide +kernel
theorem dX10_isStopped_15 : decode cX10_isStopped 15 = .ok (.iload_n 1, 1) := by decide +kernel
theorem dX10_isStopped_16 : decode cX10_isStopped 16 = .ok (.iaload, 1) := by decide +kernel
theorem dX10_isStopped_17 : decode cX10_isStopped 17 = .ok (.isub, 1) := by decide +kernel
theorem dX10_isStopped_18 : decode cX10_isStopped 18 = .ok (.iload_n 2, 1) := by decide +kernel
theorem dX10_isStopped_19 : decode cX10_isStopped 19 = .ok (.if_icmp .ge 33, 3) := by decide +kernel
theorem dX10_isStopped_22 : decode cX10_isStopped 22 = .ok (.iload_n 3, 1) := by decide +kernel
theorem dX10_isStopped_23 : decode cX10_isStopped 23 = .ok (.aload_n 0, 1) := by decide +kernel
theorem dX10_isStopped_24 : decode cX10_isStopped 24 = .ok (.getfield 66, 3) := by decide +kernel
theorem dX10_isStopped_27 : decode cX10_isStopped 27 = .ok (.if_icmp .ge 21, 3) := by decide +kernel
theorem dX10_isStopped_30 : decode cX10_isStopped 30 = .ok (.aload_n 0, 1) := by decide +kernel
theorem dX10_isStopped_31 : decode cX10_isStopped 31 = .ok (.getfield 69, 3) := by decide +kernel
theorem dX10_isStopped_34 : decode cX10_isStopped 34 = .ok (.iload_n 3, 1) := by decide +kernel
theorem dX10_isStopped_35 : decode cX10_isStopped 35 = .ok (.iaload, 1) := by decide +kernel
theorem dX10_isStopped_36 : decode cX10_isStopped 36 = .ok (.aload_n 0, 1) := by decide +kernel
theorem dX10_isStopped_37 : decode cX10_isStopped 37 = .ok (.getfield 35, 3) := by decide +kernel
theorem dX10_isStopped_40 : decode cX10_isStopped 40 = .ok (.iload_n 1, 1) := by decide +kernel
theorem dX10_isStopped_41 : decode cX10_isStopped 41 = .ok (.iaload, 1) := by decide +kernel
theorem dX10_isStopped_42 : decode cX10_isStopped 42 = .ok (.invokestatic 91, 3) := by decide +kernel
theorem dX10_isStopped_45 : decode cX10_isStopped 45 = .ok (.ifCond .ne 7, 3) := by decide +kernel
theorem dX10_isStopped_48 : decode cX10_isStopped 48 = .ok (.iconst 1, 1) := by decide +kernel
theorem dX10_isStopped_49 : decode cX10_isStopped 49 = .ok (.goto 4, 3) := by decide +kernel
theorem dX10_isStopped_52 : decode cX10_isStopped 52 = .ok (.iconst 0, 1) := by decide +kernel
theorem dX10_isStopped_53 : decode cX10_isStopped 53 = .ok (.ireturn, 1) := by decide +kernel
set_option maxRecDepth 20000 in
theorem ggX10_stopped_X10_in : GoodIn wsX10_stopped wsX10_in := goodIn_r _ [6] (by decide +kernel) (by decide +kernel)
set_option maxRecDepth 20000 in
theorem gX10_stopped_X10_in : GoodIn wsX10_stopped (va_wsS RX10 87 yX10_in wsX10_in) := goodIn_app (goodIn_of _ (by decide +kernel)) ggX10_stopped_X10_in
set_option maxRecDepth 20000 in
theorem ggX10_stopped_X10_isStopped : GoodIn wsX10_stopped wsX10_isStopped := goodIn_r _ [10, 11, 12, 13, 1, 14, 15, 16, 17, 5, 18, 19, 20, 21, 22, 23, 24, 25, 26, 27, 28, 29, 30, 31, 32, 33, 34, 35, 36, 37, 38, 39, 40, 41, 42, 43, 44, 45, 46, 47, 48, 49, 50] (by decide +kernel) (by decide +kernel)
set_option maxRecDepth 20000 in
theorem gX10_stopped_X10_isStopped : GoodIn wsX10_stopped (wsV RX10 166 RX10 yX10_isStopped wsX10_isStopped) := goodIn_app (goodIn_of _ (by decide +kernel)) ggX10_stopped_X10_isStopped
theorem dX10_stopped_0 : decode cX10_stopped 0 = .ok (.iload_n 1, 1) := by decide +kernel
theorem dX10_stopped_1 : decode cX10_stopped 1 = .ok (.iconst 1, 1) := by decide +kernel
theorem dX10_stopped_2 : decode cX10_stopped 2 = .ok (.sipush 1000, 3) := by decide +kernel
theorem dX10_stopped_5 : decode cX10_stopped 5 = .ok (.invokestatic 87, 3) := by decide +kernel
theorem dX10_stopped_8 : decode cX10_stopped 8 = .ok (.ifCond .ne 5, 3) := by decide +kernel
theorem dX10_stopped_11 : decode cX10_stopped 11 = .ok (.iconst (-1), 1) := by decide +kernel
theorem dX10_stopped_12 : decode cX10_stopped 12 = .ok (.ireturn, 1) := by decide +kernel
theorem dX10_stopped_13 : decode cX10_stopped 13 = .ok (.aload_n 0, 1) := by decide +kernel
theorem dX10_stopped_14 : decode cX10_stopped 14 = .ok (.getfield 66, 3) := by decide +kernel
theorem dX10_stopped_17 : decode cX10_stopped 17 = .ok (.ifCond .ge 6, 3) := by decide +kernel
theorem dX10_stopped_20 : decode cX10_stopped 20 = .ok (.bipush (-4), 2) := by decide +kernel
theorem dX10_stopped_22 : decode cX10_stopped 22 = .ok (.ireturn, 1) := by decide +kernel
theorem dX10_stopped_23 : decode cX10_stopped 23 = .ok (.iconst 0, 1) := by decide +kernel
theorem dX10_stopped_24 : decode cX10_stopped 24 = .ok (.istore_n 2, 1) := by decide +kernel
theorem dX10_stopped_25 : decode cX10_stopped 25 = .ok (.iconst 0, 1) := by decide +kernel
theorem dX10_stopped_26 : decode cX10_stopped 26 = .ok (.istore_n 3, 1) := by decide +kernel
theorem dX10_stopped_27 : decode cX10_stopped 27 = .ok (.iload_n 3, 1) := by decide +kernel
theorem dX10_stopped_28 : decode cX10_stopped 28 = .ok (.aload_n 0, 1) := by decide +kernel
theorem dX10_stopped_29 : decode cX10_stopped 29 = .ok (.getfield 103, 3) := by decide +kernel
theorem dX10_stopped_32 : decode cX10_stopped 32 = .ok (.if_icmp .ge 26, 3) := by decide +kernel
theorem dX10_stopped_35 : decode cX10_stopped 35 = .ok (.iload_n 2, 1) := by decide +kernel
theorem dX10_stopped_36 : decode cX10_stopped 36 = .ok (.aload_n 0, 1) := by decide +kernel
theorem dX10_stopped_37 : decode cX10_stopped 37 = .ok (.iload_n 3, 1) := by decide +kernel
theorem dX10_stopped_38 : decode cX10_stopped 38 = .ok (.iload_n 1, 1) := by decide +kernel
theorem dX10_stopped_39 : decode cX10_stopped 39 = .ok (.invokevirtual 166, 3) := by decide +kernel
theorem dX10_stopped_42 : decode cX10_stopped 42 = .ok (.ifCond .eq 7, 3) := by decide +kernel
theorem dX10_stopped_45 : decode cX10_stopped 45 = .ok (.iconst 1, 1) := by decide +kernel
theorem dX10_stopped_46 : decode cX10_stopped 46 = .ok (.goto 4, 3) := by decide +kernel
theorem dX10_stopped_49 : decode cX10_stopped 49 = .ok (.iconst 0, 1) := by decide +kernel
theorem dX10_stopped_50 : decode cX10_stopped 50 = .ok (.iadd, 1) := by decide +kernel
theorem dX10_stopped_51 : decode cX10_stopped 51 = .ok (.istore_n 2, 1) := by decide +kernel
theorem dX10_stopped_52 : decode cX10_stopped 52 = .ok (.iinc 3 1, 3) := by decide +kernel
theorem dX10_stopped_55 : decode cX10_stopped 55 = .ok (.goto (-28), 3) := by decide +kernel
theorem dX10_stopped_58 : decode cX10_stopped 58 = .ok (.iload_n 2, 1) := by decide +kernel
theorem dX10_stopped_59 : decode cX10_stopped 59 = .ok (.ireturn, 1) := by decide +kernel
set_option maxRecDepth 20000 in
theorem ggX10_stop_X10_in : GoodIn wsX10_stop wsX10_in := goodIn_r _ [6] (by decide +kernel) (by decide +kernel)
set_option maxRecDepth 20000 in
theorem gX10_stop_X10_in : GoodIn wsX10_stop (va_wsS RX10 87 yX10_in wsX10_in) := goodIn_app (goodIn_of _ (by decide +kernel)) ggX10_stop_X10_in
set_option maxRecDepth 20000 in
theorem ggX10_stop_X10_isStopped : GoodIn wsX10_stop wsX10_isStopped := goodIn_r _ [10, 11, 12, 13, 1, 14, 15, 16, 17, 5, 18, 19, 20, 21, 22, 23, 24, 25, 26, 27, 28, 29, 30, 31, 32, 33, 34, 35, 36, 37, 38, 39, 40, 41, 42, 43, 44, 45, 46, 47, 48, 49, 50] (by decide +kernel) (by decide +kernel)
set_option maxRecDepth 20000 in
theorem gX10_stop_X10_isStopped : GoodIn wsX10_stop (wsV RX10 166 RX10 yX10_isStopped wsX10_isStopped) := goodIn_app (goodIn_of _ (by decide +kernel)) ggX10_stop_X10_isStopped
theorem dX10_stop_0 : decode cX10_stop 0 = .ok (.iload_n 1, 1) := by decide +kernel
theorem dX10_stop_1 : decode cX10_stop 1 = .ok (.iconst 1, 1) := by decide +kernel
theorem dX10_stop_2 : decode cX10_stop 2 = .ok (.sipush 1000, 3) := by decide +kernel
theorem dX10_stop_5 : decode cX10_stop 5 = .ok (.invokestatic 87, 3) := by decide +kernel
theorem dX10_stop_8 : decode cX10_stop 8 = .ok (.ifCond .eq 7, 3) := by decide +kernel
theorem dX10_stop_11 : decode cX10_stop 11 = .ok (.iload_n 2, 1) := by decide +kernel
theorem dX10_stop_12 : decode cX10_stop 12 = .ok (.ifCond .ge 5, 3) := by decide +kernel
theorem dX10_stop_15 : decode cX10_stop 15 = .ok (.iconst (-1), 1) := by decide +kernel
theorem dX10_stop_16 : decode cX10_stop 16 = .ok (.ireturn, 1) := by decide +kernel
theorem dX10_stop_17 : decode cX10_stop 17 = .ok (.aload_n 0, 1) := by decide +kernel
theorem dX10_stop_18 : decode cX10_stop 18 = .ok (.getfield 66, 3) := by decide +kernel
theorem dX10_stop_21 : decode cX10_stop 21 = .ok (.ifCond .ge 6, 3) := by decide +kernel
theorem dX10_stop_24 : decode cX10_stop 24 = .ok (.bipush (-4), 2) := by decide +kernel
theorem dX10_stop_26 : decode cX10_stop 26 = .ok (.ireturn, 1) := by decide +kernel
theorem dX10_stop_27 : decode cX10_stop 27 = .ok (.iload_n 2, 1) := by decide +kernel
theorem dX10_stop_28 : decode cX10_stop 28 = .ok (.istore_n 3, 1) := by decide +kernel
theorem dX10_stop_29 : decode cX10_stop 29 = .ok (.iload_n 3, 1) := by decide +kernel
theorem dX10_stop_30 : decode cX10_stop 30 = .ok (.aload_n 0, 1) := by decide +kernel
theorem dX10_stop_31 : decode cX10_stop 31 = .ok (.getfield 103, 3) := by decide +kernel
theorem dX10_stop_34 : decode cX10_stop 34 = .ok (.if_icmp .ge 20, 3) := by decide +kernel
theorem dX10_stop_37 : decode cX10_stop 37 = .ok (.aload_n 0, 1) := by decide +kernel
theorem dX10_stop_38 : decode cX10_stop 38 = .ok (.iload_n 3, 1) := by decide +kernel
theorem dX10_stop_39 : decode cX10_stop 39 = .ok (.iload_n 1, 1) := by decide +kernel
theorem dX10_stop_40 : decode cX10_stop 40 = .ok (.invokevirtual 166, 3) := by decide +kernel
theorem dX10_stop_43 : decode cX10_stop 43 = .ok (.ifCond .eq 5, 3) := by decide +kernel
theorem dX10_stop_46 : decode cX10_stop 46 = .ok (.iload_n 3, 1) := by decide +kernel
theorem dX10_stop_47 : decode cX10_stop 47 = .ok (.ireturn, 1) := by decide +kernel
theorem dX10_stop_48 : decode cX10_stop 48 = .ok (.iinc 3 1, 3) := by decide +kernel
theorem dX10_stop_51 : decode cX10_stop 51 = .ok (.goto (-22), 3) := by decide +kernel
theorem dX10_stop_54 : decode cX10_stop 54 = .ok (.bipush (-9), 2) := by decide +kernel
theorem dX10_stop_56 : decode cX10_stop 56 = .ok (.ireturn, 1) := by decide +kernel
set_option maxRecDepth 20000 in
theorem ggX10_used_X10_in : GoodIn wsX10_used wsX10_in := goodIn_r _ [8] (by decide +kernel) (by decide +kernel)
set_option maxRecDepth 20000 in
theorem gX10_used_X10_in : GoodIn wsX10_used (va_wsS RX10 87 yX10_in wsX10_in) := goodIn_app (goodIn_of _ (by decide +kernel)) ggX10_used_X10_in
theorem dX10_used_0 : decode cX10_used 0 = .ok (.iload_n 1, 1) := by decide +kernel
theorem dX10_used_1 : decode cX10_used 1 = .ok (.iconst 0, 1) := by decide +kernel
theorem dX10_used_2 : decode cX10_used 2 = .ok (.aload_n 0, 1) := by decide +kernel
theorem dX10_used_3 : decode cX10_used 3 = .ok (.getfield 103, 3) := by decide +kernel
theorem dX10_used_6 : decode cX10_used 6 = .ok (.iconst 1, 1) := by decide +kernel
theorem dX10_used_7 : decode cX10_used 7 = .ok (.isub, 1) := by decide +kernel
theorem dX10_used_8 : decode cX10_used 8 = .ok (.invokestatic 87, 3) := by decide +kernel
theorem dX10_used_11 : decode cX10_used 11 = .ok (.ifCond .eq 12, 3) := by decide +kernel
theorem dX10_used_14 : decode cX10_used 14 = .ok (.iload_n 2, 1) := by decide +kernel
theorem dX10_used_15 : decode cX10_used 15 = .ok (.iconst 0, 1) := by decide +kernel
theorem dX10_used_16 : decode cX10_used 16 = .ok (.iconst 2, 1) := by decide +kernel
theorem dX10_used_17 : decode cX10_used 17 = .ok (.invokestatic 87, 3) := by decide +kernel
theorem dX10_used_20 : decode cX10_used 20 = .ok (.ifCond .ne 5, 3) := by decide +kernel
theorem dX10_used_23 : decode cX10_used 23 = .ok (.iconst (-1), 1) := by decide +kernel
theorem dX10_used_24 : decode cX10_used 24 = .ok (.ireturn, 1) := by decide +kernel
theorem dX10_used_25 : decode cX10_used 25 = .ok (.iload_n 2, 1) := by decide +kernel
theorem dX10_used_26 : decode cX10_used 26 = .ok (.ifCond .ne 12, 3) := by decide +kernel
theorem dX10_used_29 : decode cX10_used 29 = .ok (.aload_n 0, 1) := by decide +kernel
theorem dX10_used_30 : decode cX10_used 30 = .ok (.getfield 32, 3) := by decide +kernel
theorem dX10_used_33 : decode cX10_used 33 = .ok (.iload_n 1, 1) := by decide +kernel
theorem dX10_used_34 : decode cX10_used 34 = .ok (.iaload, 1) := by decide +kernel
theorem dX10_used_35 : decode cX10_used 35 = .ok (.goto 23, 3) := by decide +kernel
theorem dX10_used_38 : decode cX10_used 38 = .ok (.iload_n 2, 1) := by decide +kernel
theorem dX10_used_39 : decode cX10_used 39 = .ok (.iconst 1, 1) := by decide +kernel
theorem dX10_used_40 : decode cX10_used 40 = .ok (.if_icmp .ne 12, 3) := by decide +kernel
theorem dX10_used_43 : decode cX10_used 43 = .ok (.aload_n 0, 1) := by decide +kernel
theorem dX10_used_44 : decode cX10_used 44 = .ok (.getfield 35, 3) := by decide +kernel
theorem dX10_used_47 : decode cX10_used 47 = .ok (.iload_n 1, 1) := by decide +kernel
theorem dX10_used_48 : decode cX10_used 48 = .ok (.iaload, 1) := by decide +kernel
theorem dX10_used_49 : decode cX10_used 49 = .ok (.goto 9, 3) := by decide +kernel
theorem dX10_used_52 : decode cX10_used 52 = .ok (.aload_n 0, 1) := by decide +kernel
theorem dX10_used_53 : decode cX10_used 53 = .ok (.getfield 38, 3) := by decide +kernel
theorem dX10_used_56 : decode cX10_used 56 = .ok (.iload_n 1, 1) := by decide +kernel
theorem dX10_used_57 : decode cX10_used 57 = .ok (.iaload, 1) := by decide +kernel
theorem dX10_used_58 : decode cX10_used 58 = .ok (.ireturn, 1) := by decide +kernel
set_option maxRecDepth 20000 in
theorem ggX10_apply_X10_strikeBut : GoodIn wsX10_apply wsX10_strikeBut := goodIn_r _ [8, 9, 10, 11, 12, 13, 7, 14, 19, 20, 21, 22, 23, 24, 25, 26, 27, 28, 29, 30, 31, 32, 33, 34, 35, 36, 37, 38, 39, 40, 41, 42, 43, 44, 45, 46, 47, 48, 49, 50] (by decide +kernel) (by decide +kernel)
set_option maxRecDepth 20000 in
theorem gX10_apply_X10_strikeBut : GoodIn wsX10_apply (wsV RX10 128 RX10 yX10_strikeBut wsX10_strikeBut) := goodIn_app (goodIn_of _ (by decide +kernel)) ggX10_apply_X10_strikeBut
set_option maxRecDepth 20000 in
theorem ggX10_apply_X10_give : GoodIn wsX10_apply wsX10_give := goodIn_r _ [18, 9, 10, 12, 13, 7, 14, 19, 20, 21, 22, 23, 24, 25, 26, 27, 28, 29, 30, 31, 32, 33, 34, 35, 36, 37, 38, 39, 40, 41, 42, 43, 44, 45, 46, 47, 48, 49, 50] (by decide +kernel) (by decide +kernel)
set_option maxRecDepth 20000 in
theorem gX10_apply_X10_give : GoodIn wsX10_apply (wsV RX10 99 RX10 yX10_give wsX10_give) := goodIn_app (goodIn_of _ (by decide +kernel)) ggX10_apply_X10_give
theorem dX10_apply_0 : decode cX10_apply 0 = .ok (.aload_n 0, 1) := by decide +kernel
theorem dX10_apply_1 : decode cX10_apply 1 = .ok (.getfield 66, 3) := by decide +kernel
theorem dX10_apply_4 : decode cX10_apply 4 = .ok (.aload_n 0, 1) := by decide +kernel
theorem dX10_apply_5 : decode cX10_apply 5 = .ok (.getfield 84, 3) := by decide +kernel
theorem dX10_apply_8 : decode cX10_apply 8 = .ok (.if_icmp .eq 6, 3) := by decide +kernel
theorem dX10_apply_11 : decode cX10_apply 11 = .ok (.bipush (-4), 2) := by decide +kernel
theorem dX10_apply_13 : decode cX10_apply 13 = .ok (.ireturn, 1) := by decide +kernel
theorem dX10_apply_14 : decode cX10_apply 14 = .ok (.iconst 0, 1) := by decide +kernel
theorem dX10_apply_15 : decode cX10_apply 15 = .ok (.istore_n 1, 1) := by decide +kernel
theorem dX10_apply_16 : decode cX10_apply 16 = .ok (.iconst 0, 1) := by decide +kernel
theorem dX10_apply_17 : decode cX10_apply 17 = .ok (.istore_n 2, 1) := by decide +kernel
theorem dX10_apply_18 : decode cX10_apply 18 = .ok (.iload_n 2, 1) := by decide +kernel
theorem dX10_apply_19 : decode cX10_apply 19 = .ok (.aload_n 0, 1) := by decide +kernel
theorem dX10_apply_20 : decode cX10_apply 20 = .ok (.getfield 84, 3) := by decide +kernel
theorem dX10_apply_23 : decode cX10_apply 23 = .ok (.if_icmp .ge 35, 3) := by decide +kernel
theorem dX10_apply_26 : decode cX10_apply 26 = .ok (.iload_n 1, 1) := by decide +kernel
theorem dX10_apply_27 : decode cX10_apply 27 = .ok (.aload_n 0, 1) := by decide +kernel
theorem dX10_apply_28 : decode cX10_apply 28 = .ok (.iload_n 2, 1) := by decide +kernel
theorem dX10_apply_29 : decode cX10_apply 29 = .ok (.aload_n 0, 1) := by decide +kernel
theorem dX10_apply_30 : decode cX10_apply 30 = .ok (.getfield 69, 3) := by decide +kernel
theorem dX10_apply_33 : decode cX10_apply 33 = .ok (.iload_n 2, 1) := by decide +kernel
theorem dX10_apply_34 : decode cX10_apply 34 = .ok (.iaload, 1) := by decide +kernel
theorem dX10_apply_35 : decode cX10_apply 35 = .ok (.invokevirtual 128, 3) := by decide +kernel
theorem dX10_apply_38 : decode cX10_apply 38 = .ok (.iadd, 1) := by decide +kernel
theorem dX10_apply_39 : decode cX10_apply 39 = .ok (.istore_n 1, 1) := by decide +kernel
theorem dX10_apply_40 : decode cX10_apply 40 = .ok (.aload_n 0, 1) := by decide +kernel
theorem dX10_apply_41 : decode cX10_apply 41 = .ok (.iload_n 2, 1) := by decide +kernel
theorem dX10_apply_42 : decode cX10_apply 42 = .ok (.aload_n 0, 1) := by decide +kernel
theorem dX10_apply_43 : decode cX10_apply 43 = .ok (.getfield 69, 3) := by decide +kernel
theorem dX10_apply_46 : decode cX10_apply 46 = .ok (.iload_n 2, 1) := by decide +kernel
theorem dX10_apply_47 : decode cX10_apply 47 = .ok (.iaload, 1) := by decide +kernel
theorem dX10_apply_48 : decode cX10_apply 48 = .ok (.invokevirtual 99, 3) := by decide +kernel
theorem dX10_apply_51 : decode cX10_apply 51 = .ok (.istore_n 3, 1) := by decide +kernel
theorem dX10_apply_52 : decode cX10_apply 52 = .ok (.iinc 2 1, 3) := by decide +kernel
theorem dX10_apply_55 : decode cX10_apply 55 = .ok (.goto (-37), 3) := by decide +kernel
theorem dX10_apply_58 : decode cX10_apply 58 = .ok (.iload_n 1, 1) := by decide +kernel
theorem dX10_apply_59 : decode cX10_apply 59 = .ok (.ireturn, 1) := by decide +kernel
set_option maxRecDepth 20000 in
theorem ggX10_isSheet_X10_in : GoodIn wsX10_isSheet wsX10_in := goodIn_r _ [4] (by decide +kernel) (by decide +kernel)
set_option maxRecDepth 20000 in
theorem gX10_isSheet_X10_in : GoodIn wsX10_isSheet (va_wsS RX10 87 yX10_in wsX10_in) := goodIn_app (goodIn_of _ (by decide +kernel)) ggX10_isSheet_X10_in
theorem dX10_isSheet_0 : decode cX10_isSheet 0 = .ok (.iload_n 0, 1) := by decide +kernel
theorem dX10_isSheet_1 : decode cX10_isSheet 1 = .ok (.iconst 0, 1) := by decide +kernel
theorem dX10_isSheet_2 : decode cX10_isSheet 2 = .ok (.iconst 3, 1) := by decide +kernel
theorem dX10_isSheet_3 : decode cX10_isSheet 3 = .ok (.invokestatic 87, 3) := by decide +kernel
theorem dX10_isSheet_6 : decode cX10_isSheet 6 = .ok (.ireturn, 1) := by decide +kernel
set_option maxRecDepth 20000 in
theorem ggX10_sheet_X10_isSheet : GoodIn wsX10_sheet wsX10_isSheet := goodIn_r _ [6, 7, 8, 5, 9] (by decide +kernel) (by decide +kernel)
set_option maxRecDepth 20000 in
theorem gX10_sheet_X10_isSheet : GoodIn wsX10_sheet (va_wsS RX10 169 yX10_isSheet wsX10_isSheet) := goodIn_app (goodIn_of _ (by decide +kernel)) ggX10_sheet_X10_isSheet
set_option maxRecDepth 20000 in
theorem ggX10_sheet_X10_meets : GoodIn wsX10_sheet wsX10_meets := goodIn_r _ [13, 14, 15, 16, 17, 18, 19, 20, 21, 22, 23, 24, 25, 26, 27, 28, 29, 30, 31, 32, 33, 34, 35, 36, 37, 38, 39, 40, 41, 42, 43, 44, 45, 46, 47] (by decide +kernel) (by decide +kernel)
set_option maxRecDepth 20000 in
theorem gX10_sheet_X10_meets : GoodIn wsX10_sheet (wsV RX10 125 RX10 yX10_meets wsX10_meets) := goodIn_app (goodIn_of _ (by decide +kernel)) ggX10_sheet_X10_meets
theorem dX10_sheet_0 : decode cX10_sheet 0 = .ok (.iload_n 1, 1) := by decide +kernel
theorem dX10_sheet_1 : decode cX10_sheet 1 = .ok (.invokestatic 169, 3) := by decide +kernel
theorem dX10_sheet_4 : decode cX10_sheet 4 = .ok (.ifCond .eq 9, 3) := by decide +kernel
theorem dX10_sheet_7 : decode cX10_sheet 7 = .ok (.iload_n 2, 1) := by decide +kernel
theorem dX10_sheet_8 : decode cX10_sheet 8 = .ok (.bipush 10, 2) := by decide +kernel
theorem dX10_sheet_10 : decode cX10_sheet 10 = .ok (.if_icmp .le 5, 3) := by decide +kernel
theorem dX10_sheet_13 : decode cX10_sheet 13 = .ok (.iconst (-1), 1) := by decide +kernel
theorem dX10_sheet_14 : decode cX10_sheet 14 = .ok (.ireturn, 1) := by decide +kernel
theorem dX10_sheet_15 : decode cX10_sheet 15 = .ok (.iload_n 2, 1) := by decide +kernel
theorem dX10_sheet_16 : decode cX10_sheet 16 = .ok (.ifCond .ge 9, 3) := by decide +kernel
theorem dX10_sheet_19 : decode cX10_sheet 19 = .ok (.aload_n 0, 1) := by decide +kernel
theorem dX10_sheet_20 : decode cX10_sheet 20 = .ok (.iconst 4, 1) := by decide +kernel
theorem dX10_sheet_21 : decode cX10_sheet 21 = .ok (.invokevirtual 125, 3) := by decide +kernel
theorem dX10_sheet_24 : decode cX10_sheet 24 = .ok (.ireturn, 1) := by decide +kernel
theorem dX10_sheet_25 : decode cX10_sheet 25 = .ok (.aload_n 0, 1) := by decide +kernel
theorem dX10_sheet_26 : decode cX10_sheet 26 = .ok (.getfield 72, 3) := by decide +kernel
theorem dX10_sheet_29 : decode cX10_sheet 29 = .ok (.iload_n 1, 1) := by decide +kernel
theorem dX10_sheet_30 : decode cX10_sheet 30 = .ok (.iload_n 2, 1) := by decide +kernel
theorem dX10_sheet_31 : decode cX10_sheet 31 = .ok (.iastore, 1) := by decide +kernel
theorem dX10_sheet_32 : decode cX10_sheet 32 = .ok (.iconst 0, 1) := by decide +kernel
theorem dX10_sheet_33 : decode cX10_sheet 33 = .ok (.istore_n 3, 1) := by decide +kernel
theorem dX10_sheet_34 : decode cX10_sheet 34 = .ok (.iload_n 3, 1) := by decide +kernel
theorem dX10_sheet_35 : decode cX10_sheet 35 = .ok (.bipush 10, 2) := by decide +kernel
theorem dX10_sheet_37 : decode cX10_sheet 37 = .ok (.if_icmp .ge 21, 3) := by decide +kernel
theorem dX10_sheet_40 : decode cX10_sheet 40 = .ok (.aload_n 0, 1) := by decide +kernel
theorem dX10_sheet_41 : decode cX10_sheet 41 = .ok (.getfield 75, 3) := by decide +kernel
theorem dX10_sheet_44 : decode cX10_sheet 44 = .ok (.bipush 10, 2) := by decide +kernel
theorem dX10_sheet_46 : decode cX10_sheet 46 = .ok (.iload_n 1, 1) := by decide +kernel
theorem dX10_sheet_47 : decode cX10_sheet 47 = .ok (.imul, 1) := by decide +kernel
theorem dX10_sheet_48 : decode cX10_sheet 48 = .ok (.iload_n 3, 1) := by decide +kernel
theorem dX10_sheet_49 : decode cX10_sheet 49 = .ok (.iadd, 1) := by decide +kernel
theorem dX10_sheet_50 : decode cX10_sheet 50 = .ok (.iconst 0, 1) := by decide +kernel
theorem dX10_sheet_51 : decode cX10_sheet 51 = .ok (.iastore, 1) := by decide +kernel
theorem dX10_sheet_52 : decode cX10_sheet 52 = .ok (.iinc 3 1, 3) := by decide +kernel
theorem dX10_sheet_55 : decode cX10_sheet 55 = .ok (.goto (-21), 3) := by decide +kernel
theorem dX10_sheet_58 : decode cX10_sheet 58 = .ok (.iload_n 2, 1) := by decide +kernel
theorem dX10_sheet_59 : decode cX10_sheet 59 = .ok (.ireturn, 1) := by decide +kernel
set_option maxRecDepth 20000 in
theorem ggX10_save_X10_isSheet : GoodIn wsX10_save wsX10_isSheet := goodIn_r _ [8, 9, 10, 7, 11] (by decide +kernel) (by decide +kernel)
set_option maxRecDepth 20000 in
theorem gX10_save_X10_isSheet : GoodIn wsX10_save (va_wsS RX10 169 yX10_isSheet wsX10_isSheet) := goodIn_app (goodIn_of _ (by decide +kernel)) ggX10_save_X10_isSheet
set_option maxRecDepth 20000 in
theorem ggX10_save_X10_meets : GoodIn wsX10_save wsX10_meets := goodIn_r _ [15, 16, 17, 18, 19, 20, 21, 22, 23, 24, 25, 26, 27, 28, 29, 30, 31, 32, 33, 34, 35, 36, 37, 38, 39, 40, 41, 42, 43, 44, 45, 46, 47, 48, 49] (by decide +kernel) (by decide +kernel)
set_option maxRecDepth 20000 in
theorem gX10_save_X10_meets : GoodIn wsX10_save (wsV RX10 125 RX10 yX10_meets wsX10_meets) := goodIn_app (goodIn_of _ (by decide +kernel)) ggX10_save_X10_meets
theorem dX10_save_0 : decode cX10_save 0 = .ok (.iload_n 1, 1) := by decide +kernel
theorem dX10_save_1 : decode cX10_save 1 = .ok (.invokestatic 169, 3) := by decide +kernel
theorem dX10_save_4 : decode cX10_save 4 = .ok (.ifCond .ne 5, 3) := by decide +kernel
theorem dX10_save_7 : decode cX10_save 7 = .ok (.iconst (-1), 1) := by decide +kernel
theorem dX10_save_8 : decode cX10_save 8 = .ok (.ireturn, 1) := by decide +kernel
theorem dX10_save_9 : decode cX10_save 9 = .ok (.aload_n 0, 1) := by decide +kernel
theorem dX10_save_10 : decode cX10_save 10 = .ok (.getfield 72, 3) := by decide +kernel
theorem dX10_save_13 : decode cX10_save 13 = .ok (.iload_n 1, 1) := by decide +kernel
theorem dX10_save_14 : decode cX10_save 14 = .ok (.iaload, 1) := by decide +kernel
theorem dX10_save_15 : decode cX10_save 15 = .ok (.ifCond .ge 9, 3) := by decide +kernel
theorem dX10_save_18 : decode cX10_save 18 = .ok (.aload_n 0, 1) := by decide +kernel
theorem dX10_save_19 : decode cX10_save 19 = .ok (.iconst 1, 1) := by decide +kernel
theorem dX10_save_20 : decode cX10_save 20 = .ok (.invokevirtual 125, 3) := by decide +kernel
theorem dX10_save_23 : decode cX10_save 23 = .ok (.ireturn, 1) := by decide +kernel
theorem dX10_save_24 : decode cX10_save 24 = .ok (.aload_n 0, 1) := by decide +kernel
theorem dX10_save_25 : decode cX10_save 25 = .ok (.getfield 84, 3) := by decide +kernel
theorem dX10_save_28 : decode cX10_save 28 = .ok (.aload_n 0, 1) := by decide +kernel
theorem dX10_save_29 : decode cX10_save 29 = .ok (.getfield 72, 3) := by decide +kernel
theorem dX10_save_32 : decode cX10_save 32 = .ok (.iload_n 1, 1) := by decide +kernel
theorem dX10_save_33 : decode cX10_save 33 = .ok (.iaload, 1) := by decide +kernel
theorem dX10_save_34 : decode cX10_save 34 = .ok (.if_icmp .ge 10, 3) := by decide +kernel
theorem dX10_save_37 : decode cX10_save 37 = .ok (.aload_n 0, 1) := by decide +kernel
theorem dX10_save_38 : decode cX10_save 38 = .ok (.getfield 84, 3) := by decide +kernel
theorem dX10_save_41 : decode cX10_save 41 = .ok (.goto 9, 3) := by decide +kernel
theorem dX10_save_44 : decode cX10_save 44 = .ok (.aload_n 0, 1) := by decide +kernel
theorem dX10_save_45 : decode cX10_save 45 = .ok (.getfield 72, 3) := by decide +kernel
theorem dX10_save_48 : decode cX10_save 48 = .ok (.iload_n 1, 1) := by decide +kernel
theorem dX10_save_49 : decode cX10_save 49 = .ok (.iaload, 1) := by decide +kernel
theorem dX10_save_50 : decode cX10_save 50 = .ok (.istore_n 2, 1) := by decide +kernel
theorem dX10_save_51 : decode cX10_save 51 = .ok (.iconst 0, 1) := by decide +kernel
theorem dX10_save_52 : decode cX10_save 52 = .ok (.istore_n 3, 1) := by decide +kernel
theorem dX10_save_53 : decode cX10_save 53 = .ok (.iload_n 3, 1) := by decide +kernel
theorem dX10_save_54 : decode cX10_save 54 = .ok (.iload_n 2, 1) := by decide +kernel
theorem dX10_save_55 : decode cX10_save 55 = .ok (.if_icmp .ge 26, 3) := by decide +kernel
theorem dX10_save_58 : decode cX10_save 58 = .ok (.aload_n 0, 1) := by decide +kernel
theorem dX10_save_59 : decode cX10_save 59 = .ok (.getfield 75, 3) := by decide +kernel
theorem dX10_save_62 : decode cX10_save 62 = .ok (.bipush 10, 2) := by decide +kernel
theorem dX10_save_64 : decode cX10_save 64 = .ok (.iload_n 1, 1) := by decide +kernel
theorem dX10_save_65 : decode cX10_save 65 = .ok (.imul, 1) := by decide +kernel
theorem dX10_save_66 : decode cX10_save 66 = .ok (.iload_n 3, 1) := by decide +kernel
theorem dX10_save_67 : decode cX10_save 67 = .ok (.iadd, 1) := by decide +kernel
theorem dX10_save_68 : decode cX10_save 68 = .ok (.aload_n 0, 1) := by decide +kernel
theorem dX10_save_69 : decode cX10_save 69 = .ok (.getfield 16, 3) := by decide +kernel
theorem dX10_save_72 : decode cX10_save 72 = .ok (.iload_n 3, 1) := by decide +kernel
theorem dX10_save_73 : decode cX10_save 73 = .ok (.iaload, 1) := by decide +kernel
theorem dX10_save_74 : decode cX10_save 74 = .ok (.iastore, 1) := by decide +kernel
theorem dX10_save_75 : decode cX10_save 75 = .ok (.iinc 3 1, 3) := by decide +kernel
theorem dX10_save_78 : decode cX10_save 78 = .ok (.goto (-25), 3) := by decide +kernel
theorem dX10_save_81 : decode cX10_save 81 = .ok (.iload_n 2, 1) := by decide +kernel
theorem dX10_save_82 : decode cX10_save 82 = .ok (.ireturn, 1) := by decide +kernel
set_option maxRecDepth 20000 in
theorem ggX10_load_X10_isSheet : GoodIn wsX10_load wsX10_isSheet := goodIn_r _ [6, 7, 8, 5, 9] (by decide +kernel) (by decide +kernel)
set_option maxRecDepth 20000 in
theorem gX10_load_X10_isSheet : GoodIn wsX10_load (va_wsS RX10 169 yX10_isSheet wsX10_isSheet) := goodIn_app (goodIn_of _ (by decide +kernel)) ggX10_load_X10_isSheet
set_option maxRecDepth 20000 in
theorem ggX10_load_X10_isPerson : GoodIn wsX10_load wsX10_isPerson := goodIn_r _ [13, 14, 7, 8, 5, 9, 30, 31, 32, 33, 34, 35, 36, 37, 38, 39, 40, 41, 42, 43, 44, 45, 46, 47, 48, 49, 50, 51, 52, 53, 54, 55, 56, 57, 58, 59, 60, 61] (by decide +kernel) (by decide +kernel)
set_option maxRecDepth 20000 in
theorem gX10_load_X10_isPerson : GoodIn wsX10_load (wsV RX10 95 RX10 yX10_isPerson wsX10_isPerson) := goodIn_app (goodIn_of _ (by decide +kernel)) ggX10_load_X10_isPerson
set_option maxRecDepth 20000 in
theorem ggX10_load_X10_meets : GoodIn wsX10_load wsX10_meets := goodIn_r _ [18, 19, 20, 30, 31, 32, 33, 34, 35, 36, 37, 38, 39, 40, 41, 42, 43, 44, 45, 46, 47, 48, 49, 50, 51, 52, 53, 54, 55, 56, 57, 58, 59, 60, 61] (by decide +kernel) (by decide +kernel)
set_option maxRecDepth 20000 in
theorem gX10_load_X10_meets : GoodIn wsX10_load (wsV RX10 125 RX10 yX10_meets wsX10_meets) := goodIn_app (goodIn_of _ (by decide +kernel)) ggX10_load_X10_meets
set_option maxRecDepth 20000 in
theorem ggX10_load_X10_in : GoodIn wsX10_load wsX10_in := goodIn_r _ [9] (by decide +kernel) (by decide +kernel)
set_option maxRecDepth 20000 in
theorem gX10_load_X10_in : GoodIn wsX10_load (va_wsS RX10 87 yX10_in wsX10_in) := goodIn_app (goodIn_of _ (by decide +kernel)) ggX10_load_X10_in
set_option maxRecDepth 20000 in
theorem ggX10_load_X10_give : GoodIn wsX10_load wsX10_give := goodIn_r _ [24, 25, 26, 27, 28, 5, 29, 30, 31, 32, 33, 34, 35, 36, 37, 38, 39, 40, 41, 42, 43, 44, 45, 46, 47, 48, 49, 50, 51, 52, 53, 54, 55, 56, 57, 58, 59, 60, 61] (by decide +kernel) (by decide +kernel)
set_option maxRecDepth 20000 in
theorem gX10_load_X10_give : GoodIn wsX10_load (wsV RX10 99 RX10 yX10_give wsX10_give) := goodIn_app (goodIn_of _ (by decide +kernel)) ggX10_load_X10_give
theorem dX10_load_0 : decode cX10_load 0 = .ok (.iload_n 1, 1) := by decide +kernel
theorem dX10_load_1 : decode cX10_load 1 = .ok (.invokestatic 169, 3) := by decide +kernel
theorem dX10_load_4 : decode cX10_load 4 = .ok (.ifCond .eq 11, 3) := by decide +kernel
theorem dX10_load_7 : decode cX10_load 7 = .ok (.aload_n 0, 1) := by decide +kernel
theorem dX10_load_8 : decode cX10_load 8 = .ok (.iload_n 3, 1) := by decide +kernel
theorem dX10_load_9 : decode cX10_load 9 = .ok (.invokevirtual 95, 3) := by decide +kernel
theorem dX10_load_12 : decode cX10_load 12 = .ok (.ifCond .ne 5, 3) := by decide +kernel
theorem dX10_load_15 : decode cX10_load 15 = .ok (.iconst (-1), 1) := by decide +kernel
theorem dX10_load_16 : decode cX10_load 16 = .ok (.ireturn, 1) := by decide +kernel
theorem dX10_load_17 : decode cX10_load 17 = .ok (.aload_n 0, 1) := by decide +kernel
theorem dX10_load_18 : decode cX10_load 18 = .ok (.getfield 72, 3) := by decide +kernel
theorem dX10_load_21 : decode cX10_load 21 = .ok (.iload_n 1, 1) := by decide +kernel
theorem dX10_load_22 : decode cX10_load 22 = .ok (.iaload, 1) := by decide +kernel
theorem dX10_load_23 : decode cX10_load 23 = .ok (.ifCond .ge 9, 3) := by decide +kernel
theorem dX10_load_26 : decode cX10_load 26 = .ok (.aload_n 0, 1) := by decide +kernel
theorem dX10_load_27 : decode cX10_load 27 = .ok (.iconst 1, 1) := by decide +kernel
theorem dX10_load_28 : decode cX10_load 28 = .ok (.invokevirtual 125, 3) := by decide +kernel
theorem dX10_load_31 : decode cX10_load 31 = .ok (.ireturn, 1) := by decide +kernel
theorem dX10_load_32 : decode cX10_load 32 = .ok (.iload_n 2, 1) := by decide +kernel
theorem dX10_load_33 : decode cX10_load 33 = .ok (.iconst 0, 1) := by decide +kernel
theorem dX10_load_34 : decode cX10_load 34 = .ok (.aload_n 0, 1) := by decide +kernel
theorem dX10_load_35 : decode cX10_load 35 = .ok (.getfield 72, 3) := by decide +kernel
theorem dX10_load_38 : decode cX10_load 38 = .ok (.iload_n 1, 1) := by decide +kernel
theorem dX10_load_39 : decode cX10_load 39 = .ok (.iaload, 1) := by decide +kernel
theorem dX10_load_40 : decode cX10_load 40 = .ok (.iconst 1, 1) := by decide +kernel
theorem dX10_load_41 : decode cX10_load 41 = .ok (.isub, 1) := by decide +kernel
theorem dX10_load_42 : decode cX10_load 42 = .ok (.invokestatic 87, 3) := by decide +kernel
theorem dX10_load_45 : decode cX10_load 45 = .ok (.ifCond .ne 9, 3) := by decide +kernel
theorem dX10_load_48 : decode cX10_load 48 = .ok (.aload_n 0, 1) := by decide +kernel
theorem dX10_load_49 : decode cX10_load 49 = .ok (.iconst 2, 1) := by decide +kernel
theorem dX10_load_50 : decode cX10_load 50 = .ok (.invokevirtual 125, 3) := by decide +kernel
theorem dX10_load_53 : decode cX10_load 53 = .ok (.ireturn, 1) := by decide +kernel
theorem dX10_load_54 : decode cX10_load 54 = .ok (.aload_n 0, 1) := by decide +kernel
theorem dX10_load_55 : decode cX10_load 55 = .ok (.iload_n 3, 1) := by decide +kernel
theorem dX10_load_56 : decode cX10_load 56 = .ok (.aload_n 0, 1) := by decide +kernel
theorem dX10_load_57 : decode cX10_load 57 = .ok (.getfield 75, 3) := by decide +kernel
theorem dX10_load_60 : decode cX10_load 60 = .ok (.bipush 10, 2) := by decide +kernel
theorem dX10_load_62 : decode cX10_load 62 = .ok (.iload_n 1, 1) := by decide +kernel
theorem dX10_load_63 : decode cX10_load 63 = .ok (.imul, 1) := by decide +kernel
theorem dX10_load_64 : decode cX10_load 64 = .ok (.iload_n 2, 1) := by decide +kernel
theorem dX10_load_65 : decode cX10_load 65 = .ok (.iadd, 1) := by decide +kernel
theorem dX10_load_66 : decode cX10_load 66 = .ok (.iaload, 1) := by decide +kernel
theorem dX10_load_67 : decode cX10_load 67 = .ok (.invokevirtual 99, 3) := by decide +kernel
theorem dX10_load_70 : decode cX10_load 70 = .ok (.istore 4, 2) := by decide +kernel
theorem dX10_load_72 : decode cX10_load 72 = .ok (.iconst 1, 1) := by decide +kernel
theorem dX10_load_73 : decode cX10_load 73 = .ok (.ireturn, 1) := by decide +kernel
set_option maxRecDepth 20000 in
theorem ggX10_tear_X10_isSheet : GoodIn wsX10_tear wsX10_isSheet := goodIn_r _ [5, 6, 7, 4, 8] (by decide +kernel) (by decide +kernel)
set_option maxRecDepth 20000 in
theorem gX10_tear_X10_isSheet : GoodIn wsX10_tear (va_wsS RX10 169 yX10_isSheet wsX10_isSheet) := goodIn_app (goodIn_of _ (by decide +kernel)) ggX10_tear_X10_isSheet
set_option maxRecDepth 20000 in
theorem ggX10_tear_X10_meets : GoodIn wsX10_tear wsX10_meets := goodIn_r _ [12, 13, 14, 15, 16, 17, 18, 19, 20, 21, 22, 23, 24, 25, 26, 27, 28, 29, 30, 31, 32, 33, 34, 35, 36, 37, 38, 39, 40, 41, 42, 43, 44, 45, 46] (by decide +kernel) (by decide +kernel)
set_option maxRecDepth 20000 in
theorem gX10_tear_X10_meets : GoodIn wsX10_tear (wsV RX10 125 RX10 yX10_meets wsX10_meets) := goodIn_app (goodIn_of _ (by decide +kernel)) ggX10_tear_X10_meets
theorem dX10_tear_0 : decode cX10_tear 0 = .ok (.iload_n 1, 1) := by decide +kernel
theorem dX10_tear_1 : decode cX10_tear 1 = .ok (.invokestatic 169, 3) := by decide +kernel
theorem dX10_tear_4 : decode cX10_tear 4 = .ok (.ifCond .ne 5, 3) := by decide +kernel
theorem dX10_tear_7 : decode cX10_tear 7 = .ok (.iconst (-1), 1) := by decide +kernel
theorem dX10_tear_8 : decode cX10_tear 8 = .ok (.ireturn, 1) := by decide +kernel
theorem dX10_tear_9 : decode cX10_tear 9 = .ok (.aload_n 0, 1) := by decide +kernel
theorem dX10_tear_10 : decode cX10_tear 10 = .ok (.getfield 72, 3) := by decide +kernel
theorem dX10_tear_13 : decode cX10_tear 13 = .ok (.iload_n 1, 1) := by decide +kernel
theorem dX10_tear_14 : decode cX10_tear 14 = .ok (.iaload, 1) := by decide +kernel
theorem dX10_tear_15 : decode cX10_tear 15 = .ok (.ifCond .ge 9, 3) := by decide +kernel
theorem dX10_tear_18 : decode cX10_tear 18 = .ok (.aload_n 0, 1) := by decide +kernel
theorem dX10_tear_19 : decode cX10_tear 19 = .ok (.iconst 1, 1) := by decide +kernel
theorem dX10_tear_20 : decode cX10_tear 20 = .ok (.invokevirtual 125, 3) := by decide +kernel
theorem dX10_tear_23 : decode cX10_tear 23 = .ok (.ireturn, 1) := by decide +kernel
theorem dX10_tear_24 : decode cX10_tear 24 = .ok (.aload_n 0, 1) := by decide +kernel
theorem dX10_tear_25 : decode cX10_tear 25 = .ok (.getfield 72, 3) := by decide +kernel
theorem dX10_tear_28 : decode cX10_tear 28 = .ok (.iload_n 1, 1) := by decide +kernel
theorem dX10_tear_29 : decode cX10_tear 29 = .ok (.bipush (-9), 2) := by decide +kernel
theorem dX10_tear_31 : decode cX10_tear 31 = .ok (.iastore, 1) := by decide +kernel
theorem dX10_tear_32 : decode cX10_tear 32 = .ok (.iconst 1, 1) := by decide +kernel
theorem dX10_tear_33 : decode cX10_tear 33 = .ok (.ireturn, 1) := by decide +kernel
set_option maxRecDepth 20000 in
theorem ggX10_copy_X10_isSheet : GoodIn wsX10_copy wsX10_isSheet := goodIn_r _ [7, 8, 9, 6, 10] (by decide +kernel) (by decide +kernel)
set_option maxRecDepth 20000 in
theorem gX10_copy_X10_isSheet : GoodIn wsX10_copy (va_wsS RX10 169 yX10_isSheet wsX10_isSheet) := goodIn_app (goodIn_of _ (by decide +kernel)) ggX10_copy_X10_isSheet
set_option maxRecDepth 20000 in
theorem ggX10_copy_X10_meets : GoodIn wsX10_copy wsX10_meets := goodIn_r _ [14, 15, 16, 17, 18, 19, 20, 21, 22, 23, 24, 25, 26, 27, 28, 29, 30, 31, 32, 33, 34, 35, 36, 37, 38, 39, 40, 41, 42, 43, 44, 45, 46, 47, 48] (by decide +kernel) (by decide +kernel)
set_option maxRecDepth 20000 in
theorem gX10_copy_X10_meets : GoodIn wsX10_copy (wsV RX10 125 RX10 yX10_meets wsX10_meets) := goodIn_app (goodIn_of _ (by decide +kernel)) ggX10_copy_X10_meets
theorem dX10_copy_0 : decode cX10_copy 0 = .ok (.iload_n 1, 1) := by decide +kernel
theorem dX10_copy_1 : decode cX10_copy 1 = .ok (.invokestatic 169, 3) := by decide +kernel
theorem dX10_copy_4 : decode cX10_copy 4 = .ok (.ifCond .eq 10, 3) := by decide +kernel
theorem dX10_copy_7 : decode cX10_copy 7 = .ok (.iload_n 3, 1) := by decide +kernel
theorem dX10_copy_8 : decode cX10_copy 8 = .ok (.invokestatic 169, 3) := by decide +kernel
theorem dX10_copy_11 : decode cX10_copy 11 = .ok (.ifCond .ne 5, 3) := by decide +kernel
theorem dX10_copy_14 : decode cX10_copy 14 = .ok (.iconst (-1), 1) := by decide +kernel
theorem dX10_copy_15 : decode cX10_copy 15 = .ok (.ireturn, 1) := by decide +kernel
theorem dX10_copy_16 : decode cX10_copy 16 = .ok (.iload 5, 2) := by decide +kernel
theorem dX10_copy_18 : decode cX10_copy 18 = .ok (.ifCond .ge 9, 3) := by decide +kernel
theorem dX10_copy_21 : decode cX10_copy 21 = .ok (.aload_n 0, 1) := by decide +kernel
theorem dX10_copy_22 : decode cX10_copy 22 = .ok (.iconst 4, 1) := by decide +kernel
theorem dX10_copy_23 : decode cX10_copy 23 = .ok (.invokevirtual 125, 3) := by decide +kernel
theorem dX10_copy_26 : decode cX10_copy 26 = .ok (.ireturn, 1) := by decide +kernel
theorem dX10_copy_27 : decode cX10_copy 27 = .ok (.aload_n 0, 1) := by decide +kernel
theorem dX10_copy_28 : decode cX10_copy 28 = .ok (.getfield 72, 3) := by decide +kernel
theorem dX10_copy_31 : decode cX10_copy 31 = .ok (.iload_n 1, 1) := by decide +kernel
theorem dX10_copy_32 : decode cX10_copy 32 = .ok (.iaload, 1) := by decide +kernel
theorem dX10_copy_33 : decode cX10_copy 33 = .ok (.ifCond .lt 12, 3) := by decide +kernel
theorem dX10_copy_36 : decode cX10_copy 36 = .ok (.aload_n 0, 1) := by decide +kernel
theorem dX10_copy_37 : decode cX10_copy 37 = .ok (.getfield 72, 3) := by decide +kernel
theorem dX10_copy_40 : decode cX10_copy 40 = .ok (.iload_n 3, 1) := by decide +kernel
theorem dX10_copy_41 : decode cX10_copy 41 = .ok (.iaload, 1) := by decide +kernel
theorem dX10_copy_42 : decode cX10_copy 42 = .ok (.ifCond .ge 9, 3) := by decide +kernel
theorem dX10_copy_45 : decode cX10_copy 45 = .ok (.aload_n 0, 1) := by decide +kernel
theorem dX10_copy_46 : decode cX10_copy 46 = .ok (.iconst 1, 1) := by decide +kernel
theorem dX10_copy_47 : decode cX10_copy 47 = .ok (.invokevirtual 125, 3) := by decide +kernel
theorem dX10_copy_50 : decode cX10_copy 50 = .ok (.ireturn, 1) := by decide +kernel
theorem dX10_copy_51 : decode cX10_copy 51 = .ok (.iload_n 2, 1) := by decide +kernel
theorem dX10_copy_52 : decode cX10_copy 52 = .ok (.ifCond .lt 43, 3) := by decide +kernel
theorem dX10_copy_55 : decode cX10_copy 55 = .ok (.iload 4, 2) := by decide +kernel
theorem dX10_copy_57 : decode cX10_copy 57 = .ok (.ifCond .lt 38, 3) := by decide +kernel
theorem dX10_copy_60 : decode cX10_copy 60 = .ok (.iload_n 2, 1) := by decide +kernel
theorem dX10_copy_61 : decode cX10_copy 61 = .ok (.i2l, 1) := by decide +kernel
theorem dX10_copy_62 : decode cX10_copy 62 = .ok (.iload 5, 2) := by decide +kernel
theorem dX10_copy_64 : decode cX10_copy 64 = .ok (.i2l, 1) := by decide +kernel
theorem dX10_copy_65 : decode cX10_copy 65 = .ok (.ladd, 1) := by decide +kernel
theorem dX10_copy_66 : decode cX10_copy 66 = .ok (.aload_n 0, 1) := by decide +kernel
theorem dX10_copy_67 : decode cX10_copy 67 = .ok (.getfield 72, 3) := by decide +kernel
theorem dX10_copy_70 : decode cX10_copy 70 = .ok (.iload_n 1, 1) := by decide +kernel
theorem dX10_copy_71 : decode cX10_copy 71 = .ok (.iaload, 1) := by decide +kernel
theorem dX10_copy_72 : decode cX10_copy 72 = .ok (.i2l, 1) := by decide +kernel
theorem dX10_copy_73 : decode cX10_copy 73 = .ok (.lcmp, 1) := by decide +kernel
theorem dX10_copy_74 : decode cX10_copy 74 = .ok (.ifCond .gt 21, 3) := by decide +kernel
theorem dX10_copy_77 : decode cX10_copy 77 = .ok (.iload 4, 2) := by decide +kernel
theorem dX10_copy_79 : decode cX10_copy 79 = .ok (.i2l, 1) := by decide +kernel
theorem dX10_copy_80 : decode cX10_copy 80 = .ok (.iload 5, 2) := by decide +kernel
theorem dX10_copy_82 : decode cX10_copy 82 = .ok (.i2l, 1) := by decide +kernel
theorem dX10_copy_83 : decode cX10_copy 83 = .ok (.ladd, 1) := by decide +kernel
theorem dX10_copy_84 : decode cX10_copy 84 = .ok (.aload_n 0, 1) := by decide +kernel
theorem dX10_copy_85 : decode cX10_copy 85 = .ok (.getfield 72, 3) := by decide +kernel
theorem dX10_copy_88 : decode cX10_copy 88 = .ok (.iload_n 3, 1) := by decide +kernel
theorem dX10_copy_89 : decode cX10_copy 89 = .ok (.iaload, 1) := by decide +kernel
theorem dX10_copy_90 : decode cX10_copy 90 = .ok (.i2l, 1) := by decide +kernel
theorem dX10_copy_91 : decode cX10_copy 91 = .ok (.lcmp, 1) := by decide +kernel
theorem dX10_copy_92 : decode cX10_copy 92 = .ok (.ifCond .le 9, 3) := by decide +kernel
theorem dX10_copy_95 : decode cX10_copy 95 = .ok (.aload_n 0, 1) := by decide +kernel
theorem dX10_copy_96 : decode cX10_copy 96 = .ok (.iconst 2, 1) := by decide +kernel
theorem dX10_copy_97 : decode cX10_copy 97 = .ok (.invokevirtual 125, 3) := by decide +kernel
theorem dX10_copy_100 : decode cX10_copy 100 = .ok (.ireturn, 1) := by decide +kernel
theorem dX10_copy_101 : decode cX10_copy 101 = .ok (.iconst 0, 1) := by decide +kernel
theorem dX10_copy_102 : decode cX10_copy 102 = .ok (.istore 6, 2) := by decide +kernel
theorem dX10_copy_104 : decode cX10_copy 104 = .ok (.iload 6, 2) := by decide +kernel
theorem dX10_copy_106 : decode cX10_copy 106 = .ok (.iload 5, 2) := by decide +kernel
theorem dX10_copy_108 : decode cX10_copy 108 = .ok (.if_icmp .ge 30, 3) := by decide +kernel
theorem dX10_copy_111 : decode cX10_copy 111 = .ok (.aload_n 0, 1) := by decide +kernel
theorem dX10_copy_112 : decode cX10_copy 112 = .ok (.getfield 78, 3) := by decide +kernel
theorem dX10_copy_115 : decode cX10_copy 115 = .ok (.iload 6, 2) := by decide +kernel
theorem dX10_copy_117 : decode cX10_copy 117 = .ok (.aload_n 0, 1) := by decide +kernel
theorem dX10_copy_118 : decode cX10_copy 118 = .ok (.getfield 75, 3) := by decide +kernel
theorem dX10_copy_121 : decode cX10_copy 121 = .ok (.bipush 10, 2) := by decide +kernel
theorem dX10_copy_123 : decode cX10_copy 123 = .ok (.iload_n 1, 1) := by decide +kernel
theorem dX10_copy_124 : decode cX10_copy 124 = .ok (.imul, 1) := by decide +kernel
theorem dX10_copy_125 : decode cX10_copy 125 = .ok (.iload_n 2, 1) := by decide +kernel
theorem dX10_copy_126 : decode cX10_copy 126 = .ok (.iadd, 1) := by decide +kernel
theorem dX10_copy_127 : decode cX10_copy 127 = .ok (.iload 6, 2) := by decide +kernel
theorem dX10_copy_129 : decode cX10_copy 129 = .ok (.iadd, 1) := by decide +kernel
theorem dX10_copy_130 : decode cX10_copy 130 = .ok (.iaload, 1) := by decide +kernel
theorem dX10_copy_131 : decode cX10_copy 131 = .ok (.iastore, 1) := by decide +kernel
theorem dX10_copy_132 : decode cX10_copy 132 = .ok (.iinc 6 1, 3) := by decide +kernel
theorem dX10_copy_135 : decode cX10_copy 135 = .ok (.goto (-31), 3) := by decide +kernel
theorem dX10_copy_138 : decode cX10_copy 138 = .ok (.iconst 0, 1) := by decide +kernel
theorem dX10_copy_139 : decode cX10_copy 139 = .ok (.istore 6, 2) := by decide +kernel
theorem dX10_copy_141 : decode cX10_copy 141 = .ok (.iload 6, 2) := by decide +kernel
theorem dX10_copy_143 : decode cX10_copy 143 = .ok (.iload 5, 2) := by decide +kernel
theorem dX10_copy_145 : decode cX10_copy 145 = .ok (.if_icmp .ge 31, 3) := by decide +kernel
theorem dX10_copy_148 : decode cX10_copy 148 = .ok (.aload_n 0, 1) := by decide +kernel
theorem dX10_copy_149 : decode cX10_copy 149 = .ok (.getfield 75, 3) := by decide +kernel
theorem dX10_copy_152 : decode cX10_copy 152 = .ok (.bipush 10, 2) := by decide +kernel
theorem dX10_copy_154 : decode cX10_copy 154 = .ok (.iload_n 3, 1) := by decide +kernel
theorem dX10_copy_155 : decode cX10_copy 155 = .ok (.imul, 1) := by decide +kernel
theorem dX10_copy_156 : decode cX10_copy 156 = .ok (.iload 4, 2) := by decide +kernel
theorem dX10_copy_158 : decode cX10_copy 158 = .ok (.iadd, 1) := by decide +kernel
theorem dX10_copy_159 : decode cX10_copy 159 = .ok (.iload 6, 2) := by decide +kernel
theorem dX10_copy_161 : decode cX10_copy 161 = .ok (.iadd, 1) := by decide +kernel
theorem dX10_copy_162 : decode cX10_copy 162 = .ok (.aload_n 0, 1) := by decide +kernel
theorem dX10_copy_163 : decode cX10_copy 163 = .ok (.getfield 78, 3) := by decide +kernel
theorem dX10_copy_166 : decode cX10_copy 166 = .ok (.iload 6, 2) := by decide +kernel
theorem dX10_copy_168 : decode cX10_copy 168 = .ok (.iaload, 1) := by decide +kernel
theorem dX10_copy_169 : decode cX10_copy 169 = .ok (.iastore, 1) := by decide +kernel
theorem dX10_copy_170 : decode cX10_copy 170 = .ok (.iinc 6 1, 3) := by decide +kernel
theorem dX10_copy_173 : decode cX10_copy 173 = .ok (.goto (-32), 3) := by decide +kernel
theorem dX10_copy_176 : decode cX10_copy 176 = .ok (.iconst 1, 1) := by decide +kernel
theorem dX10_copy_177 : decode cX10_copy 177 = .ok (.ireturn, 1) := by decide +kernel
theorem dX10_asked_0 : decode cX10_asked 0 = .ok (.aload_n 0, 1) := by decide +kernel
theorem dX10_asked_1 : decode cX10_asked 1 = .ok (.getfield 160, 3) := by decide +kernel
theorem dX10_asked_4 : decode cX10_asked 4 = .ok (.ireturn, 1) := by decide +kernel
set_option maxRecDepth 20000 in
theorem ggX10_count_X10_bits : GoodIn wsX10_count wsX10_bits := goodIn_r _ [9] (by decide +kernel) (by decide +kernel)
set_option maxRecDepth 20000 in
theorem gX10_count_X10_bits : GoodIn wsX10_count (va_wsS RX10 157 yX10_bits wsX10_bits) := goodIn_app (goodIn_of _ (by decide +kernel)) ggX10_count_X10_bits
set_option maxRecDepth 20000 in
theorem ggX10_count_X10_keptOf : GoodIn wsX10_count wsX10_keptOf := goodIn_r _ [13, 4, 14, 15, 8, 16, 17, 18, 19, 20, 3, 21, 22, 2, 23, 24, 25, 26, 27, 28, 29, 30, 31, 32, 33, 34, 35, 36, 37, 38, 39, 40, 41, 42, 43, 44, 45, 46, 47, 48, 49, 50, 51, 52, 53, 54, 55, 56, 57, 58] (by decide +kernel) (by decide +kernel)
set_option maxRecDepth 20000 in
theorem gX10_count_X10_keptOf : GoodIn wsX10_count (wsV RX10 115 RX10 yX10_keptOf wsX10_keptOf) := goodIn_app (goodIn_of _ (by decide +kernel)) ggX10_count_X10_keptOf
theorem dX10_count_0 : decode cX10_count 0 = .ok (.iconst 0, 1) := by decide +kernel
theorem dX10_count_1 : decode cX10_count 1 = .ok (.istore_n 2, 1) := by decide +kernel
theorem dX10_count_2 : decode cX10_count 2 = .ok (.iload_n 1, 1) := by decide +kernel
theorem dX10_count_3 : decode cX10_count 3 = .ok (.tableswitch 141 0 5 #[37, 42, 47, 52, 82, 111], 37) := by decide +kernel
theorem dX10_count_40 : decode cX10_count 40 = .ok (.aload_n 0, 1) := by decide +kernel
theorem dX10_count_41 : decode cX10_count 41 = .ok (.getfield 84, 3) := by decide +kernel
theorem dX10_count_44 : decode cX10_count 44 = .ok (.ireturn, 1) := by decide +kernel
theorem dX10_count_45 : decode cX10_count 45 = .ok (.aload_n 0, 1) := by decide +kernel
theorem dX10_count_46 : decode cX10_count 46 = .ok (.getfield 106, 3) := by decide +kernel
theorem dX10_count_49 : decode cX10_count 49 = .ok (.ireturn, 1) := by decide +kernel
theorem dX10_count_50 : decode cX10_count 50 = .ok (.aload_n 0, 1) := by decide +kernel
theorem dX10_count_51 : decode cX10_count 51 = .ok (.getfield 103, 3) := by decide +kernel
theorem dX10_count_54 : decode cX10_count 54 = .ok (.ireturn, 1) := by decide +kernel
theorem dX10_count_55 : decode cX10_count 55 = .ok (.iconst 0, 1) := by decide +kernel
theorem dX10_count_56 : decode cX10_count 56 = .ok (.istore_n 3, 1) := by decide +kernel
theorem dX10_count_57 : decode cX10_count 57 = .ok (.iload_n 3, 1) := by decide +kernel
theorem dX10_count_58 : decode cX10_count 58 = .ok (.aload_n 0, 1) := by decide +kernel
theorem dX10_count_59 : decode cX10_count 59 = .ok (.getfield 84, 3) := by decide +kernel
theorem dX10_count_62 : decode cX10_count 62 = .ok (.if_icmp .ge 21, 3) := by decide +kernel
theorem dX10_count_65 : decode cX10_count 65 = .ok (.iload_n 2, 1) := by decide +kernel
theorem dX10_count_66 : decode cX10_count 66 = .ok (.aload_n 0, 1) := by decide +kernel
theorem dX10_count_67 : decode cX10_count 67 = .ok (.getfield 16, 3) := by decide +kernel
theorem dX10_count_70 : decode cX10_count 70 = .ok (.iload_n 3, 1) := by decide +kernel
theorem dX10_count_71 : decode cX10_count 71 = .ok (.iaload, 1) := by decide +kernel
theorem dX10_count_72 : decode cX10_count 72 = .ok (.invokestatic 157, 3) := by decide +kernel
theorem dX10_count_75 : decode cX10_count 75 = .ok (.iadd, 1) := by decide +kernel
theorem dX10_count_76 : decode cX10_count 76 = .ok (.istore_n 2, 1) := by decide +kernel
theorem dX10_count_77 : decode cX10_count 77 = .ok (.iinc 3 1, 3) := by decide +kernel
theorem dX10_count_80 : decode cX10_count 80 = .ok (.goto (-23), 3) := by decide +kernel
theorem dX10_count_83 : decode cX10_count 83 = .ok (.iload_n 2, 1) := by decide +kernel
theorem dX10_count_84 : decode cX10_count 84 = .ok (.ireturn, 1) := by decide +kernel
theorem dX10_count_85 : decode cX10_count 85 = .ok (.iconst 0, 1) := by decide +kernel
theorem dX10_count_86 : decode cX10_count 86 = .ok (.istore_n 3, 1) := by decide +kernel
theorem dX10_count_87 : decode cX10_count 87 = .ok (.iload_n 3, 1) := by decide +kernel
theorem dX10_count_88 : decode cX10_count 88 = .ok (.aload_n 0, 1) := by decide +kernel
theorem dX10_count_89 : decode cX10_count 89 = .ok (.getfield 84, 3) := by decide +kernel
theorem dX10_count_92 : decode cX10_count 92 = .ok (.if_icmp .ge 20, 3) := by decide +kernel
theorem dX10_count_95 : decode cX10_count 95 = .ok (.iload_n 2, 1) := by decide +kernel
theorem dX10_count_96 : decode cX10_count 96 = .ok (.aload_n 0, 1) := by decide +kernel
theorem dX10_count_97 : decode cX10_count 97 = .ok (.iload_n 3, 1) := by decide +kernel
theorem dX10_count_98 : decode cX10_count 98 = .ok (.invokevirtual 115, 3) := by decide +kernel
theorem dX10_count_101 : decode cX10_count 101 = .ok (.invokestatic 157, 3) := by decide +kernel
theorem dX10_count_104 : decode cX10_count 104 = .ok (.iadd, 1) := by decide +kernel
theorem dX10_count_105 : decode cX10_count 105 = .ok (.istore_n 2, 1) := by decide +kernel
theorem dX10_count_106 : decode cX10_count 106 = .ok (.iinc 3 1, 3) := by decide +kernel
theorem dX10_count_109 : decode cX10_count 109 = .ok (.goto (-22), 3) := by decide +kernel
theorem dX10_count_112 : decode cX10_count 112 = .ok (.iload_n 2, 1) := by decide +kernel
theorem dX10_count_113 : decode cX10_count 113 = .ok (.ireturn, 1) := by decide +kernel
theorem dX10_count_114 : decode cX10_count 114 = .ok (.iconst 0, 1) := by decide +kernel
theorem dX10_count_115 : decode cX10_count 115 = .ok (.istore_n 3, 1) := by decide +kernel
theorem dX10_count_116 : decode cX10_count 116 = .ok (.iload_n 3, 1) := by decide +kernel
theorem dX10_count_117 : decode cX10_count 117 = .ok (.bipush 12, 2) := by decide +kernel
theorem dX10_count_119 : decode cX10_count 119 = .ok (.if_icmp .ge 21, 3) := by decide +kernel
theorem dX10_count_122 : decode cX10_count 122 = .ok (.iload_n 2, 1) := by decide +kernel
theorem dX10_count_123 : decode cX10_count 123 = .ok (.aload_n 0, 1) := by decide +kernel
theorem dX10_count_124 : decode cX10_count 124 = .ok (.getfield 63, 3) := by decide +kernel
theorem dX10_count_127 : decode cX10_count 127 = .ok (.iload_n 3, 1) := by decide +kernel
theorem dX10_count_128 : decode cX10_count 128 = .ok (.iaload, 1) := by decide +kernel
theorem dX10_count_129 : decode cX10_count 129 = .ok (.invokestatic 157, 3) := by decide +kernel
theorem dX10_count_132 : decode cX10_count 132 = .ok (.iadd, 1) := by decide +kernel
theorem dX10_count_133 : decode cX10_count 133 = .ok (.istore_n 2, 1) := by decide +kernel
theorem dX10_count_134 : decode cX10_count 134 = .ok (.iinc 3 1, 3) := by decide +kernel
theorem dX10_count_137 : decode cX10_count 137 = .ok (.goto (-21), 3) := by decide +kernel
theorem dX10_count_140 : decode cX10_count 140 = .ok (.iload_n 2, 1) := by decide +kernel
theorem dX10_count_141 : decode cX10_count 141 = .ok (.iconst 2, 1) := by decide +kernel
theorem dX10_count_142 : decode cX10_count 142 = .ok (.idiv, 1) := by decide +kernel
theorem dX10_count_143 : decode cX10_count 143 = .ok (.ireturn, 1) := by decide +kernel
theorem dX10_count_144 : decode cX10_count 144 = .ok (.iconst (-1), 1) := by decide +kernel
theorem dX10_count_145 : decode cX10_count 145 = .ok (.ireturn, 1) := by decide +kernel
theorem dX10_finding_0 : decode cX10_finding 0 = .ok (.aload_n 0, 1) := by decide +kernel
theorem dX10_finding_1 : decode cX10_finding 1 = .ok (.getfield 81, 3) := by decide +kernel
theorem dX10_finding_4 : decode cX10_finding 4 = .ok (.ireturn, 1) := by decide +kernel
set_option maxRecDepth 20000 in
theorem ggX10_findings_X10_in : GoodIn wsX10_findings wsX10_in := goodIn_r _ [5] (by decide +kernel) (by decide +kernel)
set_option maxRecDepth 20000 in
theorem gX10_findings_X10_in : GoodIn wsX10_findings (va_wsS RX10 87 yX10_in wsX10_in) := goodIn_app (goodIn_of _ (by decide +kernel)) ggX10_findings_X10_in
theorem dX10_findings_0 : decode cX10_findings 0 = .ok (.iload_n 1, 1) := by decide +kernel
theorem dX10_findings_1 : decode cX10_findings 1 = .ok (.iconst 1, 1) := by decide +kernel
theorem dX10_findings_2 : decode cX10_findings 2 = .ok (.iconst 4, 1) := by decide +kernel
theorem dX10_findings_3 : decode cX10_findings 3 = .ok (.invokestatic 87, 3) := by decide +kernel
theorem dX10_findings_6 : decode cX10_findings 6 = .ok (.ifCond .eq 12, 3) := by decide +kernel
theorem dX10_findings_9 : decode cX10_findings 9 = .ok (.aload_n 0, 1) := by decide +kernel
theorem dX10_findings_10 : decode cX10_findings 10 = .ok (.getfield 7, 3) := by decide +kernel
theorem dX10_findings_13 : decode cX10_findings 13 = .ok (.iload_n 1, 1) := by decide +kernel
theorem dX10_findings_14 : decode cX10_findings 14 = .ok (.iaload, 1) := by decide +kernel
theorem dX10_findings_15 : decode cX10_findings 15 = .ok (.goto 4, 3) := by decide +kernel
theorem dX10_findings_18 : decode cX10_findings 18 = .ok (.iconst (-1), 1) := by decide +kernel
theorem dX10_findings_19 : decode cX10_findings 19 = .ok (.ireturn, 1) := by decide +kernel
set_option maxRecDepth 20000 in
theorem ggX10_digest_X10_tells : GoodIn wsX10_digest wsX10_tells := goodIn_r _ [17, 18, 19, 20, 6, 7, 21, 22, 23, 16, 24, 25, 26, 27, 28, 29, 30, 31, 8, 5, 9, 32, 33, 4, 34, 35, 36, 37, 38, 39, 40, 41, 42, 43, 44, 45, 46, 47, 48, 49, 50, 51, 52, 53, 54, 55, 56, 57, 58, 59, 60, 61, 62, 63, 64, 65] (by decide +kernel) (by decide +kernel)
set_option maxRecDepth 20000 in
theorem gX10_digest_X10_tells : GoodIn wsX10_digest (wsV RX10 119 RX10 yX10_tells wsX10_tells) := goodIn_app (goodIn_of _ (by decide +kernel)) ggX10_digest_X10_tells
theorem dX10_digest_0 : decode cX10_digest 0 = .ok (.ldc2_w 172, 3) := by decide +kernel
theorem dX10_digest_3 : decode cX10_digest 3 = .ok (.lstore_n 1, 1) := by decide +kernel
theorem dX10_digest_4 : decode cX10_digest 4 = .ok (.iconst 0, 1) := by decide +kernel
theorem dX10_digest_5 : decode cX10_digest 5 = .ok (.istore_n 3, 1) := by decide +kernel
theorem dX10_digest_6 : decode cX10_digest 6 = .ok (.iload_n 3, 1) := by decide +kernel
theorem dX10_digest_7 : decode cX10_digest 7 = .ok (.aload_n 0, 1) := by decide +kernel
theorem dX10_digest_8 : decode cX10_digest 8 = .ok (.getfield 84, 3) := by decide +kernel
theorem dX10_digest_11 : decode cX10_digest 11 = .ok (.if_icmp .ge 39, 3) := by decide +kernel
theorem dX10_digest_14 : decode cX10_digest 14 = .ok (.iconst 0, 1) := by decide +kernel
theorem dX10_digest_15 : decode cX10_digest 15 = .ok (.istore 4, 2) := by decide +kernel
theorem dX10_digest_17 : decode cX10_digest 17 = .ok (.iload 4, 2) := by decide +kernel
theorem dX10_digest_19 : decode cX10_digest 19 = .ok (.iconst 4, 1) := by decide +kernel
theorem dX10_digest_20 : decode cX10_digest 20 = .ok (.if_icmp .gt 24, 3) := by decide +kernel
theorem dX10_digest_23 : decode cX10_digest 23 = .ok (.ldc2_w 174, 3) := by decide +kernel
theorem dX10_digest_26 : decode cX10_digest 26 = .ok (.lload_n 1, 1) := by decide +kernel
theorem dX10_digest_27 : decode cX10_digest 27 = .ok (.lmul, 1) := by decide +kernel
theorem dX10_digest_28 : decode cX10_digest 28 = .ok (.aload_n 0, 1) := by decide +kernel
theorem dX10_digest_29 : decode cX10_digest 29 = .ok (.iload_n 3, 1) := by decide +kernel
theorem dX10_digest_30 : decode cX10_digest 30 = .ok (.iload 4, 2) := by decide +kernel
theorem dX10_digest_32 : decode cX10_digest 32 = .ok (.invokevirtual 119, 3) := by decide +kernel
theorem dX10_digest_35 : decode cX10_digest 35 = .ok (.i2l, 1) := by decide +kernel
theorem dX10_digest_36 : decode cX10_digest 36 = .ok (.ladd, 1) := by decide +kernel
theorem dX10_digest_37 : decode cX10_digest 37 = .ok (.lstore_n 1, 1) := by decide +kernel
theorem dX10_digest_38 : decode cX10_digest 38 = .ok (.iinc 4 1, 3) := by decide +kernel
theorem dX10_digest_41 : decode cX10_digest 41 = .ok (.goto (-24), 3) := by decide +kernel
theorem dX10_digest_44 : decode cX10_digest 44 = .ok (.iinc 3 1, 3) := by decide +kernel
theorem dX10_digest_47 : decode cX10_digest 47 = .ok (.goto (-41), 3) := by decide +kernel
theorem dX10_digest_50 : decode cX10_digest 50 = .ok (.ldc2_w 174, 3) := by decide +kernel
theorem dX10_digest_53 : decode cX10_digest 53 = .ok (.ldc2_w 174, 3) := by decide +kernel
theorem dX10_digest_56 : decode cX10_digest 56 = .ok (.lload_n 1, 1) := by decide +kernel
theorem dX10_digest_57 : decode cX10_digest 57 = .ok (.lmul, 1) := by decide +kernel
theorem dX10_digest_58 : decode cX10_digest 58 = .ok (.aload_n 0, 1) := by decide +kernel
theorem dX10_digest_59 : decode cX10_digest 59 = .ok (.getfield 109, 3) := by decide +kernel
theorem dX10_digest_62 : decode cX10_digest 62 = .ok (.i2l, 1) := by decide +kernel
theorem dX10_digest_63 : decode cX10_digest 63 = .ok (.ladd, 1) := by decide +kernel
theorem dX10_digest_64 : decode cX10_digest 64 = .ok (.lmul, 1) := by decide +kernel
theorem dX10_digest_65 : decode cX10_digest 65 = .ok (.aload_n 0, 1) := by decide +kernel
theorem dX10_digest_66 : decode cX10_digest 66 = .ok (.getfield 106, 3) := by decide +kernel
theorem dX10_digest_69 : decode cX10_digest 69 = .ok (.i2l, 1) := by decide +kernel
theorem dX10_digest_70 : decode cX10_digest 70 = .ok (.ladd, 1) := by decide +kernel
theorem dX10_digest_71 : decode cX10_digest 71 = .ok (.lstore_n 1, 1) := by decide +kernel
theorem dX10_digest_72 : decode cX10_digest 72 = .ok (.iconst 0, 1) := by decide +kernel
theorem dX10_digest_73 : decode cX10_digest 73 = .ok (.istore_n 3, 1) := by decide +kernel
end
section
theorem dX10_digest_74 : decode cX10_digest 74 = .ok (.iload_n 3, 1) := by decide +kernel
theorem dX10_digest_75 : decode cX10_digest 75 = .ok (.aload_n 0, 1) := by decide +kernel
theorem dX10_digest_76 : decode cX10_digest 76 = .ok (.getfield 103, 3) := by decide +kernel
theorem dX10_digest_79 : decode cX10_digest 79 = .ok (.if_icmp .ge 47, 3) := by decide +kernel
theorem dX10_digest_82 : decode cX10_digest 82 = .ok (.ldc2_w 174, 3) := by decide +kernel
theorem dX10_digest_85 : decode cX10_digest 85 = .ok (.ldc2_w 174, 3) := by decide +kernel
theorem dX10_digest_88 : decode cX10_digest 88 = .ok (.ldc2_w 174, 3) := by decide +kernel
theorem dX10_digest_91 : decode cX10_digest 91 = .ok (.lload_n 1, 1) := by decide +kernel
theorem dX10_digest_92 : decode cX10_digest 92 = .ok (.lmul, 1) := by decide +kernel
theorem dX10_digest_93 : decode cX10_digest 93 = .ok (.aload_n 0, 1) := by decide +kernel
theorem dX10_digest_94 : decode cX10_digest 94 = .ok (.getfield 32, 3) := by decide +kernel
theorem dX10_digest_97 : decode cX10_digest 97 = .ok (.iload_n 3, 1) := by decide +kernel
theorem dX10_digest_98 : decode cX10_digest 98 = .ok (.iaload, 1) := by decide +kernel
theorem dX10_digest_99 : decode cX10_digest 99 = .ok (.i2l, 1) := by decide +kernel
theorem dX10_digest_100 : decode cX10_digest 100 = .ok (.ladd, 1) := by decide +kernel
theorem dX10_digest_101 : decode cX10_digest 101 = .ok (.lmul, 1) := by decide +kernel
theorem dX10_digest_102 : decode cX10_digest 102 = .ok (.aload_n 0, 1) := by decide +kernel
theorem dX10_digest_103 : decode cX10_digest 103 = .ok (.getfield 35, 3) := by decide +kernel
theorem dX10_digest_106 : decode cX10_digest 106 = .ok (.iload_n 3, 1) := by decide +kernel
theorem dX10_digest_107 : decode cX10_digest 107 = .ok (.iaload, 1) := by decide +kernel
theorem dX10_digest_108 : decode cX10_digest 108 = .ok (.i2l, 1) := by decide +kernel
theorem dX10_digest_109 : decode cX10_digest 109 = .ok (.ladd, 1) := by decide +kernel
theorem dX10_digest_110 : decode cX10_digest 110 = .ok (.lmul, 1) := by decide +kernel
theorem dX10_digest_111 : decode cX10_digest 111 = .ok (.aload_n 0, 1) := by decide +kernel
theorem dX10_digest_112 : decode cX10_digest 112 = .ok (.getfield 38, 3) := by decide +kernel
theorem dX10_digest_115 : decode cX10_digest 115 = .ok (.iload_n 3, 1) := by decide +kernel
theorem dX10_digest_116 : decode cX10_digest 116 = .ok (.iaload, 1) := by decide +kernel
theorem dX10_digest_117 : decode cX10_digest 117 = .ok (.i2l, 1) := by decide +kernel
theorem dX10_digest_118 : decode cX10_digest 118 = .ok (.ladd, 1) := by decide +kernel
theorem dX10_digest_119 : decode cX10_digest 119 = .ok (.lstore_n 1, 1) := by decide +kernel
theorem dX10_digest_120 : decode cX10_digest 120 = .ok (.iinc 3 1, 3) := by decide +kernel
theorem dX10_digest_123 : decode cX10_digest 123 = .ok (.goto (-49), 3) := by decide +kernel
theorem dX10_digest_126 : decode cX10_digest 126 = .ok (.iconst 0, 1) := by decide +kernel
theorem dX10_digest_127 : decode cX10_digest 127 = .ok (.istore_n 3, 1) := by decide +kernel
theorem dX10_digest_128 : decode cX10_digest 128 = .ok (.iload_n 3, 1) := by decide +kernel
theorem dX10_digest_129 : decode cX10_digest 129 = .ok (.bipush 12, 2) := by decide +kernel
theorem dX10_digest_131 : decode cX10_digest 131 = .ok (.if_icmp .ge 23, 3) := by decide +kernel
theorem dX10_digest_134 : decode cX10_digest 134 = .ok (.ldc2_w 174, 3) := by decide +kernel
theorem dX10_digest_137 : decode cX10_digest 137 = .ok (.lload_n 1, 1) := by decide +kernel
theorem dX10_digest_138 : decode cX10_digest 138 = .ok (.lmul, 1) := by decide +kernel
theorem dX10_digest_139 : decode cX10_digest 139 = .ok (.aload_n 0, 1) := by decide +kernel
theorem dX10_digest_140 : decode cX10_digest 140 = .ok (.getfield 63, 3) := by decide +kernel
theorem dX10_digest_143 : decode cX10_digest 143 = .ok (.iload_n 3, 1) := by decide +kernel
theorem dX10_digest_144 : decode cX10_digest 144 = .ok (.iaload, 1) := by decide +kernel
theorem dX10_digest_145 : decode cX10_digest 145 = .ok (.i2l, 1) := by decide +kernel
theorem dX10_digest_146 : decode cX10_digest 146 = .ok (.ladd, 1) := by decide +kernel
theorem dX10_digest_147 : decode cX10_digest 147 = .ok (.lstore_n 1, 1) := by decide +kernel
theorem dX10_digest_148 : decode cX10_digest 148 = .ok (.iinc 3 1, 3) := by decide +kernel
theorem dX10_digest_151 : decode cX10_digest 151 = .ok (.goto (-23), 3) := by decide +kernel
theorem dX10_digest_154 : decode cX10_digest 154 = .ok (.iconst 0, 1) := by decide +kernel
theorem dX10_digest_155 : decode cX10_digest 155 = .ok (.istore_n 3, 1) := by decide +kernel
theorem dX10_digest_156 : decode cX10_digest 156 = .ok (.iload_n 3, 1) := by decide +kernel
theorem dX10_digest_157 : decode cX10_digest 157 = .ok (.iconst 4, 1) := by decide +kernel
theorem dX10_digest_158 : decode cX10_digest 158 = .ok (.if_icmp .ge 76, 3) := by decide +kernel
theorem dX10_digest_161 : decode cX10_digest 161 = .ok (.ldc2_w 174, 3) := by decide +kernel
theorem dX10_digest_164 : decode cX10_digest 164 = .ok (.lload_n 1, 1) := by decide +kernel
theorem dX10_digest_165 : decode cX10_digest 165 = .ok (.lmul, 1) := by decide +kernel
theorem dX10_digest_166 : decode cX10_digest 166 = .ok (.aload_n 0, 1) := by decide +kernel
theorem dX10_digest_167 : decode cX10_digest 167 = .ok (.getfield 72, 3) := by decide +kernel
theorem dX10_digest_170 : decode cX10_digest 170 = .ok (.iload_n 3, 1) := by decide +kernel
theorem dX10_digest_171 : decode cX10_digest 171 = .ok (.iaload, 1) := by decide +kernel
theorem dX10_digest_172 : decode cX10_digest 172 = .ok (.ifCond .ge 7, 3) := by decide +kernel
theorem dX10_digest_175 : decode cX10_digest 175 = .ok (.iconst (-1), 1) := by decide +kernel
theorem dX10_digest_176 : decode cX10_digest 176 = .ok (.goto 9, 3) := by decide +kernel
theorem dX10_digest_179 : decode cX10_digest 179 = .ok (.aload_n 0, 1) := by decide +kernel
theorem dX10_digest_180 : decode cX10_digest 180 = .ok (.getfield 72, 3) := by decide +kernel
theorem dX10_digest_183 : decode cX10_digest 183 = .ok (.iload_n 3, 1) := by decide +kernel
theorem dX10_digest_184 : decode cX10_digest 184 = .ok (.iaload, 1) := by decide +kernel
theorem dX10_digest_185 : decode cX10_digest 185 = .ok (.i2l, 1) := by decide +kernel
theorem dX10_digest_186 : decode cX10_digest 186 = .ok (.ladd, 1) := by decide +kernel
theorem dX10_digest_187 : decode cX10_digest 187 = .ok (.lstore_n 1, 1) := by decide +kernel
theorem dX10_digest_188 : decode cX10_digest 188 = .ok (.iconst 0, 1) := by decide +kernel
theorem dX10_digest_189 : decode cX10_digest 189 = .ok (.istore 4, 2) := by decide +kernel
theorem dX10_digest_191 : decode cX10_digest 191 = .ok (.iload 4, 2) := by decide +kernel
theorem dX10_digest_193 : decode cX10_digest 193 = .ok (.aload_n 0, 1) := by decide +kernel
theorem dX10_digest_194 : decode cX10_digest 194 = .ok (.getfield 72, 3) := by decide +kernel
theorem dX10_digest_197 : decode cX10_digest 197 = .ok (.iload_n 3, 1) := by decide +kernel
theorem dX10_digest_198 : decode cX10_digest 198 = .ok (.iaload, 1) := by decide +kernel
theorem dX10_digest_199 : decode cX10_digest 199 = .ok (.if_icmp .ge 29, 3) := by decide +kernel
theorem dX10_digest_202 : decode cX10_digest 202 = .ok (.ldc2_w 174, 3) := by decide +kernel
theorem dX10_digest_205 : decode cX10_digest 205 = .ok (.lload_n 1, 1) := by decide +kernel
theorem dX10_digest_206 : decode cX10_digest 206 = .ok (.lmul, 1) := by decide +kernel
theorem dX10_digest_207 : decode cX10_digest 207 = .ok (.aload_n 0, 1) := by decide +kernel
theorem dX10_digest_208 : decode cX10_digest 208 = .ok (.getfield 75, 3) := by decide +kernel
theorem dX10_digest_211 : decode cX10_digest 211 = .ok (.bipush 10, 2) := by decide +kernel
theorem dX10_digest_213 : decode cX10_digest 213 = .ok (.iload_n 3, 1) := by decide +kernel
theorem dX10_digest_214 : decode cX10_digest 214 = .ok (.imul, 1) := by decide +kernel
theorem dX10_digest_215 : decode cX10_digest 215 = .ok (.iload 4, 2) := by decide +kernel
theorem dX10_digest_217 : decode cX10_digest 217 = .ok (.iadd, 1) := by decide +kernel
theorem dX10_digest_218 : decode cX10_digest 218 = .ok (.iaload, 1) := by decide +kernel
theorem dX10_digest_219 : decode cX10_digest 219 = .ok (.i2l, 1) := by decide +kernel
theorem dX10_digest_220 : decode cX10_digest 220 = .ok (.ladd, 1) := by decide +kernel
theorem dX10_digest_221 : decode cX10_digest 221 = .ok (.lstore_n 1, 1) := by decide +kernel
theorem dX10_digest_222 : decode cX10_digest 222 = .ok (.iinc 4 1, 3) := by decide +kernel
theorem dX10_digest_225 : decode cX10_digest 225 = .ok (.goto (-34), 3) := by decide +kernel
theorem dX10_digest_228 : decode cX10_digest 228 = .ok (.iinc 3 1, 3) := by decide +kernel
theorem dX10_digest_231 : decode cX10_digest 231 = .ok (.goto (-75), 3) := by decide +kernel
theorem dX10_digest_234 : decode cX10_digest 234 = .ok (.lload_n 1, 1) := by decide +kernel
theorem dX10_digest_235 : decode cX10_digest 235 = .ok (.lreturn, 1) := by decide +kernel
theorem dJ6_bitCount_0f7a4_0 : decode cJ6_bitCount_0f7a4 0 = .ok (.iload_n 0, 1) := by decide +kernel
theorem dJ6_bitCount_0f7a4_1 : decode cJ6_bitCount_0f7a4 1 = .ok (.iload_n 0, 1) := by decide +kernel
theorem dJ6_bitCount_0f7a4_2 : decode cJ6_bitCount_0f7a4 2 = .ok (.iconst 1, 1) := by decide +kernel
theorem dJ6_bitCount_0f7a4_3 : decode cJ6_bitCount_0f7a4 3 = .ok (.iushr, 1) := by decide +kernel
theorem dJ6_bitCount_0f7a4_4 : decode cJ6_bitCount_0f7a4 4 = .ok (.ldc_w 265, 3) := by decide +kernel
theorem dJ6_bitCount_0f7a4_7 : decode cJ6_bitCount_0f7a4 7 = .ok (.iand, 1) := by decide +kernel
theorem dJ6_bitCount_0f7a4_8 : decode cJ6_bitCount_0f7a4 8 = .ok (.isub, 1) := by decide +kernel
theorem dJ6_bitCount_0f7a4_9 : decode cJ6_bitCount_0f7a4 9 = .ok (.istore_n 0, 1) := by decide +kernel
theorem dJ6_bitCount_0f7a4_10 : decode cJ6_bitCount_0f7a4 10 = .ok (.iload_n 0, 1) := by decide +kernel
theorem dJ6_bitCount_0f7a4_11 : decode cJ6_bitCount_0f7a4 11 = .ok (.ldc_w 266, 3) := by decide +kernel
theorem dJ6_bitCount_0f7a4_14 : decode cJ6_bitCount_0f7a4 14 = .ok (.iand, 1) := by decide +kernel
theorem dJ6_bitCount_0f7a4_15 : decode cJ6_bitCount_0f7a4 15 = .ok (.iload_n 0, 1) := by decide +kernel
theorem dJ6_bitCount_0f7a4_16 : decode cJ6_bitCount_0f7a4 16 = .ok (.iconst 2, 1) := by decide +kernel
theorem dJ6_bitCount_0f7a4_17 : decode cJ6_bitCount_0f7a4 17 = .ok (.iushr, 1) := by decide +kernel
theorem dJ6_bitCount_0f7a4_18 : decode cJ6_bitCount_0f7a4 18 = .ok (.ldc_w 266, 3) := by decide +kernel
theorem dJ6_bitCount_0f7a4_21 : decode cJ6_bitCount_0f7a4 21 = .ok (.iand, 1) := by decide +kernel
theorem dJ6_bitCount_0f7a4_22 : decode cJ6_bitCount_0f7a4 22 = .ok (.iadd, 1) := by decide +kernel
theorem dJ6_bitCount_0f7a4_23 : decode cJ6_bitCount_0f7a4 23 = .ok (.istore_n 0, 1) := by decide +kernel
theorem dJ6_bitCount_0f7a4_24 : decode cJ6_bitCount_0f7a4 24 = .ok (.iload_n 0, 1) := by decide +kernel
theorem dJ6_bitCount_0f7a4_25 : decode cJ6_bitCount_0f7a4 25 = .ok (.iload_n 0, 1) := by decide +kernel
theorem dJ6_bitCount_0f7a4_26 : decode cJ6_bitCount_0f7a4 26 = .ok (.iconst 4, 1) := by decide +kernel
theorem dJ6_bitCount_0f7a4_27 : decode cJ6_bitCount_0f7a4 27 = .ok (.iushr, 1) := by decide +kernel
theorem dJ6_bitCount_0f7a4_28 : decode cJ6_bitCount_0f7a4 28 = .ok (.iadd, 1) := by decide +kernel
theorem dJ6_bitCount_0f7a4_29 : decode cJ6_bitCount_0f7a4 29 = .ok (.ldc_w 267, 3) := by decide +kernel
theorem dJ6_bitCount_0f7a4_32 : decode cJ6_bitCount_0f7a4 32 = .ok (.iand, 1) := by decide +kernel
theorem dJ6_bitCount_0f7a4_33 : decode cJ6_bitCount_0f7a4 33 = .ok (.istore_n 0, 1) := by decide +kernel
theorem dJ6_bitCount_0f7a4_34 : decode cJ6_bitCount_0f7a4 34 = .ok (.iload_n 0, 1) := by decide +kernel
theorem dJ6_bitCount_0f7a4_35 : decode cJ6_bitCount_0f7a4 35 = .ok (.iload_n 0, 1) := by decide +kernel
theorem dJ6_bitCount_0f7a4_36 : decode cJ6_bitCount_0f7a4 36 = .ok (.bipush 8, 2) := by decide +kernel
theorem dJ6_bitCount_0f7a4_38 : decode cJ6_bitCount_0f7a4 38 = .ok (.iushr, 1) := by decide +kernel
theorem dJ6_bitCount_0f7a4_39 : decode cJ6_bitCount_0f7a4 39 = .ok (.iadd, 1) := by decide +kernel
theorem dJ6_bitCount_0f7a4_40 : decode cJ6_bitCount_0f7a4 40 = .ok (.istore_n 0, 1) := by decide +kernel
theorem dJ6_bitCount_0f7a4_41 : decode cJ6_bitCount_0f7a4 41 = .ok (.iload_n 0, 1) := by decide +kernel
theorem dJ6_bitCount_0f7a4_42 : decode cJ6_bitCount_0f7a4 42 = .ok (.iload_n 0, 1) := by decide +kernel
theorem dJ6_bitCount_0f7a4_43 : decode cJ6_bitCount_0f7a4 43 = .ok (.bipush 16, 2) := by decide +kernel
theorem dJ6_bitCount_0f7a4_45 : decode cJ6_bitCount_0f7a4 45 = .ok (.iushr, 1) := by decide +kernel
theorem dJ6_bitCount_0f7a4_46 : decode cJ6_bitCount_0f7a4 46 = .ok (.iadd, 1) := by decide +kernel
theorem dJ6_bitCount_0f7a4_47 : decode cJ6_bitCount_0f7a4 47 = .ok (.istore_n 0, 1) := by decide +kernel
theorem dJ6_bitCount_0f7a4_48 : decode cJ6_bitCount_0f7a4 48 = .ok (.iload_n 0, 1) := by decide +kernel
theorem dJ6_bitCount_0f7a4_49 : decode cJ6_bitCount_0f7a4 49 = .ok (.bipush 63, 2) := by decide +kernel
theorem dJ6_bitCount_0f7a4_51 : decode cJ6_bitCount_0f7a4 51 = .ok (.iand, 1) := by decide +kernel
theorem dJ6_bitCount_0f7a4_52 : decode cJ6_bitCount_0f7a4 52 = .ok (.ireturn, 1) := by decide +kernel
theorem dJ9_min_7cf53_0 : decode cJ9_min_7cf53 0 = .ok (.iload_n 0, 1) := by decide +kernel
theorem dJ9_min_7cf53_1 : decode cJ9_min_7cf53 1 = .ok (.iload_n 1, 1) := by decide +kernel
theorem dJ9_min_7cf53_2 : decode cJ9_min_7cf53 2 = .ok (.if_icmp .gt 7, 3) := by decide +kernel
theorem dJ9_min_7cf53_5 : decode cJ9_min_7cf53 5 = .ok (.iload_n 0, 1) := by decide +kernel
theorem dJ9_min_7cf53_6 : decode cJ9_min_7cf53 6 = .ok (.goto 4, 3) := by decide +kernel
theorem dJ9_min_7cf53_9 : decode cJ9_min_7cf53 9 = .ok (.iload_n 1, 1) := by decide +kernel
theorem dJ9_min_7cf53_10 : decode cJ9_min_7cf53 10 = .ok (.ireturn, 1) := by decide +kernel
end

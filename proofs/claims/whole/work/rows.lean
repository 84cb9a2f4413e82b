section
-- ===== PART A: goes FIRST, ahead of the names: the tables' words, and 'selects' of the private methods out of them =====
/-- a private method of a class that the tables say can be made, by its rows of tables_1 -/
def lw_okq (q : MethodName × Nat) : Prop := (q.1.cls ≠ "java/lang/invoke/MethodHandle" ∧ q.1.cls ≠ "java/lang/invoke/VarHandle") ∧ Cond.instantiable q.1.cls q.2 ∈ tables_1 ∧ Cond.privateMethod q.1 ∈ tables_1 ∧ Cond.instanceMethod q.1 ∈ tables_1
theorem lw_p0 : lw_okq (⟨"Ballotscript", "countVote", "(I)LBallotscript$MachineCount;"⟩, 11) := ⟨⟨by decide +kernel, by decide +kernel⟩, List.mem_of_getElem? (i := 26) (by decide +kernel), List.mem_of_getElem? (i := 456) (by decide +kernel), List.mem_of_getElem? (i := 457) (by decide +kernel)⟩
theorem lw_p1 : lw_okq (⟨"Ballotscript$MachineCount", "stepAfterPass", "(II)I"⟩, 12) := ⟨⟨by decide +kernel, by decide +kernel⟩, List.mem_of_getElem? (i := 152) (by decide +kernel), List.mem_of_getElem? (i := 485) (by decide +kernel), List.mem_of_getElem? (i := 486) (by decide +kernel)⟩
theorem lw_p2 : lw_okq (⟨"Ballotscript$MachineCount", "addBallot", "(ICI)I"⟩, 12) := ⟨⟨by decide +kernel, by decide +kernel⟩, List.mem_of_getElem? (i := 152) (by decide +kernel), List.mem_of_getElem? (i := 507) (by decide +kernel), List.mem_of_getElem? (i := 508) (by decide +kernel)⟩
theorem lw_p3 : lw_okq (⟨"Ballotscript$HandCount", "givenBy", "(III)I"⟩, 10) := ⟨⟨by decide +kernel, by decide +kernel⟩, List.mem_of_getElem? (i := 223) (by decide +kernel), List.mem_of_getElem? (i := 541) (by decide +kernel), List.mem_of_getElem? (i := 542) (by decide +kernel)⟩
theorem lw_p4 : lw_okq (⟨"Ballotscript$HandCount", "gaveSomething", "(II)Z"⟩, 10) := ⟨⟨by decide +kernel, by decide +kernel⟩, List.mem_of_getElem? (i := 223) (by decide +kernel), List.mem_of_getElem? (i := 566) (by decide +kernel), List.mem_of_getElem? (i := 567) (by decide +kernel)⟩
theorem lw_p5 : lw_okq (⟨"java/lang/Throwable", "fillInStackTrace", "(I)Ljava/lang/Throwable;"⟩, 6) := ⟨⟨by decide +kernel, by decide +kernel⟩, List.mem_of_getElem? (i := 633) (by decide +kernel), List.mem_of_getElem? (i := 631) (by decide +kernel), List.mem_of_getElem? (i := 632) (by decide +kernel)⟩
theorem lw_p6 : lw_okq (⟨"Ballotscript$Rule", "addStep", "(CI)I"⟩, 6) := ⟨⟨by decide +kernel, by decide +kernel⟩, List.mem_of_getElem? (i := 243) (by decide +kernel), List.mem_of_getElem? (i := 760) (by decide +kernel), List.mem_of_getElem? (i := 761) (by decide +kernel)⟩
theorem lw_p7 : lw_okq (⟨"Ballotscript", "needVote", "(I)V"⟩, 11) := ⟨⟨by decide +kernel, by decide +kernel⟩, List.mem_of_getElem? (i := 26) (by decide +kernel), List.mem_of_getElem? (i := 800) (by decide +kernel), List.mem_of_getElem? (i := 801) (by decide +kernel)⟩
theorem lw_p8 : lw_okq (⟨"Ballotscript", "needBallot", "(I)V"⟩, 11) := ⟨⟨by decide +kernel, by decide +kernel⟩, List.mem_of_getElem? (i := 26) (by decide +kernel), List.mem_of_getElem? (i := 848) (by decide +kernel), List.mem_of_getElem? (i := 849) (by decide +kernel)⟩
theorem lw_p9 : lw_okq (⟨"BallotscriptModel", "goes", "(ZZZ)Z"⟩, 46) := ⟨⟨by decide +kernel, by decide +kernel⟩, List.mem_of_getElem? (i := 975) (by decide +kernel), List.mem_of_getElem? (i := 1134) (by decide +kernel), List.mem_of_getElem? (i := 1135) (by decide +kernel)⟩
theorem lw_p10 : lw_okq (⟨"BallotscriptModel", "counting", "()I"⟩, 46) := ⟨⟨by decide +kernel, by decide +kernel⟩, List.mem_of_getElem? (i := 975) (by decide +kernel), List.mem_of_getElem? (i := 1142) (by decide +kernel), List.mem_of_getElem? (i := 1143) (by decide +kernel)⟩
theorem lw_p11 : lw_okq (⟨"BallotscriptModel", "reason", "(I)I"⟩, 46) := ⟨⟨by decide +kernel, by decide +kernel⟩, List.mem_of_getElem? (i := 975) (by decide +kernel), List.mem_of_getElem? (i := 1146) (by decide +kernel), List.mem_of_getElem? (i := 1147) (by decide +kernel)⟩
theorem lw_p12 : lw_okq (⟨"BallotscriptModel", "allowed", "(III)Z"⟩, 46) := ⟨⟨by decide +kernel, by decide +kernel⟩, List.mem_of_getElem? (i := 975) (by decide +kernel), List.mem_of_getElem? (i := 1150) (by decide +kernel), List.mem_of_getElem? (i := 1151) (by decide +kernel)⟩
theorem lw_p13 : lw_okq (⟨"BallotscriptModel", "faultOf", "()I"⟩, 46) := ⟨⟨by decide +kernel, by decide +kernel⟩, List.mem_of_getElem? (i := 975) (by decide +kernel), List.mem_of_getElem? (i := 1177) (by decide +kernel), List.mem_of_getElem? (i := 1178) (by decide +kernel)⟩
theorem lw_p14 : lw_okq (⟨"BallotscriptModel", "writes", "(I)V"⟩, 46) := ⟨⟨by decide +kernel, by decide +kernel⟩, List.mem_of_getElem? (i := 975) (by decide +kernel), List.mem_of_getElem? (i := 1188) (by decide +kernel), List.mem_of_getElem? (i := 1189) (by decide +kernel)⟩
theorem lw_p15 : lw_okq (⟨"BallotscriptModel", "winnersOf", "(I)I"⟩, 46) := ⟨⟨by decide +kernel, by decide +kernel⟩, List.mem_of_getElem? (i := 975) (by decide +kernel), List.mem_of_getElem? (i := 1196) (by decide +kernel), List.mem_of_getElem? (i := 1197) (by decide +kernel)⟩
def lw_privs_1 : List (MethodName × Nat) := [(⟨"Ballotscript", "countVote", "(I)LBallotscript$MachineCount;"⟩, 11), (⟨"Ballotscript$MachineCount", "stepAfterPass", "(II)I"⟩, 12), (⟨"Ballotscript$MachineCount", "addBallot", "(ICI)I"⟩, 12), (⟨"Ballotscript$HandCount", "givenBy", "(III)I"⟩, 10), (⟨"Ballotscript$HandCount", "gaveSomething", "(II)Z"⟩, 10), (⟨"java/lang/Throwable", "fillInStackTrace", "(I)Ljava/lang/Throwable;"⟩, 6), (⟨"Ballotscript$Rule", "addStep", "(CI)I"⟩, 6), (⟨"Ballotscript", "needVote", "(I)V"⟩, 11), (⟨"Ballotscript", "needBallot", "(I)V"⟩, 11), (⟨"BallotscriptModel", "goes", "(ZZZ)Z"⟩, 46), (⟨"BallotscriptModel", "counting", "()I"⟩, 46), (⟨"BallotscriptModel", "reason", "(I)I"⟩, 46), (⟨"BallotscriptModel", "allowed", "(III)Z"⟩, 46), (⟨"BallotscriptModel", "faultOf", "()I"⟩, 46), (⟨"BallotscriptModel", "writes", "(I)V"⟩, 46), (⟨"BallotscriptModel", "winnersOf", "(I)I"⟩, 46)]
theorem lw_r1 : ∀ q ∈ lw_privs_1, lw_okq q := List.forall_mem_cons.mpr ⟨lw_p0, List.forall_mem_cons.mpr ⟨lw_p1, List.forall_mem_cons.mpr ⟨lw_p2, List.forall_mem_cons.mpr ⟨lw_p3, List.forall_mem_cons.mpr ⟨lw_p4, List.forall_mem_cons.mpr ⟨lw_p5, List.forall_mem_cons.mpr ⟨lw_p6, List.forall_mem_cons.mpr ⟨lw_p7, List.forall_mem_cons.mpr ⟨lw_p8, List.forall_mem_cons.mpr ⟨lw_p9, List.forall_mem_cons.mpr ⟨lw_p10, List.forall_mem_cons.mpr ⟨lw_p11, List.forall_mem_cons.mpr ⟨lw_p12, List.forall_mem_cons.mpr ⟨lw_p13, List.forall_mem_cons.mpr ⟨lw_p14, List.forall_mem_cons.mpr ⟨lw_p15, fun _ h => absurd h List.not_mem_nil⟩⟩⟩⟩⟩⟩⟩⟩⟩⟩⟩⟩⟩⟩⟩⟩
theorem lw_p16 : lw_okq (⟨"BallotscriptModel", "goesOn", "(II)I"⟩, 46) := ⟨⟨by decide +kernel, by decide +kernel⟩, List.mem_of_getElem? (i := 975) (by decide +kernel), List.mem_of_getElem? (i := 1200) (by decide +kernel), List.mem_of_getElem? (i := 1201) (by decide +kernel)⟩
theorem lw_p17 : lw_okq (⟨"BallotscriptModel", "electsAbove", "(I)V"⟩, 46) := ⟨⟨by decide +kernel, by decide +kernel⟩, List.mem_of_getElem? (i := 975) (by decide +kernel), List.mem_of_getElem? (i := 1204) (by decide +kernel), List.mem_of_getElem? (i := 1205) (by decide +kernel)⟩
theorem lw_p18 : lw_okq (⟨"BallotscriptModel", "chosen", "(Z)I"⟩, 46) := ⟨⟨by decide +kernel, by decide +kernel⟩, List.mem_of_getElem? (i := 975) (by decide +kernel), List.mem_of_getElem? (i := 1208) (by decide +kernel), List.mem_of_getElem? (i := 1209) (by decide +kernel)⟩
theorem lw_p19 : lw_okq (⟨"BallotscriptModel", "extreme", "(IIZ)I"⟩, 46) := ⟨⟨by decide +kernel, by decide +kernel⟩, List.mem_of_getElem? (i := 975) (by decide +kernel), List.mem_of_getElem? (i := 1212) (by decide +kernel), List.mem_of_getElem? (i := 1213) (by decide +kernel)⟩
theorem lw_p20 : lw_okq (⟨"BallotscriptModel", "votesIn", "(II)I"⟩, 46) := ⟨⟨by decide +kernel, by decide +kernel⟩, List.mem_of_getElem? (i := 975) (by decide +kernel), List.mem_of_getElem? (i := 1219) (by decide +kernel), List.mem_of_getElem? (i := 1220) (by decide +kernel)⟩
theorem lw_p21 : lw_okq (⟨"BallotscriptModel", "elects", "(I)V"⟩, 46) := ⟨⟨by decide +kernel, by decide +kernel⟩, List.mem_of_getElem? (i := 975) (by decide +kernel), List.mem_of_getElem? (i := 1226) (by decide +kernel), List.mem_of_getElem? (i := 1227) (by decide +kernel)⟩
theorem lw_p22 : lw_okq (⟨"BallotscriptModel", "does", "(I)V"⟩, 46) := ⟨⟨by decide +kernel, by decide +kernel⟩, List.mem_of_getElem? (i := 975) (by decide +kernel), List.mem_of_getElem? (i := 1230) (by decide +kernel), List.mem_of_getElem? (i := 1231) (by decide +kernel)⟩
theorem lw_p23 : lw_okq (⟨"BallotscriptModel", "makesTally", "(I)V"⟩, 46) := ⟨⟨by decide +kernel, by decide +kernel⟩, List.mem_of_getElem? (i := 975) (by decide +kernel), List.mem_of_getElem? (i := 1234) (by decide +kernel), List.mem_of_getElem? (i := 1235) (by decide +kernel)⟩
theorem lw_p24 : lw_okq (⟨"BallotscriptModel", "readAt", "(II)I"⟩, 46) := ⟨⟨by decide +kernel, by decide +kernel⟩, List.mem_of_getElem? (i := 975) (by decide +kernel), List.mem_of_getElem? (i := 1238) (by decide +kernel), List.mem_of_getElem? (i := 1239) (by decide +kernel)⟩
theorem lw_p25 : lw_okq (⟨"BallotscriptModel", "countingIn", "(I)I"⟩, 46) := ⟨⟨by decide +kernel, by decide +kernel⟩, List.mem_of_getElem? (i := 975) (by decide +kernel), List.mem_of_getElem? (i := 1254) (by decide +kernel), List.mem_of_getElem? (i := 1255) (by decide +kernel)⟩
theorem lw_p26 : lw_okq (⟨"BallotscriptModel", "countedAt", "(II)I"⟩, 46) := ⟨⟨by decide +kernel, by decide +kernel⟩, List.mem_of_getElem? (i := 975) (by decide +kernel), List.mem_of_getElem? (i := 1283) (by decide +kernel), List.mem_of_getElem? (i := 1284) (by decide +kernel)⟩
def lw_privs_2 : List (MethodName × Nat) := [(⟨"BallotscriptModel", "goesOn", "(II)I"⟩, 46), (⟨"BallotscriptModel", "electsAbove", "(I)V"⟩, 46), (⟨"BallotscriptModel", "chosen", "(Z)I"⟩, 46), (⟨"BallotscriptModel", "extreme", "(IIZ)I"⟩, 46), (⟨"BallotscriptModel", "votesIn", "(II)I"⟩, 46), (⟨"BallotscriptModel", "elects", "(I)V"⟩, 46), (⟨"BallotscriptModel", "does", "(I)V"⟩, 46), (⟨"BallotscriptModel", "makesTally", "(I)V"⟩, 46), (⟨"BallotscriptModel", "readAt", "(II)I"⟩, 46), (⟨"BallotscriptModel", "countingIn", "(I)I"⟩, 46), (⟨"BallotscriptModel", "countedAt", "(II)I"⟩, 46)]
theorem lw_r2 : ∀ q ∈ lw_privs_2, lw_okq q := List.forall_mem_cons.mpr ⟨lw_p16, List.forall_mem_cons.mpr ⟨lw_p17, List.forall_mem_cons.mpr ⟨lw_p18, List.forall_mem_cons.mpr ⟨lw_p19, List.forall_mem_cons.mpr ⟨lw_p20, List.forall_mem_cons.mpr ⟨lw_p21, List.forall_mem_cons.mpr ⟨lw_p22, List.forall_mem_cons.mpr ⟨lw_p23, List.forall_mem_cons.mpr ⟨lw_p24, List.forall_mem_cons.mpr ⟨lw_p25, List.forall_mem_cons.mpr ⟨lw_p26, fun _ h => absurd h List.not_mem_nil⟩⟩⟩⟩⟩⟩⟩⟩⟩⟩⟩
def lw_privs : List (MethodName × Nat) := lw_privs_1 ++ (lw_privs_2)
def lw_tbl : List Cond := k2_sels lw_privs ++ tables_1
theorem lw_privs_ok : ∀ q ∈ lw_privs, lw_okq q := by
  show ∀ q ∈ lw_privs_1 ++ (lw_privs_2), lw_okq q
  exact List.forall_mem_append.mpr ⟨lw_r1, lw_r2⟩
/-- the words that every method of this claim takes: those of the tables that hold at any state of the launch -/
def wall : List Cond := lw_tbl.filter goodWord
theorem wall_of {w : Cond} (i : Nat) (h : tables_1[i]? = some w) (g : goodWord w = true) : w ∈ wall := List.mem_filter.mpr ⟨List.mem_append_right _ (List.mem_of_getElem? h), g⟩
theorem wall_sel {w : Cond} (i : Nat) (h : (k2_sels lw_privs)[i]? = some w) (g : goodWord w = true) : w ∈ wall := List.mem_filter.mpr ⟨List.mem_append_left _ (List.mem_of_getElem? h), g⟩
theorem wall_good {Ts : List Cond} {y : MethodName} {b : ByteArray} {n : Nat} {r : Option FieldType} (hT : ∀ w ∈ wall, w ∈ Ts) (h : Cond.code y b n r ∈ wall) : GoodIn Ts (.code y b n r :: wall) := by
  have h1 : ∀ w ∈ wall, w ∈ Ts ∧ ((w.onTables && w.keeps) = true ∨ ∃ ty, w = .arrayClass ty) := fun w hw => ⟨hT w hw, good_of_word (List.mem_filter.mp hw).2⟩
  intro w hw
  rcases List.mem_cons.mp hw with e | e
  · rw [e]; exact h1 _ h
  · exact h1 w e
end
section
def RX0 : String := "Ballotscript$Box"
def TX0 : u_T := fun k => match k with
  | 0 => ("Ballotscript$Box", "rolls", "LBallotscript$Rolls;", true)
  | 1 => ("Ballotscript$Box", "voteOf", "[I", true)
  | 2 => ("Ballotscript$Box", "rollOf", "[I", true)
  | 3 => ("Ballotscript$Box", "personOf", "[I", true)
  | 4 => ("Ballotscript$Box", "dayOf", "[I", true)
  | 5 => ("Ballotscript$Box", "lengths", "[I", true)
  | 6 => ("Ballotscript$Box", "orders", "[I", true)
  | 7 => ("Ballotscript$Box", "swapped", "[Z", true)
  | 8 => ("Ballotscript$Box", "size", "I", false)
  | 9 => ("Ballotscript$Box", "gathered", "[I", true)
  | _ => ("Ballotscript$Box", "gatheredCount", "I", false)
def tyX0 : Nat → FieldType := fun k => match k with
  | 0 => .object "Ballotscript$Rolls"
  | 1 => .array .int
  | 2 => .array .int
  | 3 => .array .int
  | 4 => .array .int
  | 5 => .array .int
  | 6 => .array .int
  | 7 => .array .boolean
  | 8 => .int
  | 9 => .array .int
  | _ => .int
abbrev wsX00 : List Cond := u_ws RX0 TX0 11
theorem nmX0 : ∀ a, a < 11 → ∀ b, b < 11 → a ≠ b → (TX0 a).2.1 ≠ (TX0 b).2.1 := by decide +kernel
theorem tyX0_ok : ∀ k, k < 11 → parseFieldDescriptor (TX0 k).2.2.1 = some (tyX0 k) := by decide +kernel
abbrev cX0_init : ByteArray := prog_2_method_1_code
def yX0_init : MethodName := ⟨RX0, "<init>", "(LBallotscript$Rolls;)V"⟩
abbrev cX0_add : ByteArray := prog_2_method_2_code
def yX0_add : MethodName := ⟨RX0, "add", "(IIIILBallotscript$Slip;)I"⟩
abbrev cX0_candidateAt : ByteArray := prog_2_method_3_code
def yX0_candidateAt : MethodName := ⟨RX0, "candidateAt", "(II)I"⟩
abbrev cX0_putRight : ByteArray := prog_2_method_4_code
def yX0_putRight : MethodName := ⟨RX0, "putRight", "(I)Z"⟩
abbrev cX0_reasonOf : ByteArray := prog_2_method_5_code
def yX0_reasonOf : MethodName := ⟨RX0, "reasonOf", "(I)I"⟩
abbrev cX0_gather : ByteArray := prog_2_method_6_code
def yX0_gather : MethodName := ⟨RX0, "gather", "(I)V"⟩
abbrev cX0_countAll : ByteArray := prog_2_method_7_code
def yX0_countAll : MethodName := ⟨RX0, "countAll", "()I"⟩
def RX1 : String := "Ballotscript$Count"
def TX1 : u_T := fun k => match k with
  | _ => ("", "", "", false)
def tyX1 : Nat → FieldType := fun k => match k with
  | _ => .int
abbrev wsX10 : List Cond := u_ws RX1 TX1 0
theorem nmX1 : ∀ a, a < 0 → ∀ b, b < 0 → a ≠ b → (TX1 a).2.1 ≠ (TX1 b).2.1 := by decide +kernel
theorem tyX1_ok : ∀ k, k < 0 → parseFieldDescriptor (TX1 k).2.2.1 = some (tyX1 k) := by decide +kernel
abbrev cX1_init : ByteArray := prog_3_method_1_code
def yX1_init : MethodName := ⟨RX1, "<init>", "(LBallotscript$Box;)V"⟩
abbrev cX1_begin : ByteArray := prog_3_method_5_code
def yX1_begin : MethodName := ⟨RX1, "begin", "(II)V"⟩
abbrev cX1_obey : ByteArray := prog_3_method_6_code
def yX1_obey : MethodName := ⟨RX1, "obey", "(CI)V"⟩
abbrev cX1_letGo : ByteArray := prog_3_method_7_code
def yX1_letGo : MethodName := ⟨RX1, "letGo", "(CI)V"⟩
abbrev cX1_maySomeGo : ByteArray := prog_3_method_8_code
def yX1_maySomeGo : MethodName := ⟨RX1, "maySomeGo", "(CII)Z"⟩
abbrev cX1_keepTie : ByteArray := prog_3_method_9_code
def yX1_keepTie : MethodName := ⟨RX1, "keepTie", "(I)V"⟩
abbrev cX1_remove : ByteArray := prog_3_method_10_code
def yX1_remove : MethodName := ⟨RX1, "remove", "(IZ)V"⟩
abbrev cX1_leaders : ByteArray := prog_3_method_11_code
def yX1_leaders : MethodName := ⟨RX1, "leaders", "(IIZ)I"⟩
abbrev cX1_hasBit : ByteArray := prog_3_method_12_code
def yX1_hasBit : MethodName := ⟨RX1, "hasBit", "(II)Z"⟩
abbrev cX1_lowest : ByteArray := prog_3_method_13_code
def yX1_lowest : MethodName := ⟨RX1, "lowest", "(I)I"⟩
abbrev cX1_highest : ByteArray := prog_3_method_14_code
def yX1_highest : MethodName := ⟨RX1, "highest", "(I)I"⟩
def RX2 : String := "Ballotscript$HandCount"
def TX2 : u_T := fun k => match k with
  | 0 => ("Ballotscript$Count", "box", "LBallotscript$Box;", true)
  | 1 => ("Ballotscript$Count", "tieSets", "[I", true)
  | 2 => ("Ballotscript$Count", "tieCount", "I", false)
  | 3 => ("Ballotscript$Count", "tallyCount", "I", false)
  | 4 => ("Ballotscript$Count", "openSeats", "I", false)
  | 5 => ("Ballotscript$Count", "standing", "I", false)
  | 6 => ("Ballotscript$Count", "elected", "I", false)
  | 7 => ("Ballotscript$Count", "breaking", "C", false)
  | 8 => ("Ballotscript$HandCount", "kinds", "[C", true)
  | _ => ("Ballotscript$HandCount", "stood", "[I", true)
def tyX2 : Nat → FieldType := fun k => match k with
  | 0 => .object "Ballotscript$Box"
  | 1 => .array .int
  | 2 => .int
  | 3 => .int
  | 4 => .int
  | 5 => .int
  | 6 => .int
  | 7 => .char
  | 8 => .array .char
  | _ => .array .int
abbrev wsX20 : List Cond := u_ws RX2 TX2 10
theorem nmX2 : ∀ a, a < 10 → ∀ b, b < 10 → a ≠ b → (TX2 a).2.1 ≠ (TX2 b).2.1 := by decide +kernel
theorem tyX2_ok : ∀ k, k < 10 → parseFieldDescriptor (TX2 k).2.2.1 = some (tyX2 k) := by decide +kernel
abbrev cX2_init : ByteArray := prog_4_method_1_code
def yX2_init : MethodName := ⟨RX2, "<init>", "(LBallotscript$Box;)V"⟩
abbrev cX2_doRow : ByteArray := prog_4_method_2_code
def yX2_doRow : MethodName := ⟨RX2, "doRow", "(LBallotscript$Rule;II)I"⟩
abbrev cX2_makeTally : ByteArray := prog_4_method_3_code
def yX2_makeTally : MethodName := ⟨RX2, "makeTally", "(C)V"⟩
abbrev cX2_votesIn : ByteArray := prog_4_method_4_code
def yX2_votesIn : MethodName := ⟨RX2, "votesIn", "(II)I"⟩
abbrev cX2_givenBy : ByteArray := prog_4_method_5_code
def yX2_givenBy : MethodName := ⟨RX2, "givenBy", "(III)I"⟩
abbrev cX2_weightOf : ByteArray := prog_4_method_6_code
def yX2_weightOf : MethodName := ⟨RX2, "weightOf", "(I)I"⟩
abbrev cX2_gaveSomething : ByteArray := prog_4_method_7_code
def yX2_gaveSomething : MethodName := ⟨RX2, "gaveSomething", "(II)Z"⟩
def RX3 : String := "Ballotscript$MachineCount"
def TX3 : u_T := fun k => match k with
  | 0 => ("Ballotscript$Count", "box", "LBallotscript$Box;", true)
  | 1 => ("Ballotscript$Count", "tieSets", "[I", true)
  | 2 => ("Ballotscript$Count", "tieCount", "I", false)
  | 3 => ("Ballotscript$Count", "tallyCount", "I", false)
  | 4 => ("Ballotscript$Count", "openSeats", "I", false)
  | 5 => ("Ballotscript$Count", "standing", "I", false)
  | 6 => ("Ballotscript$Count", "elected", "I", false)
  | 7 => ("Ballotscript$Count", "breaking", "C", false)
  | 8 => ("Ballotscript$MachineCount", "counted", "[I", true)
  | 9 => ("Ballotscript$MachineCount", "stood", "[I", true)
  | 10 => ("Ballotscript$MachineCount", "weights", "[I", true)
  | _ => ("Ballotscript$MachineCount", "stoodAtPass", "[I", true)
def tyX3 : Nat → FieldType := fun k => match k with
  | 0 => .object "Ballotscript$Box"
  | 1 => .array .int
  | 2 => .int
  | 3 => .int
  | 4 => .int
  | 5 => .int
  | 6 => .int
  | 7 => .char
  | 8 => .array .int
  | 9 => .array .int
  | 10 => .array .int
  | _ => .array .int
abbrev wsX30 : List Cond := u_ws RX3 TX3 12
theorem nmX3 : ∀ a, a < 12 → ∀ b, b < 12 → a ≠ b → (TX3 a).2.1 ≠ (TX3 b).2.1 := by decide +kernel
theorem tyX3_ok : ∀ k, k < 12 → parseFieldDescriptor (TX3 k).2.2.1 = some (tyX3 k) := by decide +kernel
abbrev cX3_init : ByteArray := prog_5_method_1_code
def yX3_init : MethodName := ⟨RX3, "<init>", "(LBallotscript$Box;)V"⟩
abbrev cX3_follow : ByteArray := prog_5_method_2_code
def yX3_follow : MethodName := ⟨RX3, "follow", "(LBallotscript$Rule;)V"⟩
abbrev cX3_stepAfterPass : ByteArray := prog_5_method_3_code
def yX3_stepAfterPass : MethodName := ⟨RX3, "stepAfterPass", "(II)I"⟩
abbrev cX3_makeTally : ByteArray := prog_5_method_4_code
def yX3_makeTally : MethodName := ⟨RX3, "makeTally", "(C)V"⟩
abbrev cX3_addBallot : ByteArray := prog_5_method_5_code
def yX3_addBallot : MethodName := ⟨RX3, "addBallot", "(ICI)I"⟩
abbrev cX3_stoodIn : ByteArray := prog_5_method_6_code
def yX3_stoodIn : MethodName := ⟨RX3, "stoodIn", "(II)Z"⟩
abbrev cX3_votesIn : ByteArray := prog_5_method_7_code
def yX3_votesIn : MethodName := ⟨RX3, "votesIn", "(II)I"⟩
abbrev cX3_weightOf : ByteArray := prog_5_method_8_code
def yX3_weightOf : MethodName := ⟨RX3, "weightOf", "(I)I"⟩
def RX4 : String := "Ballotscript$Rolls"
def TX4 : u_T := fun k => match k with
  | 0 => ("Ballotscript$Rolls", "rollOf", "[I", true)
  | 1 => ("Ballotscript$Rolls", "personOf", "[I", true)
  | 2 => ("Ballotscript$Rolls", "fromOf", "[I", true)
  | 3 => ("Ballotscript$Rolls", "toOf", "[I", true)
  | 4 => ("Ballotscript$Rolls", "struck", "[Z", true)
  | _ => ("Ballotscript$Rolls", "size", "I", false)
def tyX4 : Nat → FieldType := fun k => match k with
  | 0 => .array .int
  | 1 => .array .int
  | 2 => .array .int
  | 3 => .array .int
  | 4 => .array .boolean
  | _ => .int
abbrev wsX40 : List Cond := u_ws RX4 TX4 6
theorem nmX4 : ∀ a, a < 6 → ∀ b, b < 6 → a ≠ b → (TX4 a).2.1 ≠ (TX4 b).2.1 := by decide +kernel
theorem tyX4_ok : ∀ k, k < 6 → parseFieldDescriptor (TX4 k).2.2.1 = some (tyX4 k) := by decide +kernel
abbrev cX4_init : ByteArray := prog_6_method_1_code
def yX4_init : MethodName := ⟨RX4, "<init>", "()V"⟩
abbrev cX4_add : ByteArray := prog_6_method_2_code
def yX4_add : MethodName := ⟨RX4, "add", "(IIII)I"⟩
abbrev cX4_allows : ByteArray := prog_6_method_3_code
def yX4_allows : MethodName := ⟨RX4, "allows", "(III)Z"⟩
def RX5 : String := "Ballotscript$Rule"
def TX5 : u_T := fun k => match k with
  | 0 => ("Ballotscript$Rule", "letters", "[C", true)
  | 1 => ("Ballotscript$Rule", "steps", "[C", true)
  | 2 => ("Ballotscript$Rule", "numbers", "[I", true)
  | 3 => ("Ballotscript$Rule", "size", "I", false)
  | 4 => ("Ballotscript$Rule", "stepCount", "I", false)
  | _ => ("Ballotscript$Rule", "commandCount", "I", false)
def tyX5 : Nat → FieldType := fun k => match k with
  | 0 => .array .char
  | 1 => .array .char
  | 2 => .array .int
  | 3 => .int
  | 4 => .int
  | _ => .int
abbrev wsX50 : List Cond := u_ws RX5 TX5 6
theorem nmX5 : ∀ a, a < 6 → ∀ b, b < 6 → a ≠ b → (TX5 a).2.1 ≠ (TX5 b).2.1 := by decide +kernel
theorem tyX5_ok : ∀ k, k < 6 → parseFieldDescriptor (TX5 k).2.2.1 = some (tyX5 k) := by decide +kernel
abbrev cX5_init : ByteArray := prog_7_method_1_code
def yX5_init : MethodName := ⟨RX5, "<init>", "()V"⟩
abbrev cX5_take : ByteArray := prog_7_method_2_code
def yX5_take : MethodName := ⟨RX5, "take", "(LBallotscript$Text;)V"⟩
abbrev cX5_addStep : ByteArray := prog_7_method_3_code
def yX5_addStep : MethodName := ⟨RX5, "addStep", "(CI)I"⟩
def RX6 : String := "Ballotscript$Slip"
def TX6 : u_T := fun k => match k with
  | 0 => ("Ballotscript$Slip", "order", "[I", true)
  | _ => ("Ballotscript$Slip", "size", "I", false)
def tyX6 : Nat → FieldType := fun k => match k with
  | 0 => .array .int
  | _ => .int
abbrev wsX60 : List Cond := u_ws RX6 TX6 2
theorem nmX6 : ∀ a, a < 2 → ∀ b, b < 2 → a ≠ b → (TX6 a).2.1 ≠ (TX6 b).2.1 := by decide +kernel
theorem tyX6_ok : ∀ k, k < 2 → parseFieldDescriptor (TX6 k).2.2.1 = some (tyX6 k) := by decide +kernel
abbrev cX6_init : ByteArray := prog_8_method_1_code
def yX6_init : MethodName := ⟨RX6, "<init>", "()V"⟩
abbrev cX6_add : ByteArray := prog_8_method_2_code
def yX6_add : MethodName := ⟨RX6, "add", "(I)I"⟩
abbrev cX6_has : ByteArray := prog_8_method_3_code
def yX6_has : MethodName := ⟨RX6, "has", "(I)Z"⟩
abbrev cX6_highest : ByteArray := prog_8_method_4_code
def yX6_highest : MethodName := ⟨RX6, "highest", "()I"⟩
def RX7 : String := "Ballotscript$Text"
def TX7 : u_T := fun k => match k with
  | 0 => ("Ballotscript$Text", "letters", "[C", true)
  | _ => ("Ballotscript$Text", "size", "I", false)
def tyX7 : Nat → FieldType := fun k => match k with
  | 0 => .array .char
  | _ => .int
abbrev wsX70 : List Cond := u_ws RX7 TX7 2
theorem nmX7 : ∀ a, a < 2 → ∀ b, b < 2 → a ≠ b → (TX7 a).2.1 ≠ (TX7 b).2.1 := by decide +kernel
theorem tyX7_ok : ∀ k, k < 2 → parseFieldDescriptor (TX7 k).2.2.1 = some (tyX7 k) := by decide +kernel
abbrev cX7_init : ByteArray := prog_9_method_1_code
def yX7_init : MethodName := ⟨RX7, "<init>", "()V"⟩
abbrev cX7_add : ByteArray := prog_9_method_2_code
def yX7_add : MethodName := ⟨RX7, "add", "(C)I"⟩
abbrev cX7_firstFault : ByteArray := prog_9_method_3_code
def yX7_firstFault : MethodName := ⟨RX7, "firstFault", "()I"⟩
abbrev cX7_stateAfter : ByteArray := prog_9_method_4_code
def yX7_stateAfter : MethodName := ⟨RX7, "stateAfter", "(CII)I"⟩
def RX8 : String := "Ballotscript$Vote"
def TX8 : u_T := fun k => match k with
  | 0 => ("Ballotscript$Vote", "roll", "I", false)
  | 1 => ("Ballotscript$Vote", "candidates", "I", false)
  | 2 => ("Ballotscript$Vote", "seats", "I", false)
  | 3 => ("Ballotscript$Vote", "rule", "I", false)
  | 4 => ("Ballotscript$Vote", "closed", "Z", false)
  | 5 => ("Ballotscript$Vote", "draws", "I", false)
  | 6 => ("Ballotscript$Vote", "found", "I", false)
  | 7 => ("Ballotscript$Vote", "certificate", "I", false)
  | _ => ("Ballotscript$Vote", "before", "I", false)
def tyX8 : Nat → FieldType := fun k => match k with
  | 0 => .int
  | 1 => .int
  | 2 => .int
  | 3 => .int
  | 4 => .boolean
  | 5 => .int
  | 6 => .int
  | 7 => .int
  | _ => .int
abbrev wsX80 : List Cond := u_ws RX8 TX8 9
theorem nmX8 : ∀ a, a < 9 → ∀ b, b < 9 → a ≠ b → (TX8 a).2.1 ≠ (TX8 b).2.1 := by decide +kernel
theorem tyX8_ok : ∀ k, k < 9 → parseFieldDescriptor (TX8 k).2.2.1 = some (tyX8 k) := by decide +kernel
abbrev cX8_init : ByteArray := prog_10_method_1_code
def yX8_init : MethodName := ⟨RX8, "<init>", "()V"⟩
abbrev cX8_begin : ByteArray := prog_10_method_2_code
def yX8_begin : MethodName := ⟨RX8, "begin", "(IIII)V"⟩
def RX9 : String := "Ballotscript"
def TX9 : u_T := fun k => match k with
  | 0 => ("Ballotscript", "rolls", "LBallotscript$Rolls;", true)
  | 1 => ("Ballotscript", "text", "LBallotscript$Text;", true)
  | 2 => ("Ballotscript", "rules", "[LBallotscript$Rule;", true)
  | 3 => ("Ballotscript", "house", "[LBallotscript$Vote;", true)
  | 4 => ("Ballotscript", "slip", "LBallotscript$Slip;", true)
  | 5 => ("Ballotscript", "box", "LBallotscript$Box;", true)
  | 6 => ("Ballotscript", "machine", "LBallotscript$MachineCount;", true)
  | 7 => ("Ballotscript", "hand", "LBallotscript$HandCount;", true)
  | 8 => ("Ballotscript", "today", "I", false)
  | 9 => ("Ballotscript", "ruleCount", "I", false)
  | _ => ("Ballotscript", "voteCount", "I", false)
def tyX9 : Nat → FieldType := fun k => match k with
  | 0 => .object "Ballotscript$Rolls"
  | 1 => .object "Ballotscript$Text"
  | 2 => .array (.object "Ballotscript$Rule")
  | 3 => .array (.object "Ballotscript$Vote")
  | 4 => .object "Ballotscript$Slip"
  | 5 => .object "Ballotscript$Box"
  | 6 => .object "Ballotscript$MachineCount"
  | 7 => .object "Ballotscript$HandCount"
  | 8 => .int
  | 9 => .int
  | _ => .int
abbrev wsX90 : List Cond := u_ws RX9 TX9 11
theorem nmX9 : ∀ a, a < 11 → ∀ b, b < 11 → a ≠ b → (TX9 a).2.1 ≠ (TX9 b).2.1 := by decide +kernel
theorem tyX9_ok : ∀ k, k < 11 → parseFieldDescriptor (TX9 k).2.2.1 = some (tyX9 k) := by decide +kernel
abbrev cX9_init : ByteArray := prog_1_method_1_code
def yX9_init : MethodName := ⟨RX9, "<init>", "()V"⟩
abbrev cX9_enter : ByteArray := prog_1_method_2_code
def yX9_enter : MethodName := ⟨RX9, "enter", "(IIII)I"⟩
abbrev cX9_strike : ByteArray := prog_1_method_3_code
def yX9_strike : MethodName := ⟨RX9, "strike", "(I)I"⟩
abbrev cX9_isAllowed : ByteArray := prog_1_method_4_code
def yX9_isAllowed : MethodName := ⟨RX9, "isAllowed", "(III)Z"⟩
abbrev cX9_pass : ByteArray := prog_1_method_5_code
def yX9_pass : MethodName := ⟨RX9, "pass", "(I)I"⟩
abbrev cX9_type : ByteArray := prog_1_method_6_code
def yX9_type : MethodName := ⟨RX9, "type", "(C)I"⟩
abbrev cX9_wipe : ByteArray := prog_1_method_7_code
def yX9_wipe : MethodName := ⟨RX9, "wipe", "()I"⟩
abbrev cX9_fault : ByteArray := prog_1_method_8_code
def yX9_fault : MethodName := ⟨RX9, "fault", "()I"⟩
abbrev cX9_rule : ByteArray := prog_1_method_9_code
def yX9_rule : MethodName := ⟨RX9, "rule", "()I"⟩
abbrev cX9_mend : ByteArray := prog_1_method_10_code
def yX9_mend : MethodName := ⟨RX9, "mend", "(I)I"⟩
abbrev cX9_commands : ByteArray := prog_1_method_11_code
def yX9_commands : MethodName := ⟨RX9, "commands", "(I)I"⟩
abbrev cX9_open : ByteArray := prog_1_method_12_code
def yX9_open : MethodName := ⟨RX9, "open", "(IIII)I"⟩
abbrev cX9_close : ByteArray := prog_1_method_13_code
def yX9_close : MethodName := ⟨RX9, "close", "(I)I"⟩
abbrev cX9_mark : ByteArray := prog_1_method_14_code
def yX9_mark : MethodName := ⟨RX9, "mark", "(I)I"⟩
abbrev cX9_cast : ByteArray := prog_1_method_15_code
def yX9_cast : MethodName := ⟨RX9, "cast", "(II)I"⟩
abbrev cX9_why : ByteArray := prog_1_method_16_code
def yX9_why : MethodName := ⟨RX9, "why", "(I)I"⟩
abbrev cX9_read : ByteArray := prog_1_method_17_code
def yX9_read : MethodName := ⟨RX9, "read", "(II)I"⟩
abbrev cX9_misread : ByteArray := prog_1_method_18_code
def yX9_misread : MethodName := ⟨RX9, "misread", "(I)V"⟩
abbrev cX9_sample : ByteArray := prog_1_method_19_code
def yX9_sample : MethodName := ⟨RX9, "sample", "(III)I"⟩
abbrev cX9_recount : ByteArray := prog_1_method_20_code
def yX9_recount : MethodName := ⟨RX9, "recount", "(I)I"⟩
abbrev cX9_doubt : ByteArray := prog_1_method_21_code
def yX9_doubt : MethodName := ⟨RX9, "doubt", "(I)I"⟩
abbrev cX9_winners : ByteArray := prog_1_method_22_code
def yX9_winners : MethodName := ⟨RX9, "winners", "(I)I"⟩
abbrev cX9_winnersByHand : ByteArray := prog_1_method_23_code
def yX9_winnersByHand : MethodName := ⟨RX9, "winnersByHand", "(I)I"⟩
abbrev cX9_tallies : ByteArray := prog_1_method_24_code
def yX9_tallies : MethodName := ⟨RX9, "tallies", "(I)I"⟩
abbrev cX9_votes : ByteArray := prog_1_method_25_code
def yX9_votes : MethodName := ⟨RX9, "votes", "(III)I"⟩
abbrev cX9_ties : ByteArray := prog_1_method_26_code
def yX9_ties : MethodName := ⟨RX9, "ties", "(I)I"⟩
abbrev cX9_tied : ByteArray := prog_1_method_27_code
def yX9_tied : MethodName := ⟨RX9, "tied", "(II)I"⟩
abbrev cX9_certify : ByteArray := prog_1_method_28_code
def yX9_certify : MethodName := ⟨RX9, "certify", "(I)I"⟩
abbrev cX9_certified : ByteArray := prog_1_method_29_code
def yX9_certified : MethodName := ⟨RX9, "certified", "(I)I"⟩
abbrev cX9_stale : ByteArray := prog_1_method_30_code
def yX9_stale : MethodName := ⟨RX9, "stale", "()I"⟩
abbrev cX9_isWithin : ByteArray := prog_1_method_31_code
def yX9_isWithin : MethodName := ⟨RX9, "isWithin", "(III)Z"⟩
abbrev cX9_isDigit : ByteArray := prog_1_method_32_code
def yX9_isDigit : MethodName := ⟨RX9, "isDigit", "(C)Z"⟩
abbrev cX9_isTypable : ByteArray := prog_1_method_33_code
def yX9_isTypable : MethodName := ⟨RX9, "isTypable", "(C)Z"⟩
abbrev cX9_needVote : ByteArray := prog_1_method_34_code
def yX9_needVote : MethodName := ⟨RX9, "needVote", "(I)V"⟩
abbrev cX9_needBallot : ByteArray := prog_1_method_35_code
def yX9_needBallot : MethodName := ⟨RX9, "needBallot", "(I)V"⟩
abbrev cX9_countVote : ByteArray := prog_1_method_36_code
def yX9_countVote : MethodName := ⟨RX9, "countVote", "(I)LBallotscript$MachineCount;"⟩
def RX10 : String := "BallotscriptModel"
def TX10 : u_T := fun k => match k with
  | 0 => ("BallotscriptModel", "today", "I", false)
  | 1 => ("BallotscriptModel", "roll", "[I", true)
  | 2 => ("BallotscriptModel", "person", "[I", true)
  | 3 => ("BallotscriptModel", "from", "[I", true)
  | 4 => ("BallotscriptModel", "to", "[I", true)
  | 5 => ("BallotscriptModel", "isStruck", "[Z", true)
  | 6 => ("BallotscriptModel", "entries", "I", false)
  | 7 => ("BallotscriptModel", "text", "[I", true)
  | 8 => ("BallotscriptModel", "length", "I", false)
  | 9 => ("BallotscriptModel", "rule", "[I", true)
  | 10 => ("BallotscriptModel", "ruleLength", "[I", true)
  | 11 => ("BallotscriptModel", "rules", "I", false)
  | 12 => ("BallotscriptModel", "voteRoll", "[I", true)
  | 13 => ("BallotscriptModel", "candidates", "[I", true)
  | 14 => ("BallotscriptModel", "seats", "[I", true)
  | 15 => ("BallotscriptModel", "voteRule", "[I", true)
  | 16 => ("BallotscriptModel", "isClosed", "[Z", true)
  | 17 => ("BallotscriptModel", "certified", "[I", true)
  | 18 => ("BallotscriptModel", "draws", "[I", true)
  | 19 => ("BallotscriptModel", "finds", "[I", true)
  | 20 => ("BallotscriptModel", "votes", "I", false)
  | 21 => ("BallotscriptModel", "order", "[I", true)
  | 22 => ("BallotscriptModel", "orderLength", "[I", true)
  | 23 => ("BallotscriptModel", "vote", "[I", true)
  | 24 => ("BallotscriptModel", "voter", "[I", true)
  | 25 => ("BallotscriptModel", "day", "[I", true)
  | 26 => ("BallotscriptModel", "isMisread", "[Z", true)
  | 27 => ("BallotscriptModel", "ballots", "I", false)
  | 28 => ("BallotscriptModel", "marked", "[I", true)
  | 29 => ("BallotscriptModel", "marks", "I", false)
  | 30 => ("BallotscriptModel", "isIn", "[Z", true)
  | 31 => ("BallotscriptModel", "tally", "[I", true)
  | 32 => ("BallotscriptModel", "tallies", "I", false)
  | 33 => ("BallotscriptModel", "weight", "I", false)
  | 34 => ("BallotscriptModel", "tie", "[I", true)
  | 35 => ("BallotscriptModel", "ties", "I", false)
  | 36 => ("BallotscriptModel", "standing", "I", false)
  | 37 => ("BallotscriptModel", "elected", "I", false)
  | 38 => ("BallotscriptModel", "open", "I", false)
  | 39 => ("BallotscriptModel", "breaking", "I", false)
  | 40 => ("BallotscriptModel", "events", "I", false)
  | 41 => ("BallotscriptModel", "start", "[I", true)
  | 42 => ("BallotscriptModel", "seen", "[I", true)
  | 43 => ("BallotscriptModel", "level", "I", false)
  | 44 => ("BallotscriptModel", "had", "[I", true)
  | _ => ("BallotscriptModel", "thrown", "I", false)
def tyX10 : Nat → FieldType := fun k => match k with
  | 0 => .int
  | 1 => .array .int
  | 2 => .array .int
  | 3 => .array .int
  | 4 => .array .int
  | 5 => .array .boolean
  | 6 => .int
  | 7 => .array .int
  | 8 => .int
  | 9 => .array .int
  | 10 => .array .int
  | 11 => .int
  | 12 => .array .int
  | 13 => .array .int
  | 14 => .array .int
  | 15 => .array .int
  | 16 => .array .boolean
  | 17 => .array .int
  | 18 => .array .int
  | 19 => .array .int
  | 20 => .int
  | 21 => .array .int
  | 22 => .array .int
  | 23 => .array .int
  | 24 => .array .int
  | 25 => .array .int
  | 26 => .array .boolean
  | 27 => .int
  | 28 => .array .int
  | 29 => .int
  | 30 => .array .boolean
  | 31 => .array .int
  | 32 => .int
  | 33 => .int
  | 34 => .array .int
  | 35 => .int
  | 36 => .int
  | 37 => .int
  | 38 => .int
  | 39 => .int
  | 40 => .int
  | 41 => .array .int
  | 42 => .array .int
  | 43 => .int
  | 44 => .array .int
  | _ => .int
abbrev wsX100 : List Cond := u_ws RX10 TX10 46
theorem nmX10 : ∀ a, a < 46 → ∀ b, b < 46 → a ≠ b → (TX10 a).2.1 ≠ (TX10 b).2.1 := by decide +kernel
theorem tyX10_ok : ∀ k, k < 46 → parseFieldDescriptor (TX10 k).2.2.1 = some (tyX10 k) := by decide +kernel
abbrev cX10_init : ByteArray := prog_12_method_1_code
def yX10_init : MethodName := ⟨RX10, "<init>", "()V"⟩
abbrev cX10_thrown : ByteArray := prog_12_method_2_code
def yX10_thrown : MethodName := ⟨RX10, "thrown", "()I"⟩
abbrev cX10_goes : ByteArray := prog_12_method_3_code
def yX10_goes : MethodName := ⟨RX10, "goes", "(ZZZ)Z"⟩
abbrev cX10_isBelow : ByteArray := prog_12_method_4_code
def yX10_isBelow : MethodName := ⟨RX10, "isBelow", "(II)Z"⟩
abbrev cX10_isWithin : ByteArray := prog_12_method_5_code
def yX10_isWithin : MethodName := ⟨RX10, "isWithin", "(III)Z"⟩
abbrev cX10_has : ByteArray := prog_12_method_6_code
def yX10_has : MethodName := ⟨RX10, "has", "(II)Z"⟩
abbrev cX10_size : ByteArray := prog_12_method_7_code
def yX10_size : MethodName := ⟨RX10, "size", "(I)I"⟩
abbrev cX10_enter : ByteArray := prog_12_method_8_code
def yX10_enter : MethodName := ⟨RX10, "enter", "(IIII)I"⟩
abbrev cX10_allowed : ByteArray := prog_12_method_9_code
def yX10_allowed : MethodName := ⟨RX10, "allowed", "(III)Z"⟩
abbrev cX10_counting : ByteArray := prog_12_method_10_code
def yX10_counting : MethodName := ⟨RX10, "counting", "()I"⟩
abbrev cX10_strike : ByteArray := prog_12_method_11_code
def yX10_strike : MethodName := ⟨RX10, "strike", "(I)I"⟩
abbrev cX10_isAllowed : ByteArray := prog_12_method_12_code
def yX10_isAllowed : MethodName := ⟨RX10, "isAllowed", "(III)Z"⟩
abbrev cX10_pass : ByteArray := prog_12_method_13_code
def yX10_pass : MethodName := ⟨RX10, "pass", "(I)I"⟩
abbrev cX10_isFigure : ByteArray := prog_12_method_14_code
def yX10_isFigure : MethodName := ⟨RX10, "isFigure", "(I)Z"⟩
abbrev cX10_isPlain : ByteArray := prog_12_method_15_code
def yX10_isPlain : MethodName := ⟨RX10, "isPlain", "(I)Z"⟩
abbrev cX10_type : ByteArray := prog_12_method_16_code
def yX10_type : MethodName := ⟨RX10, "type", "(C)I"⟩
abbrev cX10_wipe : ByteArray := prog_12_method_17_code
def yX10_wipe : MethodName := ⟨RX10, "wipe", "()I"⟩
abbrev cX10_faultOf : ByteArray := prog_12_method_18_code
def yX10_faultOf : MethodName := ⟨RX10, "faultOf", "()I"⟩
abbrev cX10_fault : ByteArray := prog_12_method_19_code
def yX10_fault : MethodName := ⟨RX10, "fault", "()I"⟩
abbrev cX10_writes : ByteArray := prog_12_method_20_code
def yX10_writes : MethodName := ⟨RX10, "writes", "(I)V"⟩
abbrev cX10_rule : ByteArray := prog_12_method_21_code
def yX10_rule : MethodName := ⟨RX10, "rule", "()I"⟩
abbrev cX10_mend : ByteArray := prog_12_method_22_code
def yX10_mend : MethodName := ⟨RX10, "mend", "(I)I"⟩
abbrev cX10_commands : ByteArray := prog_12_method_23_code
def yX10_commands : MethodName := ⟨RX10, "commands", "(I)I"⟩
abbrev cX10_open : ByteArray := prog_12_method_24_code
def yX10_open : MethodName := ⟨RX10, "open", "(IIII)I"⟩
abbrev cX10_countingIn : ByteArray := prog_12_method_25_code
def yX10_countingIn : MethodName := ⟨RX10, "countingIn", "(I)I"⟩
abbrev cX10_close : ByteArray := prog_12_method_26_code
def yX10_close : MethodName := ⟨RX10, "close", "(I)I"⟩
abbrev cX10_mark : ByteArray := prog_12_method_27_code
def yX10_mark : MethodName := ⟨RX10, "mark", "(I)I"⟩
abbrev cX10_cast : ByteArray := prog_12_method_28_code
def yX10_cast : MethodName := ⟨RX10, "cast", "(II)I"⟩
abbrev cX10_reason : ByteArray := prog_12_method_29_code
def yX10_reason : MethodName := ⟨RX10, "reason", "(I)I"⟩
abbrev cX10_why : ByteArray := prog_12_method_30_code
def yX10_why : MethodName := ⟨RX10, "why", "(I)I"⟩
abbrev cX10_readAt : ByteArray := prog_12_method_31_code
def yX10_readAt : MethodName := ⟨RX10, "readAt", "(II)I"⟩
abbrev cX10_read : ByteArray := prog_12_method_32_code
def yX10_read : MethodName := ⟨RX10, "read", "(II)I"⟩
abbrev cX10_misread : ByteArray := prog_12_method_33_code
def yX10_misread : MethodName := ⟨RX10, "misread", "(I)V"⟩
abbrev cX10_countedAt : ByteArray := prog_12_method_34_code
def yX10_countedAt : MethodName := ⟨RX10, "countedAt", "(II)I"⟩
abbrev cX10_sample : ByteArray := prog_12_method_35_code
def yX10_sample : MethodName := ⟨RX10, "sample", "(III)I"⟩
abbrev cX10_recount : ByteArray := prog_12_method_36_code
def yX10_recount : MethodName := ⟨RX10, "recount", "(I)I"⟩
abbrev cX10_doubt : ByteArray := prog_12_method_37_code
def yX10_doubt : MethodName := ⟨RX10, "doubt", "(I)I"⟩
abbrev cX10_makesTally : ByteArray := prog_12_method_38_code
def yX10_makesTally : MethodName := ⟨RX10, "makesTally", "(I)V"⟩
abbrev cX10_votesIn : ByteArray := prog_12_method_39_code
def yX10_votesIn : MethodName := ⟨RX10, "votesIn", "(II)I"⟩
abbrev cX10_extreme : ByteArray := prog_12_method_40_code
def yX10_extreme : MethodName := ⟨RX10, "extreme", "(IIZ)I"⟩
abbrev cX10_chosen : ByteArray := prog_12_method_41_code
def yX10_chosen : MethodName := ⟨RX10, "chosen", "(Z)I"⟩
abbrev cX10_elects : ByteArray := prog_12_method_42_code
def yX10_elects : MethodName := ⟨RX10, "elects", "(I)V"⟩
abbrev cX10_electsAbove : ByteArray := prog_12_method_43_code
def yX10_electsAbove : MethodName := ⟨RX10, "electsAbove", "(I)V"⟩
abbrev cX10_does : ByteArray := prog_12_method_44_code
def yX10_does : MethodName := ⟨RX10, "does", "(I)V"⟩
abbrev cX10_goesOn : ByteArray := prog_12_method_45_code
def yX10_goesOn : MethodName := ⟨RX10, "goesOn", "(II)I"⟩
abbrev cX10_winnersOf : ByteArray := prog_12_method_46_code
def yX10_winnersOf : MethodName := ⟨RX10, "winnersOf", "(I)I"⟩
abbrev cX10_winners : ByteArray := prog_12_method_47_code
def yX10_winners : MethodName := ⟨RX10, "winners", "(I)I"⟩
abbrev cX10_winnersByHand : ByteArray := prog_12_method_48_code
def yX10_winnersByHand : MethodName := ⟨RX10, "winnersByHand", "(I)I"⟩
abbrev cX10_tallies : ByteArray := prog_12_method_49_code
def yX10_tallies : MethodName := ⟨RX10, "tallies", "(I)I"⟩
abbrev cX10_ties : ByteArray := prog_12_method_50_code
def yX10_ties : MethodName := ⟨RX10, "ties", "(I)I"⟩
abbrev cX10_votes : ByteArray := prog_12_method_51_code
def yX10_votes : MethodName := ⟨RX10, "votes", "(III)I"⟩
abbrev cX10_tied : ByteArray := prog_12_method_52_code
def yX10_tied : MethodName := ⟨RX10, "tied", "(II)I"⟩
abbrev cX10_certify : ByteArray := prog_12_method_53_code
def yX10_certify : MethodName := ⟨RX10, "certify", "(I)I"⟩
abbrev cX10_certified : ByteArray := prog_12_method_54_code
def yX10_certified : MethodName := ⟨RX10, "certified", "(I)I"⟩
abbrev cX10_stale : ByteArray := prog_12_method_55_code
def yX10_stale : MethodName := ⟨RX10, "stale", "()I"⟩
def RJ11 : String := "java/lang/Character"
def TJ11 : u_T := fun k => match k with
  | _ => ("", "", "", false)
def tyJ11 : Nat → FieldType := fun k => match k with
  | _ => .int
abbrev wsJ110 : List Cond := u_ws RJ11 TJ11 0
theorem nmJ11 : ∀ a, a < 0 → ∀ b, b < 0 → a ≠ b → (TJ11 a).2.1 ≠ (TJ11 b).2.1 := by decide +kernel
theorem tyJ11_ok : ∀ k, k < 0 → parseFieldDescriptor (TJ11 k).2.2.1 = some (tyJ11 k) := by decide +kernel
abbrev cJ11_isValidCodePoint_9a6ad : ByteArray := prog_13_method_11_code
def yJ11_isValidCodePoint_9a6ad : MethodName := ⟨RJ11, "isValidCodePoint", "(I)Z"⟩
abbrev cJ11_highSurrogate_5068e : ByteArray := prog_13_method_28_code
def yJ11_highSurrogate_5068e : MethodName := ⟨RJ11, "highSurrogate", "(I)C"⟩
abbrev cJ11_lowSurrogate_5068e : ByteArray := prog_13_method_29_code
def yJ11_lowSurrogate_5068e : MethodName := ⟨RJ11, "lowSurrogate", "(I)C"⟩
def RJ6 : String := "java/lang/Integer"
def TJ6 : u_T := fun k => match k with
  | _ => ("", "", "", false)
def tyJ6 : Nat → FieldType := fun k => match k with
  | _ => .int
abbrev wsJ60 : List Cond := u_ws RJ6 TJ6 0
theorem nmJ6 : ∀ a, a < 0 → ∀ b, b < 0 → a ≠ b → (TJ6 a).2.1 ≠ (TJ6 b).2.1 := by decide +kernel
theorem tyJ6_ok : ∀ k, k < 0 → parseFieldDescriptor (TJ6 k).2.2.1 = some (tyJ6 k) := by decide +kernel
abbrev cJ6_bitCount_0f7a4 : ByteArray := prog_18_method_49_code
def yJ6_bitCount_0f7a4 : MethodName := ⟨RJ6, "bitCount", "(I)I"⟩
def RJ9 : String := "java/lang/Math"
def TJ9 : u_T := fun k => match k with
  | _ => ("", "", "", false)
def tyJ9 : Nat → FieldType := fun k => match k with
  | _ => .int
abbrev wsJ90 : List Cond := u_ws RJ9 TJ9 0
theorem nmJ9 : ∀ a, a < 0 → ∀ b, b < 0 → a ≠ b → (TJ9 a).2.1 ≠ (TJ9 b).2.1 := by decide +kernel
theorem tyJ9_ok : ∀ k, k < 0 → parseFieldDescriptor (TJ9 k).2.2.1 = some (tyJ9 k) := by decide +kernel
abbrev cJ9_max_7cf53 : ByteArray := prog_19_method_65_code
def yJ9_max_7cf53 : MethodName := ⟨RJ9, "max", "(II)I"⟩
abbrev cJ9_min_7cf53 : ByteArray := prog_19_method_69_code
def yJ9_min_7cf53 : MethodName := ⟨RJ9, "min", "(II)I"⟩
def RJ0 : String := "java/lang/String"
def TJ0 : u_T := fun k => match k with
  | _ => ("", "", "", false)
def tyJ0 : Nat → FieldType := fun k => match k with
  | _ => .int
abbrev wsJ00 : List Cond := u_ws RJ0 TJ0 0
theorem nmJ0 : ∀ a, a < 0 → ∀ b, b < 0 → a ≠ b → (TJ0 a).2.1 ≠ (TJ0 b).2.1 := by decide +kernel
theorem tyJ0_ok : ∀ k, k < 0 → parseFieldDescriptor (TJ0 k).2.2.1 = some (tyJ0 k) := by decide +kernel
abbrev cJ0_length_8abf5 : ByteArray := prog_21_method_54_code
def yJ0_length_8abf5 : MethodName := ⟨RJ0, "length", "()I"⟩
abbrev cJ0_indexOf_0f7a4 : ByteArray := prog_21_method_79_code
def yJ0_indexOf_0f7a4 : MethodName := ⟨RJ0, "indexOf", "(I)I"⟩
abbrev cJ0_indexOf_7cf53 : ByteArray := prog_21_method_80_code
def yJ0_indexOf_7cf53 : MethodName := ⟨RJ0, "indexOf", "(II)I"⟩
abbrev cJ0_coder_7d493 : ByteArray := prog_21_method_152_code
def yJ0_coder_7d493 : MethodName := ⟨RJ0, "coder", "()B"⟩
abbrev cJ0_isLatin1_aae02 : ByteArray := prog_21_method_154_code
def yJ0_isLatin1_aae02 : MethodName := ⟨RJ0, "isLatin1", "()Z"⟩
abbrev cJ0_checkBoundsBeginEnd_23922 : ByteArray := prog_21_method_158_code
def yJ0_checkBoundsBeginEnd_23922 : MethodName := ⟨RJ0, "checkBoundsBeginEnd", "(III)V"⟩
def RJ1 : String := "java/lang/StringLatin1"
def TJ1 : u_T := fun k => match k with
  | _ => ("", "", "", false)
def tyJ1 : Nat → FieldType := fun k => match k with
  | _ => .int
abbrev wsJ10 : List Cond := u_ws RJ1 TJ1 0
theorem nmJ1 : ∀ a, a < 0 → ∀ b, b < 0 → a ≠ b → (TJ1 a).2.1 ≠ (TJ1 b).2.1 := by decide +kernel
theorem tyJ1_ok : ∀ k, k < 0 → parseFieldDescriptor (TJ1 k).2.2.1 = some (tyJ1 k) := by decide +kernel
abbrev cJ1_canEncode_9a6ad : ByteArray := prog_22_method_4_code
def yJ1_canEncode_9a6ad : MethodName := ⟨RJ1, "canEncode", "(I)Z"⟩
abbrev cJ1_indexOf_4cfef : ByteArray := prog_22_method_22_code
def yJ1_indexOf_4cfef : MethodName := ⟨RJ1, "indexOf", "([BIII)I"⟩
abbrev cJ1_indexOfChar_4cfef : ByteArray := prog_22_method_23_code
def yJ1_indexOfChar_4cfef : MethodName := ⟨RJ1, "indexOfChar", "([BIII)I"⟩
def RJ2 : String := "java/lang/StringUTF16"
def TJ2 : u_T := fun k => match k with
  | _ => ("", "", "", false)
def tyJ2 : Nat → FieldType := fun k => match k with
  | _ => .int
abbrev wsJ20 : List Cond := u_ws RJ2 TJ2 0
theorem nmJ2 : ∀ a, a < 0 → ∀ b, b < 0 → a ≠ b → (TJ2 a).2.1 ≠ (TJ2 b).2.1 := by decide +kernel
theorem tyJ2_ok : ∀ k, k < 0 → parseFieldDescriptor (TJ2 k).2.2.1 = some (tyJ2 k) := by decide +kernel
abbrev cJ2_getChar_3b067 : ByteArray := prog_23_method_5_code
def yJ2_getChar_3b067 : MethodName := ⟨RJ2, "getChar", "([BI)C"⟩
abbrev cJ2_length_9d52b : ByteArray := prog_23_method_6_code
def yJ2_length_9d52b : MethodName := ⟨RJ2, "length", "([B)I"⟩
abbrev cJ2_indexOf_4cfef : ByteArray := prog_23_method_40_code
def yJ2_indexOf_4cfef : MethodName := ⟨RJ2, "indexOf", "([BIII)I"⟩
abbrev cJ2_indexOfChar_4cfef : ByteArray := prog_23_method_47_code
def yJ2_indexOfChar_4cfef : MethodName := ⟨RJ2, "indexOfChar", "([BIII)I"⟩
abbrev cJ2_indexOfCharUnsafe_4cfef : ByteArray := prog_23_method_48_code
def yJ2_indexOfCharUnsafe_4cfef : MethodName := ⟨RJ2, "indexOfCharUnsafe", "([BIII)I"⟩
abbrev cJ2_indexOfSupplementary_4cfef : ByteArray := prog_23_method_49_code
def yJ2_indexOfSupplementary_4cfef : MethodName := ⟨RJ2, "indexOfSupplementary", "([BIII)I"⟩
abbrev cJ2_checkBoundsBeginEnd_d044e : ByteArray := prog_23_method_93_code
def yJ2_checkBoundsBeginEnd_d044e : MethodName := ⟨RJ2, "checkBoundsBeginEnd", "(II[B)V"⟩
def RJ3 : String := "jdk/internal/util/Preconditions"
def TJ3 : u_T := fun k => match k with
  | _ => ("", "", "", false)
def tyJ3 : Nat → FieldType := fun k => match k with
  | _ => .int
abbrev wsJ30 : List Cond := u_ws RJ3 TJ3 0
theorem nmJ3 : ∀ a, a < 0 → ∀ b, b < 0 → a ≠ b → (TJ3 a).2.1 ≠ (TJ3 b).2.1 := by decide +kernel
theorem tyJ3_ok : ∀ k, k < 0 → parseFieldDescriptor (TJ3 k).2.2.1 = some (tyJ3 k) := by decide +kernel
abbrev cJ3_checkFromToIndex_8c36e : ByteArray := prog_25_method_12_code
def yJ3_checkFromToIndex_8c36e : MethodName := ⟨RJ3, "checkFromToIndex", "(IIILjava/util/function/BiFunction;)I"⟩
def RL : String := "BallotscriptLaw"
abbrev cL_enter : ByteArray := method_3_code
def yL_enter : MethodName := ⟨RL, "enter", "(LBallotscript;IIII[J)I"⟩
abbrev cL_strike : ByteArray := method_4_code
def yL_strike : MethodName := ⟨RL, "strike", "(LBallotscript;I[J)I"⟩
abbrev cL_isAllowed : ByteArray := method_5_code
def yL_isAllowed : MethodName := ⟨RL, "isAllowed", "(LBallotscript;III[J)I"⟩
abbrev cL_pass : ByteArray := method_6_code
def yL_pass : MethodName := ⟨RL, "pass", "(LBallotscript;I[J)I"⟩
abbrev cL_type : ByteArray := method_7_code
def yL_type : MethodName := ⟨RL, "type", "(LBallotscript;C[J)I"⟩
abbrev cL_rule : ByteArray := method_8_code
def yL_rule : MethodName := ⟨RL, "rule", "(LBallotscript;[J)I"⟩
abbrev cL_mend : ByteArray := method_9_code
def yL_mend : MethodName := ⟨RL, "mend", "(LBallotscript;I[J)I"⟩
abbrev cL_commands : ByteArray := method_10_code
def yL_commands : MethodName := ⟨RL, "commands", "(LBallotscript;I[J)I"⟩
abbrev cL_open : ByteArray := method_11_code
def yL_open : MethodName := ⟨RL, "open", "(LBallotscript;IIII[J)I"⟩
abbrev cL_close : ByteArray := method_12_code
def yL_close : MethodName := ⟨RL, "close", "(LBallotscript;I[J)I"⟩
abbrev cL_mark : ByteArray := method_13_code
def yL_mark : MethodName := ⟨RL, "mark", "(LBallotscript;I[J)I"⟩
abbrev cL_cast : ByteArray := method_14_code
def yL_cast : MethodName := ⟨RL, "cast", "(LBallotscript;II[J)I"⟩
abbrev cL_why : ByteArray := method_15_code
def yL_why : MethodName := ⟨RL, "why", "(LBallotscript;I[J)I"⟩
abbrev cL_read : ByteArray := method_16_code
def yL_read : MethodName := ⟨RL, "read", "(LBallotscript;II[J)I"⟩
abbrev cL_misread : ByteArray := method_17_code
def yL_misread : MethodName := ⟨RL, "misread", "(LBallotscript;I)I"⟩
abbrev cL_sample : ByteArray := method_18_code
def yL_sample : MethodName := ⟨RL, "sample", "(LBallotscript;III[J)I"⟩
abbrev cL_recount : ByteArray := method_19_code
def yL_recount : MethodName := ⟨RL, "recount", "(LBallotscript;I[J)I"⟩
abbrev cL_doubt : ByteArray := method_20_code
def yL_doubt : MethodName := ⟨RL, "doubt", "(LBallotscript;I[J)I"⟩
abbrev cL_winners : ByteArray := method_21_code
def yL_winners : MethodName := ⟨RL, "winners", "(LBallotscript;I[J)I"⟩
abbrev cL_winnersByHand : ByteArray := method_22_code
def yL_winnersByHand : MethodName := ⟨RL, "winnersByHand", "(LBallotscript;I[J)I"⟩
abbrev cL_tallies : ByteArray := method_23_code
def yL_tallies : MethodName := ⟨RL, "tallies", "(LBallotscript;I[J)I"⟩
abbrev cL_votes : ByteArray := method_24_code
def yL_votes : MethodName := ⟨RL, "votes", "(LBallotscript;III[J)I"⟩
abbrev cL_ties : ByteArray := method_25_code
def yL_ties : MethodName := ⟨RL, "ties", "(LBallotscript;I[J)I"⟩
abbrev cL_tied : ByteArray := method_26_code
def yL_tied : MethodName := ⟨RL, "tied", "(LBallotscript;II[J)I"⟩
abbrev cL_certify : ByteArray := method_27_code
def yL_certify : MethodName := ⟨RL, "certify", "(LBallotscript;I[J)I"⟩
abbrev cL_certified : ByteArray := method_28_code
def yL_certified : MethodName := ⟨RL, "certified", "(LBallotscript;I[J)I"⟩
abbrev cL_law : ByteArray := code
def yL_law : MethodName := ⟨RL, "law", "([I)Z"⟩
abbrev vwCl : List vw_C := [(RX0, TX0, 11), (RX2, TX2, 10), (RX3, TX3, 12), (RX4, TX4, 6), (RX5, TX5, 6), (RX6, TX6, 2), (RX7, TX7, 2), (RX8, TX8, 9), (RX9, TX9, 11), (RX10, TX10, 46)]
end
section
/-! ===== BEGIN words of one list among another's, by their places ===== -/
theorem goodIn_r {big : List Cond} (ws : List Cond) (ps : List Nat) (hp : ws = ps.filterMap (fun i => big[i]?)) (h : ws.all goodWord = true) : GoodIn big ws := by
  intro w hw
  have h1 := List.all_eq_true.mp h w hw
  rw [hp] at hw
  obtain ⟨i, -, hi⟩ := List.mem_filterMap.mp hw
  have hm : w ∈ big := by first | exact List.mem_of_getElem? hi | exact List.getElem?_mem hi
  exact ⟨hm, good_of_word h1⟩
theorem goodIn_app {big a b : List Cond} (ha : GoodIn big a) (hb : GoodIn big b) : GoodIn big (a ++ b) := fun w h => (List.mem_append.mp h).elim (ha w) (hb w)
theorem goodIn_ca {big a b : List Cond} {c : Cond} (ha : GoodIn big (c :: a)) (hb : GoodIn big b) : GoodIn big (c :: (a ++ b)) := fun w h => (List.mem_cons.mp h).elim (fun e => ha w (List.mem_cons.mpr (Or.inl e))) (fun h => (List.mem_append.mp h).elim (fun h => ha w (List.mem_cons.mpr (Or.inr h))) (hb w))
theorem goodIn_sub {big ws : List Cond} (hm : ∀ w ∈ ws, w ∈ big) (h : ws.all goodWord = true) : GoodIn big ws := fun w hw => ⟨hm w hw, good_of_word (List.all_eq_true.mp h w hw)⟩
/-! ===== END ===== -/
/-! ===== BEGIN exceptions that leave a method, and their catching by the caller (launches without stack traces) ===== -/
section VXA
/-! The laws vx_back, vx_callV, vx_callS, vx_callSW, vx_throw0, vx_throwS follow proofs of the library, with one case more: JvmDerived/Free/Laws.lean (Back.of_free), Shelf42/LK1.lean (callV, callS), Shelf/KitTraced.lean (throwNew0V, throwNewS). -/
/-- where a method has thrown q: the class by its name, the cell, what was written, the world -/
def vx_T (XC : String → State → State → Prop) (st : State) (q : Addr) (t : State) (mc ms : Nat) (free : Addr → Prop) : Prop :=
  ∃ (E : String) (ce : Cell) (L : List Loc), XC E st t ∧ t.heap[q]? = some ce ∧ ce.vm = .none ∧ st.vm.findClass E = some ce.cls ∧ st.WarmedH t.vm ∧ st.sameButNew ({ t with vm := st.vm } : State) L mc ms ∧ ∀ z ∈ L, free z.base
def vx_Q (Qc : Array Value → State → Outcome → State → Prop) (XC : String → State → State → Prop) (mc ms : Nat) (free : Addr → Prop) : Array Value → State → Outcome → State → Prop := fun a st o t =>
  (Qc a st o t ∧ ∃ L, FrameEnd st o t L mc ms ∧ ∀ q ∈ L, free q.base) ∨ ∃ q, o = .threw q ∧ vx_T XC st q t mc ms free
/-- a callee that returns or throws -/
def vx_Met (l : Launch) (y : MethodName) (ws : List Cond) (rm : Room) (Pc : Array Value → State → Prop) (Qc : Array Value → State → Outcome → State → Prop) (XC : String → State → State → Prop) (mc ms : Nat) (free : Addr → Prop) : Prop :=
  MetFree l y (headSpec ws rm) Pc (fun _ _ _ _ _ => True) (vx_Q Qc XC mc ms free)
def vx_Post (XC : String → State → State → Prop) (mc ms : Nat) (free : Addr → Prop) : Pt → Array Value → Addr → Pt → Prop := fun A a q B =>
  ∃ (g : JFrame) (mk : MethodId) (t : State) (L : List Loc) (E : String) (ce : Cell), B.U.heap = t.heap ∧ B.U.vm = t.vm ∧ XC E (A.U.calling g mk a) t ∧ t.heap[q]? = some ce ∧ ce.vm = .none ∧ A.U.vm.findClass E = some ce.cls ∧ B.locs = A.locs ++ L ∧ (∀ z ∈ L, free z.base) ∧ B.cells = A.cells + mc ∧ B.slots = A.slots + ms
def vx_Back (l : Launch) (R : Room) (p : Program) (e : Env) (below : List Frame) (s : State) (sargs : Array Value) (y : MethodName) (len W9 : Nat)
    (Pre : Pt → Array Value → Prop) (Post : Pt → Array Value → Option Value → Pt → Prop) (PostX : Pt → Array Value → Addr → Pt → Prop) : Prop :=
  ∀ (m : MethodId) (meth : Method) (c : Code) (A : Pt) (g : JFrame) (ig : Instr) (mk : MethodId) (a : Array Value),
    Stand p l e R s m sargs below meth c A.U A.locs A.cells A.slots → g.method = m → g.locals.size = c.maxLocals → decode c.code g.pc = .ok (ig, len) →
    2 * g.monitorRoom + (g.stack.map fun v => v.category).sum ≤ W9 → A.U.methodNamed? y = some mk → Pre A a →
    (∃ (v : Option Value) (B : Pt), Stand p l e R s m sargs below meth c B.U B.locs B.cells B.slots ∧ Post A a v B ∧
      Steps p.tables e below (doInvoke e (A.U.setTop g) [] mk a).1 (B.U.setTop { g with pc := g.pc + len, stack := v.toList ++ g.stack })) ∨
    (∃ (q : Addr) (B : Pt), Stand p l e R s m sargs below meth c B.U B.locs B.cells B.slots ∧ PostX A a q B ∧
      Steps p.tables e below (doInvoke e (A.U.setTop g) [] mk a).1 ((B.U.setTop g).pushFrame (.throwing q)))
section Payer
variable {l : Launch} {R : Room} {p : Program} {e : Env} {below : List Frame} {s : State} {sargs : Array Value} {y : MethodName} {len W9 : Nat}
theorem vx_back {ws : List Cond} {rm : Room} {Pc : Array Value → State → Prop} {Qc : Array Value → State → Outcome → State → Prop} {XC : String → State → State → Prop} {mc ms : Nat} {free : Addr → Prop} {bytes : ByteArray} {maxL : Nat} {ret : Option FieldType}
    (hM : vx_Met l y ws rm Pc Qc XC mc ms free) (hblind : FrameBlind Pc) (hrc : rm.cells = mc) (hrs : rm.slots = ms)
    (hframes : rm.frames + 1 ≤ R.frames) (hlocals : W9 + (maxL + 11) + rm.locals ≤ R.locals)
    (hws : ∀ w ∈ ws, ∀ a' U, s.WarmedH U.vm → w.before a' U = true) (hcode : Cond.code y bytes maxL ret ∈ ws) (hinit : ∀ a' U, s.WarmedH U.vm → (Cond.initialized y.cls).before a' U = true) :
    vx_Back l R p e below s sargs y len W9 (PreOf R mc ms Pc) (PostOf Qc mc ms free) (vx_Post XC mc ms free) := by
  intro m meth c A g ig mk a X hg hsize hdg hW hn hp
  have h1 : (headSpec ws rm).pre.before a A.U = true := atoms_intro fun w hw => hws w hw _ _ X.warmed
  have h2 : (Cond.code y bytes maxL ret).before a A.U = true := hws _ hcode _ _ X.warmed
  have h3 : (Cond.initialized y.cls).before a A.U = true := hinit _ _ X.warmed
  have h4 : A.cells + (headSpec ws rm).room.cells ≤ R.cells := by rw [show (headSpec ws rm).room.cells = mc from hrc]; exact hp.1
  have h5 : A.slots + (headSpec ws rm).room.slots ≤ R.slots := by rw [show (headSpec ws rm).room.slots = ms from hrs]; exact hp.2.1
  have hPc : Pc a (A.U.calling g mk a) := hblind _ _ _ _ hp.2.2
  obtain ⟨U, Ls, c0, s0⟩ := A
  dsimp only [Pt.U, Pt.locs, Pt.cells, Pt.slots] at h1 h2 h3 h4 h5 X hn hPc ⊢
  obtain ⟨methY, cY, hmY, hcY, -, hlY, -, -, -, -⟩ := Cond.code_spec hn h2
  obtain ⟨kY, hkY, -⟩ := className_of_methodNamed hn
  have hinitY : kY.init = .initialized := Cond.initialized_spec (findClass_of_methodNamed hn) hkY h3
  have h : At U g.method c below := by rw [hg]; exact X.here
  have hlocals9 : W9 + (maxL + 11) + (headSpec ws rm).room.locals ≤ R.locals := hlocals
  have happ : (headSpec ws rm).appliesLoose y e.platform (U.calling g mk a) = true :=
    Spec.appliesLoose_calling (g := g) h hdg hn hkY hinitY
      (X.room_calling (g := g) (R' := (headSpec ws rm).room) hsize hmY hcY hframes (by rw [hlY]; omega) h4 h5) h1
  obtain ⟨mid, hmid⟩ := h.above
  have hfr : (U.setTop g).frames = (.java g :: mid) ++ below := by rw [State.frames_setTop' g h.top, hmid]; rfl
  obtain ⟨o, s₂, hsteps, -, hend, hq⟩ := Steps.callFree hM p X.admits X.cas X.clock (acts := []) hfr happ hPc trivial
  have hq' : vx_Q Qc XC mc ms free a (U.calling g mk a) o s₂ := hq
  rw [State.frames_setTop' g h.top] at hend
  obtain ⟨g₀, hg0⟩ := Option.isSome_iff_exists.mp h.top
  obtain ⟨r, hr⟩ := State.topJava?_eq_some.mp hg0
  have hr' : (({ U with heap := s₂.heap, slotsUsed := s₂.slotsUsed } : State).setVm s₂.vm).frames = .java g₀ :: r := hr
  rcases hq' with ⟨hqc, L, hfe, hL⟩ | ⟨q, rfl, E, ce, L, hx, hce, hcv, hcl, hW₂, hsm, hL⟩
  · obtain ⟨⟨v, rfl⟩, hW₂, e2, q2, q3, q4, q5, q6⟩ := id hfe
    have e3 : s₂ = ({ (U.calling g mk a).setFrames s₂.frames with heap := s₂.heap, slotsUsed := s₂.slotsUsed } : State).setVm s₂.vm := by
      have : s₂ = ({ s₂ with vm := (U.calling g mk a).vm } : State).setVm s₂.vm := rfl
      rw [e2] at this
      exact this
    obtain ⟨c₂, i₂, len₂, hc₂, hd₂, hf₂⟩ := hend
    have hW' : U.WarmedH s₂.vm := hW₂
    have hcc : c₂ = c := by
      have h1 : s₂.code? g.method = U.code? g.method := by
        rw [State.code?_eq, State.code?_eq, hW'.alike.method?]
      exact Option.some.inj (hc₂.symm.trans (h1.trans h.code))
    subst hcc
    have hlen : len₂ = len := by rw [hdg] at hd₂; cases hd₂; rfl
    subst hlen
    have hs₂ : s₂ = (({ U with heap := s₂.heap, slotsUsed := s₂.slotsUsed } : State).setVm s₂.vm).setTop { g with pc := g.pc + len₂, stack := v.toList ++ g.stack } := by
      refine e3.trans ?_
      rw [hf₂, State.calling_eq h.top, State.setFrames_setFrames, State.setTop_of_frames _ hr', hr]
      rfl
    have hsame : U.sameButNew ({ U with heap := s₂.heap, slotsUsed := s₂.slotsUsed } : State) L mc ms := by
      refine ⟨?_, q2, q3, q4, q5, q6⟩
      obtain ⟨t, ht, -⟩ := State.frames_cons hr
      show ({ U with heap := s₂.heap, slotsUsed := s₂.slotsUsed } : State) = { U.setFrames U.frames with heap := s₂.heap, slotsUsed := s₂.slotsUsed }
      rw [State.setFrames_self ht]
    subst hg
    refine Or.inl ⟨v, ⟨(({ U with heap := s₂.heap, slotsUsed := s₂.slotsUsed } : State).setVm s₂.vm), Ls ++ L, c0 + mc, s0 + ms⟩,
      ⟨X.admits, X.cas, X.clock, X.frames, X.room, X.hears, X.method, X.code, (X.here.setHeapUsed s₂.heap s₂.slotsUsed).setVm hW'.alike, X.tail, State.WarmedH.trans X.warmed hW', X.limits, X.bytes, X.same.trans (hsame.setVm s.vm)⟩,
      ⟨g, mk, s₂, L, rfl, rfl, hqc, rfl, hL, rfl, rfl⟩, ?_⟩
    show Steps p.tables e below _ ((({ U with heap := s₂.heap, slotsUsed := s₂.slotsUsed } : State).setVm s₂.vm).setTop { g with pc := g.pc + len₂, stack := v.toList ++ g.stack })
    rw [← hs₂]
    exact hsteps
  · obtain ⟨e2, q2, q3, q4, q5, q6⟩ := id hsm
    have e3 : s₂ = ({ (U.calling g mk a).setFrames s₂.frames with heap := s₂.heap, slotsUsed := s₂.slotsUsed } : State).setVm s₂.vm := by
      have : s₂ = ({ s₂ with vm := (U.calling g mk a).vm } : State).setVm s₂.vm := rfl
      rw [e2] at this
      exact this
    have hf₂ : s₂.frames = .throwing q :: .java g :: U.frames.tail := hend
    have hW' : U.WarmedH s₂.vm := hW₂
    have hs₂ : s₂ = ((({ U with heap := s₂.heap, slotsUsed := s₂.slotsUsed } : State).setVm s₂.vm).setTop g).pushFrame (.throwing q) := by
      refine e3.trans ?_
      rw [hf₂, State.calling_eq h.top, State.setFrames_setFrames, State.pushFrame, State.frames_setTop _ hr', State.setTop_of_frames _ hr', State.setFrames_setFrames, hr]
      rfl
    have hsame : U.sameButNew ({ U with heap := s₂.heap, slotsUsed := s₂.slotsUsed } : State) L mc ms := by
      refine ⟨?_, q2, q3, q4, q5, q6⟩
      obtain ⟨t, ht, -⟩ := State.frames_cons hr
      show ({ U with heap := s₂.heap, slotsUsed := s₂.slotsUsed } : State) = { U.setFrames U.frames with heap := s₂.heap, slotsUsed := s₂.slotsUsed }
      rw [State.setFrames_self ht]
    subst hg
    refine Or.inr ⟨q, ⟨(({ U with heap := s₂.heap, slotsUsed := s₂.slotsUsed } : State).setVm s₂.vm), Ls ++ L, c0 + mc, s0 + ms⟩,
      ⟨X.admits, X.cas, X.clock, X.frames, X.room, X.hears, X.method, X.code, (X.here.setHeapUsed s₂.heap s₂.slotsUsed).setVm hW'.alike, X.tail, State.WarmedH.trans X.warmed hW', X.limits, X.bytes, X.same.trans (hsame.setVm s.vm)⟩,
      ⟨g, mk, s₂, L, E, ce, rfl, rfl, hx, hce, hcv, hcl, rfl, hL, rfl, rfl⟩, ?_⟩
    show Steps p.tables e below _ (((({ U with heap := s₂.heap, slotsUsed := s₂.slotsUsed } : State).setVm s₂.vm).setTop g).pushFrame (.throwing q))
    rw [← hs₂]
    exact hsteps
end Payer
section Calls
variable {p : Program} {l : Launch} {e : Env} {R : Room} {s : State} {m : MethodId} {args : Array Value} {below : List Frame} {meth : Method} {c : Code} {T : State} {locs : List Loc} {cells slots : Nat}
theorem vx_callV (X : Stand p l e R s m args below meth c T locs cells slots) (hexec : p.tables.exec = Jvm.exec) {own C : String} {index : Nat} {y : MethodName} {bytes : ByteArray} {maxL : Nat} {ret : Option FieldType}
    (hown : s.vm.findClass own = some m.cls) (hlink : (Cond.methodLink own index y).before args s = true) (hinst : (Cond.instanceMethod y).before args s = true) (hsel : (Cond.selects C y y).before args s = true)
    (hcode : (Cond.code y bytes maxL ret).before args s = true) (hy : y.cls ≠ "java/lang/invoke/MethodHandle" ∧ y.cls ≠ "java/lang/invoke/VarHandle")
    {W9 : Nat} {Pre : Pt → Array Value → Prop} {Post : Pt → Array Value → Option Value → Pt → Prop} {PostX : Pt → Array Value → Addr → Pt → Prop} (hK : vx_Back l R p e below s args y 3 W9 Pre Post PostX)
    {b : Addr} {cellB : Cell} (hcell : T.heap[b]? = some cellB) (hobj : cellB.vm.isStatics = false) (hcls : s.vm.findClass C = some cellB.cls)
    {g : JFrame} (hg : g.method = m) (hsize : g.locals.size = c.maxLocals) {argsL rest : List Value} (hlen : ∀ sig, parseMethodDescriptor y.desc = some sig → argsL.length = sig.parameters.length)
    (hstack : g.stack = argsL.reverse ++ .ref b :: rest) (hW : 2 * g.monitorRoom + (rest.map fun v => v.category).sum ≤ W9) (hdg : decode c.code g.pc = .ok (.invokevirtual index, 3))
    (hpre : ∀ vm₁, s.WarmedH vm₁ → Pre ⟨T.setVm vm₁, locs, cells, slots⟩ (Value.ref b :: argsL).toArray) :
    (∃ (v : Option Value) (vm₁ : Vm) (B : Pt), s.WarmedH vm₁ ∧ Stand p l e R s m args below meth c B.U B.locs B.cells B.slots ∧ Post ⟨T.setVm vm₁, locs, cells, slots⟩ (Value.ref b :: argsL).toArray v B ∧
      ∀ target, Steps p.tables e below (B.U.setTop { g with pc := g.pc + 3, stack := v.toList ++ rest }) target → Steps p.tables e below (T.setTop g) target) ∨
    (∃ (q : Addr) (vm₁ : Vm) (B : Pt), s.WarmedH vm₁ ∧ Stand p l e R s m args below meth c B.U B.locs B.cells B.slots ∧ PostX ⟨T.setVm vm₁, locs, cells, slots⟩ (Value.ref b :: argsL).toArray q B ∧
      Steps p.tables e below (T.setTop g) ((B.U.setTop { g with stack := rest }).pushFrame (.throwing q))) := by
  obtain ⟨mk, methM, hnamed, hmethM, hstM, habM⟩ := Cond.instanceMethod_spec hinst
  obtain ⟨methM', cM, hmethM', -, -, -, -, -, -, hsigM⟩ := Cond.code_spec hnamed hcode
  cases hmethM.symm.trans hmethM'
  obtain ⟨c2, r2, m2, q1, q2, q3, q4, kP, hkP, hkPi⟩ := Cond.selects_spec hsel
  cases hcls.symm.trans q1
  cases (State.methodFound?_of_named hnamed hy).symm.trans q2
  cases hnamed.symm.trans q3
  have hselP : selectMethod e.platform s.vm cellB.cls mk = .method mk := by rw [Launch.admits_selectMethod X.admits]; exact q4
  obtain ⟨vm₁, X₁, hstep₁⟩ := X.invokevirtual hexec hown hlink hnamed hmethM hstM hkP hkPi hy (a := b) (cell := cellB) hcell
    (fun z h => by rw [h] at hobj; cases hobj) hselP hmethM habM hkP hkPi (g := g) hg (argsL := argsL) (rest := rest) (hlen _ hsigM) hstack hdg
  rcases hK m meth c ⟨T.setVm vm₁, locs, cells, slots⟩ { g with stack := rest } (.invokevirtual index) mk (Value.ref b :: argsL).toArray X₁ hg hsize hdg hW (X₁.named hnamed) (hpre vm₁ X₁.warmed) with ⟨v, B, X', hpost, hsteps⟩ | ⟨q, B, X', hpost, hsteps⟩
  · exact Or.inl ⟨v, vm₁, B, X₁.warmed, X', hpost, fun target h => hstep₁ _ fun acts => by rw [doInvoke_state]; exact hsteps.trans h⟩
  · exact Or.inr ⟨q, vm₁, B, X₁.warmed, X', hpost, hstep₁ _ fun acts => by rw [doInvoke_state]; exact hsteps⟩
theorem vx_callS (X : Stand p l e R s m args below meth c T locs cells slots) (hexec : p.tables.exec = Jvm.exec) {own : String} {index : Nat} {y : MethodName} {bytes : ByteArray} {maxL : Nat} {ret : Option FieldType}
    (hown : s.vm.findClass own = some m.cls) (hlink : (Cond.methodLink own index y).before args s = true) (hstat : (Cond.static y).before args s = true) (hinit : (Cond.initialized y.cls).before args s = true)
    (hcode : (Cond.code y bytes maxL ret).before args s = true) (hy : y.cls ≠ "java/lang/invoke/MethodHandle" ∧ y.cls ≠ "java/lang/invoke/VarHandle")
    {W9 : Nat} {Pre : Pt → Array Value → Prop} {Post : Pt → Array Value → Option Value → Pt → Prop} {PostX : Pt → Array Value → Addr → Pt → Prop} (hK : vx_Back l R p e below s args y 3 W9 Pre Post PostX)
    {g : JFrame} (hg : g.method = m) (hsize : g.locals.size = c.maxLocals) {argsL rest : List Value} (hlen : ∀ sig, parseMethodDescriptor y.desc = some sig → argsL.length = sig.parameters.length)
    (hstack : g.stack = argsL.reverse ++ rest) (hW : 2 * g.monitorRoom + (rest.map fun v => v.category).sum ≤ W9) (hdg : decode c.code g.pc = .ok (.invokestatic index, 3))
    (hpre : ∀ vm₁, s.WarmedH vm₁ → Pre ⟨T.setVm vm₁, locs, cells, slots⟩ argsL.toArray) :
    (∃ (v : Option Value) (vm₁ : Vm) (B : Pt), s.WarmedH vm₁ ∧ Stand p l e R s m args below meth c B.U B.locs B.cells B.slots ∧ Post ⟨T.setVm vm₁, locs, cells, slots⟩ argsL.toArray v B ∧
      ∀ target, Steps p.tables e below (B.U.setTop { g with pc := g.pc + 3, stack := v.toList ++ rest }) target → Steps p.tables e below (T.setTop g) target) ∨
    (∃ (q : Addr) (vm₁ : Vm) (B : Pt), s.WarmedH vm₁ ∧ Stand p l e R s m args below meth c B.U B.locs B.cells B.slots ∧ PostX ⟨T.setVm vm₁, locs, cells, slots⟩ argsL.toArray q B ∧
      Steps p.tables e below (T.setTop g) ((B.U.setTop { g with stack := rest }).pushFrame (.throwing q))) := by
  obtain ⟨mk, hnamed⟩ := Cond.code_named hcode
  obtain ⟨methM, cM, hmethM, -, -, -, -, -, -, hsigM⟩ := Cond.code_spec hnamed hcode
  have hstatic : methM.isStatic = true := Cond.static_spec hnamed hmethM hstat
  obtain ⟨kP, hkP, -⟩ := className_of_methodNamed hnamed
  have hinitP : kP.init = .initialized := Cond.initialized_spec (findClass_of_methodNamed hnamed) hkP hinit
  obtain ⟨vm₁, X₁, hstep₁⟩ := X.invokestatic hexec hown hlink hnamed hmethM hstatic hkP hinitP hy (g := g) hg (argsL := argsL) (rest := rest) (hlen _ hsigM) hstack hdg
  rcases hK m meth c ⟨T.setVm vm₁, locs, cells, slots⟩ { g with stack := rest } (.invokestatic index) mk argsL.toArray X₁ hg hsize hdg hW (X₁.named hnamed) (hpre vm₁ X₁.warmed) with ⟨v, B, X', hpost, hsteps⟩ | ⟨q, B, X', hpost, hsteps⟩
  · exact Or.inl ⟨v, vm₁, B, X₁.warmed, X', hpost, fun target h => hstep₁ _ fun acts => by rw [doInvoke_state]; exact hsteps.trans h⟩
  · exact Or.inr ⟨q, vm₁, B, X₁.warmed, X', hpost, hstep₁ _ fun acts => by rw [doInvoke_state]; exact hsteps⟩
end Calls
theorem vx_cls {s : State} {T : State} {vm₁ : Vm} {E : String} {k : ClassId} (hW : s.WarmedH vm₁) (h : (T.setVm vm₁).vm.findClass E = some k) : s.vm.findClass E = some k := by
  have h1 : vm₁.findClass E = some k := h
  rw [hW.alike.findClass] at h1
  exact h1
/-- the method's frame g, with q thrown over it -/
def vx_W (p : Program) (l : Launch) (e : Env) (R : Room) (s : State) (m : MethodId) (args : Array Value) (below : List Frame) (meth : Method) (c : Code) (H : Heap) (locs : List Loc) (cells slots : Nat) (Q : State → Prop) (g : JFrame) (q : Addr) : Prop :=
  ∀ T : State, T.heap = H → Stand p l e R s m args below meth c T locs cells slots → ∃ t, Steps p.tables e below ((T.setTop g).pushFrame (.throwing q)) t ∧ Q t
def vx_Run (p : Program) (l : Launch) (e : Env) (R : Room) (s : State) (m : MethodId) (args : Array Value) (below : List Frame) (meth : Method) (c : Code) (H : Heap) (locs : List Loc) (cells slots mc ms : Nat) (g : JFrame) (rest : List Value) (Qa : State → Outcome → State → Prop) (XC : String → State → State → Prop) (free : Addr → Prop) : Prop :=
  ∀ T : State, T.heap = H → Stand p l e R s m args below meth c T locs cells slots →
    (∃ (v : Option Value) (st₀ t T' : State) (L : List Loc), st₀.heap = H ∧ Stand p l e R s m args below meth c T' (locs ++ L) (cells + mc) (slots + ms) ∧ (∀ q ∈ L, free q.base) ∧ T'.heap = t.heap ∧ T'.vm = t.vm ∧ Qa st₀ (.returned v) t ∧
      Goes p e below T g T' { g with pc := g.pc + 3, stack := v.toList ++ rest }) ∨
    (∃ (q : Addr) (st₀ t T' : State) (L : List Loc) (E : String) (ce : Cell), st₀.heap = H ∧ Stand p l e R s m args below meth c T' (locs ++ L) (cells + mc) (slots + ms) ∧ (∀ z ∈ L, free z.base) ∧ T'.heap = t.heap ∧ T'.vm = t.vm ∧ XC E st₀ t ∧ t.heap[q]? = some ce ∧ ce.vm = .none ∧ s.vm.findClass E = some ce.cls ∧
      Steps p.tables e below (T.setTop g) ((T'.setTop { g with stack := rest }).pushFrame (.throwing q)))
def vx_X {S : Type} (px : S → Prop) (B : String → S → State → Prop) (A : Nat → Prop) : String → State → State → Prop := fun E st t => ∃ u : S, px u ∧ B E u t ∧ va_F A st t
section Runs
variable {p : Program} {l : Launch} {e : Env} {R : Room} {s : State} {m : MethodId} {args : Array Value} {below : List Frame} {meth : Method} {c : Code} {H : Heap} {locs : List Loc} {cells slots : Nat}
variable {y : MethodName} {bytes cc : ByteArray} {maxL nL mc ms n index : Nat} {ret : Option FieldType} {ws : List Cond} {rm : Room} {Pc : Array Value → State → Prop} {Qc : Array Value → State → Outcome → State → Prop} {XC : String → State → State → Prop} {free : Addr → Prop} {Ts : List Cond} {own C : String} {b : Addr} {As rest : List Value} {g : JFrame}
theorem vx_callBack (cb : CallB R s args own index y bytes maxL ret ws rm mc ms n) (hM : vx_Met l y ws rm Pc Qc XC mc ms free) (hbl : FrameBlind Pc) : vx_Back l R p e below s args y 3 8 (PreOf R mc ms Pc) (PostOf Qc mc ms free) (vx_Post XC mc ms free) := by
  obtain ⟨hrc, hrs, hfr, hlo, hws, hcw, -, hini, -⟩ := cb
  exact vx_back (bytes := bytes) (maxL := maxL) (ret := ret) hM hbl hrc hrs hfr hlo hws hcw (fun a' U hW => word_at hW (Or.inl (by first | rfl | simp [Cond.onTables, Cond.keeps, Cond.steady])) hini)
theorem vx_runV (S : CallFix p m c cc nL s args Ts own) (hM : vx_Met l y ws rm Pc Qc XC mc ms free) (cw : CallW R s args own C index y bytes maxL ret ws rm mc ms n) (hp : PreV s H C b Pc As)
    (hg : g.method = m) (hn : As.length = n) (hsize : g.locals.size = nL) (hstack : g.stack = As.reverse ++ .ref b :: rest) (hW : 2 * g.monitorRoom + (rest.map fun v => v.category).sum ≤ 8) (hdg : decode cc g.pc = .ok (.invokevirtual index, 3)) (hf : cells + mc ≤ R.cells ∧ slots + ms ≤ R.slots) :
    vx_Run p l e R s m args below meth c H locs cells slots mc ms g rest (Qc (Value.ref b :: As).toArray) XC free := by
  have hK : vx_Back l R p e below s args y 3 8 (PreOf R mc ms Pc) (PostOf Qc mc ms free) (vx_Post XC mc ms free) := vx_callBack cw.1 hM hp.1
  obtain ⟨⟨-, -, -, -, -, -, hcode, -, hy, hlen, hl⟩, hin, hse⟩ := cw
  obtain ⟨hx, hb, hml, ho, -⟩ := S
  obtain ⟨-, ⟨cellB, hcB, hoB, hclB⟩, hPc⟩ := hp
  intro T hT X
  rcases vx_callV X hx (C := C) (bytes := bytes) (maxL := maxL) (ret := ret) ho hl hin hse hcode hy hK (by rw [hT]; exact hcB) hoB hclB hg (hsize.trans hml.symm) (argsL := As) (rest := rest) (fun sig h => hn.trans (hlen sig h)) hstack hW (by rw [hb]; exact hdg)
    (fun vm₁ hW₁ => ⟨hf.1, hf.2, hPc (T.setVm vm₁) hT hW₁⟩) with ⟨v, vm₁, ⟨U', l2, c2, s2⟩, hW₁, X', ⟨g', mk, t, L, e1, e2, hq, h1, hL, h2, h3⟩, st⟩ | ⟨q, vm₁, ⟨U', l2, c2, s2⟩, hW₁, X', ⟨g', mk, t, L, E, ce, e1, e2, hq, hce, hcv, hcl, h1, hL, h2, h3⟩, st⟩
  · dsimp only [Pt.U, Pt.locs, Pt.cells, Pt.slots] at X' e1 e2 h1 h2 h3 st
    subst h1; subst h2; subst h3
    exact Or.inl ⟨v, (T.setVm vm₁).calling g' mk (Value.ref b :: As).toArray, t, U', L, hT, X', hL, e1, e2, hq, st⟩
  · dsimp only [Pt.U, Pt.locs, Pt.cells, Pt.slots] at X' e1 e2 h1 h2 h3 st hcl
    subst h1; subst h2; subst h3
    exact Or.inr ⟨q, (T.setVm vm₁).calling g' mk (Value.ref b :: As).toArray, t, U', L, E, ce, hT, X', hL, e1, e2, hq, hce, hcv, vx_cls hW₁ hcl, st⟩
theorem vx_runS (S : CallFix p m c cc nL s args Ts own) (hM : vx_Met l y ws rm Pc Qc XC mc ms free) (cw : CallB R s args own index y bytes maxL ret ws rm mc ms n ∧ (Cond.static y).before args s = true) (hp : PreS s H Pc As)
    (hg : g.method = m) (hn : As.length = n) (hsize : g.locals.size = nL) (hstack : g.stack = As.reverse ++ rest) (hW : 2 * g.monitorRoom + (rest.map fun v => v.category).sum ≤ 8) (hdg : decode cc g.pc = .ok (.invokestatic index, 3)) (hf : cells + mc ≤ R.cells ∧ slots + ms ≤ R.slots) :
    vx_Run p l e R s m args below meth c H locs cells slots mc ms g rest (Qc As.toArray) XC free := by
  have hK : vx_Back l R p e below s args y 3 8 (PreOf R mc ms Pc) (PostOf Qc mc ms free) (vx_Post XC mc ms free) := vx_callBack cw.1 hM hp.1
  obtain ⟨⟨-, -, -, -, -, -, hcode, hini, hy, hlen, hl⟩, hstt⟩ := cw
  obtain ⟨hx, hb, hml, ho, -⟩ := S
  intro T hT X
  rcases vx_callS X hx (bytes := bytes) (maxL := maxL) (ret := ret) ho hl hstt hini hcode hy hK hg (hsize.trans hml.symm) (argsL := As) (rest := rest) (fun sig h => hn.trans (hlen sig h)) hstack hW (by rw [hb]; exact hdg)
    (fun vm₁ hW₁ => ⟨hf.1, hf.2, hp.2 (T.setVm vm₁) hT hW₁⟩) with ⟨v, vm₁, ⟨U', l2, c2, s2⟩, hW₁, X', ⟨g', mk, t, L, e1, e2, hq, h1, hL, h2, h3⟩, st⟩ | ⟨q, vm₁, ⟨U', l2, c2, s2⟩, hW₁, X', ⟨g', mk, t, L, E, ce, e1, e2, hq, hce, hcv, hcl, h1, hL, h2, h3⟩, st⟩
  · dsimp only [Pt.U, Pt.locs, Pt.cells, Pt.slots] at X' e1 e2 h1 h2 h3 st
    subst h1; subst h2; subst h3
    exact Or.inl ⟨v, (T.setVm vm₁).calling g' mk As.toArray, t, U', L, hT, X', hL, e1, e2, hq, st⟩
  · dsimp only [Pt.U, Pt.locs, Pt.cells, Pt.slots] at X' e1 e2 h1 h2 h3 st hcl
    subst h1; subst h2; subst h3
    exact Or.inr ⟨q, (T.setVm vm₁).calling g' mk As.toArray, t, U', L, E, ce, hT, X', hL, e1, e2, hq, hce, hcv, vx_cls hW₁ hcl, st⟩
end Runs
section Rows
variable {p : Program} {l : Launch} {e : Env} {R : Room} {s : State} {m : MethodId} {args : Array Value} {below : List Frame} {meth : Method} {c : Code} {H : Heap} {locs : List Loc} {cells slots : Nat} {Q : State → Prop}
variable {mc ms : Nat} {free : Addr → Prop} {A0 A1 : Nat → Prop} {H0 : Heap} {a : Array Value} {pc : Nat} {ls : Array Slot} {st0 rest : List Value}
theorem vx_keep {st₀ t T' : State} {L : List Loc} (h0 : st₀.heap = H) (e1 : T'.heap = t.heap) (hS : va_S A0 H0 H locs) (hA : ∀ q, q < H.size → A1 q → A0 q) (hf : ∀ q, free q → A0 q) (hL : ∀ q ∈ L, free q.base) (hF : va_F A1 st₀ t) :
    H.size ≤ T'.heap.size ∧ (∀ q : Nat, q < H.size → ¬ A1 q → T'.heap[q]? = H[q]?) ∧ va_S A0 H0 T'.heap (locs ++ L) := by
  obtain ⟨hz, hk⟩ := hF
  rw [h0] at hz hk
  exact ⟨by rw [e1]; exact hz, fun q h1 h2 => by rw [e1]; exact hk q h1 h2,
    ⟨Nat.le_trans hS.1 (by rw [e1]; exact hz), fun q h1 h2 => by rw [e1, hk q (Nat.lt_of_lt_of_le h1 hS.1) (fun z => h2 (hA q (Nat.lt_of_lt_of_le h1 hS.1) z))]; exact hS.2.1 q h1 h2, fun q hq => by
      rcases List.mem_append.mp hq with h | h
      · exact hS.2.2 q h
      · exact hf _ (hL q h)⟩⟩
theorem vx_calli {S SX : Type} {post : Int32 → S → Prop} {px : SX → Prop} {B : S → State → Prop} {BX : String → SX → State → Prop} {AX : Nat → Prop} (hr : vx_Run p l e R s m args below meth c H locs cells slots mc ms (F0 m pc ls st0) rest (va_Qi post B A1 a) (vx_X px BX AX) free) (hS : va_S A0 H0 H locs) (hA : ∀ q, q < H.size → A1 q → A0 q) (hf : ∀ q, free q → A0 q) (hAX : ∀ q, q < H.size → AX q → A0 q)
    (kx : ∀ (E : String) (ce : Cell) (q9 : Addr) (u : SX) (t : State) (H1 : Heap) (locs1 : List Loc), t.heap = H1 → s.vm.Alike t.vm → px u → BX E u t → H.size ≤ H1.size → (∀ q : Nat, q < H.size → ¬ AX q → H1[q]? = H[q]?) → va_S A0 H0 H1 locs1 → H1[q9]? = some ce → ce.vm = .none → s.vm.findClass E = some ce.cls → vx_W p l e R s m args below meth c H1 locs1 (cells + mc) (slots + ms) Q (F0 m pc ls rest) q9)
    (kk : ∀ (r : Int32) (u : S) (t : State) (H1 : Heap) (locs1 : List Loc), t.heap = H1 → s.vm.Alike t.vm → post r u → B u t → H.size ≤ H1.size → (∀ q : Nat, q < H.size → ¬ A1 q → H1[q]? = H[q]?) → va_S A0 H0 H1 locs1 → W p l e R s m args below meth c H1 locs1 (cells + mc) (slots + ms) Q (F0 m (pc + 3) ls (.int r :: rest))) : W p l e R s m args below meth c H locs cells slots Q (F0 m pc ls st0) := by
  intro T hT X
  rcases hr T hT X with ⟨v, st₀, t, T', L, h0, X', hL, e1, e2, ⟨⟨r, u, hv, hp, hb⟩, hF⟩, st⟩ | ⟨q, st₀, t, T', L, E, ce, h0, X', hL, e1, e2, ⟨u, hp, hb, hF⟩, hce, hcv, hcl, st⟩
  · cases hv
    obtain ⟨k1, k2, k3⟩ := vx_keep h0 e1 hS hA hf hL hF
    obtain ⟨t2, a1, b1⟩ := kk r u t T'.heap (locs ++ L) e1.symm (by rw [← e2]; exact X'.warmed.alike) hp hb k1 k2 k3 T' rfl X'
    exact ⟨t2, st t2 a1, b1⟩
  · obtain ⟨k1, k2, k3⟩ := vx_keep h0 e1 hS hAX hf hL hF
    obtain ⟨t2, a1, b1⟩ := kx E ce q u t T'.heap (locs ++ L) e1.symm (by rw [← e2]; exact X'.warmed.alike) hp hb k1 k2 k3 (by rw [e1]; exact hce) hcv hcl T' rfl X'
    exact ⟨t2, st.trans a1, b1⟩
theorem vx_calll {S SX : Type} {post : Int64 → S → Prop} {px : SX → Prop} {B : S → State → Prop} {BX : String → SX → State → Prop} {AX : Nat → Prop} (hr : vx_Run p l e R s m args below meth c H locs cells slots mc ms (F0 m pc ls st0) rest (va_Ql post B A1 a) (vx_X px BX AX) free) (hS : va_S A0 H0 H locs) (hA : ∀ q, q < H.size → A1 q → A0 q) (hf : ∀ q, free q → A0 q) (hAX : ∀ q, q < H.size → AX q → A0 q)
    (kx : ∀ (E : String) (ce : Cell) (q9 : Addr) (u : SX) (t : State) (H1 : Heap) (locs1 : List Loc), t.heap = H1 → s.vm.Alike t.vm → px u → BX E u t → H.size ≤ H1.size → (∀ q : Nat, q < H.size → ¬ AX q → H1[q]? = H[q]?) → va_S A0 H0 H1 locs1 → H1[q9]? = some ce → ce.vm = .none → s.vm.findClass E = some ce.cls → vx_W p l e R s m args below meth c H1 locs1 (cells + mc) (slots + ms) Q (F0 m pc ls rest) q9)
    (kk : ∀ (r : Int64) (u : S) (t : State) (H1 : Heap) (locs1 : List Loc), t.heap = H1 → s.vm.Alike t.vm → post r u → B u t → H.size ≤ H1.size → (∀ q : Nat, q < H.size → ¬ A1 q → H1[q]? = H[q]?) → va_S A0 H0 H1 locs1 → W p l e R s m args below meth c H1 locs1 (cells + mc) (slots + ms) Q (F0 m (pc + 3) ls (.long r :: rest))) : W p l e R s m args below meth c H locs cells slots Q (F0 m pc ls st0) := by
  intro T hT X
  rcases hr T hT X with ⟨v, st₀, t, T', L, h0, X', hL, e1, e2, ⟨⟨r, u, hv, hp, hb⟩, hF⟩, st⟩ | ⟨q, st₀, t, T', L, E, ce, h0, X', hL, e1, e2, ⟨u, hp, hb, hF⟩, hce, hcv, hcl, st⟩
  · cases hv
    obtain ⟨k1, k2, k3⟩ := vx_keep h0 e1 hS hA hf hL hF
    obtain ⟨t2, a1, b1⟩ := kk r u t T'.heap (locs ++ L) e1.symm (by rw [← e2]; exact X'.warmed.alike) hp hb k1 k2 k3 T' rfl X'
    exact ⟨t2, st t2 a1, b1⟩
  · obtain ⟨k1, k2, k3⟩ := vx_keep h0 e1 hS hAX hf hL hF
    obtain ⟨t2, a1, b1⟩ := kx E ce q u t T'.heap (locs ++ L) e1.symm (by rw [← e2]; exact X'.warmed.alike) hp hb k1 k2 k3 (by rw [e1]; exact hce) hcv hcl T' rfl X'
    exact ⟨t2, st.trans a1, b1⟩
theorem vx_callf {S SX : Type} {post : UInt32 → S → Prop} {px : SX → Prop} {B : S → State → Prop} {BX : String → SX → State → Prop} {AX : Nat → Prop} (hr : vx_Run p l e R s m args below meth c H locs cells slots mc ms (F0 m pc ls st0) rest (va_Qf post B A1 a) (vx_X px BX AX) free) (hS : va_S A0 H0 H locs) (hA : ∀ q, q < H.size → A1 q → A0 q) (hf : ∀ q, free q → A0 q) (hAX : ∀ q, q < H.size → AX q → A0 q)
    (kx : ∀ (E : String) (ce : Cell) (q9 : Addr) (u : SX) (t : State) (H1 : Heap) (locs1 : List Loc), t.heap = H1 → s.vm.Alike t.vm → px u → BX E u t → H.size ≤ H1.size → (∀ q : Nat, q < H.size → ¬ AX q → H1[q]? = H[q]?) → va_S A0 H0 H1 locs1 → H1[q9]? = some ce → ce.vm = .none → s.vm.findClass E = some ce.cls → vx_W p l e R s m args below meth c H1 locs1 (cells + mc) (slots + ms) Q (F0 m pc ls rest) q9)
    (kk : ∀ (r : UInt32) (u : S) (t : State) (H1 : Heap) (locs1 : List Loc), t.heap = H1 → s.vm.Alike t.vm → post r u → B u t → H.size ≤ H1.size → (∀ q : Nat, q < H.size → ¬ A1 q → H1[q]? = H[q]?) → va_S A0 H0 H1 locs1 → W p l e R s m args below meth c H1 locs1 (cells + mc) (slots + ms) Q (F0 m (pc + 3) ls (.float r :: rest))) : W p l e R s m args below meth c H locs cells slots Q (F0 m pc ls st0) := by
  intro T hT X
  rcases hr T hT X with ⟨v, st₀, t, T', L, h0, X', hL, e1, e2, ⟨⟨r, u, hv, hp, hb⟩, hF⟩, st⟩ | ⟨q, st₀, t, T', L, E, ce, h0, X', hL, e1, e2, ⟨u, hp, hb, hF⟩, hce, hcv, hcl, st⟩
  · cases hv
    obtain ⟨k1, k2, k3⟩ := vx_keep h0 e1 hS hA hf hL hF
    obtain ⟨t2, a1, b1⟩ := kk r u t T'.heap (locs ++ L) e1.symm (by rw [← e2]; exact X'.warmed.alike) hp hb k1 k2 k3 T' rfl X'
    exact ⟨t2, st t2 a1, b1⟩
  · obtain ⟨k1, k2, k3⟩ := vx_keep h0 e1 hS hAX hf hL hF
    obtain ⟨t2, a1, b1⟩ := kx E ce q u t T'.heap (locs ++ L) e1.symm (by rw [← e2]; exact X'.warmed.alike) hp hb k1 k2 k3 (by rw [e1]; exact hce) hcv hcl T' rfl X'
    exact ⟨t2, st.trans a1, b1⟩
theorem vx_calld {S SX : Type} {post : UInt64 → S → Prop} {px : SX → Prop} {B : S → State → Prop} {BX : String → SX → State → Prop} {AX : Nat → Prop} (hr : vx_Run p l e R s m args below meth c H locs cells slots mc ms (F0 m pc ls st0) rest (va_Qd post B A1 a) (vx_X px BX AX) free) (hS : va_S A0 H0 H locs) (hA : ∀ q, q < H.size → A1 q → A0 q) (hf : ∀ q, free q → A0 q) (hAX : ∀ q, q < H.size → AX q → A0 q)
    (kx : ∀ (E : String) (ce : Cell) (q9 : Addr) (u : SX) (t : State) (H1 : Heap) (locs1 : List Loc), t.heap = H1 → s.vm.Alike t.vm → px u → BX E u t → H.size ≤ H1.size → (∀ q : Nat, q < H.size → ¬ AX q → H1[q]? = H[q]?) → va_S A0 H0 H1 locs1 → H1[q9]? = some ce → ce.vm = .none → s.vm.findClass E = some ce.cls → vx_W p l e R s m args below meth c H1 locs1 (cells + mc) (slots + ms) Q (F0 m pc ls rest) q9)
    (kk : ∀ (r : UInt64) (u : S) (t : State) (H1 : Heap) (locs1 : List Loc), t.heap = H1 → s.vm.Alike t.vm → post r u → B u t → H.size ≤ H1.size → (∀ q : Nat, q < H.size → ¬ A1 q → H1[q]? = H[q]?) → va_S A0 H0 H1 locs1 → W p l e R s m args below meth c H1 locs1 (cells + mc) (slots + ms) Q (F0 m (pc + 3) ls (.double r :: rest))) : W p l e R s m args below meth c H locs cells slots Q (F0 m pc ls st0) := by
  intro T hT X
  rcases hr T hT X with ⟨v, st₀, t, T', L, h0, X', hL, e1, e2, ⟨⟨r, u, hv, hp, hb⟩, hF⟩, st⟩ | ⟨q, st₀, t, T', L, E, ce, h0, X', hL, e1, e2, ⟨u, hp, hb, hF⟩, hce, hcv, hcl, st⟩
  · cases hv
    obtain ⟨k1, k2, k3⟩ := vx_keep h0 e1 hS hA hf hL hF
    obtain ⟨t2, a1, b1⟩ := kk r u t T'.heap (locs ++ L) e1.symm (by rw [← e2]; exact X'.warmed.alike) hp hb k1 k2 k3 T' rfl X'
    exact ⟨t2, st t2 a1, b1⟩
  · obtain ⟨k1, k2, k3⟩ := vx_keep h0 e1 hS hAX hf hL hF
    obtain ⟨t2, a1, b1⟩ := kx E ce q u t T'.heap (locs ++ L) e1.symm (by rw [← e2]; exact X'.warmed.alike) hp hb k1 k2 k3 (by rw [e1]; exact hce) hcv hcl T' rfl X'
    exact ⟨t2, st.trans a1, b1⟩
theorem vx_callv {S SX : Type} {post : S → Prop} {px : SX → Prop} {B : S → State → Prop} {BX : String → SX → State → Prop} {AX : Nat → Prop} (hr : vx_Run p l e R s m args below meth c H locs cells slots mc ms (F0 m pc ls st0) rest (va_Qv post B A1 a) (vx_X px BX AX) free) (hS : va_S A0 H0 H locs) (hA : ∀ q, q < H.size → A1 q → A0 q) (hf : ∀ q, free q → A0 q) (hAX : ∀ q, q < H.size → AX q → A0 q)
    (kx : ∀ (E : String) (ce : Cell) (q9 : Addr) (u : SX) (t : State) (H1 : Heap) (locs1 : List Loc), t.heap = H1 → s.vm.Alike t.vm → px u → BX E u t → H.size ≤ H1.size → (∀ q : Nat, q < H.size → ¬ AX q → H1[q]? = H[q]?) → va_S A0 H0 H1 locs1 → H1[q9]? = some ce → ce.vm = .none → s.vm.findClass E = some ce.cls → vx_W p l e R s m args below meth c H1 locs1 (cells + mc) (slots + ms) Q (F0 m pc ls rest) q9)
    (kk : ∀ (u : S) (t : State) (H1 : Heap) (locs1 : List Loc), t.heap = H1 → s.vm.Alike t.vm → post u → B u t → H.size ≤ H1.size → (∀ q : Nat, q < H.size → ¬ A1 q → H1[q]? = H[q]?) → va_S A0 H0 H1 locs1 → W p l e R s m args below meth c H1 locs1 (cells + mc) (slots + ms) Q (F0 m (pc + 3) ls (rest))) : W p l e R s m args below meth c H locs cells slots Q (F0 m pc ls st0) := by
  intro T hT X
  rcases hr T hT X with ⟨v, st₀, t, T', L, h0, X', hL, e1, e2, ⟨⟨u, hv, hp, hb⟩, hF⟩, st⟩ | ⟨q, st₀, t, T', L, E, ce, h0, X', hL, e1, e2, ⟨u, hp, hb, hF⟩, hce, hcv, hcl, st⟩
  · cases hv
    obtain ⟨k1, k2, k3⟩ := vx_keep h0 e1 hS hA hf hL hF
    obtain ⟨t2, a1, b1⟩ := kk u t T'.heap (locs ++ L) e1.symm (by rw [← e2]; exact X'.warmed.alike) hp hb k1 k2 k3 T' rfl X'
    exact ⟨t2, st t2 a1, b1⟩
  · obtain ⟨k1, k2, k3⟩ := vx_keep h0 e1 hS hAX hf hL hF
    obtain ⟨t2, a1, b1⟩ := kx E ce q u t T'.heap (locs ++ L) e1.symm (by rw [← e2]; exact X'.warmed.alike) hp hb k1 k2 k3 (by rw [e1]; exact hce) hcv hcl T' rfl X'
    exact ⟨t2, st.trans a1, b1⟩
/-- caught by the row x of this method's table; the rows ahead don't take it -/
theorem vx_catch {own name : String} {E : String} {ce : Cell} {q : Addr} (hown : s.vm.findClass own = some m.cls) (pre : List ExceptionTableEntry) (x : ExceptionTableEntry) (suf : List ExceptionTableEntry) (hsplit : c.exceptionTable.toList = pre ++ x :: suf)
    (hpass : ∀ z ∈ pre, covers z pc = false ∨ (z.catchType ≠ 0 ∧ ∃ nm : String, (Cond.classLink own z.catchType nm).before args s = true ∧ va_Nc E nm s)) (hx : covers x pc = true) (h0 : x.catchType ≠ 0)
    (hlink : (Cond.classLink own x.catchType name).before args s = true) (hcast : (Cond.castable E name).before args s = true) (hcell : H[q]? = some ce) (hv : ce.vm = .none) (hcl : s.vm.findClass E = some ce.cls)
    (kk : W p l e R s m args below meth c H locs cells slots Q (F0 m x.handlerPc ls [.ref q])) : vx_W p l e R s m args below meth c H locs cells slots Q (F0 m pc ls rest) q := by
  intro T hT X
  have hpl : e.platform.magicAccessors = ({} : Platform).magicAccessors := by rw [X.admits.platform]
  obtain ⟨c3, c4, hc3, hc4, hasg⟩ := Cond.castable_spec hcast
  cases Option.some.inj (hc3.symm.trans hcl)
  obtain ⟨c5, hc5, hcl5⟩ := Cond.classLink_spec hown hlink e.platform hpl
  cases Option.some.inj (hc4.symm.trans hc5)
  obtain ⟨vm', X', st⟩ := X.thenCaughtThrough q (g := F0 m pc ls rest) rfl (Steps.refl _) (by rw [hT]; exact hcell) (by rw [hv]; rfl) (by obtain ⟨k9, h9, -⟩ := Vm.findClass_spec hcl; exact ⟨k9, h9⟩) pre x suf hsplit
    (fun z hz => by
      rcases hpass z hz with h | ⟨hz0, nm, hl1, hn1⟩
      · exact Or.inl h
      · obtain ⟨c6, hc6, hcl6⟩ := Cond.classLink_spec hown hl1 e.platform hpl
        obtain ⟨a8, b8, h1, h2, h3⟩ := hn1
        cases Option.some.inj (h1.symm.trans hcl)
        cases Option.some.inj (h2.symm.trans hc6)
        exact Or.inr ⟨hz0, _, hcl6, h3⟩) hx (Or.inr ⟨h0, c4, hcl5, hasg⟩)
  obtain ⟨t, a1, b1⟩ := kk (T.setVm vm') hT X'
  exact ⟨t, st.trans a1, b1⟩
end Rows
section Ends
variable {p : Program} {l : Launch} {e : Env} {R : Room} {s : State} {m : MethodId} {args : Array Value} {below : List Frame} {meth : Method} {c : Code} {H : Heap} {locs : List Loc} {cells slots : Nat} {Q : State → Prop}
variable {mc ms : Nat} {free : Addr → Prop} {A0 A1 : Nat → Prop} {H0 : Heap} {a : Array Value} {ls : Array Slot} {st0 rest : List Value}
variable {Qc : Array Value → State → Outcome → State → Prop} {XC : String → State → State → Prop}
/-- what a body that may throw owes at its end -/
def vx_MQ (below : List Frame) (Qc : Array Value → State → Outcome → State → Prop) (XC : String → State → State → Prop) (a : Array Value) (s : State) (mc ms : Nat) (free : Addr → Prop) : State → Prop := fun t =>
  ∃ o, t.status = .running ∧ Ended t below o ∧ vx_Q Qc XC mc ms free a s o t
theorem vx_ret {g : JFrame} {mc ms : Nat} (k : W p l e R s m args below meth c H locs cells slots (MQ below Qc args s mc ms free) g) : W p l e R s m args below meth c H locs cells slots (vx_MQ below Qc XC args s mc ms free) g := by
  intro T hT X
  obtain ⟨t, a1, o, b1, b2, b3, b4⟩ := k T hT X
  exact ⟨t, a1, o, b1, b2, Or.inl ⟨b3, b4⟩⟩
/-- not caught here: it goes on to the caller -/
theorem vx_widen {g : JFrame} {q : Addr} {k n : Nat} (h1 : cells ≤ k) (h2 : slots ≤ n) (kk : vx_W p l e R s m args below meth c H locs k n Q g q) : vx_W p l e R s m args below meth c H locs cells slots Q g q := fun T hT X => kk T hT (stand_widen X h1 h2)
theorem vx_out {pc : Nat} {E : String} {ce : Cell} {q : Addr} {mc ms : Nat} (hout : ∀ x ∈ c.exceptionTable.toList, covers x pc = false) (hlocks : meth.locks = false) (hcell : H[q]? = some ce) (hv : ce.vm = .none) (hcl : s.vm.findClass E = some ce.cls)
    (hx : ∀ t : State, t.heap = H → s.vm.Alike t.vm → XC E s t) (hf : ∀ z ∈ locs, free z.base) (hc : cells ≤ mc) (hs : slots ≤ ms) :
    vx_W p l e R s m args below meth c H locs cells slots (vx_MQ below Qc XC args s mc ms free) (F0 m pc ls rest) q := by
  intro T hT X
  obtain ⟨st1, hrun, hend, hW, hsm⟩ := X.leaveThrown q (g := F0 m pc ls rest) rfl rfl rfl hout hlocks
  have hcell9 : (T.setFrames (.throwing q :: below)).heap[q]? = some ce := by
    show T.heap[q]? = some ce
    rw [hT]; exact hcell
  exact ⟨_, st1, .threw q, hrun, hend, Or.inr ⟨q, rfl, E, ce, locs, hx _ hT hW.alike, hcell9, hv, hcl, hW, hsm.mono hc hs, hf⟩⟩
theorem vx_frame {U : State} {k n : Nat} (h : s.sameButNew ({ U with vm := s.vm } : State) locs k n) : s.heap.size ≤ U.heap.size ∧ ∀ q : Nat, q < s.heap.size → (∀ z ∈ locs, z.base ≠ q) → U.heap[q]? = s.heap[q]? := by
  obtain ⟨-, h2, -, -, -, h6⟩ := h
  refine ⟨h2, fun q hq hz => ?_⟩
  obtain ⟨c9, e1, e2, e3, e4⟩ := h6 q _ (Array.getElem?_eq_getElem hq)
  have hs : c9.slots = (s.heap[q]).slots := Array.ext_getElem? fun i => e4 i fun hm => hz _ hm rfl
  have h9 : c9 = s.heap[q] := by
    rw [hs] at e2
    exact e2
  have e5 : U.heap[q]? = some c9 := e1
  rw [e5, h9, Array.getElem?_eq_getElem hq]
/-- the words of a throw but the four that speak of the heap -/
def vx_no (w : Cond) : Bool := decide (w ≠ .isRef (.static Bundle.tN "UNASSIGNED_STACK" Bundle.steD)) && decide (w ≠ .isRef (.static Bundle.tN "SUPPRESSED_SENTINEL" Bundle.listD)) && decide (w ≠ .laysStatic Bundle.tN "UNASSIGNED_STACK" Bundle.steD) && decide (w ≠ .laysStatic Bundle.tN "SUPPRESSED_SENTINEL" Bundle.listD)
def vx_at0 (own : String) (ic : Nat) (X : String) (names : List String) : List Cond := (Bundle.ownAtoms0 own ic X names).filter vx_no
def vx_atS (own : String) (ic : Nat) (X : String) (names : List String) : List Cond := (Bundle.ownAtoms own ic X names).filter vx_no
/-- a word that the tables alone decide, or a good one -/
def vx_ot (w : Cond) : Bool := w.onTables || goodWord w
theorem vx_ot_at {args a' : Array Value} {s U : State} {w : Cond} (hW : s.WarmedH U.vm) (hvm : s.vm = U.vm) (hg : vx_ot w = true) (h : w.before args s = true) : w.before a' U = true := by
  simp only [vx_ot, Bool.or_eq_true] at hg
  rcases hg with hg | hg
  · exact va_tabs hg hvm h
  · exact word_at hW (good_of_word hg) h
/-- a list's words: the good ones out of the method's own list, the others by premises of their own -/
theorem vx_hat {args : Array Value} {s : State} {L B : List Cond} (h1 : ∀ w ∈ L.filter goodWord, w.before args s = true) (h2 : ∀ w ∈ L.filter (fun w => !goodWord w), w ∈ B) (h3 : ∀ w ∈ B, w.before args s = true) : ∀ w ∈ L, w.before args s = true := by
  intro w hw
  by_cases g : goodWord w = true
  · exact h1 w (List.mem_filter.mpr ⟨hw, g⟩)
  · refine h3 w (h2 w (List.mem_filter.mpr ⟨hw, ?_⟩))
    show (!goodWord w) = true
    cases hgw : goodWord w
    · rfl
    · exact absurd hgw g
theorem vx_c {args : Array Value} {s : State} {w : Cond} {B : List Cond} (h : w.before args s = true) (t : ∀ w ∈ B, w.before args s = true) : ∀ w' ∈ w :: B, w'.before args s = true := fun w' h' => (List.mem_cons.mp h').elim (fun e => by rw [e]; exact h) (t w')
theorem vx_n {args : Array Value} {s : State} : ∀ w ∈ ([] : List Cond), w.before args s = true := fun _ h => nomatch h
theorem vx_own {args : Array Value} {s : State} {L : List Cond} (h1 : ∀ w ∈ L.filter vx_no, w.before args s = true)
    (hU : (Cond.isRef (.static Bundle.tN "UNASSIGNED_STACK" Bundle.steD)).before args s = true) (hN : (Cond.isRef (.static Bundle.tN "SUPPRESSED_SENTINEL" Bundle.listD)).before args s = true)
    (lU : (Cond.laysStatic Bundle.tN "UNASSIGNED_STACK" Bundle.steD).before args s = true) (lN : (Cond.laysStatic Bundle.tN "SUPPRESSED_SENTINEL" Bundle.listD).before args s = true) : ∀ w ∈ L, w.before args s = true := by
  intro w hw
  by_cases e1 : w = .isRef (.static Bundle.tN "UNASSIGNED_STACK" Bundle.steD)
  · rw [e1]; exact hU
  · by_cases e2 : w = .isRef (.static Bundle.tN "SUPPRESSED_SENTINEL" Bundle.listD)
    · rw [e2]; exact hN
    · by_cases e3 : w = .laysStatic Bundle.tN "UNASSIGNED_STACK" Bundle.steD
      · rw [e3]; exact lU
      · by_cases e4 : w = .laysStatic Bundle.tN "SUPPRESSED_SENTINEL" Bundle.listD
        · rw [e4]; exact lN
        · exact h1 w (List.mem_filter.mpr ⟨hw, by unfold vx_no; rw [decide_eq_true e1, decide_eq_true e2, decide_eq_true e3, decide_eq_true e4]; rfl⟩)
/-- where a static field lies, its class's statics cell in H -/
def vx_L (C n d : String) (A : Nat → Prop) (U : State) (H : Heap) : Prop := ∃ (c : ClassId) (k : Class) (i : Nat) (f : Field) (a : Nat) (cell : Cell), U.vm.findClass C = some c ∧ U.fieldFound? C n d = some (c, k, i, f) ∧ f.isStatic = true ∧ k.statics = some a ∧ H[a]? = some cell ∧ cell.vm.isStatics = true ∧ cell.cls = c ∧ f.slot < cell.slots.size ∧ k.staticTypes[f.slot]? = some f.type ∧ ¬ A a
theorem vx_L.moved {C n d : String} {A : Nat → Prop} {u U : State} {H : Heap} (hvm : u.vm.Alike U.vm) (h : vx_L C n d A u H) : vx_L C n d A U H := by
  obtain ⟨c, k, i, f, a, cell, h1, h2, h3, h4, h5, h6, h7, h8, h9, h10⟩ := h
  obtain ⟨k', hi', he⟩ := State.fieldFound?_setVm hvm h2
  exact ⟨c, k', i, f, a, cell, by rw [hvm.findClass]; exact h1, hi', h3, by rw [he]; exact h4, h5, h6, h7, h8, by rw [he]; exact h9, h10⟩
theorem vx_L.kept {C n d : String} {A : Nat → Prop} {U : State} {H H1 : Heap} (h : vx_L C n d A U H) (hq : ∀ a : Nat, a < H.size → ¬ A a → H1[a]? = H[a]?) : vx_L C n d A U H1 := by
  obtain ⟨c, k, i, f, a, cell, h1, h2, h3, h4, h5, h6, h7, h8, h9, h10⟩ := h
  exact ⟨c, k, i, f, a, cell, h1, h2, h3, h4, by rw [hq a (Array.getElem?_eq_some_iff.mp h5).1 h10]; exact h5, h6, h7, h8, h9, h10⟩
theorem vx_L.narrow {C n d : String} {A B : Nat → Prop} {U : State} {H : Heap} (h : vx_L C n d A U H) (hAB : ∀ q, B q → A q) : vx_L C n d B U H := by
  obtain ⟨c, k, i, f, a, cell, h1, h2, h3, h4, h5, h6, h7, h8, h9, h10⟩ := h
  exact ⟨c, k, i, f, a, cell, h1, h2, h3, h4, h5, h6, h7, h8, h9, fun z => h10 (hAB _ z)⟩
theorem vx_L.word {C n d : String} {A : Nat → Prop} {s : State} {args : Array Value} (h : vx_L C n d A s s.heap) : (Cond.laysStatic C n d).before args s = true := by
  obtain ⟨c, k, i, f, a, cell, h1, h2, h3, h4, h5, h6, h7, h8, h9, -⟩ := h
  show (Cond.laysStatic C n d).holds args s none s [] = true
  exact Cond.laysStatic_of h1 h2 h3 h4 h5 h6 h7 h8 h9
/-- .. and what it holds: null or some reference -/
def vx_Zq (C n d : String) (A : Nat → Prop) (U : State) (H : Heap) : Prop := va_Zq C n d A U H ∧ vx_L C n d A U H
theorem vx_Zq.moved {C n d : String} {A : Nat → Prop} {u U : State} {H : Heap} (hvm : u.vm.Alike U.vm) (h : vx_Zq C n d A u H) : vx_Zq C n d A U H := ⟨va_Zq.moved hvm h.1, vx_L.moved hvm h.2⟩
theorem vx_Zq.kept {C n d : String} {A : Nat → Prop} {U : State} {H H1 : Heap} (h : vx_Zq C n d A U H) (hq : ∀ a : Nat, a < H.size → ¬ A a → H1[a]? = H[a]?) : vx_Zq C n d A U H1 := ⟨va_Zq.kept h.1 hq, vx_L.kept h.2 hq⟩
theorem vx_Zq.narrow {C n d : String} {A B : Nat → Prop} {U : State} {H : Heap} (h : vx_Zq C n d A U H) (hAB : ∀ q, B q → A q) : vx_Zq C n d B U H := ⟨va_Zq.narrow h.1 hAB, vx_L.narrow h.2 hAB⟩
theorem vx_Zqof {args : Array Value} {s : State} {C n d : String} {A : Nat → Prop} (hl : (Cond.laysStatic C n d).before args s = true) (hini : (Cond.initialized C).before args s = true) (h : (Cond.isRef (.static C n d)).before args s = true) (hA : ∀ a : Nat, a < s.heap.size → ¬ A a) : vx_Zq C n d A s s.heap := by
  refine ⟨va_Zqof hl hini h hA, ?_⟩
  obtain ⟨c, k, i, f, a, cell, h1, h2, h3, h4, h5, h6, h7, h8, h9⟩ := Cond.laysStatic_spec hl
  exact ⟨c, k, i, f, a, cell, h1, h2, h3, h4, h5, h6, h7, h8, h9, hA a (Array.getElem?_eq_some_iff.mp h5).1⟩
theorem vx_isRef {C n d : String} {v : Value} {A : Nat → Prop} {s : State} {args : Array Value} (h : va_Z C n d v A s s.heap) (hv : v.isRef = true) : (Cond.isRef (.static C n d)).before args s = true := by
  obtain ⟨cf, kf, fi, f, a, cell, h1, h2, h3, h4, h5, h6, h7, -⟩ := h
  have he : (Term.static C n d).eval args s none [] s = some v := by
    simp [Term.eval, State.fieldNamed?, h1, h2, h4, h5, h6, h7]
  simp only [Cond.before, Cond.holds, Cond.value, he]
  cases v <;> simp_all [Value.isRef]
theorem vx_isRefq {C n d : String} {A : Nat → Prop} {s : State} {args : Array Value} (h : va_Zq C n d A s s.heap) : (Cond.isRef (.static C n d)).before args s = true := by
  rcases h with h | ⟨t, h⟩
  · exact vx_isRef h rfl
  · exact vx_isRef h rfl
/-- the same frame, seen from here: as if the method were called anew in this heap -/
theorem vx_rebase {T : State} (X : Stand p l e R s m args below meth c T locs cells slots) {R' : Room} (hf : R'.frames ≤ R.frames) (hl : R'.locals ≤ R.locals) (hc : cells + R'.cells ≤ R.cells) (hs : slots + R'.slots ≤ R.slots) :
    Stand p l e R' ((T.setVm s.vm).setFrames (.invoking m args :: below)) m args below meth c T [] 0 0 := by
  have htop : (T.setVm s.vm).topJava?.isSome := X.here.top
  have hF : ((T.setVm s.vm).setFrames (.invoking m args :: below)).frames = .invoking m args :: below := State.frames_setFrames _ (State.cur_lt_of_top htop)
  obtain ⟨g₀, hg0⟩ := Option.isSome_iff_exists.mp htop
  obtain ⟨r, hr⟩ := State.topJava?_eq_some.mp hg0
  have hl9 : e.platform.stackLimits (T.setVm s.vm).me = e.platform.stackLimits s.me := X.limits
  have hb9 : (T.setVm s.vm).me.stackBytes = s.me.stackBytes := X.bytes
  refine ⟨X.admits, X.cas, X.clock, hF, ?_, X.hears, X.method, X.code, X.here, X.tail, X.warmed, ?_, ?_, ?_⟩
  · have h := X.room
    have hU : ((T.setVm s.vm).setFrames (.invoking m args :: below)).localsInUse = s.localsInUse := by
      rw [State.localsInUse_invoking hF (meth := meth) (c := c) X.method X.code, State.localsInUse_invoking X.frames X.method X.code]
    simp only [State.hasRoom, Bool.and_eq_true, decide_eq_true_eq] at h ⊢
    obtain ⟨⟨⟨⟨h1, h2, h3, h4, h5, h6⟩, h7⟩, h8⟩, h9⟩ := h
    rw [X.frames, List.length_cons] at h2 h3
    have q1 := X.heapSize
    have q2 := X.used
    simp only [hF, hU, List.length_cons, State.stackLimits_setFrames, State.stackBytes_setFrames, hl9, hb9]
    refine ⟨⟨⟨⟨by omega, by omega, by omega, by omega, by omega, h6⟩, ?_⟩, ?_⟩, X.book⟩
    · show T.heap.size + R'.cells ≤ e.platform.maxCells
      omega
    · show T.slotsUsed + R'.slots ≤ e.platform.maxSlots
      omega
  · rw [State.stackLimits_setFrames]; rfl
  · rw [State.stackBytes_setFrames]; rfl
  · refine ⟨?_, Nat.le_refl _, Nat.le_refl _, ?_, ?_, fun a c9 h9 => ⟨c9, h9, rfl, rfl, fun _ _ => rfl⟩⟩
    · obtain ⟨t, ht, -⟩ := State.frames_cons hr
      show T.setVm s.vm = { ((T.setVm s.vm).setFrames (.invoking m args :: below)).setFrames (T.setVm s.vm).frames with heap := T.heap, slotsUsed := T.slotsUsed }
      rw [State.setFrames_setFrames, State.setFrames_self ht]
      rfl
    · show T.slotsUsed = T.slotsUsed + ((T.heap.toList.drop T.heap.size).map (·.slots.size)).sum
      rw [List.drop_eq_nil_of_le (Nat.le_of_eq Array.length_toList)]
      rfl
    · show ((T.heap.toList.drop T.heap.size).map (·.slots.size)).sum ≤ 0
      rw [List.drop_eq_nil_of_le (Nat.le_of_eq Array.length_toList)]
      exact Nat.le_refl _
/-- 'throw new E()': new; dup; invokespecial; athrow -/
theorem vx_throw0 {cc : ByteArray} {pc : Nat} (hexec : p.tables.exec = Jvm.exec) (hb : c.code = cc) (hl : l.stackTraces = false) {own cls : String} {names : List String} {ik ic mc ms : Nat} {A : Nat → Prop}
    (hown : s.vm.findClass own = some m.cls) (hcls : Bundle.fit cls = true) (hnames : ∀ n ∈ names, Bundle.fit n = true)
    (hk : (Cond.classLink own ik cls).before args s = true) (hini : (Cond.initialized cls).before args s = true) (hat : ∀ w ∈ vx_at0 own ic cls names, w.before args s = true)
    (hgood : ∀ w ∈ Cond.classLink own ik cls :: Cond.initialized cls :: vx_at0 own ic cls names, vx_ot w = true)
    (hU : vx_Zq Bundle.tN "UNASSIGNED_STACK" Bundle.steD A s s.heap) (hN : vx_Zq Bundle.tN "SUPPRESSED_SENTINEL" Bundle.listD A s s.heap) (hS : va_S A s.heap H locs) (hsize : ls.size = c.maxLocals)
    (d0 : decode cc pc = .ok (.new ik, 3)) (d3 : decode cc (pc + 3) = .ok (.dup, 1)) (d4 : decode cc (pc + 4) = .ok (.invokespecial ic, 3)) (d7 : decode cc (pc + 7) = .ok (.athrow, 1))
    (hout : ∀ x ∈ c.exceptionTable.toList, covers x (pc + 7) = false)
    (hRframes : names.length + 3 < R.frames) (hRlocals : (rest.map fun v => v.category).sum + (13 * (names.length + 1) + 42) ≤ R.locals) (hRcells : cells + 1 ≤ R.cells) (hRslots : slots + 6 ≤ R.slots) (hlocks : meth.locks = false)
    (hx : ∀ t : State, s.vm.Alike t.vm → H.size ≤ t.heap.size → (∀ q : Nat, q < H.size → t.heap[q]? = H[q]?) → XC cls s t)
    (hf : ∀ z ∈ locs, free z.base) (hc : cells + 1 ≤ mc) (hs : slots + 6 ≤ ms) :
    W p l e R s m args below meth c H locs cells slots (vx_MQ below Qc XC args s mc ms free) (F0 m pc ls rest) := by
  intro T hT X
  have htr : e.platform.stackTraces = false := (show e.platform.stackTraces = l.stackTraces by rw [X.admits.platform]).trans hl
  have Y := vx_rebase X (R' := { frames := R.frames, locals := R.locals, cells := 1, slots := 6 }) (Nat.le_refl _) (Nat.le_refl _) hRcells hRslots
  obtain ⟨s', hA⟩ : ∃ z, z = (T.setVm s.vm).setFrames (.invoking m args :: below) := ⟨_, rfl⟩
  rw [← hA] at Y
  have hvm : s'.vm = s.vm := by rw [hA]; rfl
  have hhp : s'.heap = H := by rw [hA]; exact hT
  have hW0 : s.WarmedH s'.vm := by rw [hvm]; exact State.WarmedH.refl s
  have hat' : ∀ w ∈ vx_at0 own ic cls names, w.before args s' = true := fun w hw => vx_ot_at hW0 hvm.symm (hgood w (List.mem_cons_of_mem _ (List.mem_cons_of_mem _ hw))) (hat w hw)
  have hk' : (Cond.classLink own ik cls).before args s' = true := vx_ot_at hW0 hvm.symm (hgood _ List.mem_cons_self) hk
  have hini' : (Cond.initialized cls).before args s' = true := vx_ot_at hW0 hvm.symm (hgood _ (List.mem_cons_of_mem _ List.mem_cons_self)) hini
  have hU' : vx_Zq Bundle.tN "UNASSIGNED_STACK" Bundle.steD A s' s'.heap := by rw [hhp]; exact vx_Zq.moved hW0.alike (hU.kept hS.2.1)
  have hN' : vx_Zq Bundle.tN "SUPPRESSED_SENTINEL" Bundle.listD A s' s'.heap := by rw [hhp]; exact vx_Zq.moved hW0.alike (hN.kept hS.2.1)
  have h : ∀ w ∈ Bundle.ownAtoms0 own ic cls names, w.before args s' = true := vx_own hat' (vx_isRefq hU'.1) (vx_isRefq hN'.1) hU'.2.word hN'.2.word
  have hown' : s'.vm.findClass own = some m.cls := by rw [hvm]; exact hown
  have hins : (Cond.instantiable cls 6).before args s' = true := h _ (by simp [Bundle.ownAtoms0])
  obtain ⟨vm₁, cX, kX, hfX, hkX, -, -, X₁, st1⟩ := Y.newCold hexec (own := own) (C := cls) (index := ik) (n := 6) hown' hk' hins hini'
    (g := F0 m pc ls rest) rfl (by rw [hb]; exact d0) (Nat.le_refl _) (Nat.le_refl _)
  generalize hT1 : (T.setVm vm₁).pushCell { cls := cX, slots := kX.instanceTypes.map defaultValue, vm := .none } = T1 at X₁ st1
  have hcat : (Value.ref T.heap.size).category = 1 := rfl
  have hcellA : T1.heap[T.heap.size]? = some (freshCell cX kX) := by rw [← hT1]; exact State.heap_pushCell_size _ _
  have d3' : decode c.code (pc + 3) = .ok (.dup, 1) := by rw [hb]; exact d3
  obtain ⟨U, hsteps, hrun, hend, hW, hsame, ce, hce, hO⟩ := X₁.ctorThrow0 hexec htr (own := own) (cls := cls) (names := names) (ic := ic) hown' hcls hnames h (fun x hx => nomatch hx) hfX hkX hcellA (by rw [hhp, hT]; exact Nat.le_refl _)
    (g := { method := m, pc := pc + 4, locals := ls, stack := .ref T.heap.size :: .ref T.heap.size :: rest, locked := none }) rfl hsize rfl rfl (rest := rest) rfl
    (by rw [hb]; exact d4) (by rw [hb]; exact d7) hout hRframes (by simp only [List.map_cons, List.sum_cons, hcat]; omega) hlocks
  obtain ⟨f1, f2⟩ := vx_frame hsame
  rw [hhp] at f1 f2
  have hWs : s.WarmedH U.vm := State.WarmedH.trans hW0 hW
  have hcl : s.vm.findClass cls = some ce.cls := by
    have h9 := hO.cls
    rw [hvm] at h9
    exact h9
  have hall : s.sameButNew ({ U with vm := s.vm } : State) locs mc ms := by
    subst hA
    obtain ⟨e1, e2⟩ := hsame
    rw [State.setFrames_setFrames] at e1
    have h2 : (T.setVm s.vm).sameButNew ({ U with vm := s.vm } : State) [] (0 + 1) (0 + 6) := ⟨e1, e2⟩
    have h3 := X.same.trans h2
    rw [List.append_nil] at h3
    exact h3.mono hc hs
  refine ⟨U, ?_, .threw T.heap.size, hrun, hend, Or.inr ⟨T.heap.size, rfl, cls, ce, locs, hx U hWs.alike f1 (fun q hq => f2 q hq (fun z hz => nomatch hz)), hce, hO.vm, hcl, hWs, hall, hf⟩⟩
  refine st1 _ ?_
  show Steps p.tables e below (T1.setTop { method := m, pc := pc + 3, locals := ls, stack := .ref T.heap.size :: rest, locked := none }) _
  jvm_step X₁.here [X₁.here.top, hexec, d3', Value.category]
  exact hsteps
/-- 'throw new E("text")': new; dup; ldc; invokespecial; athrow -/
theorem vx_throwS {cc : ByteArray} {pc : Nat} (hexec : p.tables.exec = Jvm.exec) (hb : c.code = cc) (hl : l.stackTraces = false) {own cls text : String} {names : List String} {ik is ic mc ms sa : Nat} {A : Nat → Prop}
    (hown : s.vm.findClass own = some m.cls) (hcls : Bundle.fit cls = true) (hnames : ∀ n ∈ names, Bundle.fit n = true)
    (hk : (Cond.classLink own ik cls).before args s = true) (hini : (Cond.initialized cls).before args s = true) (hstr : vk_R own is text sa s) (hat : ∀ w ∈ vx_atS own ic cls names, w.before args s = true)
    (hgood : ∀ w ∈ Cond.classLink own ik cls :: Cond.initialized cls :: vx_atS own ic cls names, vx_ot w = true)
    (hU : vx_Zq Bundle.tN "UNASSIGNED_STACK" Bundle.steD A s s.heap) (hN : vx_Zq Bundle.tN "SUPPRESSED_SENTINEL" Bundle.listD A s s.heap) (hS : va_S A s.heap H locs) (hsize : ls.size = c.maxLocals)
    (d0 : decode cc pc = .ok (.new ik, 3)) (d3 : decode cc (pc + 3) = .ok (.dup, 1)) (d4 : decode cc (pc + 4) = .ok (.ldc is, 2)) (d6 : decode cc (pc + 6) = .ok (.invokespecial ic, 3)) (d9 : decode cc (pc + 9) = .ok (.athrow, 1))
    (hout : ∀ x ∈ c.exceptionTable.toList, covers x (pc + 9) = false)
    (hRframes : names.length + 3 < R.frames) (hRlocals : (rest.map fun v => v.category).sum + (13 * (names.length + 1) + 43) ≤ R.locals) (hRcells : cells + 1 ≤ R.cells) (hRslots : slots + 6 ≤ R.slots) (hlocks : meth.locks = false)
    (hx : ∀ t : State, s.vm.Alike t.vm → H.size ≤ t.heap.size → (∀ q : Nat, q < H.size → t.heap[q]? = H[q]?) → XC cls s t)
    (hf : ∀ z ∈ locs, free z.base) (hc : cells + 1 ≤ mc) (hs : slots + 6 ≤ ms) :
    W p l e R s m args below meth c H locs cells slots (vx_MQ below Qc XC args s mc ms free) (F0 m pc ls rest) := by
  intro T hT X
  have htr : e.platform.stackTraces = false := (show e.platform.stackTraces = l.stackTraces by rw [X.admits.platform]).trans hl
  have Y := vx_rebase X (R' := { frames := R.frames, locals := R.locals, cells := 1, slots := 6 }) (Nat.le_refl _) (Nat.le_refl _) hRcells hRslots
  obtain ⟨s', hA⟩ : ∃ z, z = (T.setVm s.vm).setFrames (.invoking m args :: below) := ⟨_, rfl⟩
  rw [← hA] at Y
  have hvm : s'.vm = s.vm := by rw [hA]; rfl
  have hhp : s'.heap = H := by rw [hA]; exact hT
  have hW0 : s.WarmedH s'.vm := by rw [hvm]; exact State.WarmedH.refl s
  have hat' : ∀ w ∈ vx_atS own ic cls names, w.before args s' = true := fun w hw => vx_ot_at hW0 hvm.symm (hgood w (List.mem_cons_of_mem _ (List.mem_cons_of_mem _ hw))) (hat w hw)
  have hk' : (Cond.classLink own ik cls).before args s' = true := vx_ot_at hW0 hvm.symm (hgood _ List.mem_cons_self) hk
  have hini' : (Cond.initialized cls).before args s' = true := vx_ot_at hW0 hvm.symm (hgood _ (List.mem_cons_of_mem _ List.mem_cons_self)) hini
  have hU' : vx_Zq Bundle.tN "UNASSIGNED_STACK" Bundle.steD A s' s'.heap := by rw [hhp]; exact vx_Zq.moved hW0.alike (hU.kept hS.2.1)
  have hN' : vx_Zq Bundle.tN "SUPPRESSED_SENTINEL" Bundle.listD A s' s'.heap := by rw [hhp]; exact vx_Zq.moved hW0.alike (hN.kept hS.2.1)
  have h : ∀ w ∈ Bundle.ownAtoms own ic cls names, w.before args s' = true := vx_own hat' (vx_isRefq hU'.1) (vx_isRefq hN'.1) hU'.2.word hN'.2.word
  have hown' : s'.vm.findClass own = some m.cls := by rw [hvm]; exact hown
  have hins : (Cond.instantiable cls 6).before args s' = true := h _ (by simp [Bundle.ownAtoms])
  obtain ⟨vm₁, cX, kX, hfX, hkX, -, -, X₁, st1⟩ := Y.newCold hexec (own := own) (C := cls) (index := ik) (n := 6) hown' hk' hins hini'
    (g := F0 m pc ls rest) rfl (by rw [hb]; exact d0) (Nat.le_refl _) (Nat.le_refl _)
  generalize hT1 : (T.setVm vm₁).pushCell { cls := cX, slots := kX.instanceTypes.map defaultValue, vm := .none } = T1 at X₁ st1
  have hcat : (Value.ref T.heap.size).category = 1 := rfl
  have hcellA : T1.heap[T.heap.size]? = some (freshCell cX kX) := by rw [← hT1]; exact State.heap_pushCell_size _ _
  have d3' : decode c.code (pc + 3) = .ok (.dup, 1) := by rw [hb]; exact d3
  have d4' : decode c.code (pc + 4) = .ok (.ldc is, 2) := by rw [hb]; exact d4
  have hstr' : vk_R own is text sa s' := vk_R.warm hW0 hstr
  obtain ⟨U, hsteps, hrun, hend, hW, hsame, ce, hce, hO⟩ := X₁.ctorThrowS hexec htr (own := own) (cls := cls) (names := names) (ic := ic) hown' hcls hnames h (fun x hx => nomatch hx) hfX hkX hcellA (by rw [hhp, hT]; exact Nat.le_refl _) (msg := .ref sa) rfl
    (g := { method := m, pc := pc + 6, locals := ls, stack := .ref sa :: .ref T.heap.size :: .ref T.heap.size :: rest, locked := none }) rfl hsize rfl rfl (rest := rest) rfl
    (by rw [hb]; exact d6) (by rw [hb]; exact d9) hout hRframes (by simp only [List.map_cons, List.sum_cons, hcat]; omega) hlocks
  obtain ⟨f1, f2⟩ := vx_frame hsame
  rw [hhp] at f1 f2
  have hWs : s.WarmedH U.vm := State.WarmedH.trans hW0 hW
  have hcl : s.vm.findClass cls = some ce.cls := by
    have h9 := hO.cls
    rw [hvm] at h9
    exact h9
  have hall : s.sameButNew ({ U with vm := s.vm } : State) locs mc ms := by
    subst hA
    obtain ⟨e1, e2⟩ := hsame
    rw [State.setFrames_setFrames] at e1
    have h2 : (T.setVm s.vm).sameButNew ({ U with vm := s.vm } : State) [] (0 + 1) (0 + 6) := ⟨e1, e2⟩
    have h3 := X.same.trans h2
    rw [List.append_nil] at h3
    exact h3.mono hc hs
  refine ⟨U, ?_, .threw T.heap.size, hrun, hend, Or.inr ⟨T.heap.size, rfl, cls, ce, locs, hx U hWs.alike f1 (fun q hq => f2 q hq (fun z hz => nomatch hz)), hce, hO.vm, hcl, hWs, hall, hf⟩⟩
  refine st1 _ ?_
  show Steps p.tables e below (T1.setTop { method := m, pc := pc + 3, locals := ls, stack := .ref T.heap.size :: rest, locked := none }) _
  jvm_step X₁.here [X₁.here.top, hexec, d3', Value.category]
  exact X₁.ldcString hexec (own := own) (text := text) (index := is) (a := sa) hown' hstr'.1 hstr'.2
    (g := { method := m, pc := pc + 4, locals := ls, stack := .ref T.heap.size :: .ref T.heap.size :: rest, locked := none }) rfl d4' _ hsteps
/-- 'throw new E("text")', the text by a wide index -/
theorem vx_throwSW {cc : ByteArray} {pc : Nat} (hexec : p.tables.exec = Jvm.exec) (hb : c.code = cc) (hl : l.stackTraces = false) {own cls text : String} {names : List String} {ik is ic mc ms sa : Nat} {A : Nat → Prop}
    (hown : s.vm.findClass own = some m.cls) (hcls : Bundle.fit cls = true) (hnames : ∀ n ∈ names, Bundle.fit n = true)
    (hk : (Cond.classLink own ik cls).before args s = true) (hini : (Cond.initialized cls).before args s = true) (hstr : vk_R own is text sa s) (hat : ∀ w ∈ vx_atS own ic cls names, w.before args s = true)
    (hgood : ∀ w ∈ Cond.classLink own ik cls :: Cond.initialized cls :: vx_atS own ic cls names, vx_ot w = true)
    (hU : vx_Zq Bundle.tN "UNASSIGNED_STACK" Bundle.steD A s s.heap) (hN : vx_Zq Bundle.tN "SUPPRESSED_SENTINEL" Bundle.listD A s s.heap) (hS : va_S A s.heap H locs) (hsize : ls.size = c.maxLocals)
    (d0 : decode cc pc = .ok (.new ik, 3)) (d3 : decode cc (pc + 3) = .ok (.dup, 1)) (d4 : decode cc (pc + 4) = .ok (.ldc_w is, 3)) (d7 : decode cc (pc + 7) = .ok (.invokespecial ic, 3)) (d10 : decode cc (pc + 10) = .ok (.athrow, 1))
    (hout : ∀ x ∈ c.exceptionTable.toList, covers x (pc + 10) = false)
    (hRframes : names.length + 3 < R.frames) (hRlocals : (rest.map fun v => v.category).sum + (13 * (names.length + 1) + 43) ≤ R.locals) (hRcells : cells + 1 ≤ R.cells) (hRslots : slots + 6 ≤ R.slots) (hlocks : meth.locks = false)
    (hx : ∀ t : State, s.vm.Alike t.vm → H.size ≤ t.heap.size → (∀ q : Nat, q < H.size → t.heap[q]? = H[q]?) → XC cls s t)
    (hf : ∀ z ∈ locs, free z.base) (hc : cells + 1 ≤ mc) (hs : slots + 6 ≤ ms) :
    W p l e R s m args below meth c H locs cells slots (vx_MQ below Qc XC args s mc ms free) (F0 m pc ls rest) := by
  intro T hT X
  have htr : e.platform.stackTraces = false := (show e.platform.stackTraces = l.stackTraces by rw [X.admits.platform]).trans hl
  have Y := vx_rebase X (R' := { frames := R.frames, locals := R.locals, cells := 1, slots := 6 }) (Nat.le_refl _) (Nat.le_refl _) hRcells hRslots
  obtain ⟨s', hA⟩ : ∃ z, z = (T.setVm s.vm).setFrames (.invoking m args :: below) := ⟨_, rfl⟩
  rw [← hA] at Y
  have hvm : s'.vm = s.vm := by rw [hA]; rfl
  have hhp : s'.heap = H := by rw [hA]; exact hT
  have hW0 : s.WarmedH s'.vm := by rw [hvm]; exact State.WarmedH.refl s
  have hat' : ∀ w ∈ vx_atS own ic cls names, w.before args s' = true := fun w hw => vx_ot_at hW0 hvm.symm (hgood w (List.mem_cons_of_mem _ (List.mem_cons_of_mem _ hw))) (hat w hw)
  have hk' : (Cond.classLink own ik cls).before args s' = true := vx_ot_at hW0 hvm.symm (hgood _ List.mem_cons_self) hk
  have hini' : (Cond.initialized cls).before args s' = true := vx_ot_at hW0 hvm.symm (hgood _ (List.mem_cons_of_mem _ List.mem_cons_self)) hini
  have hU' : vx_Zq Bundle.tN "UNASSIGNED_STACK" Bundle.steD A s' s'.heap := by rw [hhp]; exact vx_Zq.moved hW0.alike (hU.kept hS.2.1)
  have hN' : vx_Zq Bundle.tN "SUPPRESSED_SENTINEL" Bundle.listD A s' s'.heap := by rw [hhp]; exact vx_Zq.moved hW0.alike (hN.kept hS.2.1)
  have h : ∀ w ∈ Bundle.ownAtoms own ic cls names, w.before args s' = true := vx_own hat' (vx_isRefq hU'.1) (vx_isRefq hN'.1) hU'.2.word hN'.2.word
  have hown' : s'.vm.findClass own = some m.cls := by rw [hvm]; exact hown
  have hins : (Cond.instantiable cls 6).before args s' = true := h _ (by simp [Bundle.ownAtoms])
  obtain ⟨vm₁, cX, kX, hfX, hkX, -, -, X₁, st1⟩ := Y.newCold hexec (own := own) (C := cls) (index := ik) (n := 6) hown' hk' hins hini'
    (g := F0 m pc ls rest) rfl (by rw [hb]; exact d0) (Nat.le_refl _) (Nat.le_refl _)
  generalize hT1 : (T.setVm vm₁).pushCell { cls := cX, slots := kX.instanceTypes.map defaultValue, vm := .none } = T1 at X₁ st1
  have hcat : (Value.ref T.heap.size).category = 1 := rfl
  have hcellA : T1.heap[T.heap.size]? = some (freshCell cX kX) := by rw [← hT1]; exact State.heap_pushCell_size _ _
  have d3' : decode c.code (pc + 3) = .ok (.dup, 1) := by rw [hb]; exact d3
  have d4' : decode c.code (pc + 4) = .ok (.ldc_w is, 3) := by rw [hb]; exact d4
  have hstr' : vk_R own is text sa s' := vk_R.warm hW0 hstr
  obtain ⟨U, hsteps, hrun, hend, hW, hsame, ce, hce, hO⟩ := X₁.ctorThrowS hexec htr (own := own) (cls := cls) (names := names) (ic := ic) hown' hcls hnames h (fun x hx => nomatch hx) hfX hkX hcellA (by rw [hhp, hT]; exact Nat.le_refl _) (msg := .ref sa) rfl
    (g := { method := m, pc := pc + 7, locals := ls, stack := .ref sa :: .ref T.heap.size :: .ref T.heap.size :: rest, locked := none }) rfl hsize rfl rfl (rest := rest) rfl
    (by rw [hb]; exact d7) (by rw [hb]; exact d10) hout hRframes (by simp only [List.map_cons, List.sum_cons, hcat]; omega) hlocks
  obtain ⟨f1, f2⟩ := vx_frame hsame
  rw [hhp] at f1 f2
  have hWs : s.WarmedH U.vm := State.WarmedH.trans hW0 hW
  have hcl : s.vm.findClass cls = some ce.cls := by
    have h9 := hO.cls
    rw [hvm] at h9
    exact h9
  have hall : s.sameButNew ({ U with vm := s.vm } : State) locs mc ms := by
    subst hA
    obtain ⟨e1, e2⟩ := hsame
    rw [State.setFrames_setFrames] at e1
    have h2 : (T.setVm s.vm).sameButNew ({ U with vm := s.vm } : State) [] (0 + 1) (0 + 6) := ⟨e1, e2⟩
    have h3 := X.same.trans h2
    rw [List.append_nil] at h3
    exact h3.mono hc hs
  refine ⟨U, ?_, .threw T.heap.size, hrun, hend, Or.inr ⟨T.heap.size, rfl, cls, ce, locs, hx U hWs.alike f1 (fun q hq => f2 q hq (fun z hz => nomatch hz)), hce, hO.vm, hcl, hWs, hall, hf⟩⟩
  refine st1 _ ?_
  show Steps p.tables e below (T1.setTop { method := m, pc := pc + 3, locals := ls, stack := .ref T.heap.size :: rest, locked := none }) _
  jvm_step X₁.here [X₁.here.top, hexec, d3', Value.category]
  exact X₁.ldcStringW hexec (own := own) (text := text) (index := is) (a := sa) hown' hstr'.1 hstr'.2
    (g := { method := m, pc := pc + 4, locals := ls, stack := .ref T.heap.size :: .ref T.heap.size :: rest, locked := none }) rfl d4' _ hsteps
end Ends
section Bodies
variable {l : Launch}
theorem vx_ofW {y : MethodName} {ws ws' : List Cond} {rm : Room} {Pc : Array Value → State → Prop} {Qc : Array Value → State → Outcome → State → Prop} {XC : String → State → State → Prop} {mc ms : Nat} {free : Addr → Prop} {cc : ByteArray} {maxL : Nat} {ret : Option FieldType}
    (hy : plainName y.cls = true) (hw : ws = Cond.code y cc maxL ret :: ws')
    (body : ∀ p e s m args below meth c s₁, BodyLoose p l y (headSpec ws rm) cc maxL ret e s m args below meth c s₁ → c.maxLocals = maxL → (∀ x ∈ c.exceptionTable.toList, False) → Pc args s →
      W p l e (headSpec ws rm).room s m args below meth c s.heap [] 0 0 (vx_MQ below Qc XC args s mc ms free) (entryFrame m args maxL)) : vx_Met l y ws rm Pc Qc XC mc ms free := by
  refine MetFree.of_bodyS (code := cc) (maxLocals := maxL) (ret := ret) hy ?_ ?_
  · intro args s m h hn
    obtain ⟨meth, c, h1, h2, h3, h4, h5, h6, -, -⟩ := Cond.code_spec hn (atoms_spec (ws := ws) h _ (by rw [hw]; exact List.mem_cons_self))
    exact ⟨meth, c, h1, h2, h3, h4, h5, h6⟩
  · intro p e s m args below meth c s₁ B hml hP _
    have hh0 : s₁.heap = s.heap := by rw [B.state]; rfl
    have ht : ∀ x ∈ c.exceptionTable.toList, False := by
      obtain ⟨meth9, c9, h1, h2, -, -, -, -, h7, -⟩ := Cond.code_spec B.named (atoms_spec (ws := ws) B.pre _ (by rw [hw]; exact List.mem_cons_self))
      cases Option.some.inj (h1.symm.trans B.method)
      cases Option.some.inj (h2.symm.trans (Stand.of_body B).code)
      intro x hx
      rw [Array.isEmpty_iff.mp h7] at hx
      cases hx
    obtain ⟨t, a1, o, b1, b2, b3⟩ := body p e s m args below meth c s₁ B hml ht hP s₁ hh0 (Stand.of_body B)
    exact ⟨t, o, a1, b1, b2, b3⟩
/-- the table of a body with handlers -/
theorem vx_table {p : Program} {x y : MethodName} {S : Spec} {cc bytes : ByteArray} {maxL maxL' : Nat} {ret ret' : Option FieldType} {e : Env} {s s₁ : State} {m : MethodId} {args : Array Value} {below : List Frame} {meth : Method} {c : Code} {hh : List (Nat × Nat × Nat × Nat)}
    (B : BodyLoose p l y S cc maxL ret e s m args below meth c s₁) (h : (Cond.codeWith y bytes maxL' ret' hh).before args s = true) : c.exceptionTable.toList = tableOf hh := by
  obtain ⟨m9, meth9, c9, hn9, h1, h2, -, -, h6, -⟩ := Cond.codeWith_spec h
  cases Option.some.inj (hn9.symm.trans B.named)
  cases Option.some.inj (h1.symm.trans B.method)
  cases Option.some.inj (h2.symm.trans (Stand.of_body B).code)
  rw [← h6, table_eq]
end Bodies
end VXA
/-! ===== END ===== -/
/-! ===== BEGIN a static call of a method with an exception table ===== -/
section VXS
variable {p : Program} {l : Launch} {e : Env} {R : Room} {s : State} {m : MethodId} {args : Array Value} {below : List Frame} {meth : Method} {c : Code} {T : State} {H : Heap} {locs : List Loc} {cells slots : Nat}
abbrev vx_CSW (R : Room) (s : State) (args : Array Value) (own : String) (index : Nat) (y : MethodName) (bytes : ByteArray) (maxL : Nat) (ret : Option FieldType) (hh : List (Nat × Nat × Nat × Nat)) (ws : List Cond) (rm : Room) (mc ms n : Nat) : Prop :=
  (rm.cells = mc ∧ rm.slots = ms ∧ rm.frames + 1 ≤ R.frames ∧ 8 + (maxL + 11) + rm.locals ≤ R.locals ∧ (∀ w ∈ ws, ∀ (a' : Array Value) (U : State), s.WarmedH U.vm → w.before a' U = true) ∧ Cond.codeWith y bytes maxL ret hh ∈ ws) ∧
  (Cond.codeWith y bytes maxL ret hh).before args s = true ∧ (Cond.initialized y.cls).before args s = true ∧ (y.cls ≠ "java/lang/invoke/MethodHandle" ∧ y.cls ≠ "java/lang/invoke/VarHandle") ∧
  (∀ sig, parseMethodDescriptor y.desc = some sig → n = sig.parameters.length) ∧ (Cond.methodLink own index y).before args s = true ∧ (Cond.static y).before args s = true
theorem vx_cwSW {own : String} {index maxL mc ms : Nat} {y : MethodName} {bytes : ByteArray} {ret : Option FieldType} {hh : List (Nat × Nat × Nat × Nat)} {Ts ws ws' : List Cond} {rm : Room} (n : Nat) (ht : ∀ w ∈ Ts, w.before args s = true) (hT : GoodIn Ts (va_wsS own index y ws)) (hw : ws = Cond.codeWith y bytes maxL ret hh :: ws') (hrc : rm.cells = mc) (hrs : rm.slots = ms)
    (hd : y.cls ≠ "java/lang/invoke/MethodHandle" ∧ y.cls ≠ "java/lang/invoke/VarHandle" ∧ (parseMethodDescriptor y.desc).map (fun d => d.parameters.length) = some n) (hR : rm.frames + 1 ≤ R.frames ∧ 8 + (maxL + 11) + rm.locals ≤ R.locals) :
    vx_CSW R s args own index y bytes maxL ret hh ws rm mc ms n := by
  have ok : ∀ w ∈ va_wsS own index y ws, w.before args s = true := fun w h => ht w (hT w h).1
  have hG : GoodIn Ts ws := fun w h => hT w (by unfold va_wsS; exact List.mem_append_right _ h)
  have hc : Cond.codeWith y bytes maxL ret hh ∈ ws := by rw [hw]; exact List.mem_cons_self
  refine ⟨⟨hrc, hrs, hR.1, hR.2, pay_in ht hG, hc⟩, ht _ (hG _ hc).1, ok _ (by simp [va_wsS]), ⟨hd.1, hd.2.1⟩, fun sig h => ?_, ok _ (by simp [va_wsS]), ok _ (by simp [va_wsS])⟩
  have h2 := hd.2.2
  rw [h] at h2
  exact (Option.some.inj h2).symm
theorem vx_callSW (X : Stand p l e R s m args below meth c T locs cells slots) (hexec : p.tables.exec = Jvm.exec) {own : String} {index : Nat} {y : MethodName} {bytes : ByteArray} {maxL : Nat} {ret : Option FieldType} {hh : List (Nat × Nat × Nat × Nat)}
    (hown : s.vm.findClass own = some m.cls) (hlink : (Cond.methodLink own index y).before args s = true) (hstat : (Cond.static y).before args s = true) (hinit : (Cond.initialized y.cls).before args s = true)
    (hcode : (Cond.codeWith y bytes maxL ret hh).before args s = true) (hy : y.cls ≠ "java/lang/invoke/MethodHandle" ∧ y.cls ≠ "java/lang/invoke/VarHandle")
    {W9 : Nat} {Pre : Pt → Array Value → Prop} {Post : Pt → Array Value → Option Value → Pt → Prop} (hK : Back l R p e below s args y 3 W9 Pre Post)
    {g : JFrame} (hg : g.method = m) (hsize : g.locals.size = c.maxLocals) {argsL rest : List Value} (hlen : ∀ sig, parseMethodDescriptor y.desc = some sig → argsL.length = sig.parameters.length)
    (hstack : g.stack = argsL.reverse ++ rest) (hW : 2 * g.monitorRoom + (rest.map fun v => v.category).sum ≤ W9) (hdg : decode c.code g.pc = .ok (.invokestatic index, 3))
    (hpre : ∀ vm₁, s.WarmedH vm₁ → Pre ⟨T.setVm vm₁, locs, cells, slots⟩ argsL.toArray) :
    ∃ (v : Option Value) (vm₁ : Vm) (B : Pt), s.WarmedH vm₁ ∧ Stand p l e R s m args below meth c B.U B.locs B.cells B.slots ∧ Post ⟨T.setVm vm₁, locs, cells, slots⟩ argsL.toArray v B ∧
      ∀ target, Steps p.tables e below (B.U.setTop { g with pc := g.pc + 3, stack := v.toList ++ rest }) target → Steps p.tables e below (T.setTop g) target := by
  obtain ⟨mk, methM, cM, hnamed, hmethM, -, -, -, -, -, -, hsigM⟩ := Cond.codeWith_spec hcode
  have hstatic : methM.isStatic = true := Cond.static_spec hnamed hmethM hstat
  obtain ⟨kP, hkP, -⟩ := className_of_methodNamed hnamed
  have hinitP : kP.init = .initialized := Cond.initialized_spec (findClass_of_methodNamed hnamed) hkP hinit
  obtain ⟨vm₁, X₁, hstep₁⟩ := X.invokestatic hexec hown hlink hnamed hmethM hstatic hkP hinitP hy (g := g) hg (argsL := argsL) (rest := rest) (hlen _ hsigM) hstack hdg
  obtain ⟨v, B, X', hpost, hsteps⟩ := hK m meth c ⟨T.setVm vm₁, locs, cells, slots⟩ { g with stack := rest } (.invokestatic index) mk argsL.toArray X₁ hg hsize hdg hW (X₁.named hnamed) (hpre vm₁ X₁.warmed)
  exact ⟨v, vm₁, B, X₁.warmed, X', hpost, fun target h => hstep₁ _ fun acts => by rw [doInvoke_state]; exact hsteps.trans h⟩
theorem vx_runSW {y : MethodName} {bytes cc : ByteArray} {maxL nL mc ms n index : Nat} {ret : Option FieldType} {hh : List (Nat × Nat × Nat × Nat)} {ws : List Cond} {rm : Room} {Pc : Array Value → State → Prop} {Qc : Array Value → State → Outcome → State → Prop} {free : Addr → Prop} {Ts : List Cond} {own : String} {As rest : List Value} {g : JFrame}
    (S : CallFix p m c cc nL s args Ts own) (hM : Met l y ws rm Pc Qc mc ms free) (cw : vx_CSW R s args own index y bytes maxL ret hh ws rm mc ms n) (hp : PreS s H Pc As)
    (hg : g.method = m) (hn : As.length = n) (hsize : g.locals.size = nL) (hstack : g.stack = As.reverse ++ rest) (hW : 2 * g.monitorRoom + (rest.map fun v => v.category).sum ≤ 8) (hdg : decode cc g.pc = .ok (.invokestatic index, 3)) (hf : cells + mc ≤ R.cells ∧ slots + ms ≤ R.slots) :
    va_Run p l e R s m args below meth c H locs cells slots mc ms g rest (Qc As.toArray) (free) := by
  obtain ⟨⟨hrc, hrs, hfr, hlo, hws, hcw⟩, hcode, hini, hy, hlen, hl, hstt⟩ := cw
  have hK : Back l R p e below s args y 3 8 (PreOf R mc ms Pc) (PostOf Qc mc ms free) := va_backW (hh := hh) (bytes := bytes) (maxL := maxL) (ret := ret) hM hp.1 hrc hrs hfr hlo hws hcw (fun a' U hW => word_at hW (Or.inl (by first | rfl | simp [Cond.onTables, Cond.keeps, Cond.steady])) hini)
  obtain ⟨hx, hb, hml, ho, -⟩ := S
  intro T hT X
  obtain ⟨v, vm₁, ⟨U', l2, c2, s2⟩, hW₁, X', ⟨g', mk, t, L, e1, e2, hq, h1, hL, h2, h3⟩, st⟩ := vx_callSW X hx (hh := hh) (bytes := bytes) (maxL := maxL) (ret := ret) ho hl hstt hini hcode hy hK hg (hsize.trans hml.symm) (argsL := As) (rest := rest) (fun sig h => hn.trans (hlen sig h)) hstack hW (by rw [hb]; exact hdg)
    (fun vm₁ hW₁ => ⟨hf.1, hf.2, hp.2 (T.setVm vm₁) hT hW₁⟩)
  dsimp only [Pt.U, Pt.locs, Pt.cells, Pt.slots] at X' e1 e2 h1 h2 h3 st
  subst h1; subst h2; subst h3
  exact ⟨v, (T.setVm vm₁).calling g' mk As.toArray, t, U', L, hT, X', hL, e1, e2, hq, st⟩
/-- not caught here, past rows that name other classes: it goes on to the caller -/
theorem vx_outP {p : Program} {l : Launch} {e : Env} {R : Room} {s : State} {m : MethodId} {args : Array Value} {below : List Frame} {meth : Method} {c : Code} {H : Heap} {locs : List Loc} {cells slots : Nat} {free : Addr → Prop} {ls : Array Slot} {rest : List Value} {Qc : Array Value → State → Outcome → State → Prop} {XC : String → State → State → Prop}
    {pc : Nat} {own E : String} {ce : Cell} {q : Addr} {mc ms : Nat} (hown : s.vm.findClass own = some m.cls) (hlocks : meth.locks = false)
    (hpass : ∀ z ∈ c.exceptionTable.toList, covers z pc = false ∨ (z.catchType ≠ 0 ∧ ∃ nm : String, (Cond.classLink own z.catchType nm).before args s = true ∧ va_Nc E nm s)) (hcell : H[q]? = some ce) (hv : ce.vm = .none) (hcl : s.vm.findClass E = some ce.cls)
    (hx : ∀ t : State, t.heap = H → s.vm.Alike t.vm → XC E s t) (hf : ∀ z ∈ locs, free z.base) (hc : cells ≤ mc) (hs : slots ≤ ms) :
    vx_W p l e R s m args below meth c H locs cells slots (vx_MQ below Qc XC args s mc ms free) (F0 m pc ls rest) q := by
  intro T hT X
  have hpl : e.platform.magicAccessors = ({} : Platform).magicAccessors := by rw [X.admits.platform]
  obtain ⟨vm', hW', X', st⟩ := X.outThrough hlocks q (g := F0 m pc ls rest) rfl rfl rfl (cell := ce) (by rw [hT]; exact hcell) (by rw [hv]; rfl)
    (by obtain ⟨k9, h9, -⟩ := Vm.findClass_spec hcl; exact ⟨k9, h9⟩) (fun z hz => by
      rcases hpass z hz with h | ⟨hz0, nm, hl1, hn1⟩
      · exact Or.inl h
      · obtain ⟨c6, hc6, hcl6⟩ := Cond.classLink_spec hown hl1 e.platform hpl
        obtain ⟨a8, b8, h1, h2, h3⟩ := hn1
        cases Option.some.inj (h1.symm.trans hcl)
        cases Option.some.inj (h2.symm.trans hc6)
        exact Or.inr ⟨hz0, _, hcl6, h3⟩)
  obtain ⟨g₀, hfr⟩ := X'.frames_eq
  have hcell9 : ((T.setVm vm').setFrames (.throwing q :: below)).heap[q]? = some ce := by
    show T.heap[q]? = some ce
    rw [hT]; exact hcell
  have hend : Ended ((T.setVm vm').setFrames (.throwing q :: below)) below (.threw q) := State.frames_setFrames _ (State.cur_lt_of_frames hfr)
  refine ⟨(T.setVm vm').setFrames (.throwing q :: below), ?_, .threw q, X'.here.running, hend, Or.inr ⟨q, rfl, E, ce, locs, hx _ hT (X'.ends _).1.alike, hcell9, hv, hcl, (X'.ends _).1, (X'.ends _).2.mono hc hs, hf⟩⟩
  rw [X.pushThrowing_eq]
  exact st
/-- a thing of a world lies in the heap -/
theorem vx_lt {D : va_G} {cl : List vw_C} {ws : va_W} {H1 : Heap} (h : va_P D cl ws H1) {k : Nat} {q : Nat × va_E} (hk : ws[k]? = some q) : q.1 < H1.size := (h k q hk).lt
end VXS
/-! ===== END ===== -/
/-! ===== BEGIN methods with a table of their own: called by a name, returning or throwing ===== -/
section VXH
/-! vx_backW, vx_callVX, vx_callSX, vx_callVW, vx_runVW, vx_runVX, vx_runSX, vx_ofWH follow the same proofs as their sisters above (Free/Laws.lean, Shelf42/LK1.lean); vx_outP calls Shelf42/NT130.lean (outThrough). -/
section
variable {l : Launch} {R : Room} {p : Program} {e : Env} {below : List Frame} {s : State} {sargs : Array Value} {y : MethodName} {len W9 : Nat}
theorem vx_backW {ws : List Cond} {rm : Room} {Pc : Array Value → State → Prop} {Qc : Array Value → State → Outcome → State → Prop} {XC : String → State → State → Prop} {mc ms : Nat} {free : Addr → Prop} {bytes : ByteArray} {maxL : Nat} {ret : Option FieldType} {hh : List (Nat × Nat × Nat × Nat)}
    (hM : vx_Met l y ws rm Pc Qc XC mc ms free) (hblind : FrameBlind Pc) (hrc : rm.cells = mc) (hrs : rm.slots = ms)
    (hframes : rm.frames + 1 ≤ R.frames) (hlocals : W9 + (maxL + 11) + rm.locals ≤ R.locals)
    (hws : ∀ w ∈ ws, ∀ a' U, s.WarmedH U.vm → w.before a' U = true) (hcode : Cond.codeWith y bytes maxL ret hh ∈ ws) (hinit : ∀ a' U, s.WarmedH U.vm → (Cond.initialized y.cls).before a' U = true) :
    vx_Back l R p e below s sargs y len W9 (PreOf R mc ms Pc) (PostOf Qc mc ms free) (vx_Post XC mc ms free) := by
  intro m meth c A g ig mk a X hg hsize hdg hW hn hp
  have h1 : (headSpec ws rm).pre.before a A.U = true := atoms_intro fun w hw => hws w hw _ _ X.warmed
  have h2 : (Cond.codeWith y bytes maxL ret hh).before a A.U = true := hws _ hcode _ _ X.warmed
  have h3 : (Cond.initialized y.cls).before a A.U = true := hinit _ _ X.warmed
  have h4 : A.cells + (headSpec ws rm).room.cells ≤ R.cells := by rw [show (headSpec ws rm).room.cells = mc from hrc]; exact hp.1
  have h5 : A.slots + (headSpec ws rm).room.slots ≤ R.slots := by rw [show (headSpec ws rm).room.slots = ms from hrs]; exact hp.2.1
  have hPc : Pc a (A.U.calling g mk a) := hblind _ _ _ _ hp.2.2
  obtain ⟨U, Ls, c0, s0⟩ := A
  dsimp only [Pt.U, Pt.locs, Pt.cells, Pt.slots] at h1 h2 h3 h4 h5 X hn hPc ⊢
  obtain ⟨m9, methY, cY, hn9, hmY, hcY, -, hlY, -⟩ := Cond.codeWith_spec h2
  cases Option.some.inj (hn9.symm.trans hn)
  obtain ⟨kY, hkY, -⟩ := className_of_methodNamed hn
  have hinitY : kY.init = .initialized := Cond.initialized_spec (findClass_of_methodNamed hn) hkY h3
  have h : At U g.method c below := by rw [hg]; exact X.here
  have hlocals9 : W9 + (maxL + 11) + (headSpec ws rm).room.locals ≤ R.locals := hlocals
  have happ : (headSpec ws rm).appliesLoose y e.platform (U.calling g mk a) = true :=
    Spec.appliesLoose_calling (g := g) h hdg hn hkY hinitY
      (X.room_calling (g := g) (R' := (headSpec ws rm).room) hsize hmY hcY hframes (by rw [hlY]; omega) h4 h5) h1
  obtain ⟨mid, hmid⟩ := h.above
  have hfr : (U.setTop g).frames = (.java g :: mid) ++ below := by rw [State.frames_setTop' g h.top, hmid]; rfl
  obtain ⟨o, s₂, hsteps, -, hend, hq⟩ := Steps.callFree hM p X.admits X.cas X.clock (acts := []) hfr happ hPc trivial
  have hq' : vx_Q Qc XC mc ms free a (U.calling g mk a) o s₂ := hq
  rw [State.frames_setTop' g h.top] at hend
  obtain ⟨g₀, hg0⟩ := Option.isSome_iff_exists.mp h.top
  obtain ⟨r, hr⟩ := State.topJava?_eq_some.mp hg0
  have hr' : (({ U with heap := s₂.heap, slotsUsed := s₂.slotsUsed } : State).setVm s₂.vm).frames = .java g₀ :: r := hr
  rcases hq' with ⟨hqc, L, hfe, hL⟩ | ⟨q, rfl, E, ce, L, hx, hce, hcv, hcl, hW₂, hsm, hL⟩
  · obtain ⟨⟨v, rfl⟩, hW₂, e2, q2, q3, q4, q5, q6⟩ := id hfe
    have e3 : s₂ = ({ (U.calling g mk a).setFrames s₂.frames with heap := s₂.heap, slotsUsed := s₂.slotsUsed } : State).setVm s₂.vm := by
      have : s₂ = ({ s₂ with vm := (U.calling g mk a).vm } : State).setVm s₂.vm := rfl
      rw [e2] at this
      exact this
    obtain ⟨c₂, i₂, len₂, hc₂, hd₂, hf₂⟩ := hend
    have hW' : U.WarmedH s₂.vm := hW₂
    have hcc : c₂ = c := by
      have h1 : s₂.code? g.method = U.code? g.method := by
        rw [State.code?_eq, State.code?_eq, hW'.alike.method?]
      exact Option.some.inj (hc₂.symm.trans (h1.trans h.code))
    subst hcc
    have hlen : len₂ = len := by rw [hdg] at hd₂; cases hd₂; rfl
    subst hlen
    have hs₂ : s₂ = (({ U with heap := s₂.heap, slotsUsed := s₂.slotsUsed } : State).setVm s₂.vm).setTop { g with pc := g.pc + len₂, stack := v.toList ++ g.stack } := by
      refine e3.trans ?_
      rw [hf₂, State.calling_eq h.top, State.setFrames_setFrames, State.setTop_of_frames _ hr', hr]
      rfl
    have hsame : U.sameButNew ({ U with heap := s₂.heap, slotsUsed := s₂.slotsUsed } : State) L mc ms := by
      refine ⟨?_, q2, q3, q4, q5, q6⟩
      obtain ⟨t, ht, -⟩ := State.frames_cons hr
      show ({ U with heap := s₂.heap, slotsUsed := s₂.slotsUsed } : State) = { U.setFrames U.frames with heap := s₂.heap, slotsUsed := s₂.slotsUsed }
      rw [State.setFrames_self ht]
    subst hg
    refine Or.inl ⟨v, ⟨(({ U with heap := s₂.heap, slotsUsed := s₂.slotsUsed } : State).setVm s₂.vm), Ls ++ L, c0 + mc, s0 + ms⟩,
      ⟨X.admits, X.cas, X.clock, X.frames, X.room, X.hears, X.method, X.code, (X.here.setHeapUsed s₂.heap s₂.slotsUsed).setVm hW'.alike, X.tail, State.WarmedH.trans X.warmed hW', X.limits, X.bytes, X.same.trans (hsame.setVm s.vm)⟩,
      ⟨g, mk, s₂, L, rfl, rfl, hqc, rfl, hL, rfl, rfl⟩, ?_⟩
    show Steps p.tables e below _ ((({ U with heap := s₂.heap, slotsUsed := s₂.slotsUsed } : State).setVm s₂.vm).setTop { g with pc := g.pc + len₂, stack := v.toList ++ g.stack })
    rw [← hs₂]
    exact hsteps
  · obtain ⟨e2, q2, q3, q4, q5, q6⟩ := id hsm
    have e3 : s₂ = ({ (U.calling g mk a).setFrames s₂.frames with heap := s₂.heap, slotsUsed := s₂.slotsUsed } : State).setVm s₂.vm := by
      have : s₂ = ({ s₂ with vm := (U.calling g mk a).vm } : State).setVm s₂.vm := rfl
      rw [e2] at this
      exact this
    have hf₂ : s₂.frames = .throwing q :: .java g :: U.frames.tail := hend
    have hW' : U.WarmedH s₂.vm := hW₂
    have hs₂ : s₂ = ((({ U with heap := s₂.heap, slotsUsed := s₂.slotsUsed } : State).setVm s₂.vm).setTop g).pushFrame (.throwing q) := by
      refine e3.trans ?_
      rw [hf₂, State.calling_eq h.top, State.setFrames_setFrames, State.pushFrame, State.frames_setTop _ hr', State.setTop_of_frames _ hr', State.setFrames_setFrames, hr]
      rfl
    have hsame : U.sameButNew ({ U with heap := s₂.heap, slotsUsed := s₂.slotsUsed } : State) L mc ms := by
      refine ⟨?_, q2, q3, q4, q5, q6⟩
      obtain ⟨t, ht, -⟩ := State.frames_cons hr
      show ({ U with heap := s₂.heap, slotsUsed := s₂.slotsUsed } : State) = { U.setFrames U.frames with heap := s₂.heap, slotsUsed := s₂.slotsUsed }
      rw [State.setFrames_self ht]
    subst hg
    refine Or.inr ⟨q, ⟨(({ U with heap := s₂.heap, slotsUsed := s₂.slotsUsed } : State).setVm s₂.vm), Ls ++ L, c0 + mc, s0 + ms⟩,
      ⟨X.admits, X.cas, X.clock, X.frames, X.room, X.hears, X.method, X.code, (X.here.setHeapUsed s₂.heap s₂.slotsUsed).setVm hW'.alike, X.tail, State.WarmedH.trans X.warmed hW', X.limits, X.bytes, X.same.trans (hsame.setVm s.vm)⟩,
      ⟨g, mk, s₂, L, E, ce, rfl, rfl, hx, hce, hcv, hcl, rfl, hL, rfl, rfl⟩, ?_⟩
    show Steps p.tables e below _ (((({ U with heap := s₂.heap, slotsUsed := s₂.slotsUsed } : State).setVm s₂.vm).setTop g).pushFrame (.throwing q))
    rw [← hs₂]
    exact hsteps
end
variable {p : Program} {l : Launch} {e : Env} {R : Room} {s : State} {m : MethodId} {args : Array Value} {below : List Frame} {meth : Method} {c : Code} {T : State} {H : Heap} {locs : List Loc} {cells slots : Nat}
theorem vx_callVX (X : Stand p l e R s m args below meth c T locs cells slots) (hexec : p.tables.exec = Jvm.exec) {own C : String} {index : Nat} {y : MethodName} {bytes : ByteArray} {maxL : Nat} {ret : Option FieldType} {hh : List (Nat × Nat × Nat × Nat)}
    (hown : s.vm.findClass own = some m.cls) (hlink : (Cond.methodLink own index y).before args s = true) (hinst : (Cond.instanceMethod y).before args s = true) (hsel : (Cond.selects C y y).before args s = true)
    (hcode : (Cond.codeWith y bytes maxL ret hh).before args s = true) (hy : y.cls ≠ "java/lang/invoke/MethodHandle" ∧ y.cls ≠ "java/lang/invoke/VarHandle")
    {W9 : Nat} {Pre : Pt → Array Value → Prop} {Post : Pt → Array Value → Option Value → Pt → Prop} {PostX : Pt → Array Value → Addr → Pt → Prop} (hK : vx_Back l R p e below s args y 3 W9 Pre Post PostX)
    {b : Addr} {cellB : Cell} (hcell : T.heap[b]? = some cellB) (hobj : cellB.vm.isStatics = false) (hcls : s.vm.findClass C = some cellB.cls)
    {g : JFrame} (hg : g.method = m) (hsize : g.locals.size = c.maxLocals) {argsL rest : List Value} (hlen : ∀ sig, parseMethodDescriptor y.desc = some sig → argsL.length = sig.parameters.length)
    (hstack : g.stack = argsL.reverse ++ .ref b :: rest) (hW : 2 * g.monitorRoom + (rest.map fun v => v.category).sum ≤ W9) (hdg : decode c.code g.pc = .ok (.invokevirtual index, 3))
    (hpre : ∀ vm₁, s.WarmedH vm₁ → Pre ⟨T.setVm vm₁, locs, cells, slots⟩ (Value.ref b :: argsL).toArray) :
    (∃ (v : Option Value) (vm₁ : Vm) (B : Pt), s.WarmedH vm₁ ∧ Stand p l e R s m args below meth c B.U B.locs B.cells B.slots ∧ Post ⟨T.setVm vm₁, locs, cells, slots⟩ (Value.ref b :: argsL).toArray v B ∧
      ∀ target, Steps p.tables e below (B.U.setTop { g with pc := g.pc + 3, stack := v.toList ++ rest }) target → Steps p.tables e below (T.setTop g) target) ∨
    (∃ (q : Addr) (vm₁ : Vm) (B : Pt), s.WarmedH vm₁ ∧ Stand p l e R s m args below meth c B.U B.locs B.cells B.slots ∧ PostX ⟨T.setVm vm₁, locs, cells, slots⟩ (Value.ref b :: argsL).toArray q B ∧
      Steps p.tables e below (T.setTop g) ((B.U.setTop { g with stack := rest }).pushFrame (.throwing q))) := by
  obtain ⟨mk, methM, hnamed, hmethM, hstM, habM⟩ := Cond.instanceMethod_spec hinst
  obtain ⟨m8, methM', cM, hn8, hmethM', -, -, -, -, -, -, hsigM⟩ := Cond.codeWith_spec hcode
  cases Option.some.inj (hn8.symm.trans hnamed)
  cases hmethM.symm.trans hmethM'
  obtain ⟨c2, r2, m2, q1, q2, q3, q4, kP, hkP, hkPi⟩ := Cond.selects_spec hsel
  cases hcls.symm.trans q1
  cases (State.methodFound?_of_named hnamed hy).symm.trans q2
  cases hnamed.symm.trans q3
  have hselP : selectMethod e.platform s.vm cellB.cls mk = .method mk := by rw [Launch.admits_selectMethod X.admits]; exact q4
  obtain ⟨vm₁, X₁, hstep₁⟩ := X.invokevirtual hexec hown hlink hnamed hmethM hstM hkP hkPi hy (a := b) (cell := cellB) hcell
    (fun z h => by rw [h] at hobj; cases hobj) hselP hmethM habM hkP hkPi (g := g) hg (argsL := argsL) (rest := rest) (hlen _ hsigM) hstack hdg
  rcases hK m meth c ⟨T.setVm vm₁, locs, cells, slots⟩ { g with stack := rest } (.invokevirtual index) mk (Value.ref b :: argsL).toArray X₁ hg hsize hdg hW (X₁.named hnamed) (hpre vm₁ X₁.warmed) with ⟨v, B, X', hpost, hsteps⟩ | ⟨q, B, X', hpost, hsteps⟩
  · exact Or.inl ⟨v, vm₁, B, X₁.warmed, X', hpost, fun target h => hstep₁ _ fun acts => by rw [doInvoke_state]; exact hsteps.trans h⟩
  · exact Or.inr ⟨q, vm₁, B, X₁.warmed, X', hpost, hstep₁ _ fun acts => by rw [doInvoke_state]; exact hsteps⟩
theorem vx_callSX (X : Stand p l e R s m args below meth c T locs cells slots) (hexec : p.tables.exec = Jvm.exec) {own : String} {index : Nat} {y : MethodName} {bytes : ByteArray} {maxL : Nat} {ret : Option FieldType} {hh : List (Nat × Nat × Nat × Nat)}
    (hown : s.vm.findClass own = some m.cls) (hlink : (Cond.methodLink own index y).before args s = true) (hstat : (Cond.static y).before args s = true) (hinit : (Cond.initialized y.cls).before args s = true)
    (hcode : (Cond.codeWith y bytes maxL ret hh).before args s = true) (hy : y.cls ≠ "java/lang/invoke/MethodHandle" ∧ y.cls ≠ "java/lang/invoke/VarHandle")
    {W9 : Nat} {Pre : Pt → Array Value → Prop} {Post : Pt → Array Value → Option Value → Pt → Prop} {PostX : Pt → Array Value → Addr → Pt → Prop} (hK : vx_Back l R p e below s args y 3 W9 Pre Post PostX)
    {g : JFrame} (hg : g.method = m) (hsize : g.locals.size = c.maxLocals) {argsL rest : List Value} (hlen : ∀ sig, parseMethodDescriptor y.desc = some sig → argsL.length = sig.parameters.length)
    (hstack : g.stack = argsL.reverse ++ rest) (hW : 2 * g.monitorRoom + (rest.map fun v => v.category).sum ≤ W9) (hdg : decode c.code g.pc = .ok (.invokestatic index, 3))
    (hpre : ∀ vm₁, s.WarmedH vm₁ → Pre ⟨T.setVm vm₁, locs, cells, slots⟩ argsL.toArray) :
    (∃ (v : Option Value) (vm₁ : Vm) (B : Pt), s.WarmedH vm₁ ∧ Stand p l e R s m args below meth c B.U B.locs B.cells B.slots ∧ Post ⟨T.setVm vm₁, locs, cells, slots⟩ argsL.toArray v B ∧
      ∀ target, Steps p.tables e below (B.U.setTop { g with pc := g.pc + 3, stack := v.toList ++ rest }) target → Steps p.tables e below (T.setTop g) target) ∨
    (∃ (q : Addr) (vm₁ : Vm) (B : Pt), s.WarmedH vm₁ ∧ Stand p l e R s m args below meth c B.U B.locs B.cells B.slots ∧ PostX ⟨T.setVm vm₁, locs, cells, slots⟩ argsL.toArray q B ∧
      Steps p.tables e below (T.setTop g) ((B.U.setTop { g with stack := rest }).pushFrame (.throwing q))) := by
  obtain ⟨mk, methM, cM, hnamed, hmethM, -, -, -, -, -, -, hsigM⟩ := Cond.codeWith_spec hcode
  have hstatic : methM.isStatic = true := Cond.static_spec hnamed hmethM hstat
  obtain ⟨kP, hkP, -⟩ := className_of_methodNamed hnamed
  have hinitP : kP.init = .initialized := Cond.initialized_spec (findClass_of_methodNamed hnamed) hkP hinit
  obtain ⟨vm₁, X₁, hstep₁⟩ := X.invokestatic hexec hown hlink hnamed hmethM hstatic hkP hinitP hy (g := g) hg (argsL := argsL) (rest := rest) (hlen _ hsigM) hstack hdg
  rcases hK m meth c ⟨T.setVm vm₁, locs, cells, slots⟩ { g with stack := rest } (.invokestatic index) mk argsL.toArray X₁ hg hsize hdg hW (X₁.named hnamed) (hpre vm₁ X₁.warmed) with ⟨v, B, X', hpost, hsteps⟩ | ⟨q, B, X', hpost, hsteps⟩
  · exact Or.inl ⟨v, vm₁, B, X₁.warmed, X', hpost, fun target h => hstep₁ _ fun acts => by rw [doInvoke_state]; exact hsteps.trans h⟩
  · exact Or.inr ⟨q, vm₁, B, X₁.warmed, X', hpost, hstep₁ _ fun acts => by rw [doInvoke_state]; exact hsteps⟩
theorem vx_callVW (X : Stand p l e R s m args below meth c T locs cells slots) (hexec : p.tables.exec = Jvm.exec) {own C : String} {index : Nat} {y : MethodName} {bytes : ByteArray} {maxL : Nat} {ret : Option FieldType} {hh : List (Nat × Nat × Nat × Nat)}
    (hown : s.vm.findClass own = some m.cls) (hlink : (Cond.methodLink own index y).before args s = true) (hinst : (Cond.instanceMethod y).before args s = true) (hsel : (Cond.selects C y y).before args s = true)
    (hcode : (Cond.codeWith y bytes maxL ret hh).before args s = true) (hy : y.cls ≠ "java/lang/invoke/MethodHandle" ∧ y.cls ≠ "java/lang/invoke/VarHandle")
    {W9 : Nat} {Pre : Pt → Array Value → Prop} {Post : Pt → Array Value → Option Value → Pt → Prop} (hK : Back l R p e below s args y 3 W9 Pre Post)
    {b : Addr} {cellB : Cell} (hcell : T.heap[b]? = some cellB) (hobj : cellB.vm.isStatics = false) (hcls : s.vm.findClass C = some cellB.cls)
    {g : JFrame} (hg : g.method = m) (hsize : g.locals.size = c.maxLocals) {argsL rest : List Value} (hlen : ∀ sig, parseMethodDescriptor y.desc = some sig → argsL.length = sig.parameters.length)
    (hstack : g.stack = argsL.reverse ++ .ref b :: rest) (hW : 2 * g.monitorRoom + (rest.map fun v => v.category).sum ≤ W9) (hdg : decode c.code g.pc = .ok (.invokevirtual index, 3))
    (hpre : ∀ vm₁, s.WarmedH vm₁ → Pre ⟨T.setVm vm₁, locs, cells, slots⟩ (Value.ref b :: argsL).toArray) :
    ∃ (v : Option Value) (vm₁ : Vm) (B : Pt), s.WarmedH vm₁ ∧ Stand p l e R s m args below meth c B.U B.locs B.cells B.slots ∧ Post ⟨T.setVm vm₁, locs, cells, slots⟩ (Value.ref b :: argsL).toArray v B ∧
      ∀ target, Steps p.tables e below (B.U.setTop { g with pc := g.pc + 3, stack := v.toList ++ rest }) target → Steps p.tables e below (T.setTop g) target := by
  obtain ⟨mk, methM, hnamed, hmethM, hstM, habM⟩ := Cond.instanceMethod_spec hinst
  obtain ⟨m8, methM', cM, hn8, hmethM', -, -, -, -, -, -, hsigM⟩ := Cond.codeWith_spec hcode
  cases Option.some.inj (hn8.symm.trans hnamed)
  cases hmethM.symm.trans hmethM'
  obtain ⟨c2, r2, m2, q1, q2, q3, q4, kP, hkP, hkPi⟩ := Cond.selects_spec hsel
  cases hcls.symm.trans q1
  cases (State.methodFound?_of_named hnamed hy).symm.trans q2
  cases hnamed.symm.trans q3
  have hselP : selectMethod e.platform s.vm cellB.cls mk = .method mk := by rw [Launch.admits_selectMethod X.admits]; exact q4
  obtain ⟨vm₁, X₁, hstep₁⟩ := X.invokevirtual hexec hown hlink hnamed hmethM hstM hkP hkPi hy (a := b) (cell := cellB) hcell
    (fun z h => by rw [h] at hobj; cases hobj) hselP hmethM habM hkP hkPi (g := g) hg (argsL := argsL) (rest := rest) (hlen _ hsigM) hstack hdg
  obtain ⟨v, B, X', hpost, hsteps⟩ := hK m meth c ⟨T.setVm vm₁, locs, cells, slots⟩ { g with stack := rest } (.invokevirtual index) mk (Value.ref b :: argsL).toArray X₁ hg hsize hdg hW (X₁.named hnamed) (hpre vm₁ X₁.warmed)
  exact ⟨v, vm₁, B, X₁.warmed, X', hpost, fun target h => hstep₁ _ fun acts => by rw [doInvoke_state]; exact hsteps.trans h⟩
abbrev vx_CVW (R : Room) (s : State) (args : Array Value) (own C : String) (index : Nat) (y : MethodName) (bytes : ByteArray) (maxL : Nat) (ret : Option FieldType) (hh : List (Nat × Nat × Nat × Nat)) (ws : List Cond) (rm : Room) (mc ms n : Nat) : Prop :=
  (rm.cells = mc ∧ rm.slots = ms ∧ rm.frames + 1 ≤ R.frames ∧ 8 + (maxL + 11) + rm.locals ≤ R.locals ∧ (∀ w ∈ ws, ∀ (a' : Array Value) (U : State), s.WarmedH U.vm → w.before a' U = true) ∧ Cond.codeWith y bytes maxL ret hh ∈ ws) ∧
  (Cond.codeWith y bytes maxL ret hh).before args s = true ∧ (Cond.initialized y.cls).before args s = true ∧ (y.cls ≠ "java/lang/invoke/MethodHandle" ∧ y.cls ≠ "java/lang/invoke/VarHandle") ∧
  (∀ sig, parseMethodDescriptor y.desc = some sig → n = sig.parameters.length) ∧ (Cond.methodLink own index y).before args s = true ∧ (Cond.instanceMethod y).before args s = true ∧ (Cond.selects C y y).before args s = true
theorem vx_cwVW {own C : String} {index maxL mc ms : Nat} {y : MethodName} {bytes : ByteArray} {ret : Option FieldType} {hh : List (Nat × Nat × Nat × Nat)} {Ts ws ws' : List Cond} {rm : Room} (n : Nat) (ht : ∀ w ∈ Ts, w.before args s = true) (hT : GoodIn Ts (wsV own index C y ws)) (hw : ws = Cond.codeWith y bytes maxL ret hh :: ws') (hrc : rm.cells = mc) (hrs : rm.slots = ms)
    (hd : y.cls = C ∧ y.cls ≠ "java/lang/invoke/MethodHandle" ∧ y.cls ≠ "java/lang/invoke/VarHandle" ∧ (parseMethodDescriptor y.desc).map (fun d => d.parameters.length) = some n) (hR : rm.frames + 1 ≤ R.frames ∧ 8 + (maxL + 11) + rm.locals ≤ R.locals) :
    vx_CVW R s args own C index y bytes maxL ret hh ws rm mc ms n := by
  obtain ⟨hC, hd⟩ := hd
  subst hC
  have ok : ∀ w ∈ wsV own index y.cls y ws, w.before args s = true := fun w h => ht w (hT w h).1
  have hG : GoodIn Ts ws := fun w h => hT w (by unfold wsV; exact List.mem_append_right _ h)
  have hc : Cond.codeWith y bytes maxL ret hh ∈ ws := by rw [hw]; exact List.mem_cons_self
  refine ⟨⟨hrc, hrs, hR.1, hR.2, pay_in ht hG, hc⟩, ht _ (hG _ hc).1, ok _ (by simp [wsV]), ⟨hd.1, hd.2.1⟩, fun sig h => ?_, ok _ (by simp [wsV]), ok _ (by simp [wsV]), ok _ (by simp [wsV])⟩
  have h2 := hd.2.2
  rw [h] at h2
  exact (Option.some.inj h2).symm
theorem vx_runVW {y : MethodName} {bytes cc : ByteArray} {maxL nL mc ms n index : Nat} {ret : Option FieldType} {hh : List (Nat × Nat × Nat × Nat)} {ws : List Cond} {rm : Room} {Pc : Array Value → State → Prop} {Qc : Array Value → State → Outcome → State → Prop} {free : Addr → Prop} {Ts : List Cond} {own C : String} {b : Addr} {As rest : List Value} {g : JFrame}
    (S : CallFix p m c cc nL s args Ts own) (hM : Met l y ws rm Pc Qc mc ms free) (cw : vx_CVW R s args own C index y bytes maxL ret hh ws rm mc ms n) (hp : PreV s H C b Pc As)
    (hg : g.method = m) (hn : As.length = n) (hsize : g.locals.size = nL) (hstack : g.stack = As.reverse ++ .ref b :: rest) (hW : 2 * g.monitorRoom + (rest.map fun v => v.category).sum ≤ 8) (hdg : decode cc g.pc = .ok (.invokevirtual index, 3)) (hf : cells + mc ≤ R.cells ∧ slots + ms ≤ R.slots) :
    va_Run p l e R s m args below meth c H locs cells slots mc ms g rest (Qc (Value.ref b :: As).toArray) free := by
  obtain ⟨⟨hrc, hrs, hfr, hlo, hws, hcw⟩, hcode, hini, hy, hlen, hl, hin, hse⟩ := cw
  have hK : Back l R p e below s args y 3 8 (PreOf R mc ms Pc) (PostOf Qc mc ms free) := va_backW (hh := hh) (bytes := bytes) (maxL := maxL) (ret := ret) hM hp.1 hrc hrs hfr hlo hws hcw (fun a' U hW => word_at hW (Or.inl (by first | rfl | simp [Cond.onTables, Cond.keeps, Cond.steady])) hini)
  obtain ⟨hx, hb, hml, ho, -⟩ := S
  obtain ⟨-, ⟨cellB, hcB, hoB, hclB⟩, hPc⟩ := hp
  intro T hT X
  obtain ⟨v, vm₁, ⟨U', l2, c2, s2⟩, hW₁, X', ⟨g', mk, t, L, e1, e2, hq, h1, hL, h2, h3⟩, st⟩ := vx_callVW X hx (C := C) (hh := hh) (bytes := bytes) (maxL := maxL) (ret := ret) ho hl hin hse hcode hy hK (by rw [hT]; exact hcB) hoB hclB hg (hsize.trans hml.symm) (argsL := As) (rest := rest) (fun sig h => hn.trans (hlen sig h)) hstack hW (by rw [hb]; exact hdg)
    (fun vm₁ hW₁ => ⟨hf.1, hf.2, hPc (T.setVm vm₁) hT hW₁⟩)
  dsimp only [Pt.U, Pt.locs, Pt.cells, Pt.slots] at X' e1 e2 h1 h2 h3 st
  subst h1; subst h2; subst h3
  exact ⟨v, (T.setVm vm₁).calling g' mk (Value.ref b :: As).toArray, t, U', L, hT, X', hL, e1, e2, hq, st⟩
section
variable {y : MethodName} {bytes cc : ByteArray} {maxL nL mc ms n index : Nat} {ret : Option FieldType} {ws : List Cond} {rm : Room} {Pc : Array Value → State → Prop} {Qc : Array Value → State → Outcome → State → Prop} {XC : String → State → State → Prop} {free : Addr → Prop} {Ts : List Cond} {own C : String} {b : Addr} {As rest : List Value} {g : JFrame}
theorem vx_runVX {hh : List (Nat × Nat × Nat × Nat)} (S : CallFix p m c cc nL s args Ts own) (hM : vx_Met l y ws rm Pc Qc XC mc ms free) (cw : vx_CVW R s args own C index y bytes maxL ret hh ws rm mc ms n) (hp : PreV s H C b Pc As)
    (hg : g.method = m) (hn : As.length = n) (hsize : g.locals.size = nL) (hstack : g.stack = As.reverse ++ .ref b :: rest) (hW : 2 * g.monitorRoom + (rest.map fun v => v.category).sum ≤ 8) (hdg : decode cc g.pc = .ok (.invokevirtual index, 3)) (hf : cells + mc ≤ R.cells ∧ slots + ms ≤ R.slots) :
    vx_Run p l e R s m args below meth c H locs cells slots mc ms g rest (Qc (Value.ref b :: As).toArray) XC free := by
  obtain ⟨⟨hrc, hrs, hfr, hlo, hws, hcw⟩, hcode, hini, hy, hlen, hl, hin, hse⟩ := cw
  have hK : vx_Back l R p e below s args y 3 8 (PreOf R mc ms Pc) (PostOf Qc mc ms free) (vx_Post XC mc ms free) := vx_backW (hh := hh) (bytes := bytes) (maxL := maxL) (ret := ret) hM hp.1 hrc hrs hfr hlo hws hcw (fun a' U hW => word_at hW (Or.inl (by first | rfl | simp [Cond.onTables, Cond.keeps, Cond.steady])) hini)
  obtain ⟨hx, hb, hml, ho, -⟩ := S
  obtain ⟨-, ⟨cellB, hcB, hoB, hclB⟩, hPc⟩ := hp
  intro T hT X
  rcases vx_callVX X hx (C := C) (hh := hh) (bytes := bytes) (maxL := maxL) (ret := ret) ho hl hin hse hcode hy hK (by rw [hT]; exact hcB) hoB hclB hg (hsize.trans hml.symm) (argsL := As) (rest := rest) (fun sig h => hn.trans (hlen sig h)) hstack hW (by rw [hb]; exact hdg)
    (fun vm₁ hW₁ => ⟨hf.1, hf.2, hPc (T.setVm vm₁) hT hW₁⟩) with ⟨v, vm₁, ⟨U', l2, c2, s2⟩, hW₁, X', ⟨g', mk, t, L, e1, e2, hq, h1, hL, h2, h3⟩, st⟩ | ⟨q, vm₁, ⟨U', l2, c2, s2⟩, hW₁, X', ⟨g', mk, t, L, E, ce, e1, e2, hq, hce, hcv, hcl, h1, hL, h2, h3⟩, st⟩
  · dsimp only [Pt.U, Pt.locs, Pt.cells, Pt.slots] at X' e1 e2 h1 h2 h3 st
    subst h1; subst h2; subst h3
    exact Or.inl ⟨v, (T.setVm vm₁).calling g' mk (Value.ref b :: As).toArray, t, U', L, hT, X', hL, e1, e2, hq, st⟩
  · dsimp only [Pt.U, Pt.locs, Pt.cells, Pt.slots] at X' e1 e2 h1 h2 h3 st hcl
    subst h1; subst h2; subst h3
    exact Or.inr ⟨q, (T.setVm vm₁).calling g' mk (Value.ref b :: As).toArray, t, U', L, E, ce, hT, X', hL, e1, e2, hq, hce, hcv, vx_cls hW₁ hcl, st⟩
theorem vx_runSX {hh : List (Nat × Nat × Nat × Nat)} (S : CallFix p m c cc nL s args Ts own) (hM : vx_Met l y ws rm Pc Qc XC mc ms free) (cw : vx_CSW R s args own index y bytes maxL ret hh ws rm mc ms n) (hp : PreS s H Pc As)
    (hg : g.method = m) (hn : As.length = n) (hsize : g.locals.size = nL) (hstack : g.stack = As.reverse ++ rest) (hW : 2 * g.monitorRoom + (rest.map fun v => v.category).sum ≤ 8) (hdg : decode cc g.pc = .ok (.invokestatic index, 3)) (hf : cells + mc ≤ R.cells ∧ slots + ms ≤ R.slots) :
    vx_Run p l e R s m args below meth c H locs cells slots mc ms g rest (Qc As.toArray) XC free := by
  obtain ⟨⟨hrc, hrs, hfr, hlo, hws, hcw⟩, hcode, hini, hy, hlen, hl, hstt⟩ := cw
  have hK : vx_Back l R p e below s args y 3 8 (PreOf R mc ms Pc) (PostOf Qc mc ms free) (vx_Post XC mc ms free) := vx_backW (hh := hh) (bytes := bytes) (maxL := maxL) (ret := ret) hM hp.1 hrc hrs hfr hlo hws hcw (fun a' U hW => word_at hW (Or.inl (by first | rfl | simp [Cond.onTables, Cond.keeps, Cond.steady])) hini)
  obtain ⟨hx, hb, hml, ho, -⟩ := S
  intro T hT X
  rcases vx_callSX X hx (hh := hh) (bytes := bytes) (maxL := maxL) (ret := ret) ho hl hstt hini hcode hy hK hg (hsize.trans hml.symm) (argsL := As) (rest := rest) (fun sig h => hn.trans (hlen sig h)) hstack hW (by rw [hb]; exact hdg)
    (fun vm₁ hW₁ => ⟨hf.1, hf.2, hp.2 (T.setVm vm₁) hT hW₁⟩) with ⟨v, vm₁, ⟨U', l2, c2, s2⟩, hW₁, X', ⟨g', mk, t, L, e1, e2, hq, h1, hL, h2, h3⟩, st⟩ | ⟨q, vm₁, ⟨U', l2, c2, s2⟩, hW₁, X', ⟨g', mk, t, L, E, ce, e1, e2, hq, hce, hcv, hcl, h1, hL, h2, h3⟩, st⟩
  · dsimp only [Pt.U, Pt.locs, Pt.cells, Pt.slots] at X' e1 e2 h1 h2 h3 st
    subst h1; subst h2; subst h3
    exact Or.inl ⟨v, (T.setVm vm₁).calling g' mk As.toArray, t, U', L, hT, X', hL, e1, e2, hq, st⟩
  · dsimp only [Pt.U, Pt.locs, Pt.cells, Pt.slots] at X' e1 e2 h1 h2 h3 st hcl
    subst h1; subst h2; subst h3
    exact Or.inr ⟨q, (T.setVm vm₁).calling g' mk As.toArray, t, U', L, E, ce, hT, X', hL, e1, e2, hq, hce, hcv, vx_cls hW₁ hcl, st⟩
end
end VXH
theorem vx_ofWH {l : Launch} {y : MethodName} {ws ws' : List Cond} {rm : Room} {Pc : Array Value → State → Prop} {Qc : Array Value → State → Outcome → State → Prop} {XC : String → State → State → Prop} {mc ms : Nat} {free : Addr → Prop} {cc : ByteArray} {maxL : Nat} {ret : Option FieldType} {hh : List (Nat × Nat × Nat × Nat)}
    (hy : plainName y.cls = true) (hw : ws = Cond.codeWith y cc maxL ret hh :: ws')
    (body : ∀ p e s m args below meth c s₁, BodyLoose p l y (headSpec ws rm) cc maxL ret e s m args below meth c s₁ → c.maxLocals = maxL → Pc args s →
      W p l e (headSpec ws rm).room s m args below meth c s.heap [] 0 0 (vx_MQ below Qc XC args s mc ms free) (entryFrame m args maxL)) : vx_Met l y ws rm Pc Qc XC mc ms free := by
  refine MetFree.of_bodyS (code := cc) (maxLocals := maxL) (ret := ret) hy ?_ ?_
  · intro args s m h hn
    obtain ⟨m9, meth, c, hn9, h1, h2, h3, h4, -, h5, h6, -⟩ := Cond.codeWith_spec (atoms_spec (ws := ws) h _ (by rw [hw]; exact List.mem_cons_self))
    cases hn.symm.trans hn9
    exact ⟨meth, c, h1, h2, h3, h4, h5, h6⟩
  · intro p e s m args below meth c s₁ B hml hP _
    have hh0 : s₁.heap = s.heap := by rw [B.state]; rfl
    obtain ⟨t, a1, o, b1, b2, b3⟩ := body p e s m args below meth c s₁ B hml hP s₁ hh0 (Stand.of_body B)
    exact ⟨t, o, a1, b1, b2, b3⟩
/-! ===== END ===== -/
/-! ===== BEGIN what the machine throws by itself, no traces kept ===== -/
section VXM
set_option maxHeartbeats 1000000 in
/-- the machine throws cls with the message text, no traces kept: from its note over the frame g to 'throwing' over the same frame (follows the proofs of Stand.vmThrowsMessage, Shelf/KitTracedVmS.lean, and Stand.throwsMessageColdBareV, StandMessageColdV.lean, without the step out of the frame) -/
theorem vx_vmAt {p : Program} {l : Launch} {e : Env} {R : Room} {s : State} {m₀ : MethodId} {args : Array Value} {below : List Frame} {meth : Method} {c : Code} {W : State} {locs : List Loc} {cells slots : Nat}
    (X : Stand p l e R s m₀ args below meth c W locs cells slots) (hexec : p.tables.exec = Jvm.exec) (htr : e.platform.stackTraces = false) {cls : String} {names : List String} {text : String}
    (hcls : Bundle.fit cls = true) (hnames : ∀ n ∈ names, Bundle.fit n = true) (hsoe : (cls == "java/lang/StackOverflowError") = false) (hoom : (cls == "java/lang/OutOfMemoryError") = false)
    (h : ∀ a ∈ Bundle.messageArmAtoms cls names, a.before args s = true)
    (hlocs : ∀ x ∈ locs, ∀ cell, s.heap[x.base]? = some cell → cell.vm.isStatics = false)
    (htext : (text == notModelled) = false) (hlimit : ¬ (stringBytes (stringToUtf16 text)).size > e.platform.arrayLengthLimit) (hheap : ¬ (stringBytes (stringToUtf16 text)).size * componentBytes .byte > e.platform.maxHeapBytes)
    {g : JFrame} (hg : g.method = m₀) (hsize : g.locals.size = c.maxLocals)
    (hRframes : names.length + 4 < R.frames) (hRlocals : 2 * g.monitorRoom + (g.stack.map fun v => v.category).sum + 10240 ≤ R.locals) (hshort : 13 * names.length + 55 ≤ 10240)
    (hRcells : cells + 3 ≤ R.cells) (hRslots : slots + ((stringBytes (stringToUtf16 text)).size + 4 + 6) ≤ R.slots) (hlocks : meth.locks = false) :
    ∃ (S : State) (q : Addr) (ce : Cell), (∀ target, Steps p.tables e below ((S.setTop g).pushFrame (.throwing q)) target → Steps p.tables e below ((W.setTop g).pushFrame (.throwNew cls (some text) none)) target) ∧
      Stand p l e R s m₀ args below meth c S locs (cells + 3) (slots + ((stringBytes (stringToUtf16 text)).size + 4 + 6)) ∧ S.heap[q]? = some ce ∧ s.vm.findClass cls = some ce.cls ∧ ce.vm = .none := by
  have howns : e.platform.frameOwnsMonitors = true := by rw [X.admits.platform]
  have hfin : e.platform.finalization = false := by rw [X.admits.platform]
  have hpl : e.platform.magicAccessors = ({} : Platform).magicAccessors := by rw [X.admits.platform]
  have a : ∀ x, x ∈ Bundle.messageArmAtoms cls names → x.holds args s none s [] = true := fun x hx => h x hx
  obtain ⟨T, Z0, L, -, Y⟩ := ThrowableC.of_atoms (args := args) howns hfin hpl (fun x hx => h x (by simp [Bundle.messageArmAtoms, hx]))
  obtain ⟨Z, M, LZ, LM, hnZ⟩ := Init0T.ofS_atoms (args := args) hpl L Y (fun x hx => h x (by simp [Bundle.messageArmAtoms, hx]))
  obtain ⟨P1, Ps, hlen, L1, hL, hP1m, hlink1, hlink⟩ := Bundle.chainS (args := args) hpl hnZ names cls hcls hnames (fun x hx => h x (by simp [Bundle.messageArmAtoms, hx]))
  obtain ⟨Zs, LZs, hn4, hfitv, hfitc⟩ := StringT.of_atoms (args := args) (fun x hx => h x (by simp [Bundle.messageArmAtoms, hx]))
  have hfound : s.vm.findClass cls = some P1.m.cls := findClass_of_methodNamed hP1m
  obtain ⟨c1, kX, hc1, hk, hord, -, -, hn6⟩ := Cond.instantiable_spec (a (.instantiable cls 6) (by simp [Bundle.messageArmAtoms]))
  cases Option.some.inj (hc1.symm.trans hfound)
  have hinit := Cond.initialized_spec hfound hk (a (.initialized cls) (by simp [Bundle.messageArmAtoms]))
  have hctor : kX.findMethod "<init>" "(Ljava/lang/String;)V" = some P1.m.idx := findMethod_of_methodNamed hP1m hk
  have hsel0 : selectMethod e.platform s.vm P1.m.cls T.fill0 = .method T.fill0 := by
    obtain ⟨c2, r2, m2, q1, q2, q3, q4, -⟩ := Cond.selects_spec (a (.selects cls Bundle.tFill0 Bundle.tFill0) (by simp [Bundle.messageArmAtoms]))
    cases Option.some.inj (q1.symm.trans hfound)
    cases Option.some.inj (q2.symm.trans (State.methodFound?_of_named Y.fill0 (by decide)))
    cases Option.some.inj (q3.symm.trans Y.fill0)
    rw [Launch.admits_selectMethod X.admits]; exact q4
  have hselF : selectMethod e.platform s.vm P1.m.cls T.fill = .method T.fill := by
    obtain ⟨c2, r2, m2, q1, q2, q3, q4, -⟩ := Cond.selects_spec (a (.selects cls Bundle.tFill Bundle.tFill) (by simp [Bundle.messageArmAtoms]))
    cases Option.some.inj (q1.symm.trans hfound)
    cases Option.some.inj (q2.symm.trans (State.methodFound?_of_named Y.fill (by decide)))
    cases Option.some.inj (q3.symm.trans Y.fill)
    rw [Launch.admits_selectMethod X.admits]; exact q4
  obtain ⟨cellS0, hcS0, hiss⟩ := Y.statics
  obtain ⟨u0, hu0⟩ := Cond.staticRefV Y.unassigned L.unassignedStatic L.statics hcS0 hiss (a (.isRef (.static Bundle.tN "UNASSIGNED_STACK" Bundle.steD)) (by simp [Bundle.messageArmAtoms]))
  obtain ⟨sen, hsen⟩ := Cond.staticRefV Y.sentinel L.sentinelStatic L.statics hcS0 hiss (a (.isRef (.static Bundle.tN "SUPPRESSED_SENTINEL" Bundle.listD)) (by simp [Bundle.messageArmAtoms]))
  obtain ⟨ci198, i198, fB, hk198, hg198, ha198, hsB, -, hnB, htB, hffB⟩ := Cond.ownField (t := .object "java/lang/Object") Y.found L.cls (by decide +kernel) (a (.fieldLink Bundle.tN 198 Bundle.tN "backtrace" "Ljava/lang/Object;") (by simp [Bundle.messageArmAtoms])) (a (.lays Bundle.tN Bundle.tN "backtrace" "Ljava/lang/Object;") (by simp [Bundle.messageArmAtoms])) e.platform hpl
  obtain ⟨cellS, hcS', heS, -, hkeep⟩ := X.same.2.2.2.2.2 T.aS cellS0 hcS0
  have hcellS : W.heap[T.aS]? = some cellS := hcS'
  have hout' : ∀ i, (⟨T.aS, i⟩ : Loc) ∉ locs := fun i hmem => by
    have := hlocs _ hmem cellS0 hcS0
    rw [hiss] at this; cases this
  have hknownS : cellS.vm ≠ .unknown := by
    rw [heS]; intro hu
    rw [show cellS0.vm = .unknown from hu] at hiss
    cases hiss
  have hvU : cellS.slots[T.fUnassigned.slot]? = some u0.v := by rw [hkeep _ (hout' _)]; exact hu0
  have hvSen : cellS.slots[T.fSentinel.slot]? = some sen.v := by rw [hkeep _ (hout' _)]; exact hsen
  obtain ⟨iM, hffM⟩ := Y.msg
  obtain ⟨tyC, dC, hdC, hdnC⟩ := Cond.laysAt hfound hk Y.cause (a (.lays cls Bundle.tN "cause" "Ljava/lang/Throwable;") (by simp [Bundle.messageArmAtoms]))
  obtain ⟨tyS, dS, hdS, hdnS⟩ := Cond.laysAt hfound hk Y.stack (a (.lays cls Bundle.tN "stackTrace" Bundle.steD) (by simp [Bundle.messageArmAtoms]))
  obtain ⟨tyP, dP, hdP, hdnP⟩ := Cond.laysAt hfound hk Y.supp (a (.lays cls Bundle.tN "suppressedExceptions" Bundle.listD) (by simp [Bundle.messageArmAtoms]))
  obtain ⟨tyM, dM, hdM, hdnM⟩ := Cond.laysAt hfound hk hffM (a (.lays cls Bundle.tN "detailMessage" "Ljava/lang/String;") (by simp [Bundle.messageArmAtoms]))
  obtain ⟨tyB, dB, hdB, hdnB⟩ := Cond.laysAt hfound hk hffB (a (.lays cls Bundle.tN "backtrace" "Ljava/lang/Object;") (by simp [Bundle.messageArmAtoms]))
  have bC := Cond.laysApart hdB hdC hdnB hdnC (by rw [hnB, Y.causeName]; decide)
  have bS := Cond.laysApart hdB hdS hdnB hdnS (by rw [hnB, Y.stackName]; decide)
  have bP := Cond.laysApart hdB hdP hdnB hdnP (by rw [hnB, Y.suppName]; decide)
  have hbk : ((preparedCellV T.toThrowableT (freshCell P1.m.cls kX) (W.heap.size + 2) u0 sen).withEntry W.cur).slots[fB.slot]? = some .null := by
    have := fresh_default (c := P1.m.cls) tyB
    rw [htB] at this
    simpa [preparedCellV, Cell.setSlot, Cell.withEntry, Array.getElem?_setIfInBounds, bC, bS, bP, bC.symm, bS.symm, bP.symm, defaultValue] using this
  have tkC := Takes.of_laid (v := .ref (W.heap.size + 2)) hk hord tyC (by rw [Y.causeType]; rfl)
  have tkS := Takes.of_laid (v := u0.v) hk hord tyS (by rw [Y.stackType]; exact fits_refV_array _ u0)
  have tkP := Takes.of_laid (v := sen.v) hk hord tyP (by rw [Y.suppType]; exact fits_refV_object _ sen)
  have tkM := Takes.of_laid (v := .ref (W.heap.size + 1)) hk hord tyM (by rw [Y.msgType]; rfl)
  have hskip : SkipFacts T e.platform s (fun u => u) u0 ((preparedCellV T.toThrowableT (freshCell P1.m.cls kX) (W.heap.size + 2) u0 sen).withEntry W.cur) := ⟨{ ci198 := ci198, i198 := i198, fBack := fB }, ⟨hk198, hg198, ha198, hsB⟩, hbk, fun _ _ => rfl⟩
  have h0 : At W g.method c below := by rw [hg]; exact X.here
  obtain ⟨hbeyond, hfreeW⟩ := X.vmMayThrow hsize (.throwNew cls (some text) none) (fun f hf => by cases hf) rfl hRlocals
  have hfr' : W.frames.length + Ps.length + 4 < (e.platform.stackLimits W.me).1 := by have := X.framesAbove hRframes; omega
  have hwd' : (stackUse (.java g :: W.frames.tail)).2 + 13 * Ps.length + 55 ≤ (e.platform.stackLimits W.me).2 := by have := X.stackAbove hsize (K := 13 * Ps.length + 55) (by omega); omega
  have hslots : W.slotsUsed + (stringBytes (stringToUtf16 text)).size + Zs.kS.instanceTypes.size + kX.instanceTypes.size ≤ e.platform.maxSlots := by
    have := X.slotsAbove hRslots
    rw [hn4, hn6]
    omega
  obtain ⟨vm', hW', st⟩ := Steps.vmThrowsMessageColdByV p (s₀ := s) (S := W) (g := g) h0 hexec T L Z LZ M LM X.warmed (t := W.cur) rfl Zs LZs P1 L1 Ps hL hlink1 hlink hsoe hoom hfound hk hinit hord hctor
    (Launch.admits_hotImplicitExceptions X.admits) hbeyond hfreeW htext hlimit hheap (X.cellsAbove hRcells) hslots (hfitv _) (hfitc _)
    (Nn := fun u => u) heapOnly_id (fun _ _ => rfl) (fun _ => rfl) (fun u x y => setCell_twice _ _ _ _) (fun _ => Nat.le_refl _) (cN := ((preparedCellV T.toThrowableT (freshCell P1.m.cls kX) (W.heap.size + 2) u0 sen).withEntry W.cur))
    hsel0 hcellS hknownS hvU tkS (fun _ hu => hu) (fun _ hu => hu) rfl rfl rfl (by simp [preparedCellV, Cell.setSlot, Cell.withEntry]) hskip (fun _ _ hA hW _ hroom _ hrest => L.nativeOff p htr hA hW hroom hrest) hselF hvSen tkC tkP tkM Y.objLocals rfl hfr' hwd'
  rw [plainBareV_eq T.toThrowableT (W.heap.size + 2) u0 sen (.ref (W.heap.size + 1)) W.cur rfl rfl] at st
  obtain ⟨-, -, w3, w4, -, -, -⟩ := withThrown_facts e.platform W Zs text P1.m.cls kX
  have X3 := ((X.pushed (bytesOf Zs.cB (stringToUtf16 text))).pushed (stringAt Zs.cS Zs.kS Zs.fv Zs.fc (stringToUtf16 text) W.heap.size)).pushed (freshCell P1.m.cls kX)
  rw [← withString_eq] at X3
  have X4 := X3.noted hW'
  have ha : (W.heap.size + 2) < ((withThrown W Zs text P1.m.cls kX).setVm vm').heap.size := by show _ < (withThrown W Zs text P1.m.cls kX).heap.size; rw [w3]; omega
  have hcell : ((withThrown W Zs text P1.m.cls kX).setVm vm').heap[(W.heap.size + 2)]? = some (freshCell P1.m.cls kX) := w4
  have X5 := ((((X4.stored hcell T.fCause.slot (.ref (W.heap.size + 2))).storedAgain ha T.fStack.slot u0.v).storedAgain ha T.fSupp.slot sen.v).storedAgain ha T.fStack.slot u0.v).storedAgain ha T.fMsg.slot (.ref (W.heap.size + 1))
  obtain ⟨g₁, hfrM⟩ := X5.frames_eq
  have hU : ((((withThrown W Zs text P1.m.cls kX).setVm vm').setCell (W.heap.size + 2) (plainBareV T.toThrowableT (freshCell P1.m.cls kX) (W.heap.size + 2) u0 sen (.ref (W.heap.size + 1)))).setTop g).pushFrame (.throwing (W.heap.size + 2)) = (((withThrown W Zs text P1.m.cls kX).setVm vm').setCell (W.heap.size + 2) (plainBareV T.toThrowableT (freshCell P1.m.cls kX) (W.heap.size + 2) u0 sen (.ref (W.heap.size + 1)))).setFrames (.throwing (W.heap.size + 2) :: .java g :: below) := by
    rw [State.pushFrame, State.frames_setTop _ hfrM, State.setTop_of_frames _ hfrM, State.setFrames_setFrames]
  have b1 : (bytesOf Zs.cB (stringToUtf16 text)).slots.size = (stringBytes (stringToUtf16 text)).size := by
    rw [(Cell.writeAll_facts _ _).2.2]; simp [bytes0]
  have b2 : (stringAt Zs.cS Zs.kS Zs.fv Zs.fc (stringToUtf16 text) W.heap.size).slots.size = 4 := by simp [string0, Cell.setSlot, hn4]
  have b3 : (freshCell P1.m.cls kX).slots.size = 6 := by simp [hn6]
  rw [b1, b2, b3] at X5
  have e9 : slots + (stringBytes (stringToUtf16 text)).size + 4 + 6 = slots + ((stringBytes (stringToUtf16 text)).size + 4 + 6) := by omega
  rw [e9] at X5
  simp only [List.append_assoc, List.cons_append, List.nil_append] at X5
  refine ⟨((withThrown W Zs text P1.m.cls kX).setVm vm').setCell (W.heap.size + 2) (plainBareV T.toThrowableT (freshCell P1.m.cls kX) (W.heap.size + 2) u0 sen (.ref (W.heap.size + 1))), W.heap.size + 2, _, fun target ht => st _ (by rw [X.tail, ← hU]; exact ht),
    X5.forget (fun y hy => ?_), heapAt_setCell_self _ ha, hfound, rfl⟩
  simp only [List.mem_cons, List.not_mem_nil, or_false] at hy
  have hge : s.heap.size ≤ W.heap.size := X.same.2.1
  rcases hy with rfl | rfl | rfl | rfl | rfl <;> exact Nat.le_trans hge (Nat.le_add_right _ 2)
set_option maxHeartbeats 1000000 in
/-- the machine throws NullPointerException, no traces kept: from its note over the frame g to 'throwing' over the same frame (follows the proof of Stand.vmThrowsNpe, Shelf42/KT2.lean; throwsNpeColdBareVAt, Shelf42/NT91.lean, called) -/
theorem vx_npeAt {p : Program} {l : Launch} {e : Env} {R : Room} {s : State} {m₀ : MethodId} {args : Array Value} {below : List Frame} {meth : Method} {c : Code} {W : State} {locs : List Loc} {cells slots : Nat}
    (X : Stand p l e R s m₀ args below meth c W locs cells slots) (hexec : p.tables.exec = Jvm.exec) (htr : e.platform.stackTraces = false) {n : Nat}
    (h : ∀ a ∈ Bundle.npeArmAtoms n, a.before args s = true)
    (hlocs : ∀ x ∈ locs, ∀ cell, s.heap[x.base]? = some cell → cell.vm.isStatics = false)
    {g : JFrame} (hg : g.method = m₀) (hsize : g.locals.size = c.maxLocals)
    (hRframes : 7 < R.frames) (hRlocals : 2 * g.monitorRoom + (g.stack.map fun v => v.category).sum + 10240 ≤ R.locals)
    (hRcells : cells + 1 ≤ R.cells) (hRslots : slots + n ≤ R.slots) (hlocks : meth.locks = false) :
    ∃ (S : State) (q : Addr) (ce : Cell), (∀ target, Steps p.tables e below ((S.setTop g).pushFrame (.throwing q)) target → Steps p.tables e below ((W.setTop g).pushFrame (.throwNew "java/lang/NullPointerException" none none)) target) ∧
      Stand p l e R s m₀ args below meth c S locs (cells + 1) (slots + n) ∧ S.heap[q]? = some ce ∧ s.vm.findClass "java/lang/NullPointerException" = some ce.cls ∧ ce.vm = .none := by
  have howns : e.platform.frameOwnsMonitors = true := by rw [X.admits.platform]
  have hfin : e.platform.finalization = false := by rw [X.admits.platform]
  have hpl : e.platform.magicAccessors = ({} : Platform).magicAccessors := by rw [X.admits.platform]
  have hpl2 : e.platform.arrayCloneIsPublic = true := by rw [X.admits.platform]
  have a' : ∀ x, x ∈ Bundle.npeArmAtoms n → x.holds args s none s [] = true := fun x hx => h x hx
  obtain ⟨T, Z, L, LZ, Y⟩ := ThrowableC.of_atoms (args := args) howns hfin hpl (fun x hx => h x (by simp [Bundle.npeArmAtoms, hx]))
  obtain ⟨N, LN, hcN, hnNF, hordN, hffS⟩ := NpeC.of_atoms (args := args) hpl hpl2 L Y (fun x hx => h x (by simp [Bundle.npeArmAtoms, hx]))
  obtain ⟨P1, L1, hP1m, hP1s⟩ := PassC.of_atoms (args := args) (s := s) hpl (X := Bundle.nN) (Y := Bundle.rN) (by decide) (by decide) LibCode.NullPointerException.Init0.at_0 LibCode.NullPointerException.Init0.at_1 LibCode.NullPointerException.Init0.at_4 (fun x hx => h x (by simp [Bundle.npeArmAtoms, hx]))
  obtain ⟨PR, LR, hPRm, hPRs⟩ := PassC.of_atoms (args := args) (s := s) hpl (X := Bundle.rN) (Y := Bundle.eN) (by decide) (by decide) LibCode.RuntimeException.Init0.at_0 LibCode.RuntimeException.Init0.at_1 LibCode.RuntimeException.Init0.at_4 (fun x hx => h x (by simp [Bundle.npeArmAtoms, hx]))
  obtain ⟨PE, LEx, hPEm, hPEs⟩ := PassC.of_atoms (args := args) (s := s) hpl (X := Bundle.eN) (Y := Bundle.tN) (by decide) (by decide) LibCode.Exception.Init0.at_0 LibCode.Exception.Init0.at_1 LibCode.Exception.Init0.at_4 (fun x hx => h x (by simp [Bundle.npeArmAtoms, hx]))
  have hfound : s.vm.findClass Bundle.nN = some P1.m.cls := findClass_of_methodNamed hP1m
  have ecls : N.cN = P1.m.cls := Option.some.inj (hcN.symm.trans hfound)
  have hk : s.vm.classes[P1.m.cls]? = some N.kN := by rw [← ecls]; exact LN.cls
  have hinit := Cond.initialized_spec hfound hk (a' (.initialized Bundle.nN) (by simp [Bundle.npeArmAtoms]))
  have hctor : N.kN.findMethod "<init>" "()V" = some P1.m.idx := findMethod_of_methodNamed hP1m hk
  obtain ⟨c1, k1, hc1, hk1, -, -, -, hn⟩ := Cond.instantiable_spec (a' (.instantiable Bundle.nN n) (by simp [Bundle.npeArmAtoms]))
  cases Option.some.inj (hc1.symm.trans hfound)
  cases Option.some.inj (hk1.symm.trans hk)
  have hfsz : (freshCell P1.m.cls N.kN).slots.size = n := by simp [hn]
  have hlink1 : P1.sup = PR.m := Option.some.inj (hP1s.symm.trans hPRm)
  have hlinkR : PR.sup = PE.m := Option.some.inj (hPRs.symm.trans hPEm)
  have hlinkE : PE.sup = Z.m T.toThrowableT := Option.some.inj (hPEs.symm.trans Y.init0)
  have hLs : ∀ P, P ∈ [PR, PE] → P.Links0 e.platform s := fun P hP => by
    simp only [List.mem_cons, List.not_mem_nil, or_false] at hP
    rcases hP with rfl | rfl
    · exact LR
    · exact LEx
  have hsel0 : selectMethod e.platform s.vm P1.m.cls T.fill0 = .method T.fill0 := by
    obtain ⟨c2, r2, m2, q1, q2, q3, q4, -⟩ := Cond.selects_spec (a' (.selects Bundle.nN Bundle.tFill0 Bundle.tFill0) (by simp [Bundle.npeArmAtoms]))
    cases Option.some.inj (q1.symm.trans hfound)
    cases Option.some.inj (q2.symm.trans (State.methodFound?_of_named Y.fill0 (by decide)))
    cases Option.some.inj (q3.symm.trans Y.fill0)
    rw [Launch.admits_selectMethod X.admits]; exact q4
  have hselF : selectMethod e.platform s.vm P1.m.cls T.fill = .method N.fill := by
    obtain ⟨c2, r2, m2, q1, q2, q3, q4, -⟩ := Cond.selects_spec (a' (.selects Bundle.nN Bundle.tFill Bundle.nFill) (by simp [Bundle.npeArmAtoms]))
    cases Option.some.inj (q1.symm.trans hfound)
    cases Option.some.inj (q2.symm.trans (State.methodFound?_of_named Y.fill (by decide)))
    cases Option.some.inj (q3.symm.trans hnNF)
    rw [Launch.admits_selectMethod X.admits]; exact q4
  obtain ⟨cellS0, hcS0, hiss⟩ := Y.statics
  obtain ⟨u0, hu0⟩ := Cond.staticRefV Y.unassigned L.unassignedStatic L.statics hcS0 hiss (a' (.isRef (.static Bundle.tN "UNASSIGNED_STACK" Bundle.steD)) (by simp [Bundle.npeArmAtoms]))
  obtain ⟨sen, hsen⟩ := Cond.staticRefV Y.sentinel L.sentinelStatic L.statics hcS0 hiss (a' (.isRef (.static Bundle.tN "SUPPRESSED_SENTINEL" Bundle.listD)) (by simp [Bundle.npeArmAtoms]))
  obtain ⟨ci198, i198, fB, hk198, hg198, ha198, hsB, -, hnB, htB, hffB⟩ := Cond.ownField (t := .object "java/lang/Object") Y.found L.cls (by decide +kernel) (a' (.fieldLink Bundle.tN 198 Bundle.tN "backtrace" Bundle.objD) (by simp [Bundle.npeArmAtoms])) (a' (.lays Bundle.tN Bundle.tN "backtrace" Bundle.objD) (by simp [Bundle.npeArmAtoms])) e.platform hpl
  obtain ⟨cellS, hcS', heS, -, hkeep⟩ := X.same.2.2.2.2.2 T.aS cellS0 hcS0
  have hcellS : W.heap[T.aS]? = some cellS := hcS'
  have hout' : ∀ i, (⟨T.aS, i⟩ : Loc) ∉ locs := fun i hmem => by
    have := hlocs _ hmem cellS0 hcS0
    rw [hiss] at this; cases this
  have hknownS : cellS.vm ≠ .unknown := by
    rw [heS]; intro hu
    rw [show cellS0.vm = .unknown from hu] at hiss
    cases hiss
  have hvU : cellS.slots[T.fUnassigned.slot]? = some u0.v := by rw [hkeep _ (hout' _)]; exact hu0
  have hvSen : cellS.slots[T.fSentinel.slot]? = some sen.v := by rw [hkeep _ (hout' _)]; exact hsen
  obtain ⟨tyC, dC, hdC, hdnC⟩ := Cond.laysAt hfound hk Y.cause (a' (.lays Bundle.nN Bundle.tN "cause" "Ljava/lang/Throwable;") (by simp [Bundle.npeArmAtoms]))
  obtain ⟨tyS, dS, hdS, hdnS⟩ := Cond.laysAt hfound hk Y.stack (a' (.lays Bundle.nN Bundle.tN "stackTrace" Bundle.steD) (by simp [Bundle.npeArmAtoms]))
  obtain ⟨tyP, dP, hdP, hdnP⟩ := Cond.laysAt hfound hk Y.supp (a' (.lays Bundle.nN Bundle.tN "suppressedExceptions" Bundle.listD) (by simp [Bundle.npeArmAtoms]))
  obtain ⟨tyX, dX, hdX, hdnX⟩ := Cond.laysAt hfound hk hffS (a' (.lays Bundle.nN Bundle.nN "extendedMessageState" "I") (by simp [Bundle.npeArmAtoms, Bundle.npeAtoms]))
  obtain ⟨hnX, htX⟩ := State.fieldFound?_type hffS (t := .int) (by decide +kernel)
  have xC := Cond.laysApart hdC hdX hdnC hdnX (by rw [hnX, Y.causeName]; decide)
  have xS := Cond.laysApart hdS hdX hdnS hdnX (by rw [hnX, Y.stackName]; decide)
  have xP := Cond.laysApart hdP hdX hdnP hdnX (by rw [hnX, Y.suppName]; decide)
  have hv0 : (freshCell P1.m.cls N.kN).slots[N.fState.slot]? = some (.int 0) := by
    have := fresh_default (c := P1.m.cls) tyX
    rw [htX] at this; exact this
  obtain ⟨tyB, dB, hdB, hdnB⟩ := Cond.laysAt hfound hk hffB (a' (.lays Bundle.nN Bundle.tN "backtrace" Bundle.objD) (by simp [Bundle.npeArmAtoms]))
  have bC := Cond.laysApart hdB hdC hdnB hdnC (by rw [hnB, Y.causeName]; decide)
  have bS := Cond.laysApart hdB hdS hdnB hdnS (by rw [hnB, Y.stackName]; decide)
  have bP := Cond.laysApart hdB hdP hdnB hdnP (by rw [hnB, Y.suppName]; decide)
  have bX := Cond.laysApart hdB hdX hdnB hdnX (by rw [hnB, hnX]; decide)
  have hbk : ((npeCell N.toNpeT (preparedCellV T.toThrowableT (freshCell P1.m.cls N.kN) W.heap.size u0 sen) W.cur).withEntry W.cur).slots[fB.slot]? = some .null := by
    have := fresh_default (c := P1.m.cls) tyB
    rw [htB] at this
    simpa [npeCell, preparedCellV, Cell.setSlot, Cell.withEntry, Array.getElem?_setIfInBounds, bC, bS, bP, bX, bC.symm, bS.symm, bP.symm, bX.symm, defaultValue] using this
  have tkC := Takes.of_laid (v := .ref W.heap.size) hk hordN tyC (by rw [Y.causeType]; rfl)
  have tkS := Takes.of_laid (v := u0.v) hk hordN tyS (by rw [Y.stackType]; exact fits_refV_array _ u0)
  have tkP := Takes.of_laid (v := sen.v) hk hordN tyP (by rw [Y.suppType]; exact fits_refV_object _ sen)
  have tkX := Takes.of_laid (v := .int 1) hk hordN tyX (by rw [htX]; rfl)
  have hskip : SkipFacts T e.platform s (fun u => u) u0 ((npeCell N.toNpeT (preparedCellV T.toThrowableT (freshCell P1.m.cls N.kN) W.heap.size u0 sen) W.cur).withEntry W.cur) := ⟨{ ci198 := ci198, i198 := i198, fBack := fB }, ⟨hk198, hg198, ha198, hsB⟩, hbk, fun _ _ => rfl⟩
  obtain ⟨vm', X3, st, -⟩ := X.throwsNpeColdBareVAt hexec hg hsize T L Z LZ N LN P1 L1 [PR, PE] hLs hlink1 ⟨hlinkR, hlinkE, trivial⟩ hfound hk hinit hordN hctor hsel0 hselF hcellS hknownS hvU hvSen
    hv0 xC xS xP tkC tkS tkP tkX Y.objLocals hskip (fun _ _ hA hW _ hroom _ hrest => L.nativeOff p htr hA hW hroom hrest) (by simpa using hRframes) hRlocals (by simp) hRcells (by rw [hn]; exact hRslots)
  have hlt : W.heap.size < ((W.pushCell (freshCell P1.m.cls N.kN)).setVm vm').heap.size := by
    show W.heap.size < (W.pushCell (freshCell P1.m.cls N.kN)).heap.size
    rw [State.heap_size_pushCell]; omega
  rw [hfsz] at X3
  obtain ⟨g₁, hfrM⟩ := X3.frames_eq
  have hU : ((((W.pushCell (freshCell P1.m.cls N.kN)).setVm vm').setCell W.heap.size (npeBareV T.toThrowableT N.toNpeT (freshCell P1.m.cls N.kN) W.heap.size u0 sen)).setTop g).pushFrame (.throwing W.heap.size) = (((W.pushCell (freshCell P1.m.cls N.kN)).setVm vm').setCell W.heap.size (npeBareV T.toThrowableT N.toNpeT (freshCell P1.m.cls N.kN) W.heap.size u0 sen)).setFrames (.throwing W.heap.size :: .java g :: below) := by
    rw [State.pushFrame, State.frames_setTop _ hfrM, State.setTop_of_frames _ hfrM, State.setFrames_setFrames]
  refine ⟨_, W.heap.size, _, fun target ht => st.trans (by rw [← hU]; exact ht), X3.forget (fun y hy => ?_), heapAt_setCell_self _ hlt, hfound, rfl⟩
  simp only [List.mem_cons, List.not_mem_nil, or_false] at hy
  have hge : s.heap.size ≤ W.heap.size := X.same.2.1
  rcases hy with rfl | rfl | rfl | rfl | rfl <;> exact hge
/-- the words of a machine's NullPointerException, but the four that speak of the heap -/
def vx_atN (n : Nat) : List Cond := (Bundle.npeArmAtoms n).filter vx_no
/-- the words of a machine's throw with a message, but the four that speak of the heap -/
def vx_atM (X : String) (names : List String) : List Cond := (Bundle.messageArmAtoms X names).filter vx_no
section
variable {p : Program} {l : Launch} {e : Env} {R : Room} {s : State} {m : MethodId} {args : Array Value} {below : List Frame} {meth : Method} {c : Code} {H : Heap} {locs : List Loc} {cells slots : Nat}
/-- a frame seen from a rebased start, seen from the first start again -/
theorem vx_back9 {T S : State} {R' : Room} {k n : Nat} (X : Stand p l e R s m args below meth c T locs cells slots) (Y : Stand p l e R' ((T.setVm s.vm).setFrames (.invoking m args :: below)) m args below meth c T [] 0 0) (Z : Stand p l e R' ((T.setVm s.vm).setFrames (.invoking m args :: below)) m args below meth c S [] k n) :
    Stand p l e R s m args below meth c S locs (cells + k) (slots + n) := by
  have hW0 : s.WarmedH ((T.setVm s.vm).setFrames (.invoking m args :: below)).vm := State.WarmedH.refl s
  refine { admits := X.admits, cas := X.cas, clock := X.clock, frames := X.frames, room := X.room, hears := X.hears, method := X.method, code := X.code, here := Z.here, tail := Z.tail, warmed := State.WarmedH.trans hW0 Z.warmed, limits := Z.limits.trans (Y.limits.symm.trans X.limits), bytes := Z.bytes.trans (Y.bytes.symm.trans X.bytes), same := ?_ }
  obtain ⟨e1, e2⟩ := Z.same
  rw [State.setFrames_setFrames] at e1
  have h2 : (T.setVm s.vm).sameButNew (S.setVm s.vm) [] k n := ⟨e1, e2⟩
  have h3 := X.same.trans h2
  rw [List.append_nil] at h3
  exact h3
/-- from the machine's note that E is thrown here with this text -/
def vx_Note (p : Program) (l : Launch) (e : Env) (R : Room) (s : State) (m : MethodId) (args : Array Value) (below : List Frame) (meth : Method) (c : Code) (H : Heap) (locs : List Loc) (cells slots : Nat) (Q : State → Prop) (g : JFrame) (E text : String) : Prop :=
  ∀ T : State, T.heap = H → Stand p l e R s m args below meth c T locs cells slots → ∃ t, Steps p.tables e below ((T.setTop g).pushFrame (.throwNew E (some text) none)) t ∧ Q t
theorem vx_vm {pc : Nat} {ls : Array Slot} {rest : List Value} {Q : State → Prop} (hexec : p.tables.exec = Jvm.exec) (hl : l.stackTraces = false) {cls text : String} {names : List String} {nb : Nat} {A : Nat → Prop}
    (hcls : Bundle.fit cls = true) (hnames : ∀ n ∈ names, Bundle.fit n = true) (hsoe : (cls == "java/lang/StackOverflowError") = false) (hoom : (cls == "java/lang/OutOfMemoryError") = false)
    (hat : ∀ w ∈ vx_atM cls names, w.before args s = true) (hgood : ∀ w ∈ vx_atM cls names, vx_ot w = true)
    (hU : vx_Zq Bundle.tN "UNASSIGNED_STACK" Bundle.steD A s s.heap) (hN : vx_Zq Bundle.tN "SUPPRESSED_SENTINEL" Bundle.listD A s s.heap) (hS : va_S A s.heap H locs) (hsize : ls.size = c.maxLocals)
    (htext : (text == notModelled) = false) (hnb : (stringBytes (stringToUtf16 text)).size ≤ nb) (hnb1 : nb ≤ 1000)
    (hRframes : names.length + 4 < R.frames) (hRlocals : (rest.map fun v => v.category).sum + 10240 ≤ R.locals) (hshort : 13 * names.length + 55 ≤ 10240) (hRcells : cells + 3 ≤ R.cells) (hRslots : slots + (nb + 10) ≤ R.slots) (hlocks : meth.locks = false)
    (k : ∀ (H1 : Heap) (q9 : Addr) (ce : Cell), H.size ≤ H1.size → (∀ q : Nat, q < H.size → H1[q]? = H[q]?) → va_S A s.heap H1 locs → H1[q9]? = some ce → ce.vm = .none → s.vm.findClass cls = some ce.cls → vx_W p l e R s m args below meth c H1 locs (cells + 3) (slots + (nb + 10)) Q (F0 m pc ls rest) q9) :
    vx_Note p l e R s m args below meth c H locs cells slots Q (F0 m pc ls rest) cls text := by
  intro T hT X
  have htr : e.platform.stackTraces = false := (show e.platform.stackTraces = l.stackTraces by rw [X.admits.platform]).trans hl
  have Y := vx_rebase X (R' := { frames := R.frames, locals := R.locals, cells := 3, slots := nb + 10 }) (Nat.le_refl _) (Nat.le_refl _) hRcells hRslots
  have hhp : ((T.setVm s.vm).setFrames (.invoking m args :: below)).heap = H := hT
  have hW0 : s.WarmedH ((T.setVm s.vm).setFrames (.invoking m args :: below)).vm := State.WarmedH.refl s
  have hat' : ∀ w ∈ vx_atM cls names, w.before args ((T.setVm s.vm).setFrames (.invoking m args :: below)) = true := fun w hw => vx_ot_at hW0 rfl (hgood w hw) (hat w hw)
  have hU' : vx_Zq Bundle.tN "UNASSIGNED_STACK" Bundle.steD A ((T.setVm s.vm).setFrames (.invoking m args :: below)) ((T.setVm s.vm).setFrames (.invoking m args :: below)).heap := by rw [hhp]; exact vx_Zq.moved hW0.alike (hU.kept hS.2.1)
  have hN' : vx_Zq Bundle.tN "SUPPRESSED_SENTINEL" Bundle.listD A ((T.setVm s.vm).setFrames (.invoking m args :: below)) ((T.setVm s.vm).setFrames (.invoking m args :: below)).heap := by rw [hhp]; exact vx_Zq.moved hW0.alike (hN.kept hS.2.1)
  obtain ⟨S, q, ce, st, Z, hce, hcl', hv⟩ := vx_vmAt Y hexec htr (cls := cls) (names := names) (text := text) hcls hnames hsoe hoom (vx_own hat' (vx_isRefq hU'.1) (vx_isRefq hN'.1) hU'.2.word hN'.2.word) (fun x hx => nomatch hx) htext
    (by rw [Launch.admits_arrayLengthLimit X.admits]; omega) (by rw [Launch.admits_maxHeapBytes X.admits]; simp only [componentBytes]; omega)
    (g := F0 m pc ls rest) rfl hsize hRframes (by show 2 * 0 + (rest.map fun v => v.category).sum + 10240 ≤ R.locals; omega) hshort (by show 0 + 3 ≤ 3; omega) (by show 0 + (_ + 4 + 6) ≤ nb + 10; omega) hlocks
  obtain ⟨f1, f2⟩ := vx_frame Z.same
  have f1' : H.size ≤ S.heap.size := by rw [← hT]; exact f1
  have f2' : ∀ q : Nat, q < H.size → S.heap[q]? = H[q]? := fun q hq => by
    rw [← hT]
    exact f2 q (by rw [← hT] at hq; exact hq) (fun z hz => nomatch hz)
  have X5 := vx_back9 X Y Z
  have X6 : Stand p l e R s m args below meth c S locs (cells + 3) (slots + (nb + 10)) := { X5 with same := X5.same.mono (by omega) (by omega) }
  obtain ⟨t, a1, b1⟩ := k S.heap q ce f1' f2' ⟨Nat.le_trans hS.1 f1', fun q h1 h2 => (f2' q (Nat.lt_of_lt_of_le h1 hS.1)).trans (hS.2.1 q h1 h2), hS.2.2⟩ hce hv hcl' S rfl X6
  exact ⟨t, st t a1, b1⟩
/-- from the machine's note that NullPointerException is thrown here -/
def vx_NoteN (p : Program) (l : Launch) (e : Env) (R : Room) (s : State) (m : MethodId) (args : Array Value) (below : List Frame) (meth : Method) (c : Code) (H : Heap) (locs : List Loc) (cells slots : Nat) (Q : State → Prop) (g : JFrame) : Prop :=
  ∀ T : State, T.heap = H → Stand p l e R s m args below meth c T locs cells slots → ∃ t, Steps p.tables e below ((T.setTop g).pushFrame (.throwNew "java/lang/NullPointerException" none none)) t ∧ Q t
theorem vx_npe {pc : Nat} {ls : Array Slot} {rest : List Value} {Q : State → Prop} (hexec : p.tables.exec = Jvm.exec) (hl : l.stackTraces = false) {nb : Nat} {A : Nat → Prop}
    (hat : ∀ w ∈ vx_atN nb, w.before args s = true) (hgood : ∀ w ∈ vx_atN nb, vx_ot w = true)
    (hU : vx_Zq Bundle.tN "UNASSIGNED_STACK" Bundle.steD A s s.heap) (hN : vx_Zq Bundle.tN "SUPPRESSED_SENTINEL" Bundle.listD A s s.heap) (hS : va_S A s.heap H locs) (hsize : ls.size = c.maxLocals)
    (hRframes : 7 < R.frames) (hRlocals : (rest.map fun v => v.category).sum + 10240 ≤ R.locals) (hRcells : cells + 1 ≤ R.cells) (hRslots : slots + nb ≤ R.slots) (hlocks : meth.locks = false)
    (k : ∀ (H1 : Heap) (q9 : Addr) (ce : Cell), H.size ≤ H1.size → (∀ q : Nat, q < H.size → H1[q]? = H[q]?) → va_S A s.heap H1 locs → H1[q9]? = some ce → ce.vm = .none → s.vm.findClass "java/lang/NullPointerException" = some ce.cls → vx_W p l e R s m args below meth c H1 locs (cells + 1) (slots + nb) Q (F0 m pc ls rest) q9) :
    vx_NoteN p l e R s m args below meth c H locs cells slots Q (F0 m pc ls rest) := by
  intro T hT X
  have htr : e.platform.stackTraces = false := (show e.platform.stackTraces = l.stackTraces by rw [X.admits.platform]).trans hl
  have Y := vx_rebase X (R' := { frames := R.frames, locals := R.locals, cells := 1, slots := nb }) (Nat.le_refl _) (Nat.le_refl _) hRcells hRslots
  have hhp : ((T.setVm s.vm).setFrames (.invoking m args :: below)).heap = H := hT
  have hW0 : s.WarmedH ((T.setVm s.vm).setFrames (.invoking m args :: below)).vm := State.WarmedH.refl s
  have hat' : ∀ w ∈ vx_atN nb, w.before args ((T.setVm s.vm).setFrames (.invoking m args :: below)) = true := fun w hw => vx_ot_at hW0 rfl (hgood w hw) (hat w hw)
  have hU' : vx_Zq Bundle.tN "UNASSIGNED_STACK" Bundle.steD A ((T.setVm s.vm).setFrames (.invoking m args :: below)) ((T.setVm s.vm).setFrames (.invoking m args :: below)).heap := by rw [hhp]; exact vx_Zq.moved hW0.alike (hU.kept hS.2.1)
  have hN' : vx_Zq Bundle.tN "SUPPRESSED_SENTINEL" Bundle.listD A ((T.setVm s.vm).setFrames (.invoking m args :: below)) ((T.setVm s.vm).setFrames (.invoking m args :: below)).heap := by rw [hhp]; exact vx_Zq.moved hW0.alike (hN.kept hS.2.1)
  obtain ⟨S, q, ce, st, Z, hce, hcl', hv⟩ := vx_npeAt Y hexec htr (n := nb) (vx_own hat' (vx_isRefq hU'.1) (vx_isRefq hN'.1) hU'.2.word hN'.2.word) (fun x hx => nomatch hx)
    (g := F0 m pc ls rest) rfl hsize hRframes (by show 2 * 0 + (rest.map fun v => v.category).sum + 10240 ≤ R.locals; omega) (by show 0 + 1 ≤ 1; omega) (by show 0 + nb ≤ nb; omega) hlocks
  obtain ⟨f1, f2⟩ := vx_frame Z.same
  have f1' : H.size ≤ S.heap.size := by rw [← hT]; exact f1
  have f2' : ∀ q : Nat, q < H.size → S.heap[q]? = H[q]? := fun q hq => by
    rw [← hT]
    exact f2 q (by rw [← hT] at hq; exact hq) (fun z hz => nomatch hz)
  have X5 := vx_back9 X Y Z
  have X6 : Stand p l e R s m args below meth c S locs (cells + 1) (slots + nb) := { X5 with same := X5.same.mono (by omega) (by omega) }
  obtain ⟨t, a1, b1⟩ := k S.heap q ce f1' f2' ⟨Nat.le_trans hS.1 f1', fun q h1 h2 => (f2' q (Nat.lt_of_lt_of_le h1 hS.1)).trans (hS.2.1 q h1 h2), hS.2.2⟩ hce hv hcl' S rfl X6
  exact ⟨t, st t a1, b1⟩
variable {Q : State → Prop} {cc : ByteArray} {pc : Nat} {ls : Array Slot} {rest : List Value}
theorem vx_idivZ (hexec : p.tables.exec = Jvm.exec) (hb : c.code = cc) {a b : Int32} (h0 : b = 0) (d : decode cc pc = .ok (.idiv, 1)) (k : vx_Note p l e R s m args below meth c H locs cells slots Q (F0 m pc ls rest) "java/lang/ArithmeticException" "/ by zero") :
    W p l e R s m args below meth c H locs cells slots Q (F0 m pc ls (.int b :: .int a :: rest)) := by
  intro T hT X
  obtain ⟨t, st, q⟩ := k T hT X
  exact ⟨t, X.idivZero hexec (g := F0 m pc ls (.int b :: .int a :: rest)) rfl (a := a) (rest := rest) (by rw [h0]) (by rw [hb]; exact d) t st, q⟩
theorem vx_iremZ (hexec : p.tables.exec = Jvm.exec) (hb : c.code = cc) {a b : Int32} (h0 : b = 0) (d : decode cc pc = .ok (.irem, 1)) (k : vx_Note p l e R s m args below meth c H locs cells slots Q (F0 m pc ls rest) "java/lang/ArithmeticException" "/ by zero") :
    W p l e R s m args below meth c H locs cells slots Q (F0 m pc ls (.int b :: .int a :: rest)) := by
  intro T hT X
  obtain ⟨t, st, q⟩ := k T hT X
  exact ⟨t, X.iremZero hexec (g := F0 m pc ls (.int b :: .int a :: rest)) rfl (a := a) (rest := rest) (by rw [h0]) (by rw [hb]; exact d) t st, q⟩
theorem vx_ldivZ (hexec : p.tables.exec = Jvm.exec) (hb : c.code = cc) {a b : Int64} (h0 : b = 0) (d : decode cc pc = .ok (.ldiv, 1)) (k : vx_Note p l e R s m args below meth c H locs cells slots Q (F0 m pc ls rest) "java/lang/ArithmeticException" "/ by zero") :
    W p l e R s m args below meth c H locs cells slots Q (F0 m pc ls (.long b :: .long a :: rest)) := by
  intro T hT X
  obtain ⟨t, st, q⟩ := k T hT X
  exact ⟨t, X.ldivZero hexec (g := F0 m pc ls (.long b :: .long a :: rest)) rfl (a := a) (rest := rest) (by rw [h0]) (by rw [hb]; exact d) t st, q⟩
theorem vx_lremZ (hexec : p.tables.exec = Jvm.exec) (hb : c.code = cc) {a b : Int64} (h0 : b = 0) (d : decode cc pc = .ok (.lrem, 1)) (k : vx_Note p l e R s m args below meth c H locs cells slots Q (F0 m pc ls rest) "java/lang/ArithmeticException" "/ by zero") :
    W p l e R s m args below meth c H locs cells slots Q (F0 m pc ls (.long b :: .long a :: rest)) := by
  intro T hT X
  obtain ⟨t, st, q⟩ := k T hT X
  exact ⟨t, X.lremZero hexec (g := F0 m pc ls (.long b :: .long a :: rest)) rfl (a := a) (rest := rest) (by rw [h0]) (by rw [hb]; exact d) t st, q⟩
theorem vx_ialdZ {D : va_G} {cl : List vw_C} {ws : va_W} {tys : List (ClassId × FieldType)} {a : Nat} (hexec : p.tables.exec = Jvm.exec) (hb : c.code = cc) (hK : va_K D cl tys s) (hP : va_P D cl ws H) (q0 t0 : Nat) {cA : ClassId} {n : Nat} {f : Nat → Int32} (ha : ws[q0]? = some (a, .inl (cA, n, .inl f))) (ht : tys[t0]? = some (cA, .int)) {i : Int32} (hout : ¬ vp_in i n) (hdg : decode cc pc = .ok (.iaload, 1))
    (k : ∀ tx : String, tx = (toString "Index " ++ toString i ++ toString " out of bounds for length " ++ toString n : String) → vx_Note p l e R s m args below meth c H locs cells slots Q (F0 m pc ls rest) "java/lang/ArrayIndexOutOfBoundsException" tx) : W p l e R s m args below meth c H locs cells slots Q (F0 m pc ls (.int i :: .ref a :: rest)) := by
  intro T hT X
  obtain ⟨t, st, q⟩ := k _ rfl T hT X
  refine ⟨t, ?_, q⟩
  have h1 := X.ialoadOut hexec (by rw [hT]; exact hP q0 _ ha) ((hK.2 t0 _ ht).1 n (fun j => .int (f j))) (j := i) (by show (i < 0 ∨ (arrV _ _ _).slots.size ≤ _); rw [arrV_size]; exact Classical.byContradiction hout) (g := F0 m pc ls (.int i :: .ref a :: rest)) rfl (rest := rest) rfl (by rw [hb]; exact hdg) t
  simp only [arrV_size] at h1
  exact h1 st
theorem vx_iastZ {D : va_G} {cl : List vw_C} {ws : va_W} {tys : List (ClassId × FieldType)} {a : Nat} (hexec : p.tables.exec = Jvm.exec) (hb : c.code = cc) (hK : va_K D cl tys s) (hP : va_P D cl ws H) (q0 t0 : Nat) {cA : ClassId} {n : Nat} {f : Nat → Int32} (ha : ws[q0]? = some (a, .inl (cA, n, .inl f))) (ht : tys[t0]? = some (cA, .int)) {i : Int32} {x : Int32} (hout : ¬ vp_in i n) (hdg : decode cc pc = .ok (.iastore, 1))
    (k : ∀ tx : String, tx = (toString "Index " ++ toString i ++ toString " out of bounds for length " ++ toString n : String) → vx_Note p l e R s m args below meth c H locs cells slots Q (F0 m pc ls rest) "java/lang/ArrayIndexOutOfBoundsException" tx) : W p l e R s m args below meth c H locs cells slots Q (F0 m pc ls (.int x :: .int i :: .ref a :: rest)) := by
  intro T hT X
  obtain ⟨t, st, q⟩ := k _ rfl T hT X
  refine ⟨t, ?_, q⟩
  have h1 := X.iastoreOut hexec (by rw [hT]; exact hP q0 _ ha) ((hK.2 t0 _ ht).1 n (fun j => .int (f j))) (j := i) (by show (i < 0 ∨ (arrV _ _ _).slots.size ≤ _); rw [arrV_size]; exact Classical.byContradiction hout) (g := F0 m pc ls (.int x :: .int i :: .ref a :: rest)) rfl (rest := rest) rfl (by rw [hb]; exact hdg) t
  simp only [arrV_size] at h1
  exact h1 st
theorem vx_baldZ {D : va_G} {cl : List vw_C} {ws : va_W} {tys : List (ClassId × FieldType)} {a : Nat} (hexec : p.tables.exec = Jvm.exec) (hb : c.code = cc) (hK : va_K D cl tys s) (hP : va_P D cl ws H) (q0 t0 : Nat) {cA : ClassId} {n : Nat} {f : Nat → Int32} (ha : ws[q0]? = some (a, .inl (cA, n, .inl f))) (ht : tys[t0]? = some (cA, .byte)) {i : Int32} (hout : ¬ vp_in i n) (hdg : decode cc pc = .ok (.baload, 1))
    (k : ∀ tx : String, tx = (toString "Index " ++ toString i ++ toString " out of bounds for length " ++ toString n : String) → vx_Note p l e R s m args below meth c H locs cells slots Q (F0 m pc ls rest) "java/lang/ArrayIndexOutOfBoundsException" tx) : W p l e R s m args below meth c H locs cells slots Q (F0 m pc ls (.int i :: .ref a :: rest)) := by
  intro T hT X
  obtain ⟨t, st, q⟩ := k _ rfl T hT X
  refine ⟨t, ?_, q⟩
  have h1 := X.baloadOut hexec (by rw [hT]; exact hP q0 _ ha) ((hK.2 t0 _ ht).1 n (fun j => .int (f j))) (j := i) (by show (i < 0 ∨ (arrV _ _ _).slots.size ≤ _); rw [arrV_size]; exact Classical.byContradiction hout) (g := F0 m pc ls (.int i :: .ref a :: rest)) rfl (rest := rest) rfl (by rw [hb]; exact hdg) t
  simp only [arrV_size] at h1
  exact h1 st
theorem vx_bastZ {D : va_G} {cl : List vw_C} {ws : va_W} {tys : List (ClassId × FieldType)} {a : Nat} (hexec : p.tables.exec = Jvm.exec) (hb : c.code = cc) (hK : va_K D cl tys s) (hP : va_P D cl ws H) (q0 t0 : Nat) {cA : ClassId} {n : Nat} {f : Nat → Int32} (ha : ws[q0]? = some (a, .inl (cA, n, .inl f))) (ht : tys[t0]? = some (cA, .byte)) {i : Int32} {x : Int32} (hout : ¬ vp_in i n) (hdg : decode cc pc = .ok (.bastore, 1))
    (k : ∀ tx : String, tx = (toString "Index " ++ toString i ++ toString " out of bounds for length " ++ toString n : String) → vx_Note p l e R s m args below meth c H locs cells slots Q (F0 m pc ls rest) "java/lang/ArrayIndexOutOfBoundsException" tx) : W p l e R s m args below meth c H locs cells slots Q (F0 m pc ls (.int x :: .int i :: .ref a :: rest)) := by
  intro T hT X
  obtain ⟨t, st, q⟩ := k _ rfl T hT X
  refine ⟨t, ?_, q⟩
  have h1 := X.bastoreOut hexec (by rw [hT]; exact hP q0 _ ha) ((hK.2 t0 _ ht).1 n (fun j => .int (f j))) (j := i) (by show (i < 0 ∨ (arrV _ _ _).slots.size ≤ _); rw [arrV_size]; exact Classical.byContradiction hout) (g := F0 m pc ls (.int x :: .int i :: .ref a :: rest)) rfl (rest := rest) rfl (by rw [hb]; exact hdg) t
  simp only [arrV_size] at h1
  exact h1 st
theorem vx_zaldZ {D : va_G} {cl : List vw_C} {ws : va_W} {tys : List (ClassId × FieldType)} {a : Nat} (hexec : p.tables.exec = Jvm.exec) (hb : c.code = cc) (hK : va_K D cl tys s) (hP : va_P D cl ws H) (q0 t0 : Nat) {cA : ClassId} {n : Nat} {f : Nat → Int32} (ha : ws[q0]? = some (a, .inl (cA, n, .inl f))) (ht : tys[t0]? = some (cA, .boolean)) {i : Int32} (hout : ¬ vp_in i n) (hdg : decode cc pc = .ok (.baload, 1))
    (k : ∀ tx : String, tx = (toString "Index " ++ toString i ++ toString " out of bounds for length " ++ toString n : String) → vx_Note p l e R s m args below meth c H locs cells slots Q (F0 m pc ls rest) "java/lang/ArrayIndexOutOfBoundsException" tx) : W p l e R s m args below meth c H locs cells slots Q (F0 m pc ls (.int i :: .ref a :: rest)) := by
  intro T hT X
  obtain ⟨t, st, q⟩ := k _ rfl T hT X
  refine ⟨t, ?_, q⟩
  have h1 := X.baloadOut hexec (by rw [hT]; exact hP q0 _ ha) ((hK.2 t0 _ ht).1 n (fun j => .int (f j))) (j := i) (by show (i < 0 ∨ (arrV _ _ _).slots.size ≤ _); rw [arrV_size]; exact Classical.byContradiction hout) (g := F0 m pc ls (.int i :: .ref a :: rest)) rfl (rest := rest) rfl (by rw [hb]; exact hdg) t
  simp only [arrV_size] at h1
  exact h1 st
theorem vx_zastZ {D : va_G} {cl : List vw_C} {ws : va_W} {tys : List (ClassId × FieldType)} {a : Nat} (hexec : p.tables.exec = Jvm.exec) (hb : c.code = cc) (hK : va_K D cl tys s) (hP : va_P D cl ws H) (q0 t0 : Nat) {cA : ClassId} {n : Nat} {f : Nat → Int32} (ha : ws[q0]? = some (a, .inl (cA, n, .inl f))) (ht : tys[t0]? = some (cA, .boolean)) {i : Int32} {x : Int32} (hout : ¬ vp_in i n) (hdg : decode cc pc = .ok (.bastore, 1))
    (k : ∀ tx : String, tx = (toString "Index " ++ toString i ++ toString " out of bounds for length " ++ toString n : String) → vx_Note p l e R s m args below meth c H locs cells slots Q (F0 m pc ls rest) "java/lang/ArrayIndexOutOfBoundsException" tx) : W p l e R s m args below meth c H locs cells slots Q (F0 m pc ls (.int x :: .int i :: .ref a :: rest)) := by
  intro T hT X
  obtain ⟨t, st, q⟩ := k _ rfl T hT X
  refine ⟨t, ?_, q⟩
  have h1 := X.bastoreOut hexec (by rw [hT]; exact hP q0 _ ha) ((hK.2 t0 _ ht).1 n (fun j => .int (f j))) (j := i) (by show (i < 0 ∨ (arrV _ _ _).slots.size ≤ _); rw [arrV_size]; exact Classical.byContradiction hout) (g := F0 m pc ls (.int x :: .int i :: .ref a :: rest)) rfl (rest := rest) rfl (by rw [hb]; exact hdg) t
  simp only [arrV_size] at h1
  exact h1 st
theorem vx_caldZ {D : va_G} {cl : List vw_C} {ws : va_W} {tys : List (ClassId × FieldType)} {a : Nat} (hexec : p.tables.exec = Jvm.exec) (hb : c.code = cc) (hK : va_K D cl tys s) (hP : va_P D cl ws H) (q0 t0 : Nat) {cA : ClassId} {n : Nat} {f : Nat → Int32} (ha : ws[q0]? = some (a, .inl (cA, n, .inl f))) (ht : tys[t0]? = some (cA, .char)) {i : Int32} (hout : ¬ vp_in i n) (hdg : decode cc pc = .ok (.caload, 1))
    (k : ∀ tx : String, tx = (toString "Index " ++ toString i ++ toString " out of bounds for length " ++ toString n : String) → vx_Note p l e R s m args below meth c H locs cells slots Q (F0 m pc ls rest) "java/lang/ArrayIndexOutOfBoundsException" tx) : W p l e R s m args below meth c H locs cells slots Q (F0 m pc ls (.int i :: .ref a :: rest)) := by
  intro T hT X
  obtain ⟨t, st, q⟩ := k _ rfl T hT X
  refine ⟨t, ?_, q⟩
  have h1 := X.caloadOut hexec (by rw [hT]; exact hP q0 _ ha) ((hK.2 t0 _ ht).1 n (fun j => .int (f j))) (j := i) (by show (i < 0 ∨ (arrV _ _ _).slots.size ≤ _); rw [arrV_size]; exact Classical.byContradiction hout) (g := F0 m pc ls (.int i :: .ref a :: rest)) rfl (rest := rest) rfl (by rw [hb]; exact hdg) t
  simp only [arrV_size] at h1
  exact h1 st
theorem vx_castZ {D : va_G} {cl : List vw_C} {ws : va_W} {tys : List (ClassId × FieldType)} {a : Nat} (hexec : p.tables.exec = Jvm.exec) (hb : c.code = cc) (hK : va_K D cl tys s) (hP : va_P D cl ws H) (q0 t0 : Nat) {cA : ClassId} {n : Nat} {f : Nat → Int32} (ha : ws[q0]? = some (a, .inl (cA, n, .inl f))) (ht : tys[t0]? = some (cA, .char)) {i : Int32} {x : Int32} (hout : ¬ vp_in i n) (hdg : decode cc pc = .ok (.castore, 1))
    (k : ∀ tx : String, tx = (toString "Index " ++ toString i ++ toString " out of bounds for length " ++ toString n : String) → vx_Note p l e R s m args below meth c H locs cells slots Q (F0 m pc ls rest) "java/lang/ArrayIndexOutOfBoundsException" tx) : W p l e R s m args below meth c H locs cells slots Q (F0 m pc ls (.int x :: .int i :: .ref a :: rest)) := by
  intro T hT X
  obtain ⟨t, st, q⟩ := k _ rfl T hT X
  refine ⟨t, ?_, q⟩
  have h1 := X.castoreOut hexec (by rw [hT]; exact hP q0 _ ha) ((hK.2 t0 _ ht).1 n (fun j => .int (f j))) (j := i) (by show (i < 0 ∨ (arrV _ _ _).slots.size ≤ _); rw [arrV_size]; exact Classical.byContradiction hout) (g := F0 m pc ls (.int x :: .int i :: .ref a :: rest)) rfl (rest := rest) rfl (by rw [hb]; exact hdg) t
  simp only [arrV_size] at h1
  exact h1 st
theorem vx_saldZ {D : va_G} {cl : List vw_C} {ws : va_W} {tys : List (ClassId × FieldType)} {a : Nat} (hexec : p.tables.exec = Jvm.exec) (hb : c.code = cc) (hK : va_K D cl tys s) (hP : va_P D cl ws H) (q0 t0 : Nat) {cA : ClassId} {n : Nat} {f : Nat → Int32} (ha : ws[q0]? = some (a, .inl (cA, n, .inl f))) (ht : tys[t0]? = some (cA, .short)) {i : Int32} (hout : ¬ vp_in i n) (hdg : decode cc pc = .ok (.saload, 1))
    (k : ∀ tx : String, tx = (toString "Index " ++ toString i ++ toString " out of bounds for length " ++ toString n : String) → vx_Note p l e R s m args below meth c H locs cells slots Q (F0 m pc ls rest) "java/lang/ArrayIndexOutOfBoundsException" tx) : W p l e R s m args below meth c H locs cells slots Q (F0 m pc ls (.int i :: .ref a :: rest)) := by
  intro T hT X
  obtain ⟨t, st, q⟩ := k _ rfl T hT X
  refine ⟨t, ?_, q⟩
  have h1 := X.saloadOut hexec (by rw [hT]; exact hP q0 _ ha) ((hK.2 t0 _ ht).1 n (fun j => .int (f j))) (j := i) (by show (i < 0 ∨ (arrV _ _ _).slots.size ≤ _); rw [arrV_size]; exact Classical.byContradiction hout) (g := F0 m pc ls (.int i :: .ref a :: rest)) rfl (rest := rest) rfl (by rw [hb]; exact hdg) t
  simp only [arrV_size] at h1
  exact h1 st
theorem vx_sastZ {D : va_G} {cl : List vw_C} {ws : va_W} {tys : List (ClassId × FieldType)} {a : Nat} (hexec : p.tables.exec = Jvm.exec) (hb : c.code = cc) (hK : va_K D cl tys s) (hP : va_P D cl ws H) (q0 t0 : Nat) {cA : ClassId} {n : Nat} {f : Nat → Int32} (ha : ws[q0]? = some (a, .inl (cA, n, .inl f))) (ht : tys[t0]? = some (cA, .short)) {i : Int32} {x : Int32} (hout : ¬ vp_in i n) (hdg : decode cc pc = .ok (.sastore, 1))
    (k : ∀ tx : String, tx = (toString "Index " ++ toString i ++ toString " out of bounds for length " ++ toString n : String) → vx_Note p l e R s m args below meth c H locs cells slots Q (F0 m pc ls rest) "java/lang/ArrayIndexOutOfBoundsException" tx) : W p l e R s m args below meth c H locs cells slots Q (F0 m pc ls (.int x :: .int i :: .ref a :: rest)) := by
  intro T hT X
  obtain ⟨t, st, q⟩ := k _ rfl T hT X
  refine ⟨t, ?_, q⟩
  have h1 := X.sastoreOut hexec (by rw [hT]; exact hP q0 _ ha) ((hK.2 t0 _ ht).1 n (fun j => .int (f j))) (j := i) (by show (i < 0 ∨ (arrV _ _ _).slots.size ≤ _); rw [arrV_size]; exact Classical.byContradiction hout) (g := F0 m pc ls (.int x :: .int i :: .ref a :: rest)) rfl (rest := rest) rfl (by rw [hb]; exact hdg) t
  simp only [arrV_size] at h1
  exact h1 st
theorem vx_laldZ {D : va_G} {cl : List vw_C} {ws : va_W} {tys : List (ClassId × FieldType)} {a : Nat} (hexec : p.tables.exec = Jvm.exec) (hb : c.code = cc) (hK : va_K D cl tys s) (hP : va_P D cl ws H) (q0 t0 : Nat) {cA : ClassId} {n : Nat} {f : Nat → Int64} (ha : ws[q0]? = some (a, .inl (cA, n, .inr (.inl f)))) (ht : tys[t0]? = some (cA, .long)) {i : Int32} (hout : ¬ vp_in i n) (hdg : decode cc pc = .ok (.laload, 1))
    (k : ∀ tx : String, tx = (toString "Index " ++ toString i ++ toString " out of bounds for length " ++ toString n : String) → vx_Note p l e R s m args below meth c H locs cells slots Q (F0 m pc ls rest) "java/lang/ArrayIndexOutOfBoundsException" tx) : W p l e R s m args below meth c H locs cells slots Q (F0 m pc ls (.int i :: .ref a :: rest)) := by
  intro T hT X
  obtain ⟨t, st, q⟩ := k _ rfl T hT X
  refine ⟨t, ?_, q⟩
  have h1 := X.laloadOut hexec (by rw [hT]; exact hP q0 _ ha) ((hK.2 t0 _ ht).1 n (fun j => .long (f j))) (j := i) (by show (i < 0 ∨ (arrV _ _ _).slots.size ≤ _); rw [arrV_size]; exact Classical.byContradiction hout) (g := F0 m pc ls (.int i :: .ref a :: rest)) rfl (rest := rest) rfl (by rw [hb]; exact hdg) t
  simp only [arrV_size] at h1
  exact h1 st
theorem vx_lastZ {D : va_G} {cl : List vw_C} {ws : va_W} {tys : List (ClassId × FieldType)} {a : Nat} (hexec : p.tables.exec = Jvm.exec) (hb : c.code = cc) (hK : va_K D cl tys s) (hP : va_P D cl ws H) (q0 t0 : Nat) {cA : ClassId} {n : Nat} {f : Nat → Int64} (ha : ws[q0]? = some (a, .inl (cA, n, .inr (.inl f)))) (ht : tys[t0]? = some (cA, .long)) {i : Int32} {x : Int64} (hout : ¬ vp_in i n) (hdg : decode cc pc = .ok (.lastore, 1))
    (k : ∀ tx : String, tx = (toString "Index " ++ toString i ++ toString " out of bounds for length " ++ toString n : String) → vx_Note p l e R s m args below meth c H locs cells slots Q (F0 m pc ls rest) "java/lang/ArrayIndexOutOfBoundsException" tx) : W p l e R s m args below meth c H locs cells slots Q (F0 m pc ls (.long x :: .int i :: .ref a :: rest)) := by
  intro T hT X
  obtain ⟨t, st, q⟩ := k _ rfl T hT X
  refine ⟨t, ?_, q⟩
  have h1 := X.lastoreOut hexec (by rw [hT]; exact hP q0 _ ha) ((hK.2 t0 _ ht).1 n (fun j => .long (f j))) (j := i) (by show (i < 0 ∨ (arrV _ _ _).slots.size ≤ _); rw [arrV_size]; exact Classical.byContradiction hout) (g := F0 m pc ls (.long x :: .int i :: .ref a :: rest)) rfl (rest := rest) rfl (by rw [hb]; exact hdg) t
  simp only [arrV_size] at h1
  exact h1 st
theorem vx_faldZ {D : va_G} {cl : List vw_C} {ws : va_W} {tys : List (ClassId × FieldType)} {a : Nat} (hexec : p.tables.exec = Jvm.exec) (hb : c.code = cc) (hK : va_K D cl tys s) (hP : va_P D cl ws H) (q0 t0 : Nat) {cA : ClassId} {n : Nat} {f : Nat → UInt32} (ha : ws[q0]? = some (a, .inl (cA, n, .inr (.inr (.inl f))))) (ht : tys[t0]? = some (cA, .float)) {i : Int32} (hout : ¬ vp_in i n) (hdg : decode cc pc = .ok (.faload, 1))
    (k : ∀ tx : String, tx = (toString "Index " ++ toString i ++ toString " out of bounds for length " ++ toString n : String) → vx_Note p l e R s m args below meth c H locs cells slots Q (F0 m pc ls rest) "java/lang/ArrayIndexOutOfBoundsException" tx) : W p l e R s m args below meth c H locs cells slots Q (F0 m pc ls (.int i :: .ref a :: rest)) := by
  intro T hT X
  obtain ⟨t, st, q⟩ := k _ rfl T hT X
  refine ⟨t, ?_, q⟩
  have h1 := X.faloadOut hexec (by rw [hT]; exact hP q0 _ ha) ((hK.2 t0 _ ht).1 n (fun j => .float (f j))) (j := i) (by show (i < 0 ∨ (arrV _ _ _).slots.size ≤ _); rw [arrV_size]; exact Classical.byContradiction hout) (g := F0 m pc ls (.int i :: .ref a :: rest)) rfl (rest := rest) rfl (by rw [hb]; exact hdg) t
  simp only [arrV_size] at h1
  exact h1 st
theorem vx_fastZ {D : va_G} {cl : List vw_C} {ws : va_W} {tys : List (ClassId × FieldType)} {a : Nat} (hexec : p.tables.exec = Jvm.exec) (hb : c.code = cc) (hK : va_K D cl tys s) (hP : va_P D cl ws H) (q0 t0 : Nat) {cA : ClassId} {n : Nat} {f : Nat → UInt32} (ha : ws[q0]? = some (a, .inl (cA, n, .inr (.inr (.inl f))))) (ht : tys[t0]? = some (cA, .float)) {i : Int32} {x : UInt32} (hout : ¬ vp_in i n) (hdg : decode cc pc = .ok (.fastore, 1))
    (k : ∀ tx : String, tx = (toString "Index " ++ toString i ++ toString " out of bounds for length " ++ toString n : String) → vx_Note p l e R s m args below meth c H locs cells slots Q (F0 m pc ls rest) "java/lang/ArrayIndexOutOfBoundsException" tx) : W p l e R s m args below meth c H locs cells slots Q (F0 m pc ls (.float x :: .int i :: .ref a :: rest)) := by
  intro T hT X
  obtain ⟨t, st, q⟩ := k _ rfl T hT X
  refine ⟨t, ?_, q⟩
  have h1 := X.fastoreOut hexec (by rw [hT]; exact hP q0 _ ha) ((hK.2 t0 _ ht).1 n (fun j => .float (f j))) (j := i) (by show (i < 0 ∨ (arrV _ _ _).slots.size ≤ _); rw [arrV_size]; exact Classical.byContradiction hout) (g := F0 m pc ls (.float x :: .int i :: .ref a :: rest)) rfl (rest := rest) rfl (by rw [hb]; exact hdg) t
  simp only [arrV_size] at h1
  exact h1 st
theorem vx_daldZ {D : va_G} {cl : List vw_C} {ws : va_W} {tys : List (ClassId × FieldType)} {a : Nat} (hexec : p.tables.exec = Jvm.exec) (hb : c.code = cc) (hK : va_K D cl tys s) (hP : va_P D cl ws H) (q0 t0 : Nat) {cA : ClassId} {n : Nat} {f : Nat → UInt64} (ha : ws[q0]? = some (a, .inl (cA, n, .inr (.inr (.inr (.inl f)))))) (ht : tys[t0]? = some (cA, .double)) {i : Int32} (hout : ¬ vp_in i n) (hdg : decode cc pc = .ok (.daload, 1))
    (k : ∀ tx : String, tx = (toString "Index " ++ toString i ++ toString " out of bounds for length " ++ toString n : String) → vx_Note p l e R s m args below meth c H locs cells slots Q (F0 m pc ls rest) "java/lang/ArrayIndexOutOfBoundsException" tx) : W p l e R s m args below meth c H locs cells slots Q (F0 m pc ls (.int i :: .ref a :: rest)) := by
  intro T hT X
  obtain ⟨t, st, q⟩ := k _ rfl T hT X
  refine ⟨t, ?_, q⟩
  have h1 := X.daloadOut hexec (by rw [hT]; exact hP q0 _ ha) ((hK.2 t0 _ ht).1 n (fun j => .double (f j))) (j := i) (by show (i < 0 ∨ (arrV _ _ _).slots.size ≤ _); rw [arrV_size]; exact Classical.byContradiction hout) (g := F0 m pc ls (.int i :: .ref a :: rest)) rfl (rest := rest) rfl (by rw [hb]; exact hdg) t
  simp only [arrV_size] at h1
  exact h1 st
theorem vx_dastZ {D : va_G} {cl : List vw_C} {ws : va_W} {tys : List (ClassId × FieldType)} {a : Nat} (hexec : p.tables.exec = Jvm.exec) (hb : c.code = cc) (hK : va_K D cl tys s) (hP : va_P D cl ws H) (q0 t0 : Nat) {cA : ClassId} {n : Nat} {f : Nat → UInt64} (ha : ws[q0]? = some (a, .inl (cA, n, .inr (.inr (.inr (.inl f)))))) (ht : tys[t0]? = some (cA, .double)) {i : Int32} {x : UInt64} (hout : ¬ vp_in i n) (hdg : decode cc pc = .ok (.dastore, 1))
    (k : ∀ tx : String, tx = (toString "Index " ++ toString i ++ toString " out of bounds for length " ++ toString n : String) → vx_Note p l e R s m args below meth c H locs cells slots Q (F0 m pc ls rest) "java/lang/ArrayIndexOutOfBoundsException" tx) : W p l e R s m args below meth c H locs cells slots Q (F0 m pc ls (.double x :: .int i :: .ref a :: rest)) := by
  intro T hT X
  obtain ⟨t, st, q⟩ := k _ rfl T hT X
  refine ⟨t, ?_, q⟩
  have h1 := X.dastoreOut hexec (by rw [hT]; exact hP q0 _ ha) ((hK.2 t0 _ ht).1 n (fun j => .double (f j))) (j := i) (by show (i < 0 ∨ (arrV _ _ _).slots.size ≤ _); rw [arrV_size]; exact Classical.byContradiction hout) (g := F0 m pc ls (.double x :: .int i :: .ref a :: rest)) rfl (rest := rest) rfl (by rw [hb]; exact hdg) t
  simp only [arrV_size] at h1
  exact h1 st
theorem vx_arraylengthN (hexec : p.tables.exec = Jvm.exec) (hb : c.code = cc) (hdg : decode cc pc = .ok (.arraylength, 1)) (k : vx_NoteN p l e R s m args below meth c H locs cells slots Q (F0 m pc ls rest)) : W p l e R s m args below meth c H locs cells slots Q (F0 m pc ls (.null :: rest)) := by
  intro T hT X
  obtain ⟨t, st, q⟩ := k T hT X
  exact ⟨t, X.arraylengthNull hexec (g := F0 m pc ls (.null :: rest)) rfl (rest := rest) rfl (by rw [hb]; exact hdg) t st, q⟩
theorem vx_ialoadN (hexec : p.tables.exec = Jvm.exec) (hb : c.code = cc) {i : Int32} (hdg : decode cc pc = .ok (.iaload, 1)) (k : vx_NoteN p l e R s m args below meth c H locs cells slots Q (F0 m pc ls rest)) : W p l e R s m args below meth c H locs cells slots Q (F0 m pc ls (.int i :: .null :: rest)) := by
  intro T hT X
  obtain ⟨t, st, q⟩ := k T hT X
  exact ⟨t, X.ialoadNull hexec (g := F0 m pc ls (.int i :: .null :: rest)) rfl (rest := rest) rfl (by rw [hb]; exact hdg) t st, q⟩
theorem vx_laloadN (hexec : p.tables.exec = Jvm.exec) (hb : c.code = cc) {i : Int32} (hdg : decode cc pc = .ok (.laload, 1)) (k : vx_NoteN p l e R s m args below meth c H locs cells slots Q (F0 m pc ls rest)) : W p l e R s m args below meth c H locs cells slots Q (F0 m pc ls (.int i :: .null :: rest)) := by
  intro T hT X
  obtain ⟨t, st, q⟩ := k T hT X
  exact ⟨t, X.laloadNull hexec (g := F0 m pc ls (.int i :: .null :: rest)) rfl (rest := rest) rfl (by rw [hb]; exact hdg) t st, q⟩
theorem vx_faloadN (hexec : p.tables.exec = Jvm.exec) (hb : c.code = cc) {i : Int32} (hdg : decode cc pc = .ok (.faload, 1)) (k : vx_NoteN p l e R s m args below meth c H locs cells slots Q (F0 m pc ls rest)) : W p l e R s m args below meth c H locs cells slots Q (F0 m pc ls (.int i :: .null :: rest)) := by
  intro T hT X
  obtain ⟨t, st, q⟩ := k T hT X
  exact ⟨t, X.faloadNull hexec (g := F0 m pc ls (.int i :: .null :: rest)) rfl (rest := rest) rfl (by rw [hb]; exact hdg) t st, q⟩
theorem vx_daloadN (hexec : p.tables.exec = Jvm.exec) (hb : c.code = cc) {i : Int32} (hdg : decode cc pc = .ok (.daload, 1)) (k : vx_NoteN p l e R s m args below meth c H locs cells slots Q (F0 m pc ls rest)) : W p l e R s m args below meth c H locs cells slots Q (F0 m pc ls (.int i :: .null :: rest)) := by
  intro T hT X
  obtain ⟨t, st, q⟩ := k T hT X
  exact ⟨t, X.daloadNull hexec (g := F0 m pc ls (.int i :: .null :: rest)) rfl (rest := rest) rfl (by rw [hb]; exact hdg) t st, q⟩
theorem vx_aaloadN (hexec : p.tables.exec = Jvm.exec) (hb : c.code = cc) {i : Int32} (hdg : decode cc pc = .ok (.aaload, 1)) (k : vx_NoteN p l e R s m args below meth c H locs cells slots Q (F0 m pc ls rest)) : W p l e R s m args below meth c H locs cells slots Q (F0 m pc ls (.int i :: .null :: rest)) := by
  intro T hT X
  obtain ⟨t, st, q⟩ := k T hT X
  exact ⟨t, X.aaloadNull hexec (g := F0 m pc ls (.int i :: .null :: rest)) rfl (rest := rest) rfl (by rw [hb]; exact hdg) t st, q⟩
theorem vx_baloadN (hexec : p.tables.exec = Jvm.exec) (hb : c.code = cc) {i : Int32} (hdg : decode cc pc = .ok (.baload, 1)) (k : vx_NoteN p l e R s m args below meth c H locs cells slots Q (F0 m pc ls rest)) : W p l e R s m args below meth c H locs cells slots Q (F0 m pc ls (.int i :: .null :: rest)) := by
  intro T hT X
  obtain ⟨t, st, q⟩ := k T hT X
  exact ⟨t, X.baloadNull hexec (g := F0 m pc ls (.int i :: .null :: rest)) rfl (rest := rest) rfl (by rw [hb]; exact hdg) t st, q⟩
theorem vx_caloadN (hexec : p.tables.exec = Jvm.exec) (hb : c.code = cc) {i : Int32} (hdg : decode cc pc = .ok (.caload, 1)) (k : vx_NoteN p l e R s m args below meth c H locs cells slots Q (F0 m pc ls rest)) : W p l e R s m args below meth c H locs cells slots Q (F0 m pc ls (.int i :: .null :: rest)) := by
  intro T hT X
  obtain ⟨t, st, q⟩ := k T hT X
  exact ⟨t, X.caloadNull hexec (g := F0 m pc ls (.int i :: .null :: rest)) rfl (rest := rest) rfl (by rw [hb]; exact hdg) t st, q⟩
theorem vx_saloadN (hexec : p.tables.exec = Jvm.exec) (hb : c.code = cc) {i : Int32} (hdg : decode cc pc = .ok (.saload, 1)) (k : vx_NoteN p l e R s m args below meth c H locs cells slots Q (F0 m pc ls rest)) : W p l e R s m args below meth c H locs cells slots Q (F0 m pc ls (.int i :: .null :: rest)) := by
  intro T hT X
  obtain ⟨t, st, q⟩ := k T hT X
  exact ⟨t, X.saloadNull hexec (g := F0 m pc ls (.int i :: .null :: rest)) rfl (rest := rest) rfl (by rw [hb]; exact hdg) t st, q⟩
theorem vx_iastoreN (hexec : p.tables.exec = Jvm.exec) (hb : c.code = cc) {x : Int32} {i : Int32} (hdg : decode cc pc = .ok (.iastore, 1)) (k : vx_NoteN p l e R s m args below meth c H locs cells slots Q (F0 m pc ls rest)) : W p l e R s m args below meth c H locs cells slots Q (F0 m pc ls (.int x :: .int i :: .null :: rest)) := by
  intro T hT X
  obtain ⟨t, st, q⟩ := k T hT X
  exact ⟨t, X.iastoreNull hexec (g := F0 m pc ls (.int x :: .int i :: .null :: rest)) rfl (rest := rest) rfl (by rw [hb]; exact hdg) t st, q⟩
theorem vx_lastoreN (hexec : p.tables.exec = Jvm.exec) (hb : c.code = cc) {x : Int64} {i : Int32} (hdg : decode cc pc = .ok (.lastore, 1)) (k : vx_NoteN p l e R s m args below meth c H locs cells slots Q (F0 m pc ls rest)) : W p l e R s m args below meth c H locs cells slots Q (F0 m pc ls (.long x :: .int i :: .null :: rest)) := by
  intro T hT X
  obtain ⟨t, st, q⟩ := k T hT X
  exact ⟨t, X.lastoreNull hexec (g := F0 m pc ls (.long x :: .int i :: .null :: rest)) rfl (rest := rest) rfl (by rw [hb]; exact hdg) t st, q⟩
theorem vx_fastoreN (hexec : p.tables.exec = Jvm.exec) (hb : c.code = cc) {x : UInt32} {i : Int32} (hdg : decode cc pc = .ok (.fastore, 1)) (k : vx_NoteN p l e R s m args below meth c H locs cells slots Q (F0 m pc ls rest)) : W p l e R s m args below meth c H locs cells slots Q (F0 m pc ls (.float x :: .int i :: .null :: rest)) := by
  intro T hT X
  obtain ⟨t, st, q⟩ := k T hT X
  exact ⟨t, X.fastoreNull hexec (g := F0 m pc ls (.float x :: .int i :: .null :: rest)) rfl (rest := rest) rfl (by rw [hb]; exact hdg) t st, q⟩
theorem vx_dastoreN (hexec : p.tables.exec = Jvm.exec) (hb : c.code = cc) {x : UInt64} {i : Int32} (hdg : decode cc pc = .ok (.dastore, 1)) (k : vx_NoteN p l e R s m args below meth c H locs cells slots Q (F0 m pc ls rest)) : W p l e R s m args below meth c H locs cells slots Q (F0 m pc ls (.double x :: .int i :: .null :: rest)) := by
  intro T hT X
  obtain ⟨t, st, q⟩ := k T hT X
  exact ⟨t, X.dastoreNull hexec (g := F0 m pc ls (.double x :: .int i :: .null :: rest)) rfl (rest := rest) rfl (by rw [hb]; exact hdg) t st, q⟩
theorem vx_bastoreN (hexec : p.tables.exec = Jvm.exec) (hb : c.code = cc) {x : Int32} {i : Int32} (hdg : decode cc pc = .ok (.bastore, 1)) (k : vx_NoteN p l e R s m args below meth c H locs cells slots Q (F0 m pc ls rest)) : W p l e R s m args below meth c H locs cells slots Q (F0 m pc ls (.int x :: .int i :: .null :: rest)) := by
  intro T hT X
  obtain ⟨t, st, q⟩ := k T hT X
  exact ⟨t, X.bastoreNull hexec (g := F0 m pc ls (.int x :: .int i :: .null :: rest)) rfl (rest := rest) rfl (by rw [hb]; exact hdg) t st, q⟩
theorem vx_castoreN (hexec : p.tables.exec = Jvm.exec) (hb : c.code = cc) {x : Int32} {i : Int32} (hdg : decode cc pc = .ok (.castore, 1)) (k : vx_NoteN p l e R s m args below meth c H locs cells slots Q (F0 m pc ls rest)) : W p l e R s m args below meth c H locs cells slots Q (F0 m pc ls (.int x :: .int i :: .null :: rest)) := by
  intro T hT X
  obtain ⟨t, st, q⟩ := k T hT X
  exact ⟨t, X.castoreNull hexec (g := F0 m pc ls (.int x :: .int i :: .null :: rest)) rfl (rest := rest) rfl (by rw [hb]; exact hdg) t st, q⟩
theorem vx_sastoreN (hexec : p.tables.exec = Jvm.exec) (hb : c.code = cc) {x : Int32} {i : Int32} (hdg : decode cc pc = .ok (.sastore, 1)) (k : vx_NoteN p l e R s m args below meth c H locs cells slots Q (F0 m pc ls rest)) : W p l e R s m args below meth c H locs cells slots Q (F0 m pc ls (.int x :: .int i :: .null :: rest)) := by
  intro T hT X
  obtain ⟨t, st, q⟩ := k T hT X
  exact ⟨t, X.sastoreNull hexec (g := F0 m pc ls (.int x :: .int i :: .null :: rest)) rfl (rest := rest) rfl (by rw [hb]; exact hdg) t st, q⟩
theorem vx_invokeN {own C : String} {index maxL : Nat} {y : MethodName} {bytes : ByteArray} {ret : Option FieldType} (hexec : p.tables.exec = Jvm.exec) (hb : c.code = cc) (hown : s.vm.findClass own = some m.cls) (hlink : (Cond.methodLink own index y).before args s = true) (hinst : (Cond.instanceMethod y).before args s = true) (hcode : (Cond.code y bytes maxL ret).before args s = true) (hsel : (Cond.selects C y y).before args s = true)
    (hx : y.cls ≠ "java/lang/invoke/MethodHandle" ∧ y.cls ≠ "java/lang/invoke/VarHandle") {As : List Value} (hlen : (parseMethodDescriptor y.desc).map (fun d => d.parameters.length) = some As.length) (hdg : decode cc pc = .ok (.invokevirtual index, 3))
    (k : vx_NoteN p l e R s m args below meth c H locs cells slots Q (F0 m pc ls rest)) {st0 : List Value} (hst : st0 = As.reverse ++ .null :: rest) : W p l e R s m args below meth c H locs cells slots Q (F0 m pc ls st0) := by
  intro T hT X
  obtain ⟨r0, r, hn, hrm, hstR, hsigR⟩ := va_Decl.of hinst hcode
  obtain ⟨c2, r2, m2, q1, q2, q3, q4, kP, hkP, hkPi⟩ := Cond.selects_spec hsel
  cases hn.symm.trans q3
  have hl9 : As.length = r.sig.parameters.length := by
    rw [hsigR] at hlen
    exact (Option.some.inj hlen).symm
  obtain ⟨vm', X1, st1⟩ := X.invokevirtualNull hexec hown hlink hn hrm hstR hkP hkPi hx (g := F0 m pc ls st0) rfl (argsL := As) (rest := rest) hl9 hst (by rw [hb]; exact hdg)
  obtain ⟨t, st, q⟩ := k (T.setVm vm') hT X1
  exact ⟨t, st1 t st, q⟩
theorem vx_newarrayZ {atype : ArrayType} (hexec : p.tables.exec = Jvm.exec) (hb : c.code = cc) {n : Int32} (h0 : n < 0) (hdg : decode cc pc = .ok (.newarray atype, 2)) (k : ∀ tx : String, tx = toString n → vx_Note p l e R s m args below meth c H locs cells slots Q (F0 m pc ls rest) "java/lang/NegativeArraySizeException" tx) : W p l e R s m args below meth c H locs cells slots Q (F0 m pc ls (.int n :: rest)) := by
  intro T hT X
  obtain ⟨t, st, q⟩ := k _ rfl T hT X
  exact ⟨t, X.newarrayNegative hexec (g := F0 m pc ls (.int n :: rest)) rfl h0 (rest := rest) rfl (by rw [hb]; exact hdg) t st, q⟩
end
end VXM
/-! ===== END ===== -/
/-! ===== BEGIN an exception as an object: made, kept, thrown later (no traces kept) ===== -/
section VXK
variable {p : Program} {l : Launch} {e : Env} {R : Room} {s : State} {m₀ : MethodId} {args : Array Value} {below : List Frame} {meth : Method} {c : Code} {W : State} {locs : List Loc} {cells slots : Nat}
set_option maxHeartbeats 1000000 in
theorem vx_ctorMadeS (X : Stand p l e R s m₀ args below meth c W locs cells slots) (hexec : p.tables.exec = Jvm.exec) (htr : e.platform.stackTraces = false) {own cls : String} {names : List String} {ic : Nat}
    (hown : s.vm.findClass own = some m₀.cls) (hcls : Bundle.fit cls = true) (hnames : ∀ n ∈ names, Bundle.fit n = true)
    (h : ∀ a ∈ Bundle.ownAtoms own ic cls names, a.before args s = true)
    (hlocs : ∀ x ∈ locs, ∀ cell, s.heap[x.base]? = some cell → cell.vm.isStatics = false)
    {a : Addr} {cX : ClassId} {kX : Class} (hfoundX : s.vm.findClass cls = some cX) (hkX : s.vm.classes[cX]? = some kX) (hcell : W.heap[a]? = some (freshCell cX kX)) (hnew : s.heap.size ≤ a)
    {msg : Value} (hmsg : msg.isRef = true)
    {g : JFrame} (hg : g.method = m₀) (hsize : g.locals.size = c.maxLocals) {rest : List Value} (hstack : g.stack = msg :: .ref a :: .ref a :: rest)
    (hd6 : decode c.code g.pc = .ok (.invokespecial ic, 3))
    (hRframes : names.length + 3 < R.frames) (hRlocals : 2 * g.monitorRoom + ((Value.ref a :: rest).map fun v => v.category).sum + (13 * (names.length + 1) + 42) ≤ R.locals) :
    ∃ (V : State) (ce : Cell) (L : List Loc), Stand p l e R s m₀ args below meth c (V.setCell a ce) (locs ++ L) cells slots ∧ (∀ y ∈ L, y.base = a) ∧ a < V.heap.size ∧ ce.cls = cX ∧ ce.vm = .none ∧
      ∀ target, Steps p.tables e below ((V.setCell a ce).setTop { g with stack := .ref a :: rest, pc := g.pc + 3 }) target → Steps p.tables e below (W.setTop g) target := by
  have howns : e.platform.frameOwnsMonitors = true := by rw [X.admits.platform]
  have hfin : e.platform.finalization = false := by rw [X.admits.platform]
  have hpl : e.platform.magicAccessors = ({} : Platform).magicAccessors := by rw [X.admits.platform]
  have a' : ∀ x, x ∈ Bundle.ownAtoms own ic cls names → x.holds args s none s [] = true := fun x hx => h x hx
  obtain ⟨T, Z0, L, -, Y⟩ := ThrowableC.of_atoms (args := args) howns hfin hpl (fun x hx => h x (by simp [Bundle.ownAtoms, hx]))
  obtain ⟨Z, M, LZ, LM, hnZ⟩ := Init0T.ofS_atoms (args := args) hpl L Y (fun x hx => h x (by simp [Bundle.ownAtoms, hx]))
  obtain ⟨P1, Ps, hlen, L1, hL, hP1m, hlink1, hlink⟩ := Bundle.chainS (args := args) hpl hnZ names cls hcls hnames (fun x hx => h x (by simp [Bundle.ownAtoms, hx]))
  have hfound : s.vm.findClass cls = some P1.m.cls := findClass_of_methodNamed hP1m
  cases Option.some.inj (hfoundX.symm.trans hfound)
  obtain ⟨c1, kX', hc1, hk, hord, -, -, hn6⟩ := Cond.instantiable_spec (a' (.instantiable cls 6) (by simp [Bundle.ownAtoms]))
  cases Option.some.inj (hc1.symm.trans hfound)
  cases Option.some.inj (hkX.symm.trans hk)
  have hsel0 : selectMethod e.platform s.vm P1.m.cls T.fill0 = .method T.fill0 := by
    obtain ⟨c2, r2, m2, q1, q2, q3, q4, -⟩ := Cond.selects_spec (a' (.selects cls Bundle.tFill0 Bundle.tFill0) (by simp [Bundle.ownAtoms]))
    cases Option.some.inj (q1.symm.trans hfound)
    cases Option.some.inj (q2.symm.trans (State.methodFound?_of_named Y.fill0 (by decide)))
    cases Option.some.inj (q3.symm.trans Y.fill0)
    rw [Launch.admits_selectMethod X.admits]; exact q4
  have hselF : selectMethod e.platform s.vm P1.m.cls T.fill = .method T.fill := by
    obtain ⟨c2, r2, m2, q1, q2, q3, q4, -⟩ := Cond.selects_spec (a' (.selects cls Bundle.tFill Bundle.tFill) (by simp [Bundle.ownAtoms]))
    cases Option.some.inj (q1.symm.trans hfound)
    cases Option.some.inj (q2.symm.trans (State.methodFound?_of_named Y.fill (by decide)))
    cases Option.some.inj (q3.symm.trans Y.fill)
    rw [Launch.admits_selectMethod X.admits]; exact q4
  obtain ⟨cellS0, hcS0, hiss⟩ := Y.statics
  obtain ⟨u0, hu0⟩ := Cond.staticRefV Y.unassigned L.unassignedStatic L.statics hcS0 hiss (a' (.isRef (.static Bundle.tN "UNASSIGNED_STACK" Bundle.steD)) (by simp [Bundle.ownAtoms]))
  obtain ⟨sen, hsen⟩ := Cond.staticRefV Y.sentinel L.sentinelStatic L.statics hcS0 hiss (a' (.isRef (.static Bundle.tN "SUPPRESSED_SENTINEL" Bundle.listD)) (by simp [Bundle.ownAtoms]))
  obtain ⟨ci198, i198, fB, hk198, hg198, ha198, hsB, -, hnB, htB, hffB⟩ := Cond.ownField (t := .object "java/lang/Object") Y.found L.cls (by decide +kernel) (a' (.fieldLink Bundle.tN 198 Bundle.tN "backtrace" "Ljava/lang/Object;") (by simp [Bundle.ownAtoms])) (a' (.lays Bundle.tN Bundle.tN "backtrace" "Ljava/lang/Object;") (by simp [Bundle.ownAtoms])) e.platform hpl
  obtain ⟨cellS, hcS', heS, -, hkeep⟩ := X.same.2.2.2.2.2 T.aS cellS0 hcS0
  have hcellS : W.heap[T.aS]? = some cellS := hcS'
  have hout' : ∀ i, (⟨T.aS, i⟩ : Loc) ∉ locs := fun i hmem => by
    have := hlocs _ hmem cellS0 hcS0
    rw [hiss] at this; cases this
  have hknownS : cellS.vm ≠ .unknown := by
    rw [heS]; intro hu
    rw [show cellS0.vm = .unknown from hu] at hiss
    cases hiss
  have hneS : T.aS ≠ a := Nat.ne_of_lt (Nat.lt_of_lt_of_le (Array.getElem?_eq_some_iff.mp hcS0).1 hnew)
  obtain ⟨iM, hffM⟩ := Y.msg
  obtain ⟨tyC, dC, hdC, hdnC⟩ := Cond.laysAt hfound hk Y.cause (a' (.lays cls Bundle.tN "cause" "Ljava/lang/Throwable;") (by simp [Bundle.ownAtoms]))
  obtain ⟨tyS, dS, hdS, hdnS⟩ := Cond.laysAt hfound hk Y.stack (a' (.lays cls Bundle.tN "stackTrace" Bundle.steD) (by simp [Bundle.ownAtoms]))
  obtain ⟨tyP, dP, hdP, hdnP⟩ := Cond.laysAt hfound hk Y.supp (a' (.lays cls Bundle.tN "suppressedExceptions" Bundle.listD) (by simp [Bundle.ownAtoms]))
  obtain ⟨tyM, dM, hdM, hdnM⟩ := Cond.laysAt hfound hk hffM (a' (.lays cls Bundle.tN "detailMessage" "Ljava/lang/String;") (by simp [Bundle.ownAtoms]))
  obtain ⟨tyB, dB, hdB, hdnB⟩ := Cond.laysAt hfound hk hffB (a' (.lays cls Bundle.tN "backtrace" "Ljava/lang/Object;") (by simp [Bundle.ownAtoms]))
  have bC := Cond.laysApart hdB hdC hdnB hdnC (by rw [hnB, Y.causeName]; decide)
  have bS := Cond.laysApart hdB hdS hdnB hdnS (by rw [hnB, Y.stackName]; decide)
  have bP := Cond.laysApart hdB hdP hdnB hdnP (by rw [hnB, Y.suppName]; decide)
  have hskip : SkipFacts T e.platform s (fun u => u) u0 ((preparedCellV T.toThrowableT (freshCell P1.m.cls kX) a u0 sen).withEntry W.cur) :=
    ⟨{ ci198 := ci198, i198 := i198, fBack := fB }, ⟨hk198, hg198, ha198, hsB⟩, by
      have := fresh_default (c := P1.m.cls) tyB
      rw [htB] at this
      simpa [preparedCellV, Cell.setSlot, Cell.withEntry, Array.getElem?_setIfInBounds, bC, bS, bP, bC.symm, bS.symm, bP.symm, defaultValue] using this, fun _ _ => rfl⟩
  obtain ⟨tm, methC, cdC, kC, vm₁, hnC, -, -, -, -, -, -, -, hW₁, st1⟩ := Steps.initColdS (tb := p.tables) (e := e) (below := below) (s := s) (U := W) X.here hexec X.warmed hpl hown (t := Bundle.initS cls) rfl rfl (Bundle.fit_spec hcls).2
    (a' (.methodLink own ic (Bundle.initS cls)) (by simp [Bundle.ownAtoms])) (h (.instanceMethod (Bundle.initS cls)) (by cases names <;> simp [Bundle.ownAtoms, Bundle.chainSAtoms, Bundle.passSAtoms])) (bytes := Bundle.six) (maxL := 2) (h (.code (Bundle.initS cls) Bundle.six 2 none) (by cases names <;> simp [Bundle.ownAtoms, Bundle.chainSAtoms, Bundle.passSAtoms]))
    (f := g) hg (a := a) (msg := msg) (rest := .ref a :: rest) hstack hd6
  cases Option.some.inj (hnC.symm.trans hP1m)
  have X₁ := X.noted hW₁
  obtain ⟨vm₂, X₂, st2⟩ := X₁.ctorMessageOffV hexec (g := { g with stack := .ref a :: rest }) hg hsize T L Z LZ M LM (P1 :: Ps)
    (fun P hP => by rcases List.mem_cons.mp hP with rfl | hP; exact L1; exact hL P hP) ⟨hlink1, hlink⟩ (u0 := u0) (sen := sen) (self := a) hmsg (cell := freshCell P1.m.cls kX) (cellS := cellS)
    hcell (fun _ => by simp) (by simp) rfl rfl hsel0 hselF hcellS hneS hknownS (by rw [hkeep _ (hout' _)]; exact hu0) (by rw [hkeep _ (hout' _)]; exact hsen)
    (Takes.of_laid hk hord tyC (by rw [Y.causeType]; rfl)) (Takes.of_laid hk hord tyS (by rw [Y.stackType]; exact fits_refV_array _ u0)) (Takes.of_laid hk hord tyP (by rw [Y.suppType]; exact fits_refV_object _ sen))
    (Takes.of_laid hk hord tyM (by rw [Y.msgType]; exact fits_refV_object _ ⟨msg, hmsg⟩)) Y.objLocals hskip htr [] hd6
    (by simp only [List.length_cons, hlen]; omega) (by simp only [List.length_cons, hlen]; exact hRlocals)
  have hlt : a < ((W.setVm vm₁).setVm vm₂).heap.size := (Array.getElem?_eq_some_iff.mp hcell).1
  refine ⟨(W.setVm vm₁).setVm vm₂, _, _, X₂, fun y hy => ?_, hlt, rfl, rfl, fun target hwalk => st1 _ (fun acts => ?_)⟩
  · simp only [List.mem_cons, List.not_mem_nil, or_false] at hy
    rcases hy with rfl | rfl | rfl | rfl | rfl <;> rfl
  · rw [doInvoke_state]
    exact st2 _ hwalk
set_option maxHeartbeats 1000000 in
theorem vx_ctorMade0 (X : Stand p l e R s m₀ args below meth c W locs cells slots) (hexec : p.tables.exec = Jvm.exec) (htr : e.platform.stackTraces = false) {own cls : String} {names : List String} {ic : Nat}
    (hown : s.vm.findClass own = some m₀.cls) (hcls : Bundle.fit cls = true) (hnames : ∀ n ∈ names, Bundle.fit n = true)
    (h : ∀ a ∈ Bundle.ownAtoms0 own ic cls names, a.before args s = true)
    (hlocs : ∀ x ∈ locs, ∀ cell, s.heap[x.base]? = some cell → cell.vm.isStatics = false)
    {a : Addr} {cX : ClassId} {kX : Class} (hfoundX : s.vm.findClass cls = some cX) (hkX : s.vm.classes[cX]? = some kX) (hcell : W.heap[a]? = some (freshCell cX kX)) (hnew : s.heap.size ≤ a)
    {g : JFrame} (hg : g.method = m₀) (hsize : g.locals.size = c.maxLocals) {rest : List Value} (hstack : g.stack = .ref a :: .ref a :: rest)
    (hd6 : decode c.code g.pc = .ok (.invokespecial ic, 3))
    (hRframes : names.length + 3 < R.frames) (hRlocals : 2 * g.monitorRoom + ((Value.ref a :: rest).map fun v => v.category).sum + (13 * (names.length + 1) + 41) ≤ R.locals) :
    ∃ (V : State) (ce : Cell) (L : List Loc), Stand p l e R s m₀ args below meth c (V.setCell a ce) (locs ++ L) cells slots ∧ (∀ y ∈ L, y.base = a) ∧ a < V.heap.size ∧ ce.cls = cX ∧ ce.vm = .none ∧
      ∀ target, Steps p.tables e below ((V.setCell a ce).setTop { g with stack := .ref a :: rest, pc := g.pc + 3 }) target → Steps p.tables e below (W.setTop g) target := by
  have howns : e.platform.frameOwnsMonitors = true := by rw [X.admits.platform]
  have hfin : e.platform.finalization = false := by rw [X.admits.platform]
  have hpl : e.platform.magicAccessors = ({} : Platform).magicAccessors := by rw [X.admits.platform]
  have a' : ∀ x, x ∈ Bundle.ownAtoms0 own ic cls names → x.holds args s none s [] = true := fun x hx => h x hx
  obtain ⟨T, Z, L, LZ, Y⟩ := ThrowableC.of_atoms (args := args) howns hfin hpl (fun x hx => h x (by simp [Bundle.ownAtoms0, hx]))
  obtain ⟨P1, Ps, hlen, L1, hL, hP1m, hlink1, hlink⟩ := Bundle.chain0 (args := args) hpl Y.init0 names cls hcls hnames (fun x hx => h x (by simp [Bundle.ownAtoms0, hx]))
  have hfound : s.vm.findClass cls = some P1.m.cls := findClass_of_methodNamed hP1m
  cases Option.some.inj (hfoundX.symm.trans hfound)
  obtain ⟨c1, kX', hc1, hk, hord, -, -, hn6⟩ := Cond.instantiable_spec (a' (.instantiable cls 6) (by simp [Bundle.ownAtoms0]))
  cases Option.some.inj (hc1.symm.trans hfound)
  cases Option.some.inj (hkX.symm.trans hk)
  have hsel0 : selectMethod e.platform s.vm P1.m.cls T.fill0 = .method T.fill0 := by
    obtain ⟨c2, r2, m2, q1, q2, q3, q4, -⟩ := Cond.selects_spec (a' (.selects cls Bundle.tFill0 Bundle.tFill0) (by simp [Bundle.ownAtoms0]))
    cases Option.some.inj (q1.symm.trans hfound)
    cases Option.some.inj (q2.symm.trans (State.methodFound?_of_named Y.fill0 (by decide)))
    cases Option.some.inj (q3.symm.trans Y.fill0)
    rw [Launch.admits_selectMethod X.admits]; exact q4
  have hselF : selectMethod e.platform s.vm P1.m.cls T.fill = .method T.fill := by
    obtain ⟨c2, r2, m2, q1, q2, q3, q4, -⟩ := Cond.selects_spec (a' (.selects cls Bundle.tFill Bundle.tFill) (by simp [Bundle.ownAtoms0]))
    cases Option.some.inj (q1.symm.trans hfound)
    cases Option.some.inj (q2.symm.trans (State.methodFound?_of_named Y.fill (by decide)))
    cases Option.some.inj (q3.symm.trans Y.fill)
    rw [Launch.admits_selectMethod X.admits]; exact q4
  obtain ⟨cellS0, hcS0, hiss⟩ := Y.statics
  obtain ⟨u0, hu0⟩ := Cond.staticRefV Y.unassigned L.unassignedStatic L.statics hcS0 hiss (a' (.isRef (.static Bundle.tN "UNASSIGNED_STACK" Bundle.steD)) (by simp [Bundle.ownAtoms0]))
  obtain ⟨sen, hsen⟩ := Cond.staticRefV Y.sentinel L.sentinelStatic L.statics hcS0 hiss (a' (.isRef (.static Bundle.tN "SUPPRESSED_SENTINEL" Bundle.listD)) (by simp [Bundle.ownAtoms0]))
  obtain ⟨ci198, i198, fB, hk198, hg198, ha198, hsB, -, hnB, htB, hffB⟩ := Cond.ownField (t := .object "java/lang/Object") Y.found L.cls (by decide +kernel) (a' (.fieldLink Bundle.tN 198 Bundle.tN "backtrace" "Ljava/lang/Object;") (by simp [Bundle.ownAtoms0])) (a' (.lays Bundle.tN Bundle.tN "backtrace" "Ljava/lang/Object;") (by simp [Bundle.ownAtoms0])) e.platform hpl
  obtain ⟨cellS, hcS', heS, -, hkeep⟩ := X.same.2.2.2.2.2 T.aS cellS0 hcS0
  have hcellS : W.heap[T.aS]? = some cellS := hcS'
  have hout' : ∀ i, (⟨T.aS, i⟩ : Loc) ∉ locs := fun i hmem => by
    have := hlocs _ hmem cellS0 hcS0
    rw [hiss] at this; cases this
  have hknownS : cellS.vm ≠ .unknown := by
    rw [heS]; intro hu
    rw [show cellS0.vm = .unknown from hu] at hiss
    cases hiss
  have hneS : T.aS ≠ a := Nat.ne_of_lt (Nat.lt_of_lt_of_le (Array.getElem?_eq_some_iff.mp hcS0).1 hnew)
  obtain ⟨iM, hffM⟩ := Y.msg
  obtain ⟨tyC, dC, hdC, hdnC⟩ := Cond.laysAt hfound hk Y.cause (a' (.lays cls Bundle.tN "cause" "Ljava/lang/Throwable;") (by simp [Bundle.ownAtoms0]))
  obtain ⟨tyS, dS, hdS, hdnS⟩ := Cond.laysAt hfound hk Y.stack (a' (.lays cls Bundle.tN "stackTrace" Bundle.steD) (by simp [Bundle.ownAtoms0]))
  obtain ⟨tyP, dP, hdP, hdnP⟩ := Cond.laysAt hfound hk Y.supp (a' (.lays cls Bundle.tN "suppressedExceptions" Bundle.listD) (by simp [Bundle.ownAtoms0]))
  obtain ⟨tyM, dM, hdM, hdnM⟩ := Cond.laysAt hfound hk hffM (a' (.lays cls Bundle.tN "detailMessage" "Ljava/lang/String;") (by simp [Bundle.ownAtoms0]))
  obtain ⟨tyB, dB, hdB, hdnB⟩ := Cond.laysAt hfound hk hffB (a' (.lays cls Bundle.tN "backtrace" "Ljava/lang/Object;") (by simp [Bundle.ownAtoms0]))
  have bC := Cond.laysApart hdB hdC hdnB hdnC (by rw [hnB, Y.causeName]; decide)
  have bS := Cond.laysApart hdB hdS hdnB hdnS (by rw [hnB, Y.stackName]; decide)
  have bP := Cond.laysApart hdB hdP hdnB hdnP (by rw [hnB, Y.suppName]; decide)
  have hskip : SkipFacts T e.platform s (fun u => u) u0 ((preparedCellV T.toThrowableT (freshCell P1.m.cls kX) a u0 sen).withEntry W.cur) :=
    ⟨{ ci198 := ci198, i198 := i198, fBack := fB }, ⟨hk198, hg198, ha198, hsB⟩, by
      have := fresh_default (c := P1.m.cls) tyB
      rw [htB] at this
      simpa [preparedCellV, Cell.setSlot, Cell.withEntry, Array.getElem?_setIfInBounds, bC, bS, bP, bC.symm, bS.symm, bP.symm, defaultValue] using this, fun _ _ => rfl⟩
  obtain ⟨tm, methC, cdC, kC, vm₁, hnC, -, -, -, -, -, -, -, hW₁, st1⟩ := Steps.initCold (tb := p.tables) (e := e) (below := below) (s := s) (U := W) X.here hexec X.warmed hpl hown (t := Bundle.init0 cls) rfl rfl (Bundle.fit_spec hcls).2
    (a' (.methodLink own ic (Bundle.init0 cls)) (by simp [Bundle.ownAtoms0])) (h (.instanceMethod (Bundle.init0 cls)) (by cases names <;> simp [Bundle.ownAtoms0, Bundle.chain0Atoms, Bundle.passAtoms])) (bytes := Bundle.five) (maxL := 1) (h (.code (Bundle.init0 cls) Bundle.five 1 none) (by cases names <;> simp [Bundle.ownAtoms0, Bundle.chain0Atoms, Bundle.passAtoms]))
    (f := g) hg (a := a) (rest := .ref a :: rest) hstack hd6
  cases Option.some.inj (hnC.symm.trans hP1m)
  have X₁ := X.noted hW₁
  obtain ⟨vm₂, X₂, st2⟩ := X₁.ctorPlainOffV hexec (g := { g with stack := .ref a :: rest }) hg hsize T L Z LZ (P1 :: Ps)
    (fun P hP => by rcases List.mem_cons.mp hP with rfl | hP; exact L1; exact hL P hP) ⟨hlink1, hlink⟩ (u0 := u0) (sen := sen) (self := a) (cell := freshCell P1.m.cls kX) (cellS := cellS)
    hcell (fun _ => by simp) (by simp) rfl rfl hsel0 hselF hcellS hneS hknownS (by rw [hkeep _ (hout' _)]; exact hu0) (by rw [hkeep _ (hout' _)]; exact hsen)
    (Takes.of_laid hk hord tyC (by rw [Y.causeType]; rfl)) (Takes.of_laid hk hord tyS (by rw [Y.stackType]; exact fits_refV_array _ u0)) (Takes.of_laid hk hord tyP (by rw [Y.suppType]; exact fits_refV_object _ sen)) Y.objLocals hskip htr [] hd6
    (by simp only [List.length_cons, hlen]; omega) (by simp only [List.length_cons, hlen]; exact hRlocals)
  have hlt : a < ((W.setVm vm₁).setVm vm₂).heap.size := (Array.getElem?_eq_some_iff.mp hcell).1
  refine ⟨(W.setVm vm₁).setVm vm₂, _, _, X₂, fun y hy => ?_, hlt, rfl, rfl, fun target hwalk => st1 _ (fun acts => ?_)⟩
  · simp only [List.mem_cons, List.not_mem_nil, or_false] at hy
    rcases hy with rfl | rfl | rfl | rfl <;> rfl
  · rw [doInvoke_state]
    exact st2 _ hwalk
end VXK
section VXK2
variable {p : Program} {l : Launch} {e : Env} {R : Room} {s : State} {m : MethodId} {args : Array Value} {below : List Frame} {meth : Method} {c : Code} {H : Heap} {locs : List Loc} {cells slots : Nat} {Q : State → Prop}
variable {ls : Array Slot} {rest : List Value} {D : va_G} {cl : List vw_C} {tys : List (ClassId × FieldType)} {ws : va_W}
/-- 'new E("text")' that isn't thrown at once: the object goes on the stack -/
theorem vx_makeS {cc : ByteArray} {pc : Nat} (hexec : p.tables.exec = Jvm.exec) (hb : c.code = cc) (hl : l.stackTraces = false) {own cls text : String} {names : List String} {ik is ic sa ci : Nat} {A : Nat → Prop} {T0 : u_T}
    (hown : s.vm.findClass own = some m.cls) (hcls : Bundle.fit cls = true) (hnames : ∀ n ∈ names, Bundle.fit n = true)
    (hk : (Cond.classLink own ik cls).before args s = true) (hini : (Cond.initialized cls).before args s = true) (hstr : vk_R own is text sa s) (hat : ∀ w ∈ vx_atS own ic cls names, w.before args s = true)
    (hgood : ∀ w ∈ Cond.classLink own ik cls :: Cond.initialized cls :: vx_atS own ic cls names, vx_ot w = true)
    (hU : vx_Zq Bundle.tN "UNASSIGNED_STACK" Bundle.steD A s s.heap) (hN : vx_Zq Bundle.tN "SUPPRESSED_SENTINEL" Bundle.listD A s s.heap) (hS : va_S A s.heap H locs) (hsize : ls.size = c.maxLocals)
    (d0 : decode cc pc = .ok (.new ik, 3)) (d3 : decode cc (pc + 3) = .ok (.dup, 1)) (d4 : decode cc (pc + 4) = .ok (.ldc is, 2)) (d6 : decode cc (pc + 6) = .ok (.invokespecial ic, 3))
    (hK : va_K D cl tys s) (hP : va_P D cl ws H) (hD : va_D A ws) (hA : ∀ q, s.heap.size ≤ q → A q) (hc : cl[ci]? = some (cls, T0, 0))
    (hRframes : names.length + 3 < R.frames) (hRlocals : (rest.map fun v => v.category).sum + (13 * (names.length + 1) + 43) ≤ R.locals) (hRcells : cells + 1 ≤ R.cells) (hRslots : slots + 6 ≤ R.slots)
    (kk : ∀ (q : Nat) (H1 : Heap), va_P D cl (ws ++ [(q, .inr (ci, []))]) H1 → va_D A (ws ++ [(q, .inr (ci, []))]) → va_S A s.heap H1 locs → W p l e R s m args below meth c H1 locs (cells + 1) (slots + 6) Q (F0 m (pc + 9) ls (.ref q :: rest))) :
    W p l e R s m args below meth c H locs cells slots Q (F0 m pc ls rest) := by
  intro T hT X
  subst hT
  have htr : e.platform.stackTraces = false := (show e.platform.stackTraces = l.stackTraces by rw [X.admits.platform]).trans hl
  have Y := vx_rebase X (R' := { frames := R.frames, locals := R.locals, cells := 1, slots := 6 }) (Nat.le_refl _) (Nat.le_refl _) hRcells hRslots
  obtain ⟨s', hA'⟩ : ∃ z, z = (T.setVm s.vm).setFrames (.invoking m args :: below) := ⟨_, rfl⟩
  rw [← hA'] at Y
  have hvm : s'.vm = s.vm := by rw [hA']; rfl
  have hhp : s'.heap = T.heap := by rw [hA']; rfl
  have hW0 : s.WarmedH s'.vm := by rw [hvm]; exact State.WarmedH.refl s
  have hat' : ∀ w ∈ vx_atS own ic cls names, w.before args s' = true := fun w hw => vx_ot_at hW0 hvm.symm (hgood w (List.mem_cons_of_mem _ (List.mem_cons_of_mem _ hw))) (hat w hw)
  have hk' : (Cond.classLink own ik cls).before args s' = true := vx_ot_at hW0 hvm.symm (hgood _ List.mem_cons_self) hk
  have hini' : (Cond.initialized cls).before args s' = true := vx_ot_at hW0 hvm.symm (hgood _ (List.mem_cons_of_mem _ List.mem_cons_self)) hini
  have hU' : vx_Zq Bundle.tN "UNASSIGNED_STACK" Bundle.steD A s' s'.heap := by rw [hhp]; exact vx_Zq.moved hW0.alike (hU.kept hS.2.1)
  have hN' : vx_Zq Bundle.tN "SUPPRESSED_SENTINEL" Bundle.listD A s' s'.heap := by rw [hhp]; exact vx_Zq.moved hW0.alike (hN.kept hS.2.1)
  have h : ∀ w ∈ Bundle.ownAtoms own ic cls names, w.before args s' = true := vx_own hat' (vx_isRefq hU'.1) (vx_isRefq hN'.1) hU'.2.word hN'.2.word
  have hown' : s'.vm.findClass own = some m.cls := by rw [hvm]; exact hown
  have hins : (Cond.instantiable cls 6).before args s' = true := h _ (by simp [Bundle.ownAtoms])
  obtain ⟨vm₁, cX, kX, hfX, hkX, -, -, X₁, st1⟩ := Y.newCold hexec (own := own) (C := cls) (index := ik) (n := 6) hown' hk' hins hini'
    (g := F0 m pc ls rest) rfl (by rw [hb]; exact d0) (Nat.le_refl _) (Nat.le_refl _)
  generalize hT1 : (T.setVm vm₁).pushCell { cls := cX, slots := kX.instanceTypes.map defaultValue, vm := .none } = T1 at X₁ st1
  have hcat : (Value.ref T.heap.size).category = 1 := rfl
  have hcellA : T1.heap[T.heap.size]? = some (freshCell cX kX) := by rw [← hT1]; exact State.heap_pushCell_size _ _
  have d3' : decode c.code (pc + 3) = .ok (.dup, 1) := by rw [hb]; exact d3
  have d4' : decode c.code (pc + 4) = .ok (.ldc is, 2) := by rw [hb]; exact d4
  have hstr' : vk_R own is text sa s' := vk_R.warm hW0 hstr
  obtain ⟨V, ce, L, Z, hL, hlt, hcl9, hvm9, st⟩ := vx_ctorMadeS X₁ hexec htr (own := own) (cls := cls) (names := names) (ic := ic) hown' hcls hnames h (fun x hx => nomatch hx) hfX hkX hcellA (by rw [hhp]; exact Nat.le_refl _) (msg := .ref sa) rfl
    (g := { method := m, pc := pc + 6, locals := ls, stack := .ref sa :: .ref T.heap.size :: .ref T.heap.size :: rest, locked := none }) rfl hsize (rest := rest) rfl
    (by rw [hb]; exact d6) hRframes (by simp only [List.map_cons, List.sum_cons, hcat]; omega)
  have Z0 := Stand.forget (locs := []) Z (fun y hy => by rw [hL y hy, hhp]; exact Nat.le_refl _)
  obtain ⟨f1, f2⟩ := vx_frame Z0.same
  rw [hhp] at f1 f2
  have hcid : ce.cls = D.1 ci := by
    rw [hcl9]
    have h1 := (hK.1 ci _ hc).2.1
    rw [hvm] at hfX
    exact Option.some.inj (hfX.symm.trans h1)
  have hh : (V.setCell T.heap.size ce).heap[T.heap.size]? = some ce := heapAt_setCell_self (s := V) ce hlt
  subst hA'
  have X5 := vx_back9 X Y Z0
  have X6 : Stand p l e R s m args below meth c (V.setCell T.heap.size ce) locs (cells + 1) (slots + 6) := { X5 with same := X5.same.mono (by omega) (by omega) }
  have hk9 : ∀ (k : Nat) (x : Nat × va_E), ws[k]? = some x → (V.setCell T.heap.size ce).heap[x.1]? = T.heap[x.1]? := fun k x hx => f2 x.1 ((hP k x hx).lt) (fun z hz => nomatch hz)
  obtain ⟨t, a1, b1⟩ := kk T.heap.size (V.setCell T.heap.size ce).heap ((hP.kept hk9).app (fun k x hx => by
      have hz : k < 1 := (List.getElem?_eq_some_iff.mp hx).1
      rw [show k = 0 by omega] at hx
      cases hx
      exact ⟨_, hc, ce, hh, hcid, hvm9, fun k hk => absurd hk (Nat.not_lt_zero k)⟩)) (hD.push hP rfl (hA _ hS.1)) ⟨Nat.le_trans hS.1 f1, fun q h1 h2 => (f2 q (Nat.lt_of_lt_of_le h1 hS.1) (fun z hz => nomatch hz)).trans (hS.2.1 q h1 h2), hS.2.2⟩ _ rfl X6
  refine ⟨t, st1 _ ?_, b1⟩
  show Steps p.tables e below (T1.setTop { method := m, pc := pc + 3, locals := ls, stack := .ref T.heap.size :: rest, locked := none }) _
  jvm_step X₁.here [X₁.here.top, hexec, d3', Value.category]
  exact X₁.ldcString hexec (own := own) (text := text) (index := is) (a := sa) hown' hstr'.1 hstr'.2
    (g := { method := m, pc := pc + 4, locals := ls, stack := .ref T.heap.size :: .ref T.heap.size :: rest, locked := none }) rfl d4' _ (st _ a1)
/-- 'new E()' that isn't thrown at once: the object goes on the stack -/
theorem vx_make0 {cc : ByteArray} {pc : Nat} (hexec : p.tables.exec = Jvm.exec) (hb : c.code = cc) (hl : l.stackTraces = false) {own cls : String} {names : List String} {ik ic ci : Nat} {A : Nat → Prop} {T0 : u_T}
    (hown : s.vm.findClass own = some m.cls) (hcls : Bundle.fit cls = true) (hnames : ∀ n ∈ names, Bundle.fit n = true)
    (hk : (Cond.classLink own ik cls).before args s = true) (hini : (Cond.initialized cls).before args s = true) (hat : ∀ w ∈ vx_at0 own ic cls names, w.before args s = true)
    (hgood : ∀ w ∈ Cond.classLink own ik cls :: Cond.initialized cls :: vx_at0 own ic cls names, vx_ot w = true)
    (hU : vx_Zq Bundle.tN "UNASSIGNED_STACK" Bundle.steD A s s.heap) (hN : vx_Zq Bundle.tN "SUPPRESSED_SENTINEL" Bundle.listD A s s.heap) (hS : va_S A s.heap H locs) (hsize : ls.size = c.maxLocals)
    (d0 : decode cc pc = .ok (.new ik, 3)) (d3 : decode cc (pc + 3) = .ok (.dup, 1)) (d4 : decode cc (pc + 4) = .ok (.invokespecial ic, 3))
    (hK : va_K D cl tys s) (hP : va_P D cl ws H) (hD : va_D A ws) (hA : ∀ q, s.heap.size ≤ q → A q) (hc : cl[ci]? = some (cls, T0, 0))
    (hRframes : names.length + 3 < R.frames) (hRlocals : (rest.map fun v => v.category).sum + (13 * (names.length + 1) + 42) ≤ R.locals) (hRcells : cells + 1 ≤ R.cells) (hRslots : slots + 6 ≤ R.slots)
    (kk : ∀ (q : Nat) (H1 : Heap), va_P D cl (ws ++ [(q, .inr (ci, []))]) H1 → va_D A (ws ++ [(q, .inr (ci, []))]) → va_S A s.heap H1 locs → W p l e R s m args below meth c H1 locs (cells + 1) (slots + 6) Q (F0 m (pc + 7) ls (.ref q :: rest))) :
    W p l e R s m args below meth c H locs cells slots Q (F0 m pc ls rest) := by
  intro T hT X
  subst hT
  have htr : e.platform.stackTraces = false := (show e.platform.stackTraces = l.stackTraces by rw [X.admits.platform]).trans hl
  have Y := vx_rebase X (R' := { frames := R.frames, locals := R.locals, cells := 1, slots := 6 }) (Nat.le_refl _) (Nat.le_refl _) hRcells hRslots
  obtain ⟨s', hA'⟩ : ∃ z, z = (T.setVm s.vm).setFrames (.invoking m args :: below) := ⟨_, rfl⟩
  rw [← hA'] at Y
  have hvm : s'.vm = s.vm := by rw [hA']; rfl
  have hhp : s'.heap = T.heap := by rw [hA']; rfl
  have hW0 : s.WarmedH s'.vm := by rw [hvm]; exact State.WarmedH.refl s
  have hat' : ∀ w ∈ vx_at0 own ic cls names, w.before args s' = true := fun w hw => vx_ot_at hW0 hvm.symm (hgood w (List.mem_cons_of_mem _ (List.mem_cons_of_mem _ hw))) (hat w hw)
  have hk' : (Cond.classLink own ik cls).before args s' = true := vx_ot_at hW0 hvm.symm (hgood _ List.mem_cons_self) hk
  have hini' : (Cond.initialized cls).before args s' = true := vx_ot_at hW0 hvm.symm (hgood _ (List.mem_cons_of_mem _ List.mem_cons_self)) hini
  have hU' : vx_Zq Bundle.tN "UNASSIGNED_STACK" Bundle.steD A s' s'.heap := by rw [hhp]; exact vx_Zq.moved hW0.alike (hU.kept hS.2.1)
  have hN' : vx_Zq Bundle.tN "SUPPRESSED_SENTINEL" Bundle.listD A s' s'.heap := by rw [hhp]; exact vx_Zq.moved hW0.alike (hN.kept hS.2.1)
  have h : ∀ w ∈ Bundle.ownAtoms0 own ic cls names, w.before args s' = true := vx_own hat' (vx_isRefq hU'.1) (vx_isRefq hN'.1) hU'.2.word hN'.2.word
  have hown' : s'.vm.findClass own = some m.cls := by rw [hvm]; exact hown
  have hins : (Cond.instantiable cls 6).before args s' = true := h _ (by simp [Bundle.ownAtoms0])
  obtain ⟨vm₁, cX, kX, hfX, hkX, -, -, X₁, st1⟩ := Y.newCold hexec (own := own) (C := cls) (index := ik) (n := 6) hown' hk' hins hini'
    (g := F0 m pc ls rest) rfl (by rw [hb]; exact d0) (Nat.le_refl _) (Nat.le_refl _)
  generalize hT1 : (T.setVm vm₁).pushCell { cls := cX, slots := kX.instanceTypes.map defaultValue, vm := .none } = T1 at X₁ st1
  have hcat : (Value.ref T.heap.size).category = 1 := rfl
  have hcellA : T1.heap[T.heap.size]? = some (freshCell cX kX) := by rw [← hT1]; exact State.heap_pushCell_size _ _
  have d3' : decode c.code (pc + 3) = .ok (.dup, 1) := by rw [hb]; exact d3
  obtain ⟨V, ce, L, Z, hL, hlt, hcl9, hvm9, st⟩ := vx_ctorMade0 X₁ hexec htr (own := own) (cls := cls) (names := names) (ic := ic) hown' hcls hnames h (fun x hx => nomatch hx) hfX hkX hcellA (by rw [hhp]; exact Nat.le_refl _)
    (g := { method := m, pc := pc + 4, locals := ls, stack := .ref T.heap.size :: .ref T.heap.size :: rest, locked := none }) rfl hsize (rest := rest) rfl
    (by rw [hb]; exact d4) hRframes (by simp only [List.map_cons, List.sum_cons, hcat]; omega)
  have Z0 := Stand.forget (locs := []) Z (fun y hy => by rw [hL y hy, hhp]; exact Nat.le_refl _)
  obtain ⟨f1, f2⟩ := vx_frame Z0.same
  rw [hhp] at f1 f2
  have hcid : ce.cls = D.1 ci := by
    rw [hcl9]
    have h1 := (hK.1 ci _ hc).2.1
    rw [hvm] at hfX
    exact Option.some.inj (hfX.symm.trans h1)
  have hh : (V.setCell T.heap.size ce).heap[T.heap.size]? = some ce := heapAt_setCell_self (s := V) ce hlt
  subst hA'
  have X5 := vx_back9 X Y Z0
  have X6 : Stand p l e R s m args below meth c (V.setCell T.heap.size ce) locs (cells + 1) (slots + 6) := { X5 with same := X5.same.mono (by omega) (by omega) }
  have hk9 : ∀ (k : Nat) (x : Nat × va_E), ws[k]? = some x → (V.setCell T.heap.size ce).heap[x.1]? = T.heap[x.1]? := fun k x hx => f2 x.1 ((hP k x hx).lt) (fun z hz => nomatch hz)
  obtain ⟨t, a1, b1⟩ := kk T.heap.size (V.setCell T.heap.size ce).heap ((hP.kept hk9).app (fun k x hx => by
      have hz : k < 1 := (List.getElem?_eq_some_iff.mp hx).1
      rw [show k = 0 by omega] at hx
      cases hx
      exact ⟨_, hc, ce, hh, hcid, hvm9, fun k hk => absurd hk (Nat.not_lt_zero k)⟩)) (hD.push hP rfl (hA _ hS.1)) ⟨Nat.le_trans hS.1 f1, fun q h1 h2 => (f2 q (Nat.lt_of_lt_of_le h1 hS.1) (fun z hz => nomatch hz)).trans (hS.2.1 q h1 h2), hS.2.2⟩ _ rfl X6
  refine ⟨t, st1 _ ?_, b1⟩
  show Steps p.tables e below (T1.setTop { method := m, pc := pc + 3, locals := ls, stack := .ref T.heap.size :: rest, locked := none }) _
  jvm_step X₁.here [X₁.here.top, hexec, d3', Value.category]
  exact st _ a1
/-- 'throw x' of an object that was made before -/
theorem vx_athrow {cc : ByteArray} {pc : Nat} (hexec : p.tables.exec = Jvm.exec) (hb : c.code = cc) {q : Addr} (hdg : decode cc pc = .ok (.athrow, 1)) (k : vx_W p l e R s m args below meth c H locs cells slots Q (F0 m pc ls rest) q) : W p l e R s m args below meth c H locs cells slots Q (F0 m pc ls (.ref q :: rest)) := by
  intro T hT X
  obtain ⟨t, st, hq⟩ := k T hT X
  refine ⟨t, ?_, hq⟩
  have hdg' : decode c.code pc = .ok (.athrow, 1) := by rw [hb]; exact hdg
  jvm_step X.here [X.here.top, hexec, hdg', athrow.wp_sem]
  exact st
end VXK2
/-! ===== END ===== -/
/-! ===== BEGIN a constructor that throws (launches without stack traces) ===== -/
section VXIA
variable {p : Program} {l : Launch} {e : Env} {R : Room} {s : State} {m : MethodId} {args : Array Value} {below : List Frame} {meth : Method} {c : Code} {T : State} {locs : List Loc} {cells slots : Nat}
theorem vx_callI (X : Stand p l e R s m args below meth c T locs cells slots) (hexec : p.tables.exec = Jvm.exec) {own : String} {index : Nat} {y : MethodName} {bytes : ByteArray} {maxL : Nat}
    (hown : s.vm.findClass own = some m.cls) (hy1 : y.name = "<init>") (hlink : (Cond.methodLink own index y).before args s = true) (hinst : (Cond.instanceMethod y).before args s = true)
    (hcode : (Cond.code y bytes maxL none).before args s = true) (hy : y.cls ≠ "java/lang/invoke/MethodHandle" ∧ y.cls ≠ "java/lang/invoke/VarHandle")
    {W9 : Nat} {Pre : Pt → Array Value → Prop} {Post : Pt → Array Value → Option Value → Pt → Prop} {PostX : Pt → Array Value → Addr → Pt → Prop} (hK : vx_Back l R p e below s args y 3 W9 Pre Post PostX)
    {g : JFrame} (hg : g.method = m) (hsize : g.locals.size = c.maxLocals) {a : Addr} {argsL rest : List Value} (hlen : ∀ sig, parseMethodDescriptor y.desc = some sig → argsL.length = sig.parameters.length)
    (hstack : g.stack = argsL.reverse ++ .ref a :: rest) (hW : 2 * g.monitorRoom + (rest.map fun v => v.category).sum ≤ W9) (hdg : decode c.code g.pc = .ok (.invokespecial index, 3))
    (hpre : ∀ vm₁, s.WarmedH vm₁ → Pre ⟨T.setVm vm₁, locs, cells, slots⟩ (Value.ref a :: argsL).toArray) :
    (∃ (v : Option Value) (vm₁ : Vm) (B : Pt), s.WarmedH vm₁ ∧ Stand p l e R s m args below meth c B.U B.locs B.cells B.slots ∧ Post ⟨T.setVm vm₁, locs, cells, slots⟩ (Value.ref a :: argsL).toArray v B ∧
      ∀ target, Steps p.tables e below (B.U.setTop { g with pc := g.pc + 3, stack := v.toList ++ rest }) target → Steps p.tables e below (T.setTop g) target) ∨
    (∃ (q : Addr) (vm₁ : Vm) (B : Pt), s.WarmedH vm₁ ∧ Stand p l e R s m args below meth c B.U B.locs B.cells B.slots ∧ PostX ⟨T.setVm vm₁, locs, cells, slots⟩ (Value.ref a :: argsL).toArray q B ∧
      Steps p.tables e below (T.setTop g) ((B.U.setTop { g with stack := rest }).pushFrame (.throwing q))) := by
  subst hg
  have hpl : e.platform.magicAccessors = ({} : Platform).magicAccessors := by rw [X.admits.platform]
  obtain ⟨mk, methM, cM, kP, vm₁, hnamed, hmethM, hcodeM, -, hlocalsM, -, hkP, -, hW₁, hstep₁⟩ := Steps.initColdArgs (e := e) X.here hexec X.warmed hpl hown hy1 hy hlink hinst hcode (f := g) rfl hlen hstack hdg
  have X₁ := X.noted hW₁
  rcases hK g.method meth c ⟨T.setVm vm₁, locs, cells, slots⟩ { g with stack := rest } (.invokespecial index) mk (Value.ref a :: argsL).toArray X₁ rfl hsize hdg hW (X₁.named hnamed) (hpre vm₁ X₁.warmed) with ⟨v, B, X', hpost, hsteps⟩ | ⟨q, B, X', hpost, hsteps⟩
  · exact Or.inl ⟨v, vm₁, B, X₁.warmed, X', hpost, fun target h => hstep₁ _ fun acts => by rw [doInvoke_state]; exact hsteps.trans h⟩
  · exact Or.inr ⟨q, vm₁, B, X₁.warmed, X', hpost, hstep₁ _ fun acts => by rw [doInvoke_state]; exact hsteps⟩
end VXIA
section VXIB
variable {p : Program} {l : Launch} {e : Env} {R : Room} {s : State} {m : MethodId} {args : Array Value} {below : List Frame} {meth : Method} {c : Code} {H : Heap} {locs : List Loc} {cells slots : Nat}
variable {y : MethodName} {bytes cc : ByteArray} {maxL nL mc ms n index : Nat} {ret : Option FieldType} {ws : List Cond} {rm : Room} {Pc : Array Value → State → Prop} {Qc : Array Value → State → Outcome → State → Prop} {XC : String → State → State → Prop} {free : Addr → Prop} {Ts : List Cond} {own C : String} {b : Addr} {As rest : List Value} {g : JFrame}
theorem vx_runI (S : CallFix p m c cc nL s args Ts own) (hM : vx_Met l y ws rm Pc Qc XC mc ms free) (cw : CallB R s args own index y bytes maxL none ws rm mc ms n ∧ y.name = "<init>" ∧ (Cond.instanceMethod y).before args s = true) (hp : PreS s H Pc (.ref b :: As))
    (hg : g.method = m) (hn : As.length = n) (hsize : g.locals.size = nL) (hstack : g.stack = As.reverse ++ .ref b :: rest) (hW : 2 * g.monitorRoom + (rest.map fun v => v.category).sum ≤ 8) (hdg : decode cc g.pc = .ok (.invokespecial index, 3)) (hf : cells + mc ≤ R.cells ∧ slots + ms ≤ R.slots) :
    vx_Run p l e R s m args below meth c H locs cells slots mc ms g rest (Qc (Value.ref b :: As).toArray) XC free := by
  have hK : vx_Back l R p e below s args y 3 8 (PreOf R mc ms Pc) (PostOf Qc mc ms free) (vx_Post XC mc ms free) := vx_callBack cw.1 hM hp.1
  obtain ⟨⟨-, -, -, -, -, -, hcode, -, hy, hlen, hl⟩, hy1, hin⟩ := cw
  obtain ⟨hx, hb, hml, ho, -⟩ := S
  have hPc := hp.2
  intro T hT X
  rcases vx_callI X hx (bytes := bytes) (maxL := maxL) ho hy1 hl hin hcode hy hK hg (hsize.trans hml.symm) (a := b) (argsL := As) (rest := rest) (fun sig h => hn.trans (hlen sig h)) hstack hW (by rw [hb]; exact hdg)
    (fun vm₁ hW₁ => ⟨hf.1, hf.2, hPc (T.setVm vm₁) hT hW₁⟩) with ⟨v, vm₁, ⟨U', l2, c2, s2⟩, hW₁, X', ⟨g', mk, t, L, e1, e2, hq, h1, hL, h2, h3⟩, st⟩ | ⟨q, vm₁, ⟨U', l2, c2, s2⟩, hW₁, X', ⟨g', mk, t, L, E, ce, e1, e2, hq, hce, hcv, hcl, h1, hL, h2, h3⟩, st⟩
  · dsimp only [Pt.U, Pt.locs, Pt.cells, Pt.slots] at X' e1 e2 h1 h2 h3 st
    subst h1; subst h2; subst h3
    exact Or.inl ⟨v, (T.setVm vm₁).calling g' mk (Value.ref b :: As).toArray, t, U', L, hT, X', hL, e1, e2, hq, st⟩
  · dsimp only [Pt.U, Pt.locs, Pt.cells, Pt.slots] at X' e1 e2 h1 h2 h3 st hcl
    subst h1; subst h2; subst h3
    exact Or.inr ⟨q, (T.setVm vm₁).calling g' mk (Value.ref b :: As).toArray, t, U', L, E, ce, hT, X', hL, e1, e2, hq, hce, hcv, vx_cls hW₁ hcl, st⟩
end VXIB
/-! ===== END ===== -/
/-! ===== BEGIN a private constructor of a nest mate that throws ===== -/
section VXIC
variable {p : Program} {l : Launch} {e : Env} {R : Room} {s : State} {m : MethodId} {args : Array Value} {below : List Frame} {meth : Method} {c : Code} {T : State} {locs : List Loc} {cells slots : Nat}
theorem vx_callIN (X : Stand p l e R s m args below meth c T locs cells slots) (hexec : p.tables.exec = Jvm.exec) {own : String} {index : Nat} {host : String} {y : MethodName} {bytes : ByteArray} {maxL : Nat}
    (hown : s.vm.findClass own = some m.cls) (hy1 : y.name = "<init>") (hlink : (Cond.methodLinkNest own index y host).before args s = true) (hinst : (Cond.instanceMethod y).before args s = true)
    (hcode : (Cond.code y bytes maxL none).before args s = true) (hy : y.cls ≠ "java/lang/invoke/MethodHandle" ∧ y.cls ≠ "java/lang/invoke/VarHandle")
    {W9 : Nat} {Pre : Pt → Array Value → Prop} {Post : Pt → Array Value → Option Value → Pt → Prop} {PostX : Pt → Array Value → Addr → Pt → Prop} (hK : vx_Back l R p e below s args y 3 W9 Pre Post PostX)
    {g : JFrame} (hg : g.method = m) (hsize : g.locals.size = c.maxLocals) {a : Addr} {argsL rest : List Value} (hlen : ∀ sig, parseMethodDescriptor y.desc = some sig → argsL.length = sig.parameters.length)
    (hstack : g.stack = argsL.reverse ++ .ref a :: rest) (hW : 2 * g.monitorRoom + (rest.map fun v => v.category).sum ≤ W9) (hdg : decode c.code g.pc = .ok (.invokespecial index, 3))
    (hpre : ∀ vm₁, s.WarmedH vm₁ → Pre ⟨T.setVm vm₁, locs, cells, slots⟩ (Value.ref a :: argsL).toArray) :
    (∃ (v : Option Value) (vm₁ : Vm) (B : Pt), s.WarmedH vm₁ ∧ Stand p l e R s m args below meth c B.U B.locs B.cells B.slots ∧ Post ⟨T.setVm vm₁, locs, cells, slots⟩ (Value.ref a :: argsL).toArray v B ∧
      ∀ target, Steps p.tables e below (B.U.setTop { g with pc := g.pc + 3, stack := v.toList ++ rest }) target → Steps p.tables e below (T.setTop g) target) ∨
    (∃ (q : Addr) (vm₁ : Vm) (B : Pt), s.WarmedH vm₁ ∧ Stand p l e R s m args below meth c B.U B.locs B.cells B.slots ∧ PostX ⟨T.setVm vm₁, locs, cells, slots⟩ (Value.ref a :: argsL).toArray q B ∧
      Steps p.tables e below (T.setTop g) ((B.U.setTop { g with stack := rest }).pushFrame (.throwing q))) := by
  subst hg
  have hpl : e.platform.magicAccessors = ({} : Platform).magicAccessors := by rw [X.admits.platform]
  obtain ⟨mk, methM, cM, kP, vm₁, hnamed, hmethM, hcodeM, -, hlocalsM, -, hkP, -, hW₁, hstep₁⟩ := Steps.initColdArgsNest (e := e) X.here hexec X.warmed hpl hown hy1 hy hlink hinst hcode (f := g) rfl hlen hstack hdg
  have X₁ := X.noted hW₁
  rcases hK g.method meth c ⟨T.setVm vm₁, locs, cells, slots⟩ { g with stack := rest } (.invokespecial index) mk (Value.ref a :: argsL).toArray X₁ rfl hsize hdg hW (X₁.named hnamed) (hpre vm₁ X₁.warmed) with ⟨v, B, X', hpost, hsteps⟩ | ⟨q, B, X', hpost, hsteps⟩
  · exact Or.inl ⟨v, vm₁, B, X₁.warmed, X', hpost, fun target h => hstep₁ _ fun acts => by rw [doInvoke_state]; exact hsteps.trans h⟩
  · exact Or.inr ⟨q, vm₁, B, X₁.warmed, X', hpost, hstep₁ _ fun acts => by rw [doInvoke_state]; exact hsteps⟩
end VXIC
section VXID
variable {p : Program} {l : Launch} {e : Env} {R : Room} {s : State} {m : MethodId} {args : Array Value} {below : List Frame} {meth : Method} {c : Code} {H : Heap} {locs : List Loc} {cells slots : Nat}
theorem vx_runIN {y : MethodName} {bytes cc : ByteArray} {maxL nL mc ms n index : Nat} {ws : List Cond} {rm : Room} {Pc : Array Value → State → Prop} {Qc : Array Value → State → Outcome → State → Prop} {XC : String → State → State → Prop} {free : Addr → Prop} {Ts : List Cond} {own host : String} {b : Addr} {As rest : List Value} {g : JFrame}
    (S : CallFix p m c cc nL s args Ts own) (hM : vx_Met l y ws rm Pc Qc XC mc ms free) (cw : va_CN R s args own index y host bytes maxL none ws rm mc ms n ∧ y.name = "<init>" ∧ (Cond.instanceMethod y).before args s = true) (hp : PreS s H Pc (.ref b :: As))
    (hg : g.method = m) (hn : As.length = n) (hsize : g.locals.size = nL) (hstack : g.stack = As.reverse ++ .ref b :: rest) (hW : 2 * g.monitorRoom + (rest.map fun v => v.category).sum ≤ 8) (hdg : decode cc g.pc = .ok (.invokespecial index, 3)) (hf : cells + mc ≤ R.cells ∧ slots + ms ≤ R.slots) :
    vx_Run p l e R s m args below meth c H locs cells slots mc ms g rest (Qc (Value.ref b :: As).toArray) XC free := by
  obtain ⟨⟨⟨hrc, hrs, hfr, hlo, hws, hcw⟩, hcode, hini, hy, hlen, hl⟩, hx1, hx2⟩ := cw
  have hK : vx_Back l R p e below s args y 3 8 (PreOf R mc ms Pc) (PostOf Qc mc ms free) (vx_Post XC mc ms free) := vx_back (bytes := bytes) (maxL := maxL) (ret := none) hM hp.1 hrc hrs hfr hlo hws hcw (fun a' U hW => word_at hW (Or.inl (by first | rfl | simp [Cond.onTables, Cond.keeps, Cond.steady])) hini)
  obtain ⟨hx, hb, hml, ho, -⟩ := S
  have hPc := hp.2
  intro T hT X
  rcases vx_callIN X hx (bytes := bytes) (maxL := maxL) ho hx1 hl hx2 hcode hy hK hg (hsize.trans hml.symm) (a := b) (argsL := As) (rest := rest) (fun sig h => hn.trans (hlen sig h)) hstack hW (by rw [hb]; exact hdg)
    (fun vm₁ hW₁ => ⟨hf.1, hf.2, hPc (T.setVm vm₁) hT hW₁⟩) with ⟨v, vm₁, ⟨U', l2, c2, s2⟩, hW₁, X', ⟨g', mk, t, L, e1, e2, hq, h1, hL, h2, h3⟩, st⟩ | ⟨q, vm₁, ⟨U', l2, c2, s2⟩, hW₁, X', ⟨g', mk, t, L, E, ce, e1, e2, hq, hce, hcv, hcl, h1, hL, h2, h3⟩, st⟩
  · dsimp only [Pt.U, Pt.locs, Pt.cells, Pt.slots] at X' e1 e2 h1 h2 h3 st
    subst h1; subst h2; subst h3
    exact Or.inl ⟨v, (T.setVm vm₁).calling g' mk (Value.ref b :: As).toArray, t, U', L, hT, X', hL, e1, e2, hq, st⟩
  · dsimp only [Pt.U, Pt.locs, Pt.cells, Pt.slots] at X' e1 e2 h1 h2 h3 st hcl
    subst h1; subst h2; subst h3
    exact Or.inr ⟨q, (T.setVm vm₁).calling g' mk (Value.ref b :: As).toArray, t, U', L, E, ce, hT, X', hL, e1, e2, hq, hce, hcv, vx_cls hW₁ hcl, st⟩
end VXID
/-! ===== END ===== -/
/-! ===== BEGIN a method of a class above, found by the receiver, that may throw (follows va_callVU, va_runU of this kit) ===== -/
section
variable {p : Program} {l : Launch} {e : Env} {R : Room} {s : State} {m : MethodId} {args : Array Value} {below : List Frame} {meth : Method} {c : Code} {H : Heap} {locs : List Loc} {cells slots : Nat}
theorem vx_callVU {T : State} {locs : List Loc} {cells slots : Nat} (X : Stand p l e R s m args below meth c T locs cells slots) (hexec : p.tables.exec = Jvm.exec) {own C owner : String} {index : Nat} {x y : MethodName} {bytes : ByteArray} {maxL : Nat} {ret : Option FieldType}
    (hown : s.vm.findClass own = some m.cls) (hlink : (Cond.methodLink own index x).before args s = true) (hsame : (Cond.sameMethod x.cls owner x.name x.desc).before args s = true)
    (hd0 : va_Decl s ⟨owner, x.name, x.desc⟩) (howner : owner ≠ "java/lang/invoke/MethodHandle" ∧ owner ≠ "java/lang/invoke/VarHandle")
    (hsel : (Cond.selects C x y).before args s = true) (hinst : (Cond.instanceMethod y).before args s = true) (hcode : (Cond.code y bytes maxL ret).before args s = true)
    {W : Nat} {Pre : Pt → Array Value → Prop} {Post : Pt → Array Value → Option Value → Pt → Prop} {PostX : Pt → Array Value → Addr → Pt → Prop} (hK : vx_Back l R p e below s args y 3 W Pre Post PostX)
    {b : Addr} {cellB : Cell} (hcell : T.heap[b]? = some cellB) (hobj : cellB.vm.isStatics = false) (hcls : s.vm.findClass C = some cellB.cls)
    {g : JFrame} (hg : g.method = m) (hsize : g.locals.size = c.maxLocals) {argsL rest : List Value} (hlen : ∀ sig, parseMethodDescriptor x.desc = some sig → argsL.length = sig.parameters.length)
    (hstack : g.stack = argsL.reverse ++ .ref b :: rest) (hW : 2 * g.monitorRoom + (rest.map fun v => v.category).sum ≤ W) (hdg : decode c.code g.pc = .ok (.invokevirtual index, 3))
    (hpre : ∀ vm₁, s.WarmedH vm₁ → Pre ⟨T.setVm vm₁, locs, cells, slots⟩ (Value.ref b :: argsL).toArray) :
    (∃ (v : Option Value) (vm₁ : Vm) (B : Pt), s.WarmedH vm₁ ∧ Stand p l e R s m args below meth c B.U B.locs B.cells B.slots ∧ Post ⟨T.setVm vm₁, locs, cells, slots⟩ (Value.ref b :: argsL).toArray v B ∧
      ∀ target, Steps p.tables e below (B.U.setTop { g with pc := g.pc + 3, stack := v.toList ++ rest }) target → Steps p.tables e below (T.setTop g) target) ∨
    (∃ (q : Addr) (vm₁ : Vm) (B : Pt), s.WarmedH vm₁ ∧ Stand p l e R s m args below meth c B.U B.locs B.cells B.slots ∧ PostX ⟨T.setVm vm₁, locs, cells, slots⟩ (Value.ref b :: argsL).toArray q B ∧
      Steps p.tables e below (T.setTop g) ((B.U.setTop { g with stack := rest }).pushFrame (.throwing q))) := by
  obtain ⟨r0, r, hn, hrm, hstR, hsigR⟩ := hd0
  obtain ⟨cn, ck, r1, hcn, hck, hni, hf, hn1⟩ := Cond.sameMethod_found hsame
  cases hn.symm.trans hn1
  obtain ⟨mk, methM, hnamed, hmethM, -, habM⟩ := Cond.instanceMethod_spec hinst
  obtain ⟨c2, r2, m2, q1, q2, q3, q4, kP, hkP, hkPi⟩ := Cond.selects_spec hsel
  cases hcls.symm.trans q1
  cases hf.symm.trans q2
  cases hnamed.symm.trans q3
  have hselP : selectMethod e.platform s.vm cellB.cls r0 = .method mk := by rw [Launch.admits_selectMethod X.admits]; exact q4
  obtain ⟨vm₁, X₁, hstep₁⟩ := X.invokevirtualUp hexec hown hlink hsame howner hn hrm hstR (a := b) (cell := cellB) hcell
    (fun z h => by rw [h] at hobj; cases hobj) hselP hmethM habM hkP hkPi (g := g) hg (argsL := argsL) (rest := rest) (hlen _ hsigR) hstack hdg
  rcases hK m meth c ⟨T.setVm vm₁, locs, cells, slots⟩ { g with stack := rest } (.invokevirtual index) mk (Value.ref b :: argsL).toArray X₁ hg hsize hdg hW (X₁.named hnamed) (hpre vm₁ X₁.warmed) with ⟨v, B, X', hpost, hsteps⟩ | ⟨q, B, X', hpost, hsteps⟩
  · exact Or.inl ⟨v, vm₁, B, X₁.warmed, X', hpost, fun target h => hstep₁ _ fun acts => by rw [doInvoke_state]; exact hsteps.trans h⟩
  · exact Or.inr ⟨q, vm₁, B, X₁.warmed, X', hpost, hstep₁ _ fun acts => by rw [doInvoke_state]; exact hsteps⟩
theorem vx_runU {x y : MethodName} {bytes cc : ByteArray} {maxL nL mc ms n index : Nat} {ret : Option FieldType} {ws : List Cond} {rm : Room} {Pc : Array Value → State → Prop} {Qc : Array Value → State → Outcome → State → Prop} {XC : String → State → State → Prop} {free : Addr → Prop} {Ts : List Cond} {own C owner : String} {b : Addr} {As rest : List Value} {g : JFrame}
    (S : CallFix p m c cc nL s args Ts own) (hM : vx_Met l y ws rm Pc Qc XC mc ms free) (cw : va_CU R s args own C owner index x y bytes maxL ret ws rm mc ms n) (hp : PreV s H C b Pc As)
    (hg : g.method = m) (hn : As.length = n) (hsize : g.locals.size = nL) (hstack : g.stack = As.reverse ++ .ref b :: rest) (hW : 2 * g.monitorRoom + (rest.map fun v => v.category).sum ≤ 8) (hdg : decode cc g.pc = .ok (.invokevirtual index, 3)) (hf : cells + mc ≤ R.cells ∧ slots + ms ≤ R.slots) :
    vx_Run p l e R s m args below meth c H locs cells slots mc ms g rest (Qc (Value.ref b :: As).toArray) XC free := by
  obtain ⟨hrc, hrs, hfr, hlo, hws, hcw⟩ := cw.back
  have hini := cw.init
  have hK : vx_Back l R p e below s args y 3 8 (PreOf R mc ms Pc) (PostOf Qc mc ms free) (vx_Post XC mc ms free) := vx_back (bytes := bytes) (maxL := maxL) (ret := ret) hM hp.1 hrc hrs hfr hlo hws hcw (fun a' U hW => word_at hW (Or.inl (by first | rfl | simp [Cond.onTables, Cond.keeps, Cond.steady])) hini)
  obtain ⟨hx, hb, hml, ho, -⟩ := S
  obtain ⟨-, ⟨cellB, hcB, hoB, hclB⟩, hPc⟩ := hp
  intro T hT X
  rcases vx_callVU X hx (C := C) (owner := owner) (bytes := bytes) (maxL := maxL) (ret := ret) ho cw.link cw.same cw.decl cw.notMH cw.sel cw.inst cw.code hK (by rw [hT]; exact hcB) hoB hclB hg (hsize.trans hml.symm) (argsL := As) (rest := rest) (fun sig h => hn.trans (cw.len sig h)) hstack hW (by rw [hb]; exact hdg)
    (fun vm₁ hW₁ => ⟨hf.1, hf.2, hPc (T.setVm vm₁) hT hW₁⟩) with ⟨v, vm₁, ⟨U', l2, c2, s2⟩, hW₁, X', ⟨g', mk, t, L, e1, e2, hq, h1, hL, h2, h3⟩, st⟩ | ⟨q, vm₁, ⟨U', l2, c2, s2⟩, hW₁, X', ⟨g', mk, t, L, E, ce, e1, e2, hq, hce, hcv, hcl, h1, hL, h2, h3⟩, st⟩
  · dsimp only [Pt.U, Pt.locs, Pt.cells, Pt.slots] at X' e1 e2 h1 h2 h3 st
    subst h1; subst h2; subst h3
    exact Or.inl ⟨v, (T.setVm vm₁).calling g' mk (Value.ref b :: As).toArray, t, U', L, hT, X', hL, e1, e2, hq, st⟩
  · dsimp only [Pt.U, Pt.locs, Pt.cells, Pt.slots] at X' e1 e2 h1 h2 h3 st hcl
    subst h1; subst h2; subst h3
    exact Or.inr ⟨q, (T.setVm vm₁).calling g' mk (Value.ref b :: As).toArray, t, U', L, E, ce, hT, X', hL, e1, e2, hq, hce, hcv, vx_cls hW₁ hcl, st⟩
end
/-! ===== END ===== -/
/-! ===== BEGIN super.m(..) that may throw (follows va_callSU, va_runSU) ===== -/
section
variable {p : Program} {l : Launch} {e : Env} {R : Room} {s : State} {m : MethodId} {args : Array Value} {below : List Frame} {meth : Method} {c : Code} {H : Heap} {locs : List Loc} {cells slots : Nat}
theorem vx_callSU {T : State} {locs : List Loc} {cells slots : Nat} (X : Stand p l e R s m args below meth c T locs cells slots) (hexec : p.tables.exec = Jvm.exec) {own : String} {index : Nat} {y : MethodName} {bytes : ByteArray} {maxL : Nat} {ret : Option FieldType}
    (hown : s.vm.findClass own = some m.cls) (hlink : (Cond.methodLink own index y).before args s = true) (hsame : (Cond.sameMethod y.cls y.cls y.name y.desc).before args s = true) (hsup : (Cond.superclass own y.cls).before args s = true)
    (hinst : (Cond.instanceMethod y).before args s = true) (hcode : (Cond.code y bytes maxL ret).before args s = true) (hno : y.name ≠ "<init>")
    {W : Nat} {Pre : Pt → Array Value → Prop} {Post : Pt → Array Value → Option Value → Pt → Prop} {PostX : Pt → Array Value → Addr → Pt → Prop} (hK : vx_Back l R p e below s args y 3 W Pre Post PostX)
    {b : Addr} {cellB : Cell} {kB : Class} (hcell : T.heap[b]? = some cellB) (hobj : cellB.vm.isStatics = false) (hkB : s.vm.classes[cellB.cls]? = some kB)
    {g : JFrame} (hg : g.method = m) (hsize : g.locals.size = c.maxLocals) {argsL rest : List Value} (hlen : ∀ sig, parseMethodDescriptor y.desc = some sig → argsL.length = sig.parameters.length)
    (hstack : g.stack = argsL.reverse ++ .ref b :: rest) (hW : 2 * g.monitorRoom + (rest.map fun v => v.category).sum ≤ W) (hdg : decode c.code g.pc = .ok (.invokespecial index, 3))
    (hpre : ∀ vm₁, s.WarmedH vm₁ → Pre ⟨T.setVm vm₁, locs, cells, slots⟩ (Value.ref b :: argsL).toArray) :
    (∃ (v : Option Value) (vm₁ : Vm) (B : Pt), s.WarmedH vm₁ ∧ Stand p l e R s m args below meth c B.U B.locs B.cells B.slots ∧ Post ⟨T.setVm vm₁, locs, cells, slots⟩ (Value.ref b :: argsL).toArray v B ∧
      ∀ target, Steps p.tables e below (B.U.setTop { g with pc := g.pc + 3, stack := v.toList ++ rest }) target → Steps p.tables e below (T.setTop g) target) ∨
    (∃ (q : Addr) (vm₁ : Vm) (B : Pt), s.WarmedH vm₁ ∧ Stand p l e R s m args below meth c B.U B.locs B.cells B.slots ∧ PostX ⟨T.setVm vm₁, locs, cells, slots⟩ (Value.ref b :: argsL).toArray q B ∧
      Steps p.tables e below (T.setTop g) ((B.U.setTop { g with stack := rest }).pushFrame (.throwing q))) := by
  obtain ⟨mk, methM, hnamed, hmethM, hstM, habM⟩ := Cond.instanceMethod_spec hinst
  obtain ⟨methM', cM, hmethM', -, -, -, -, -, -, hsigM⟩ := Cond.code_spec hnamed hcode
  cases hmethM.symm.trans hmethM'
  obtain ⟨ps, dk, kp, hps, hdk, hkp, hsuper, -, -, hnid⟩ := Cond.superclass_spec hown hsup
  have hn : s.methodNamed? ⟨y.cls, y.name, y.desc⟩ = some mk := hnamed
  have hpm : ps = mk.cls := Option.some.inj (hps.symm.trans (findClass_of_methodNamed hnamed))
  have hsub : s.vm.isSubclass ps mk.cls = true := by rw [hpm]; simp [Vm.isSubclass, Vm.isSubclassAux]
  obtain ⟨vm₁, X₁, hstep₁⟩ := X.invokespecialUp hexec hown hlink hsame hn hmethM hstM habM hno hdk hnid hps hsuper hsub (a := b) (cell := cellB) hcell
    (fun z h => by rw [h] at hobj; cases hobj) hkB (g := g) hg (argsL := argsL) (rest := rest) (hlen _ hsigM) hstack hdg
  rcases hK m meth c ⟨T.setVm vm₁, locs, cells, slots⟩ { g with stack := rest } (.invokespecial index) mk (Value.ref b :: argsL).toArray X₁ hg hsize hdg hW (X₁.named hnamed) (hpre vm₁ X₁.warmed) with ⟨v, B, X', hpost, hsteps⟩ | ⟨q, B, X', hpost, hsteps⟩
  · exact Or.inl ⟨v, vm₁, B, X₁.warmed, X', hpost, fun target h => hstep₁ _ (by rw [doInvoke_state]; exact hsteps.trans h)⟩
  · exact Or.inr ⟨q, vm₁, B, X₁.warmed, X', hpost, hstep₁ _ (by rw [doInvoke_state]; exact hsteps)⟩
theorem vx_runSU {y : MethodName} {bytes cc : ByteArray} {maxL nL mc ms n index : Nat} {ret : Option FieldType} {ws : List Cond} {rm : Room} {Pc : Array Value → State → Prop} {Qc : Array Value → State → Outcome → State → Prop} {XC : String → State → State → Prop} {free : Addr → Prop} {Ts : List Cond} {own C : String} {cC : ClassId} {b : Addr} {As rest : List Value} {g : JFrame}
    (hat : ClassAt s C cC) (S : CallFix p m c cc nL s args Ts own) (hM : vx_Met l y ws rm Pc Qc XC mc ms free) (cw : va_CS R s args own index y bytes maxL ret ws rm mc ms n) (hp : PreV s H C b Pc As)
    (hg : g.method = m) (hn : As.length = n) (hsize : g.locals.size = nL) (hstack : g.stack = As.reverse ++ .ref b :: rest) (hW : 2 * g.monitorRoom + (rest.map fun v => v.category).sum ≤ 8) (hdg : decode cc g.pc = .ok (.invokespecial index, 3)) (hf : cells + mc ≤ R.cells ∧ slots + ms ≤ R.slots) :
    vx_Run p l e R s m args below meth c H locs cells slots mc ms g rest (Qc (Value.ref b :: As).toArray) XC free := by
  obtain ⟨⟨hrc, hrs, hfr, hlo, hws, hcw⟩, hl1, hl2, hl3, hl4, hini, hcode, hno, hlen⟩ := cw
  have hK : vx_Back l R p e below s args y 3 8 (PreOf R mc ms Pc) (PostOf Qc mc ms free) (vx_Post XC mc ms free) := vx_back (bytes := bytes) (maxL := maxL) (ret := ret) hM hp.1 hrc hrs hfr hlo hws hcw (fun a' U hW => word_at hW (Or.inl (by first | rfl | simp [Cond.onTables, Cond.keeps, Cond.steady])) hini)
  obtain ⟨hx, hb, hml, ho, -⟩ := S
  obtain ⟨-, ⟨cellB, hcB, hoB, hclB⟩, hPc⟩ := hp
  obtain ⟨hfc, kB, hkB, -⟩ := hat
  cases hfc.symm.trans hclB
  intro T hT X
  rcases vx_callSU X hx (bytes := bytes) (maxL := maxL) (ret := ret) ho hl1 hl2 hl3 hl4 hcode hno hK (by rw [hT]; exact hcB) hoB hkB hg (hsize.trans hml.symm) (argsL := As) (rest := rest) (fun sig h => hn.trans (hlen sig h)) hstack hW (by rw [hb]; exact hdg)
    (fun vm₁ hW₁ => ⟨hf.1, hf.2, hPc (T.setVm vm₁) hT hW₁⟩) with ⟨v, vm₁, ⟨U', l2, c2, s2⟩, hW₁, X', ⟨g', mk, t, L, e1, e2, hq, h1, hL, h2, h3⟩, st⟩ | ⟨q, vm₁, ⟨U', l2, c2, s2⟩, hW₁, X', ⟨g', mk, t, L, E, ce, e1, e2, hq, hce, hcv, hcl, h1, hL, h2, h3⟩, st⟩
  · dsimp only [Pt.U, Pt.locs, Pt.cells, Pt.slots] at X' e1 e2 h1 h2 h3 st
    subst h1; subst h2; subst h3
    exact Or.inl ⟨v, (T.setVm vm₁).calling g' mk (Value.ref b :: As).toArray, t, U', L, hT, X', hL, e1, e2, hq, st⟩
  · dsimp only [Pt.U, Pt.locs, Pt.cells, Pt.slots] at X' e1 e2 h1 h2 h3 st hcl
    subst h1; subst h2; subst h3
    exact Or.inr ⟨q, (T.setVm vm₁).calling g' mk (Value.ref b :: As).toArray, t, U', L, E, ce, hT, X', hL, e1, e2, hq, hce, hcv, vx_cls hW₁ hcl, st⟩
end
/-! ===== END ===== -/
/-! ===== BEGIN a private method of a nest mate that may throw (follows va_callVN, va_callSN, va_runVN, va_runSN) ===== -/
section
variable {p : Program} {l : Launch} {e : Env} {R : Room} {s : State} {m : MethodId} {args : Array Value} {below : List Frame} {meth : Method} {c : Code} {H : Heap} {locs : List Loc} {cells slots : Nat}
variable {T : State}
theorem vx_callVN (X : Stand p l e R s m args below meth c T locs cells slots) (hexec : p.tables.exec = Jvm.exec) {own C : String} {index : Nat} {host : String} {y : MethodName} {bytes : ByteArray} {maxL : Nat} {ret : Option FieldType}
    (hown : s.vm.findClass own = some m.cls) (hlink : (Cond.methodLinkNest own index y host).before args s = true) (hinst : (Cond.instanceMethod y).before args s = true) (hsel : (Cond.selects C y y).before args s = true)
    (hcode : (Cond.code y bytes maxL ret).before args s = true) (hy : y.cls ≠ "java/lang/invoke/MethodHandle" ∧ y.cls ≠ "java/lang/invoke/VarHandle")
    {W : Nat} {Pre : Pt → Array Value → Prop} {Post : Pt → Array Value → Option Value → Pt → Prop} {PostX : Pt → Array Value → Addr → Pt → Prop} (hK : vx_Back l R p e below s args y 3 W Pre Post PostX)
    {b : Addr} {cellB : Cell} (hcell : T.heap[b]? = some cellB) (hobj : cellB.vm.isStatics = false) (hcls : s.vm.findClass C = some cellB.cls)
    {g : JFrame} (hg : g.method = m) (hsize : g.locals.size = c.maxLocals) {argsL rest : List Value} (hlen : ∀ sig, parseMethodDescriptor y.desc = some sig → argsL.length = sig.parameters.length)
    (hstack : g.stack = argsL.reverse ++ .ref b :: rest) (hW : 2 * g.monitorRoom + (rest.map fun v => v.category).sum ≤ W) (hdg : decode c.code g.pc = .ok (.invokevirtual index, 3))
    (hpre : ∀ vm₁, s.WarmedH vm₁ → Pre ⟨T.setVm vm₁, locs, cells, slots⟩ (Value.ref b :: argsL).toArray) :
    (∃ (v : Option Value) (vm₁ : Vm) (B : Pt), s.WarmedH vm₁ ∧ Stand p l e R s m args below meth c B.U B.locs B.cells B.slots ∧ Post ⟨T.setVm vm₁, locs, cells, slots⟩ (Value.ref b :: argsL).toArray v B ∧
      ∀ target, Steps p.tables e below (B.U.setTop { g with pc := g.pc + 3, stack := v.toList ++ rest }) target → Steps p.tables e below (T.setTop g) target) ∨
    (∃ (q : Addr) (vm₁ : Vm) (B : Pt), s.WarmedH vm₁ ∧ Stand p l e R s m args below meth c B.U B.locs B.cells B.slots ∧ PostX ⟨T.setVm vm₁, locs, cells, slots⟩ (Value.ref b :: argsL).toArray q B ∧
      Steps p.tables e below (T.setTop g) ((B.U.setTop { g with stack := rest }).pushFrame (.throwing q))) := by
  obtain ⟨mk, methM, hnamed, hmethM, hstM, habM⟩ := Cond.instanceMethod_spec hinst
  obtain ⟨methM', cM, hmethM', -, -, -, -, -, -, hsigM⟩ := Cond.code_spec hnamed hcode
  cases hmethM.symm.trans hmethM'
  obtain ⟨c2, r2, m2, q1, q2, q3, q4, kP, hkP, hkPi⟩ := Cond.selects_spec hsel
  cases hcls.symm.trans q1
  cases (State.methodFound?_of_named hnamed hy).symm.trans q2
  cases hnamed.symm.trans q3
  have hselP : selectMethod e.platform s.vm cellB.cls mk = .method mk := by rw [Launch.admits_selectMethod X.admits]; exact q4
  obtain ⟨vm₁, X₁, hstep₁⟩ := X.invokevirtualNest hexec hown hlink hnamed hmethM hstM hkP hkPi hy (a := b) (cell := cellB) hcell
    (fun z h => by rw [h] at hobj; cases hobj) hselP hmethM habM hkP hkPi (g := g) hg (argsL := argsL) (rest := rest) (hlen _ hsigM) hstack hdg
  rcases hK m meth c ⟨T.setVm vm₁, locs, cells, slots⟩ { g with stack := rest } (.invokevirtual index) mk (Value.ref b :: argsL).toArray X₁ hg hsize hdg hW (X₁.named hnamed) (hpre vm₁ X₁.warmed) with ⟨v, B, X', hpost, hsteps⟩ | ⟨q, B, X', hpost, hsteps⟩
  · exact Or.inl ⟨v, vm₁, B, X₁.warmed, X', hpost, fun target h => hstep₁ _ fun acts => by rw [doInvoke_state]; exact hsteps.trans h⟩
  · exact Or.inr ⟨q, vm₁, B, X₁.warmed, X', hpost, hstep₁ _ fun acts => by rw [doInvoke_state]; exact hsteps⟩
theorem vx_callSN (X : Stand p l e R s m args below meth c T locs cells slots) (hexec : p.tables.exec = Jvm.exec) {own : String} {index : Nat} {host : String} {y : MethodName} {bytes : ByteArray} {maxL : Nat} {ret : Option FieldType}
    (hown : s.vm.findClass own = some m.cls) (hlink : (Cond.methodLinkNest own index y host).before args s = true) (hstat : (Cond.static y).before args s = true) (hinit : (Cond.initialized y.cls).before args s = true)
    (hcode : (Cond.code y bytes maxL ret).before args s = true) (hy : y.cls ≠ "java/lang/invoke/MethodHandle" ∧ y.cls ≠ "java/lang/invoke/VarHandle")
    {W : Nat} {Pre : Pt → Array Value → Prop} {Post : Pt → Array Value → Option Value → Pt → Prop} {PostX : Pt → Array Value → Addr → Pt → Prop} (hK : vx_Back l R p e below s args y 3 W Pre Post PostX)
    {g : JFrame} (hg : g.method = m) (hsize : g.locals.size = c.maxLocals) {argsL rest : List Value} (hlen : ∀ sig, parseMethodDescriptor y.desc = some sig → argsL.length = sig.parameters.length)
    (hstack : g.stack = argsL.reverse ++ rest) (hW : 2 * g.monitorRoom + (rest.map fun v => v.category).sum ≤ W) (hdg : decode c.code g.pc = .ok (.invokestatic index, 3))
    (hpre : ∀ vm₁, s.WarmedH vm₁ → Pre ⟨T.setVm vm₁, locs, cells, slots⟩ argsL.toArray) :
    (∃ (v : Option Value) (vm₁ : Vm) (B : Pt), s.WarmedH vm₁ ∧ Stand p l e R s m args below meth c B.U B.locs B.cells B.slots ∧ Post ⟨T.setVm vm₁, locs, cells, slots⟩ argsL.toArray v B ∧
      ∀ target, Steps p.tables e below (B.U.setTop { g with pc := g.pc + 3, stack := v.toList ++ rest }) target → Steps p.tables e below (T.setTop g) target) ∨
    (∃ (q : Addr) (vm₁ : Vm) (B : Pt), s.WarmedH vm₁ ∧ Stand p l e R s m args below meth c B.U B.locs B.cells B.slots ∧ PostX ⟨T.setVm vm₁, locs, cells, slots⟩ argsL.toArray q B ∧
      Steps p.tables e below (T.setTop g) ((B.U.setTop { g with stack := rest }).pushFrame (.throwing q))) := by
  obtain ⟨mk, hnamed⟩ := Cond.code_named hcode
  obtain ⟨methM, cM, hmethM, -, -, -, -, -, -, hsigM⟩ := Cond.code_spec hnamed hcode
  have hstatic : methM.isStatic = true := Cond.static_spec hnamed hmethM hstat
  obtain ⟨kP, hkP, -⟩ := className_of_methodNamed hnamed
  have hinitP : kP.init = .initialized := Cond.initialized_spec (findClass_of_methodNamed hnamed) hkP hinit
  obtain ⟨vm₁, X₁, hstep₁⟩ := X.invokestaticNest hexec hown hlink hnamed hmethM hstatic hkP hinitP hy (g := g) hg (argsL := argsL) (rest := rest) (hlen _ hsigM) hstack hdg
  rcases hK m meth c ⟨T.setVm vm₁, locs, cells, slots⟩ { g with stack := rest } (.invokestatic index) mk argsL.toArray X₁ hg hsize hdg hW (X₁.named hnamed) (hpre vm₁ X₁.warmed) with ⟨v, B, X', hpost, hsteps⟩ | ⟨q, B, X', hpost, hsteps⟩
  · exact Or.inl ⟨v, vm₁, B, X₁.warmed, X', hpost, fun target h => hstep₁ _ fun acts => by rw [doInvoke_state]; exact hsteps.trans h⟩
  · exact Or.inr ⟨q, vm₁, B, X₁.warmed, X', hpost, hstep₁ _ fun acts => by rw [doInvoke_state]; exact hsteps⟩
theorem vx_runVN {y : MethodName} {bytes cc : ByteArray} {maxL nL mc ms n index : Nat} {ret : Option FieldType} {ws : List Cond} {rm : Room} {Pc : Array Value → State → Prop} {Qc : Array Value → State → Outcome → State → Prop} {XC : String → State → State → Prop} {free : Addr → Prop} {Ts : List Cond} {own C host : String} {b : Addr} {As rest : List Value} {g : JFrame}
    (S : CallFix p m c cc nL s args Ts own) (hM : vx_Met l y ws rm Pc Qc XC mc ms free) (cw : va_CN R s args own index y host bytes maxL ret ws rm mc ms n ∧ (Cond.instanceMethod y).before args s = true ∧ (Cond.selects C y y).before args s = true) (hp : PreV s H C b Pc As)
    (hg : g.method = m) (hn : As.length = n) (hsize : g.locals.size = nL) (hstack : g.stack = As.reverse ++ .ref b :: rest) (hW : 2 * g.monitorRoom + (rest.map fun v => v.category).sum ≤ 8) (hdg : decode cc g.pc = .ok (.invokevirtual index, 3)) (hf : cells + mc ≤ R.cells ∧ slots + ms ≤ R.slots) :
    vx_Run p l e R s m args below meth c H locs cells slots mc ms g rest (Qc (Value.ref b :: As).toArray) XC free := by
  obtain ⟨⟨⟨hrc, hrs, hfr, hlo, hws, hcw⟩, hcode, hini, hy, hlen, hl⟩, hx1, hx2⟩ := cw
  have hK : vx_Back l R p e below s args y 3 8 (PreOf R mc ms Pc) (PostOf Qc mc ms free) (vx_Post XC mc ms free) := vx_back (bytes := bytes) (maxL := maxL) (ret := ret) hM hp.1 hrc hrs hfr hlo hws hcw (fun a' U hW => word_at hW (Or.inl (by first | rfl | simp [Cond.onTables, Cond.keeps, Cond.steady])) hini)
  obtain ⟨hx, hb, hml, ho, -⟩ := S
  obtain ⟨-, ⟨cellB, hcB, hoB, hclB⟩, hPc⟩ := hp
  intro T hT X
  rcases vx_callVN X hx (C := C) (bytes := bytes) (maxL := maxL) (ret := ret) ho hl hx1 hx2 hcode hy hK (by rw [hT]; exact hcB) hoB hclB hg (hsize.trans hml.symm) (argsL := As) (rest := rest) (fun sig h => hn.trans (hlen sig h)) hstack hW (by rw [hb]; exact hdg)
    (fun vm₁ hW₁ => ⟨hf.1, hf.2, hPc (T.setVm vm₁) hT hW₁⟩) with ⟨v, vm₁, ⟨U', l2, c2, s2⟩, hW₁, X', ⟨g', mk, t, L, e1, e2, hq, h1, hL, h2, h3⟩, st⟩ | ⟨q, vm₁, ⟨U', l2, c2, s2⟩, hW₁, X', ⟨g', mk, t, L, E, ce, e1, e2, hq, hce, hcv, hcl, h1, hL, h2, h3⟩, st⟩
  · dsimp only [Pt.U, Pt.locs, Pt.cells, Pt.slots] at X' e1 e2 h1 h2 h3 st
    subst h1; subst h2; subst h3
    exact Or.inl ⟨v, (T.setVm vm₁).calling g' mk (Value.ref b :: As).toArray, t, U', L, hT, X', hL, e1, e2, hq, st⟩
  · dsimp only [Pt.U, Pt.locs, Pt.cells, Pt.slots] at X' e1 e2 h1 h2 h3 st hcl
    subst h1; subst h2; subst h3
    exact Or.inr ⟨q, (T.setVm vm₁).calling g' mk (Value.ref b :: As).toArray, t, U', L, E, ce, hT, X', hL, e1, e2, hq, hce, hcv, vx_cls hW₁ hcl, st⟩
theorem vx_runSN {y : MethodName} {bytes cc : ByteArray} {maxL nL mc ms n index : Nat} {ret : Option FieldType} {ws : List Cond} {rm : Room} {Pc : Array Value → State → Prop} {Qc : Array Value → State → Outcome → State → Prop} {XC : String → State → State → Prop} {free : Addr → Prop} {Ts : List Cond} {own host : String} {As rest : List Value} {g : JFrame}
    (S : CallFix p m c cc nL s args Ts own) (hM : vx_Met l y ws rm Pc Qc XC mc ms free) (cw : va_CN R s args own index y host bytes maxL ret ws rm mc ms n ∧ (Cond.static y).before args s = true ∧ True) (hp : PreS s H Pc As)
    (hg : g.method = m) (hn : As.length = n) (hsize : g.locals.size = nL) (hstack : g.stack = As.reverse ++ rest) (hW : 2 * g.monitorRoom + (rest.map fun v => v.category).sum ≤ 8) (hdg : decode cc g.pc = .ok (.invokestatic index, 3)) (hf : cells + mc ≤ R.cells ∧ slots + ms ≤ R.slots) :
    vx_Run p l e R s m args below meth c H locs cells slots mc ms g rest (Qc As.toArray) XC free := by
  obtain ⟨⟨⟨hrc, hrs, hfr, hlo, hws, hcw⟩, hcode, hini, hy, hlen, hl⟩, hx1, hx2⟩ := cw
  have hK : vx_Back l R p e below s args y 3 8 (PreOf R mc ms Pc) (PostOf Qc mc ms free) (vx_Post XC mc ms free) := vx_back (bytes := bytes) (maxL := maxL) (ret := ret) hM hp.1 hrc hrs hfr hlo hws hcw (fun a' U hW => word_at hW (Or.inl (by first | rfl | simp [Cond.onTables, Cond.keeps, Cond.steady])) hini)
  obtain ⟨hx, hb, hml, ho, -⟩ := S
  have hPc := hp.2
  intro T hT X
  rcases vx_callSN X hx (bytes := bytes) (maxL := maxL) (ret := ret) ho hl hx1 hini hcode hy hK hg (hsize.trans hml.symm) (argsL := As) (rest := rest) (fun sig h => hn.trans (hlen sig h)) hstack hW (by rw [hb]; exact hdg)
    (fun vm₁ hW₁ => ⟨hf.1, hf.2, hPc (T.setVm vm₁) hT hW₁⟩) with ⟨v, vm₁, ⟨U', l2, c2, s2⟩, hW₁, X', ⟨g', mk, t, L, e1, e2, hq, h1, hL, h2, h3⟩, st⟩ | ⟨q, vm₁, ⟨U', l2, c2, s2⟩, hW₁, X', ⟨g', mk, t, L, E, ce, e1, e2, hq, hce, hcv, hcl, h1, hL, h2, h3⟩, st⟩
  · dsimp only [Pt.U, Pt.locs, Pt.cells, Pt.slots] at X' e1 e2 h1 h2 h3 st
    subst h1; subst h2; subst h3
    exact Or.inl ⟨v, (T.setVm vm₁).calling g' mk As.toArray, t, U', L, hT, X', hL, e1, e2, hq, st⟩
  · dsimp only [Pt.U, Pt.locs, Pt.cells, Pt.slots] at X' e1 e2 h1 h2 h3 st hcl
    subst h1; subst h2; subst h3
    exact Or.inr ⟨q, (T.setVm vm₁).calling g' mk As.toArray, t, U', L, E, ce, hT, X', hL, e1, e2, hq, hce, hcv, vx_cls hW₁ hcl, st⟩
end
/-! ===== END ===== -/
/-! ===== BEGIN calls by an interface of methods that may throw (vx_callIF, vx_runF follow va_callIF, va_runF of this kit) ===== -/
section
variable {p : Program} {l : Launch} {e : Env} {R : Room} {s : State} {m : MethodId} {args : Array Value} {below : List Frame} {meth : Method} {c : Code} {H : Heap} {locs : List Loc} {cells slots : Nat} {Q : State → Prop}
variable {mc ms : Nat} {free : Addr → Prop} {A0 A1 : Nat → Prop} {H0 : Heap} {a : Array Value} {pc : Nat} {ls : Array Slot} {st0 rest : List Value}
def vx_Run5 (p : Program) (l : Launch) (e : Env) (R : Room) (s : State) (m : MethodId) (args : Array Value) (below : List Frame) (meth : Method) (c : Code) (H : Heap) (locs : List Loc) (cells slots mc ms : Nat) (g : JFrame) (rest : List Value) (Qa : State → Outcome → State → Prop) (XC : String → State → State → Prop) (free : Addr → Prop) : Prop :=
  ∀ T : State, T.heap = H → Stand p l e R s m args below meth c T locs cells slots →
    (∃ (v : Option Value) (st₀ t T' : State) (L : List Loc), st₀.heap = H ∧ Stand p l e R s m args below meth c T' (locs ++ L) (cells + mc) (slots + ms) ∧ (∀ q ∈ L, free q.base) ∧ T'.heap = t.heap ∧ T'.vm = t.vm ∧ Qa st₀ (.returned v) t ∧
      Goes p e below T g T' { g with pc := g.pc + 5, stack := v.toList ++ rest }) ∨
    (∃ (q : Addr) (st₀ t T' : State) (L : List Loc) (E : String) (ce : Cell), st₀.heap = H ∧ Stand p l e R s m args below meth c T' (locs ++ L) (cells + mc) (slots + ms) ∧ (∀ z ∈ L, free z.base) ∧ T'.heap = t.heap ∧ T'.vm = t.vm ∧ XC E st₀ t ∧ t.heap[q]? = some ce ∧ ce.vm = .none ∧ s.vm.findClass E = some ce.cls ∧
      Steps p.tables e below (T.setTop g) ((T'.setTop { g with stack := rest }).pushFrame (.throwing q)))
theorem vx_callIF {T : State} (X : Stand p l e R s m args below meth c T locs cells slots) (hexec : p.tables.exec = Jvm.exec) {own C : String} {index count : Nat} {x y : MethodName} {bytes : ByteArray} {maxL : Nat} {ret : Option FieldType}
    (hown : s.vm.findClass own = some m.cls) (hlink : (Cond.methodLink own index x).before args s = true) (hdecl : (Cond.declares x).before args s = true) (hface : (Cond.interfaceMethod x.cls x.cls x.name x.desc).before args s = true)
    (hsel : (Cond.selects C x y).before args s = true) (hinst : (Cond.instanceMethod y).before args s = true) (hpub : (Cond.publicMethod y).before args s = true) (hunh : (Cond.unhidden C x.name x.desc).before args s = true)
    (hcast : (Cond.castable C x.cls).before args s = true) (hcode : (Cond.code y bytes maxL ret).before args s = true) (hx : x.cls ≠ "java/lang/invoke/MethodHandle" ∧ x.cls ≠ "java/lang/invoke/VarHandle")
    {W9 : Nat} {Pre : Pt → Array Value → Prop} {Post : Pt → Array Value → Option Value → Pt → Prop} {PostX : Pt → Array Value → Addr → Pt → Prop} (hK : vx_Back l R p e below s args y 5 W9 Pre Post PostX)
    {b : Addr} {cellB : Cell} {kB : Class} (hcell : T.heap[b]? = some cellB) (hobj : cellB.vm.isStatics = false) (hcls : s.vm.findClass C = some cellB.cls) (hkB : s.vm.classes[cellB.cls]? = some kB)
    {g : JFrame} (hg : g.method = m) (hsize : g.locals.size = c.maxLocals) {argsL rest : List Value} (hlen : ∀ sig, parseMethodDescriptor x.desc = some sig → argsL.length = sig.parameters.length)
    (hstack : g.stack = argsL.reverse ++ .ref b :: rest) (hW : 2 * g.monitorRoom + (rest.map fun v => v.category).sum ≤ W9) (hdg : decode c.code g.pc = .ok (.invokeinterface index count, 5))
    (hpre : ∀ vm₁, s.WarmedH vm₁ → Pre ⟨T.setVm vm₁, locs, cells, slots⟩ (Value.ref b :: argsL).toArray) :
    (∃ (v : Option Value) (vm₁ : Vm) (B : Pt), s.WarmedH vm₁ ∧ Stand p l e R s m args below meth c B.U B.locs B.cells B.slots ∧ Post ⟨T.setVm vm₁, locs, cells, slots⟩ (Value.ref b :: argsL).toArray v B ∧
      ∀ target, Steps p.tables e below (B.U.setTop { g with pc := g.pc + 5, stack := v.toList ++ rest }) target → Steps p.tables e below (T.setTop g) target) ∨
    (∃ (q : Addr) (vm₁ : Vm) (B : Pt), s.WarmedH vm₁ ∧ Stand p l e R s m args below meth c B.U B.locs B.cells B.slots ∧ PostX ⟨T.setVm vm₁, locs, cells, slots⟩ (Value.ref b :: argsL).toArray q B ∧
      Steps p.tables e below (T.setTop g) ((B.U.setTop { g with stack := rest }).pushFrame (.throwing q))) := by
  obtain ⟨r0, r, hn, hrm, hstR, hsigR⟩ := Cond.declares_spec hdecl
  obtain ⟨cL, kL, r1, hcL, hkL, hiL, hfoundL, hn1⟩ := Cond.interfaceMethod_spec hface
  cases hn.symm.trans hn1
  have hr0cls : r0.cls = cL := Option.some.inj ((findClass_of_methodNamed hn).symm.trans hcL)
  obtain ⟨hnameR, hdescR⟩ := name_of_methodNamed hn hrm
  obtain ⟨mk, methM, hnamed, hmethM, -, habM⟩ := Cond.instanceMethod_spec hinst
  obtain ⟨c2, r2, m2, q1, q2, q3, q4, -⟩ := Cond.selects_spec hsel
  cases hcls.symm.trans q1
  cases hfoundL.symm.trans q2
  cases hnamed.symm.trans q3
  have hselP : selectMethod e.platform s.vm cellB.cls r0 = .method mk := by rw [Launch.admits_selectMethod X.admits]; exact q4
  have hpubM : hasFlag methM.accessFlags Acc.public_ = true := Cond.publicMethod_spec hnamed hmethM hpub
  have hway : ((cellB.cls :: s.vm.superclasses cellB.cls).any fun k => (declaredIn s.vm r.name r.desc k).any fun (_, z) => z.isPrivate || z.isStatic) = false := by
    rw [hnameR, hdescR]; exact Cond.unhidden_spec hcls hunh
  obtain ⟨c3, t3, w1, w2, w3⟩ := Cond.castable_spec hcast
  cases hcls.symm.trans w1
  cases hcL.symm.trans w2
  obtain ⟨vm₁, X₁, hstep₁⟩ := X.invokeinterface hexec hown hlink hn hrm hstR (by rw [hr0cls]; exact hkL) hiL hx (a := b) (cell := cellB) (kcell := kB) hcell
    (fun z h => by rw [h] at hobj; cases hobj) hkB (by rw [hr0cls]; exact w3) hselP hmethM hway hpubM habM (g := g) hg (argsL := argsL) (rest := rest) (hlen _ hsigR) hstack hdg
  rcases hK m meth c ⟨T.setVm vm₁, locs, cells, slots⟩ { g with stack := rest } (.invokeinterface index count) mk (Value.ref b :: argsL).toArray X₁ hg hsize hdg hW (X₁.named hnamed) (hpre vm₁ X₁.warmed) with ⟨v, B, X', hpost, hsteps⟩ | ⟨q, B, X', hpost, hsteps⟩
  · exact Or.inl ⟨v, vm₁, B, X₁.warmed, X', hpost, fun target h => hstep₁ _ fun acts => by rw [doInvoke_state]; exact hsteps.trans h⟩
  · exact Or.inr ⟨q, vm₁, B, X₁.warmed, X', hpost, hstep₁ _ fun acts => by rw [doInvoke_state]; exact hsteps⟩
theorem vx_runF {x y : MethodName} {bytes cc : ByteArray} {maxL nL mc ms n index count : Nat} {ret : Option FieldType} {ws : List Cond} {rm : Room} {Pc : Array Value → State → Prop} {Qc : Array Value → State → Outcome → State → Prop} {XC : String → State → State → Prop} {free : Addr → Prop} {Ts : List Cond} {own C : String} {cC : ClassId} {b : Addr} {As rest : List Value} {g : JFrame}
    (hat : ClassAt s C cC) (S : CallFix p m c cc nL s args Ts own) (hM : vx_Met l y ws rm Pc Qc XC mc ms free) (cw : va_CI R s args own C index x y bytes maxL ret ws rm mc ms n) (hp : PreV s H C b Pc As)
    (hg : g.method = m) (hn : As.length = n) (hsize : g.locals.size = nL) (hstack : g.stack = As.reverse ++ .ref b :: rest) (hW : 2 * g.monitorRoom + (rest.map fun v => v.category).sum ≤ 8) (hdg : decode cc g.pc = .ok (.invokeinterface index count, 5)) (hf : cells + mc ≤ R.cells ∧ slots + ms ≤ R.slots) :
    vx_Run5 p l e R s m args below meth c H locs cells slots mc ms g rest (Qc (Value.ref b :: As).toArray) XC free := by
  obtain ⟨hrc, hrs, hfr, hlo, hws, hcw⟩ := cw.back
  have hini := cw.init
  have hK : vx_Back l R p e below s args y 5 8 (PreOf R mc ms Pc) (PostOf Qc mc ms free) (vx_Post XC mc ms free) := vx_back (bytes := bytes) (maxL := maxL) (ret := ret) hM hp.1 hrc hrs hfr hlo hws hcw (fun a' U hW => word_at hW (Or.inl (by first | rfl | simp [Cond.onTables, Cond.keeps, Cond.steady])) hini)
  obtain ⟨hx, hb, hml, ho, -⟩ := S
  obtain ⟨-, ⟨cellB, hcB, hoB, hclB⟩, hPc⟩ := hp
  obtain ⟨hfc, kB, hkB, -⟩ := hat
  cases hfc.symm.trans hclB
  intro T hT X
  rcases vx_callIF X hx (C := C) (bytes := bytes) (maxL := maxL) (ret := ret) ho cw.link cw.decl cw.face cw.sel cw.inst cw.pub cw.unh cw.cast cw.code cw.notMH hK (by rw [hT]; exact hcB) hoB hclB hkB hg (hsize.trans hml.symm) (argsL := As) (rest := rest) (fun sig h => hn.trans (cw.len sig h)) hstack hW (by rw [hb]; exact hdg)
    (fun vm₁ hW₁ => ⟨hf.1, hf.2, hPc (T.setVm vm₁) hT hW₁⟩) with ⟨v, vm₁, ⟨U', l2, c2, s2⟩, hW₁, X', ⟨g', mk, t, L, e1, e2, hq, h1, hL, h2, h3⟩, st⟩ | ⟨q, vm₁, ⟨U', l2, c2, s2⟩, hW₁, X', ⟨g', mk, t, L, E, ce, e1, e2, hq, hce, hcv, hcl, h1, hL, h2, h3⟩, st⟩
  · dsimp only [Pt.U, Pt.locs, Pt.cells, Pt.slots] at X' e1 e2 h1 h2 h3 st
    subst h1; subst h2; subst h3
    exact Or.inl ⟨v, (T.setVm vm₁).calling g' mk (Value.ref b :: As).toArray, t, U', L, hT, X', hL, e1, e2, hq, st⟩
  · dsimp only [Pt.U, Pt.locs, Pt.cells, Pt.slots] at X' e1 e2 h1 h2 h3 st hcl
    subst h1; subst h2; subst h3
    exact Or.inr ⟨q, (T.setVm vm₁).calling g' mk (Value.ref b :: As).toArray, t, U', L, E, ce, hT, X', hL, e1, e2, hq, hce, hcv, vx_cls hW₁ hcl, st⟩
theorem vx_callFv {S SX : Type} {post : S → Prop} {px : SX → Prop} {B : S → State → Prop} {BX : String → SX → State → Prop} {AX : Nat → Prop} (hr : vx_Run5 p l e R s m args below meth c H locs cells slots mc ms (F0 m pc ls st0) rest (va_Qv post B A1 a) (vx_X px BX AX) free) (hS : va_S A0 H0 H locs) (hA : ∀ q, q < H.size → A1 q → A0 q) (hf : ∀ q, free q → A0 q) (hAX : ∀ q, q < H.size → AX q → A0 q)
    (kx : ∀ (E : String) (ce : Cell) (q9 : Addr) (u : SX) (t : State) (H1 : Heap) (locs1 : List Loc), t.heap = H1 → s.vm.Alike t.vm → px u → BX E u t → H.size ≤ H1.size → (∀ q : Nat, q < H.size → ¬ AX q → H1[q]? = H[q]?) → va_S A0 H0 H1 locs1 → H1[q9]? = some ce → ce.vm = .none → s.vm.findClass E = some ce.cls → vx_W p l e R s m args below meth c H1 locs1 (cells + mc) (slots + ms) Q (F0 m pc ls rest) q9)
    (kk : ∀ (u : S) (t : State) (H1 : Heap) (locs1 : List Loc), t.heap = H1 → s.vm.Alike t.vm → post u → B u t → H.size ≤ H1.size → (∀ q : Nat, q < H.size → ¬ A1 q → H1[q]? = H[q]?) → va_S A0 H0 H1 locs1 → W p l e R s m args below meth c H1 locs1 (cells + mc) (slots + ms) Q (F0 m (pc + 5) ls (rest))) : W p l e R s m args below meth c H locs cells slots Q (F0 m pc ls st0) := by
  intro T hT X
  rcases hr T hT X with ⟨v, st₀, t, T', L, h0, X', hL, e1, e2, ⟨⟨u, hv, hp, hb⟩, hF⟩, st⟩ | ⟨q, st₀, t, T', L, E, ce, h0, X', hL, e1, e2, ⟨u, hp, hb, hF⟩, hce, hcv, hcl, st⟩
  · cases hv
    obtain ⟨k1, k2, k3⟩ := vx_keep h0 e1 hS hA hf hL hF
    obtain ⟨t2, a1, b1⟩ := kk u t T'.heap (locs ++ L) e1.symm (by rw [← e2]; exact X'.warmed.alike) hp hb k1 k2 k3 T' rfl X'
    exact ⟨t2, st t2 a1, b1⟩
  · obtain ⟨k1, k2, k3⟩ := vx_keep h0 e1 hS hAX hf hL hF
    obtain ⟨t2, a1, b1⟩ := kx E ce q u t T'.heap (locs ++ L) e1.symm (by rw [← e2]; exact X'.warmed.alike) hp hb k1 k2 k3 (by rw [e1]; exact hce) hcv hcl T' rfl X'
    exact ⟨t2, st.trans a1, b1⟩
theorem vx_callFi {S SX : Type} {post : Int32 → S → Prop} {px : SX → Prop} {B : S → State → Prop} {BX : String → SX → State → Prop} {AX : Nat → Prop} (hr : vx_Run5 p l e R s m args below meth c H locs cells slots mc ms (F0 m pc ls st0) rest (va_Qi post B A1 a) (vx_X px BX AX) free) (hS : va_S A0 H0 H locs) (hA : ∀ q, q < H.size → A1 q → A0 q) (hf : ∀ q, free q → A0 q) (hAX : ∀ q, q < H.size → AX q → A0 q)
    (kx : ∀ (E : String) (ce : Cell) (q9 : Addr) (u : SX) (t : State) (H1 : Heap) (locs1 : List Loc), t.heap = H1 → s.vm.Alike t.vm → px u → BX E u t → H.size ≤ H1.size → (∀ q : Nat, q < H.size → ¬ AX q → H1[q]? = H[q]?) → va_S A0 H0 H1 locs1 → H1[q9]? = some ce → ce.vm = .none → s.vm.findClass E = some ce.cls → vx_W p l e R s m args below meth c H1 locs1 (cells + mc) (slots + ms) Q (F0 m pc ls rest) q9)
    (kk : ∀ (r : Int32) (u : S) (t : State) (H1 : Heap) (locs1 : List Loc), t.heap = H1 → s.vm.Alike t.vm → post r u → B u t → H.size ≤ H1.size → (∀ q : Nat, q < H.size → ¬ A1 q → H1[q]? = H[q]?) → va_S A0 H0 H1 locs1 → W p l e R s m args below meth c H1 locs1 (cells + mc) (slots + ms) Q (F0 m (pc + 5) ls (.int r :: rest))) : W p l e R s m args below meth c H locs cells slots Q (F0 m pc ls st0) := by
  intro T hT X
  rcases hr T hT X with ⟨v, st₀, t, T', L, h0, X', hL, e1, e2, ⟨⟨r, u, hv, hp, hb⟩, hF⟩, st⟩ | ⟨q, st₀, t, T', L, E, ce, h0, X', hL, e1, e2, ⟨u, hp, hb, hF⟩, hce, hcv, hcl, st⟩
  · cases hv
    obtain ⟨k1, k2, k3⟩ := vx_keep h0 e1 hS hA hf hL hF
    obtain ⟨t2, a1, b1⟩ := kk r u t T'.heap (locs ++ L) e1.symm (by rw [← e2]; exact X'.warmed.alike) hp hb k1 k2 k3 T' rfl X'
    exact ⟨t2, st t2 a1, b1⟩
  · obtain ⟨k1, k2, k3⟩ := vx_keep h0 e1 hS hAX hf hL hF
    obtain ⟨t2, a1, b1⟩ := kx E ce q u t T'.heap (locs ++ L) e1.symm (by rw [← e2]; exact X'.warmed.alike) hp hb k1 k2 k3 (by rw [e1]; exact hce) hcv hcl T' rfl X'
    exact ⟨t2, st.trans a1, b1⟩
theorem vx_callFl {S SX : Type} {post : Int64 → S → Prop} {px : SX → Prop} {B : S → State → Prop} {BX : String → SX → State → Prop} {AX : Nat → Prop} (hr : vx_Run5 p l e R s m args below meth c H locs cells slots mc ms (F0 m pc ls st0) rest (va_Ql post B A1 a) (vx_X px BX AX) free) (hS : va_S A0 H0 H locs) (hA : ∀ q, q < H.size → A1 q → A0 q) (hf : ∀ q, free q → A0 q) (hAX : ∀ q, q < H.size → AX q → A0 q)
    (kx : ∀ (E : String) (ce : Cell) (q9 : Addr) (u : SX) (t : State) (H1 : Heap) (locs1 : List Loc), t.heap = H1 → s.vm.Alike t.vm → px u → BX E u t → H.size ≤ H1.size → (∀ q : Nat, q < H.size → ¬ AX q → H1[q]? = H[q]?) → va_S A0 H0 H1 locs1 → H1[q9]? = some ce → ce.vm = .none → s.vm.findClass E = some ce.cls → vx_W p l e R s m args below meth c H1 locs1 (cells + mc) (slots + ms) Q (F0 m pc ls rest) q9)
    (kk : ∀ (r : Int64) (u : S) (t : State) (H1 : Heap) (locs1 : List Loc), t.heap = H1 → s.vm.Alike t.vm → post r u → B u t → H.size ≤ H1.size → (∀ q : Nat, q < H.size → ¬ A1 q → H1[q]? = H[q]?) → va_S A0 H0 H1 locs1 → W p l e R s m args below meth c H1 locs1 (cells + mc) (slots + ms) Q (F0 m (pc + 5) ls (.long r :: rest))) : W p l e R s m args below meth c H locs cells slots Q (F0 m pc ls st0) := by
  intro T hT X
  rcases hr T hT X with ⟨v, st₀, t, T', L, h0, X', hL, e1, e2, ⟨⟨r, u, hv, hp, hb⟩, hF⟩, st⟩ | ⟨q, st₀, t, T', L, E, ce, h0, X', hL, e1, e2, ⟨u, hp, hb, hF⟩, hce, hcv, hcl, st⟩
  · cases hv
    obtain ⟨k1, k2, k3⟩ := vx_keep h0 e1 hS hA hf hL hF
    obtain ⟨t2, a1, b1⟩ := kk r u t T'.heap (locs ++ L) e1.symm (by rw [← e2]; exact X'.warmed.alike) hp hb k1 k2 k3 T' rfl X'
    exact ⟨t2, st t2 a1, b1⟩
  · obtain ⟨k1, k2, k3⟩ := vx_keep h0 e1 hS hAX hf hL hF
    obtain ⟨t2, a1, b1⟩ := kx E ce q u t T'.heap (locs ++ L) e1.symm (by rw [← e2]; exact X'.warmed.alike) hp hb k1 k2 k3 (by rw [e1]; exact hce) hcv hcl T' rfl X'
    exact ⟨t2, st.trans a1, b1⟩
theorem vx_callFf {S SX : Type} {post : UInt32 → S → Prop} {px : SX → Prop} {B : S → State → Prop} {BX : String → SX → State → Prop} {AX : Nat → Prop} (hr : vx_Run5 p l e R s m args below meth c H locs cells slots mc ms (F0 m pc ls st0) rest (va_Qf post B A1 a) (vx_X px BX AX) free) (hS : va_S A0 H0 H locs) (hA : ∀ q, q < H.size → A1 q → A0 q) (hf : ∀ q, free q → A0 q) (hAX : ∀ q, q < H.size → AX q → A0 q)
    (kx : ∀ (E : String) (ce : Cell) (q9 : Addr) (u : SX) (t : State) (H1 : Heap) (locs1 : List Loc), t.heap = H1 → s.vm.Alike t.vm → px u → BX E u t → H.size ≤ H1.size → (∀ q : Nat, q < H.size → ¬ AX q → H1[q]? = H[q]?) → va_S A0 H0 H1 locs1 → H1[q9]? = some ce → ce.vm = .none → s.vm.findClass E = some ce.cls → vx_W p l e R s m args below meth c H1 locs1 (cells + mc) (slots + ms) Q (F0 m pc ls rest) q9)
    (kk : ∀ (r : UInt32) (u : S) (t : State) (H1 : Heap) (locs1 : List Loc), t.heap = H1 → s.vm.Alike t.vm → post r u → B u t → H.size ≤ H1.size → (∀ q : Nat, q < H.size → ¬ A1 q → H1[q]? = H[q]?) → va_S A0 H0 H1 locs1 → W p l e R s m args below meth c H1 locs1 (cells + mc) (slots + ms) Q (F0 m (pc + 5) ls (.float r :: rest))) : W p l e R s m args below meth c H locs cells slots Q (F0 m pc ls st0) := by
  intro T hT X
  rcases hr T hT X with ⟨v, st₀, t, T', L, h0, X', hL, e1, e2, ⟨⟨r, u, hv, hp, hb⟩, hF⟩, st⟩ | ⟨q, st₀, t, T', L, E, ce, h0, X', hL, e1, e2, ⟨u, hp, hb, hF⟩, hce, hcv, hcl, st⟩
  · cases hv
    obtain ⟨k1, k2, k3⟩ := vx_keep h0 e1 hS hA hf hL hF
    obtain ⟨t2, a1, b1⟩ := kk r u t T'.heap (locs ++ L) e1.symm (by rw [← e2]; exact X'.warmed.alike) hp hb k1 k2 k3 T' rfl X'
    exact ⟨t2, st t2 a1, b1⟩
  · obtain ⟨k1, k2, k3⟩ := vx_keep h0 e1 hS hAX hf hL hF
    obtain ⟨t2, a1, b1⟩ := kx E ce q u t T'.heap (locs ++ L) e1.symm (by rw [← e2]; exact X'.warmed.alike) hp hb k1 k2 k3 (by rw [e1]; exact hce) hcv hcl T' rfl X'
    exact ⟨t2, st.trans a1, b1⟩
theorem vx_callFd {S SX : Type} {post : UInt64 → S → Prop} {px : SX → Prop} {B : S → State → Prop} {BX : String → SX → State → Prop} {AX : Nat → Prop} (hr : vx_Run5 p l e R s m args below meth c H locs cells slots mc ms (F0 m pc ls st0) rest (va_Qd post B A1 a) (vx_X px BX AX) free) (hS : va_S A0 H0 H locs) (hA : ∀ q, q < H.size → A1 q → A0 q) (hf : ∀ q, free q → A0 q) (hAX : ∀ q, q < H.size → AX q → A0 q)
    (kx : ∀ (E : String) (ce : Cell) (q9 : Addr) (u : SX) (t : State) (H1 : Heap) (locs1 : List Loc), t.heap = H1 → s.vm.Alike t.vm → px u → BX E u t → H.size ≤ H1.size → (∀ q : Nat, q < H.size → ¬ AX q → H1[q]? = H[q]?) → va_S A0 H0 H1 locs1 → H1[q9]? = some ce → ce.vm = .none → s.vm.findClass E = some ce.cls → vx_W p l e R s m args below meth c H1 locs1 (cells + mc) (slots + ms) Q (F0 m pc ls rest) q9)
    (kk : ∀ (r : UInt64) (u : S) (t : State) (H1 : Heap) (locs1 : List Loc), t.heap = H1 → s.vm.Alike t.vm → post r u → B u t → H.size ≤ H1.size → (∀ q : Nat, q < H.size → ¬ A1 q → H1[q]? = H[q]?) → va_S A0 H0 H1 locs1 → W p l e R s m args below meth c H1 locs1 (cells + mc) (slots + ms) Q (F0 m (pc + 5) ls (.double r :: rest))) : W p l e R s m args below meth c H locs cells slots Q (F0 m pc ls st0) := by
  intro T hT X
  rcases hr T hT X with ⟨v, st₀, t, T', L, h0, X', hL, e1, e2, ⟨⟨r, u, hv, hp, hb⟩, hF⟩, st⟩ | ⟨q, st₀, t, T', L, E, ce, h0, X', hL, e1, e2, ⟨u, hp, hb, hF⟩, hce, hcv, hcl, st⟩
  · cases hv
    obtain ⟨k1, k2, k3⟩ := vx_keep h0 e1 hS hA hf hL hF
    obtain ⟨t2, a1, b1⟩ := kk r u t T'.heap (locs ++ L) e1.symm (by rw [← e2]; exact X'.warmed.alike) hp hb k1 k2 k3 T' rfl X'
    exact ⟨t2, st t2 a1, b1⟩
  · obtain ⟨k1, k2, k3⟩ := vx_keep h0 e1 hS hAX hf hL hF
    obtain ⟨t2, a1, b1⟩ := kx E ce q u t T'.heap (locs ++ L) e1.symm (by rw [← e2]; exact X'.warmed.alike) hp hb k1 k2 k3 (by rw [e1]; exact hce) hcv hcl T' rfl X'
    exact ⟨t2, st.trans a1, b1⟩
end
/-! ===== END ===== -/
/-! ===== BEGIN by an interface, a method with a table of its own that may throw (follows va_callIFW, va_runFW) ===== -/
section
variable {p : Program} {l : Launch} {e : Env} {R : Room} {s : State} {m : MethodId} {args : Array Value} {below : List Frame} {meth : Method} {c : Code} {H : Heap} {locs : List Loc} {cells slots : Nat}
theorem vx_callIFW {T : State} (X : Stand p l e R s m args below meth c T locs cells slots) (hexec : p.tables.exec = Jvm.exec) {own C : String} {index count : Nat} {x y : MethodName} {bytes : ByteArray} {maxL : Nat} {ret : Option FieldType} {hh : List (Nat × Nat × Nat × Nat)}
    (hown : s.vm.findClass own = some m.cls) (hlink : (Cond.methodLink own index x).before args s = true) (hdecl : (Cond.declares x).before args s = true) (hface : (Cond.interfaceMethod x.cls x.cls x.name x.desc).before args s = true)
    (hsel : (Cond.selects C x y).before args s = true) (hinst : (Cond.instanceMethod y).before args s = true) (hpub : (Cond.publicMethod y).before args s = true) (hunh : (Cond.unhidden C x.name x.desc).before args s = true)
    (hcast : (Cond.castable C x.cls).before args s = true) (hcode : (Cond.codeWith y bytes maxL ret hh).before args s = true) (hx : x.cls ≠ "java/lang/invoke/MethodHandle" ∧ x.cls ≠ "java/lang/invoke/VarHandle")
    {W : Nat} {Pre : Pt → Array Value → Prop} {Post : Pt → Array Value → Option Value → Pt → Prop} {PostX : Pt → Array Value → Addr → Pt → Prop} (hK : vx_Back l R p e below s args y 5 W Pre Post PostX)
    {b : Addr} {cellB : Cell} {kB : Class} (hcell : T.heap[b]? = some cellB) (hobj : cellB.vm.isStatics = false) (hcls : s.vm.findClass C = some cellB.cls) (hkB : s.vm.classes[cellB.cls]? = some kB)
    {g : JFrame} (hg : g.method = m) (hsize : g.locals.size = c.maxLocals) {argsL rest : List Value} (hlen : ∀ sig, parseMethodDescriptor x.desc = some sig → argsL.length = sig.parameters.length)
    (hstack : g.stack = argsL.reverse ++ .ref b :: rest) (hW : 2 * g.monitorRoom + (rest.map fun v => v.category).sum ≤ W) (hdg : decode c.code g.pc = .ok (.invokeinterface index count, 5))
    (hpre : ∀ vm₁, s.WarmedH vm₁ → Pre ⟨T.setVm vm₁, locs, cells, slots⟩ (Value.ref b :: argsL).toArray) :
    (∃ (v : Option Value) (vm₁ : Vm) (B : Pt), s.WarmedH vm₁ ∧ Stand p l e R s m args below meth c B.U B.locs B.cells B.slots ∧ Post ⟨T.setVm vm₁, locs, cells, slots⟩ (Value.ref b :: argsL).toArray v B ∧
      ∀ target, Steps p.tables e below (B.U.setTop { g with pc := g.pc + 5, stack := v.toList ++ rest }) target → Steps p.tables e below (T.setTop g) target) ∨
    (∃ (q : Addr) (vm₁ : Vm) (B : Pt), s.WarmedH vm₁ ∧ Stand p l e R s m args below meth c B.U B.locs B.cells B.slots ∧ PostX ⟨T.setVm vm₁, locs, cells, slots⟩ (Value.ref b :: argsL).toArray q B ∧
      Steps p.tables e below (T.setTop g) ((B.U.setTop { g with stack := rest }).pushFrame (.throwing q))) := by
  obtain ⟨r0, r, hn, hrm, hstR, hsigR⟩ := Cond.declares_spec hdecl
  obtain ⟨cL, kL, r1, hcL, hkL, hiL, hfoundL, hn1⟩ := Cond.interfaceMethod_spec hface
  cases hn.symm.trans hn1
  have hr0cls : r0.cls = cL := Option.some.inj ((findClass_of_methodNamed hn).symm.trans hcL)
  obtain ⟨hnameR, hdescR⟩ := name_of_methodNamed hn hrm
  obtain ⟨mk, methM, hnamed, hmethM, -, habM⟩ := Cond.instanceMethod_spec hinst
  obtain ⟨c2, r2, m2, q1, q2, q3, q4, -⟩ := Cond.selects_spec hsel
  cases hcls.symm.trans q1
  cases hfoundL.symm.trans q2
  cases hnamed.symm.trans q3
  have hselP : selectMethod e.platform s.vm cellB.cls r0 = .method mk := by rw [Launch.admits_selectMethod X.admits]; exact q4
  have hpubM : hasFlag methM.accessFlags Acc.public_ = true := Cond.publicMethod_spec hnamed hmethM hpub
  have hway : ((cellB.cls :: s.vm.superclasses cellB.cls).any fun k => (declaredIn s.vm r.name r.desc k).any fun (_, z) => z.isPrivate || z.isStatic) = false := by
    rw [hnameR, hdescR]; exact Cond.unhidden_spec hcls hunh
  obtain ⟨c3, t3, w1, w2, w3⟩ := Cond.castable_spec hcast
  cases hcls.symm.trans w1
  cases hcL.symm.trans w2
  obtain ⟨vm₁, X₁, hstep₁⟩ := X.invokeinterface hexec hown hlink hn hrm hstR (by rw [hr0cls]; exact hkL) hiL hx (a := b) (cell := cellB) (kcell := kB) hcell
    (fun z h => by rw [h] at hobj; cases hobj) hkB (by rw [hr0cls]; exact w3) hselP hmethM hway hpubM habM (g := g) hg (argsL := argsL) (rest := rest) (hlen _ hsigR) hstack hdg
  rcases hK m meth c ⟨T.setVm vm₁, locs, cells, slots⟩ { g with stack := rest } (.invokeinterface index count) mk (Value.ref b :: argsL).toArray X₁ hg hsize hdg hW (X₁.named hnamed) (hpre vm₁ X₁.warmed) with ⟨v, B, X', hpost, hsteps⟩ | ⟨q, B, X', hpost, hsteps⟩
  · exact Or.inl ⟨v, vm₁, B, X₁.warmed, X', hpost, fun target h => hstep₁ _ fun acts => by rw [doInvoke_state]; exact hsteps.trans h⟩
  · exact Or.inr ⟨q, vm₁, B, X₁.warmed, X', hpost, hstep₁ _ fun acts => by rw [doInvoke_state]; exact hsteps⟩
theorem vx_runFW {x y : MethodName} {bytes cc : ByteArray} {maxL nL mc ms n index count : Nat} {ret : Option FieldType} {hh : List (Nat × Nat × Nat × Nat)} {ws : List Cond} {rm : Room} {Pc : Array Value → State → Prop} {Qc : Array Value → State → Outcome → State → Prop} {XC : String → State → State → Prop} {free : Addr → Prop} {Ts : List Cond} {own C : String} {cC : ClassId} {b : Addr} {As rest : List Value} {g : JFrame}
    (hat : ClassAt s C cC) (S : CallFix p m c cc nL s args Ts own) (hM : vx_Met l y ws rm Pc Qc XC mc ms free) (cw : va_CIW R s args own C index x y bytes maxL ret hh ws rm mc ms n) (hp : PreV s H C b Pc As)
    (hg : g.method = m) (hn : As.length = n) (hsize : g.locals.size = nL) (hstack : g.stack = As.reverse ++ .ref b :: rest) (hW : 2 * g.monitorRoom + (rest.map fun v => v.category).sum ≤ 8) (hdg : decode cc g.pc = .ok (.invokeinterface index count, 5)) (hf : cells + mc ≤ R.cells ∧ slots + ms ≤ R.slots) :
    vx_Run5 p l e R s m args below meth c H locs cells slots mc ms g rest (Qc (Value.ref b :: As).toArray) XC free := by
  obtain ⟨hrc, hrs, hfr, hlo, hws, hcw⟩ := cw.back
  have hini := cw.init
  have hK : vx_Back l R p e below s args y 5 8 (PreOf R mc ms Pc) (PostOf Qc mc ms free) (vx_Post XC mc ms free) := vx_backW (hh := hh) (bytes := bytes) (maxL := maxL) (ret := ret) hM hp.1 hrc hrs hfr hlo hws hcw (fun a' U hW => word_at hW (Or.inl (by first | rfl | simp [Cond.onTables, Cond.keeps, Cond.steady])) hini)
  obtain ⟨hx, hb, hml, ho, -⟩ := S
  obtain ⟨-, ⟨cellB, hcB, hoB, hclB⟩, hPc⟩ := hp
  obtain ⟨hfc, kB, hkB, -⟩ := hat
  cases hfc.symm.trans hclB
  intro T hT X
  rcases vx_callIFW X hx (C := C) (hh := hh) (bytes := bytes) (maxL := maxL) (ret := ret) ho cw.link cw.decl cw.face cw.sel cw.inst cw.pub cw.unh cw.cast cw.code cw.notMH hK (by rw [hT]; exact hcB) hoB hclB hkB hg (hsize.trans hml.symm) (argsL := As) (rest := rest) (fun sig h => hn.trans (cw.len sig h)) hstack hW (by rw [hb]; exact hdg)
    (fun vm₁ hW₁ => ⟨hf.1, hf.2, hPc (T.setVm vm₁) hT hW₁⟩) with ⟨v, vm₁, ⟨U', l2, c2, s2⟩, hW₁, X', ⟨g', mk, t, L, e1, e2, hq, h1, hL, h2, h3⟩, st⟩ | ⟨q, vm₁, ⟨U', l2, c2, s2⟩, hW₁, X', ⟨g', mk, t, L, E, ce, e1, e2, hq, hce, hcv, hcl, h1, hL, h2, h3⟩, st⟩
  · dsimp only [Pt.U, Pt.locs, Pt.cells, Pt.slots] at X' e1 e2 h1 h2 h3 st
    subst h1; subst h2; subst h3
    exact Or.inl ⟨v, (T.setVm vm₁).calling g' mk (Value.ref b :: As).toArray, t, U', L, hT, X', hL, e1, e2, hq, st⟩
  · dsimp only [Pt.U, Pt.locs, Pt.cells, Pt.slots] at X' e1 e2 h1 h2 h3 st hcl
    subst h1; subst h2; subst h3
    exact Or.inr ⟨q, (T.setVm vm₁).calling g' mk (Value.ref b :: As).toArray, t, U', L, E, ce, hT, X', hL, e1, e2, hq, hce, hcv, vx_cls hW₁ hcl, st⟩
end
/-! ===== END ===== -/
/-! ===== BEGIN .. of methods that hand back an object of the pool ===== -/
section
variable {p : Program} {l : Launch} {e : Env} {R : Room} {s : State} {m : MethodId} {args : Array Value} {below : List Frame} {meth : Method} {c : Code} {H : Heap} {locs : List Loc} {cells slots : Nat} {Q : State → Prop}
variable {mc ms : Nat} {free : Addr → Prop} {A0 A1 : Nat → Prop} {H0 : Heap} {a : Array Value} {pc : Nat} {ls : Array Slot} {st0 rest : List Value}
theorem vx_callq {S SX : Type} {post : Option Nat → S → Prop} {px : SX → Prop} {B : S → State → Prop} {BX : String → SX → State → Prop} {AX : Nat → Prop} (hr : vx_Run p l e R s m args below meth c H locs cells slots mc ms (F0 m pc ls st0) rest (va_Qq post B A1 a) (vx_X px BX AX) free) (hS : va_S A0 H0 H locs) (hA : ∀ q, q < H.size → A1 q → A0 q) (hf : ∀ q, free q → A0 q) (hAX : ∀ q, q < H.size → AX q → A0 q)
    (kx : ∀ (E : String) (ce : Cell) (q9 : Addr) (u : SX) (t : State) (H1 : Heap) (locs1 : List Loc), t.heap = H1 → s.vm.Alike t.vm → px u → BX E u t → H.size ≤ H1.size → (∀ q : Nat, q < H.size → ¬ AX q → H1[q]? = H[q]?) → va_S A0 H0 H1 locs1 → H1[q9]? = some ce → ce.vm = .none → s.vm.findClass E = some ce.cls → vx_W p l e R s m args below meth c H1 locs1 (cells + mc) (slots + ms) Q (F0 m pc ls rest) q9)
    (kk : ∀ (r : Option Nat) (u : S) (t : State) (H1 : Heap) (locs1 : List Loc), t.heap = H1 → s.vm.Alike t.vm → post r u → B u t → H.size ≤ H1.size → (∀ q : Nat, q < H.size → ¬ A1 q → H1[q]? = H[q]?) → va_S A0 H0 H1 locs1 → W p l e R s m args below meth c H1 locs1 (cells + mc) (slots + ms) Q (F0 m (pc + 3) ls (va_rf r :: rest))) : W p l e R s m args below meth c H locs cells slots Q (F0 m pc ls st0) := by
  intro T hT X
  rcases hr T hT X with ⟨v, st₀, t, T', L, h0, X', hL, e1, e2, ⟨⟨r, u, hv, hp, hb⟩, hF⟩, st⟩ | ⟨q, st₀, t, T', L, E, ce, h0, X', hL, e1, e2, ⟨u, hp, hb, hF⟩, hce, hcv, hcl, st⟩
  · cases hv
    obtain ⟨k1, k2, k3⟩ := vx_keep h0 e1 hS hA hf hL hF
    obtain ⟨t2, a1, b1⟩ := kk r u t T'.heap (locs ++ L) e1.symm (by rw [← e2]; exact X'.warmed.alike) hp hb k1 k2 k3 T' rfl X'
    exact ⟨t2, st t2 a1, b1⟩
  · obtain ⟨k1, k2, k3⟩ := vx_keep h0 e1 hS hAX hf hL hF
    obtain ⟨t2, a1, b1⟩ := kx E ce q u t T'.heap (locs ++ L) e1.symm (by rw [← e2]; exact X'.warmed.alike) hp hb k1 k2 k3 (by rw [e1]; exact hce) hcv hcl T' rfl X'
    exact ⟨t2, st.trans a1, b1⟩
end
/-! ===== END ===== -/
/-! ===== BEGIN .. a constant ===== -/
section
variable {p : Program} {l : Launch} {e : Env} {R : Room} {s : State} {m : MethodId} {args : Array Value} {below : List Frame} {meth : Method} {c : Code} {H : Heap} {locs : List Loc} {cells slots : Nat} {Q : State → Prop}
variable {mc ms : Nat} {free : Addr → Prop} {A0 A1 : Nat → Prop} {H0 : Heap} {a : Array Value} {pc : Nat} {ls : Array Slot} {st0 rest : List Value}
theorem vx_calle {ad : Nat → Nat} {S SX : Type} {post : Option Nat → S → Prop} {px : SX → Prop} {B : S → State → Prop} {BX : String → SX → State → Prop} {AX : Nat → Prop} (hr : vx_Run p l e R s m args below meth c H locs cells slots mc ms (F0 m pc ls st0) rest (va_Qe ad post B A1 a) (vx_X px BX AX) free) (hS : va_S A0 H0 H locs) (hA : ∀ q, q < H.size → A1 q → A0 q) (hf : ∀ q, free q → A0 q) (hAX : ∀ q, q < H.size → AX q → A0 q)
    (kx : ∀ (E : String) (ce : Cell) (q9 : Addr) (u : SX) (t : State) (H1 : Heap) (locs1 : List Loc), t.heap = H1 → s.vm.Alike t.vm → px u → BX E u t → H.size ≤ H1.size → (∀ q : Nat, q < H.size → ¬ AX q → H1[q]? = H[q]?) → va_S A0 H0 H1 locs1 → H1[q9]? = some ce → ce.vm = .none → s.vm.findClass E = some ce.cls → vx_W p l e R s m args below meth c H1 locs1 (cells + mc) (slots + ms) Q (F0 m pc ls rest) q9)
    (kk : ∀ (r : Option Nat) (u : S) (t : State) (H1 : Heap) (locs1 : List Loc), t.heap = H1 → s.vm.Alike t.vm → post r u → B u t → H.size ≤ H1.size → (∀ q : Nat, q < H.size → ¬ A1 q → H1[q]? = H[q]?) → va_S A0 H0 H1 locs1 → W p l e R s m args below meth c H1 locs1 (cells + mc) (slots + ms) Q (F0 m (pc + 3) ls (va_re ad r :: rest))) : W p l e R s m args below meth c H locs cells slots Q (F0 m pc ls st0) := by
  intro T hT X
  rcases hr T hT X with ⟨v, st₀, t, T', L, h0, X', hL, e1, e2, ⟨⟨r, u, hv, hp, hb⟩, hF⟩, st⟩ | ⟨q, st₀, t, T', L, E, ce, h0, X', hL, e1, e2, ⟨u, hp, hb, hF⟩, hce, hcv, hcl, st⟩
  · cases hv
    obtain ⟨k1, k2, k3⟩ := vx_keep h0 e1 hS hA hf hL hF
    obtain ⟨t2, a1, b1⟩ := kk r u t T'.heap (locs ++ L) e1.symm (by rw [← e2]; exact X'.warmed.alike) hp hb k1 k2 k3 T' rfl X'
    exact ⟨t2, st t2 a1, b1⟩
  · obtain ⟨k1, k2, k3⟩ := vx_keep h0 e1 hS hAX hf hL hF
    obtain ⟨t2, a1, b1⟩ := kx E ce q u t T'.heap (locs ++ L) e1.symm (by rw [← e2]; exact X'.warmed.alike) hp hb k1 k2 k3 (by rw [e1]; exact hce) hcv hcl T' rfl X'
    exact ⟨t2, st.trans a1, b1⟩
end
/-! ===== END ===== -/
/-! ===== BEGIN .. by an interface, an object ===== -/
section
variable {p : Program} {l : Launch} {e : Env} {R : Room} {s : State} {m : MethodId} {args : Array Value} {below : List Frame} {meth : Method} {c : Code} {H : Heap} {locs : List Loc} {cells slots : Nat} {Q : State → Prop}
variable {mc ms : Nat} {free : Addr → Prop} {A0 A1 : Nat → Prop} {H0 : Heap} {a : Array Value} {pc : Nat} {ls : Array Slot} {st0 rest : List Value}
theorem vx_callFq {S SX : Type} {post : Option Nat → S → Prop} {px : SX → Prop} {B : S → State → Prop} {BX : String → SX → State → Prop} {AX : Nat → Prop} (hr : vx_Run5 p l e R s m args below meth c H locs cells slots mc ms (F0 m pc ls st0) rest (va_Qq post B A1 a) (vx_X px BX AX) free) (hS : va_S A0 H0 H locs) (hA : ∀ q, q < H.size → A1 q → A0 q) (hf : ∀ q, free q → A0 q) (hAX : ∀ q, q < H.size → AX q → A0 q)
    (kx : ∀ (E : String) (ce : Cell) (q9 : Addr) (u : SX) (t : State) (H1 : Heap) (locs1 : List Loc), t.heap = H1 → s.vm.Alike t.vm → px u → BX E u t → H.size ≤ H1.size → (∀ q : Nat, q < H.size → ¬ AX q → H1[q]? = H[q]?) → va_S A0 H0 H1 locs1 → H1[q9]? = some ce → ce.vm = .none → s.vm.findClass E = some ce.cls → vx_W p l e R s m args below meth c H1 locs1 (cells + mc) (slots + ms) Q (F0 m pc ls rest) q9)
    (kk : ∀ (r : Option Nat) (u : S) (t : State) (H1 : Heap) (locs1 : List Loc), t.heap = H1 → s.vm.Alike t.vm → post r u → B u t → H.size ≤ H1.size → (∀ q : Nat, q < H.size → ¬ A1 q → H1[q]? = H[q]?) → va_S A0 H0 H1 locs1 → W p l e R s m args below meth c H1 locs1 (cells + mc) (slots + ms) Q (F0 m (pc + 5) ls (va_rf r :: rest))) : W p l e R s m args below meth c H locs cells slots Q (F0 m pc ls st0) := by
  intro T hT X
  rcases hr T hT X with ⟨v, st₀, t, T', L, h0, X', hL, e1, e2, ⟨⟨r, u, hv, hp, hb⟩, hF⟩, st⟩ | ⟨q, st₀, t, T', L, E, ce, h0, X', hL, e1, e2, ⟨u, hp, hb, hF⟩, hce, hcv, hcl, st⟩
  · cases hv
    obtain ⟨k1, k2, k3⟩ := vx_keep h0 e1 hS hA hf hL hF
    obtain ⟨t2, a1, b1⟩ := kk r u t T'.heap (locs ++ L) e1.symm (by rw [← e2]; exact X'.warmed.alike) hp hb k1 k2 k3 T' rfl X'
    exact ⟨t2, st t2 a1, b1⟩
  · obtain ⟨k1, k2, k3⟩ := vx_keep h0 e1 hS hAX hf hL hF
    obtain ⟨t2, a1, b1⟩ := kx E ce q u t T'.heap (locs ++ L) e1.symm (by rw [← e2]; exact X'.warmed.alike) hp hb k1 k2 k3 (by rw [e1]; exact hce) hcv hcl T' rfl X'
    exact ⟨t2, st.trans a1, b1⟩
end
/-! ===== END ===== -/
/-! ===== BEGIN .. by an interface, a constant ===== -/
section
variable {p : Program} {l : Launch} {e : Env} {R : Room} {s : State} {m : MethodId} {args : Array Value} {below : List Frame} {meth : Method} {c : Code} {H : Heap} {locs : List Loc} {cells slots : Nat} {Q : State → Prop}
variable {mc ms : Nat} {free : Addr → Prop} {A0 A1 : Nat → Prop} {H0 : Heap} {a : Array Value} {pc : Nat} {ls : Array Slot} {st0 rest : List Value}
theorem vx_callFe {ad : Nat → Nat} {S SX : Type} {post : Option Nat → S → Prop} {px : SX → Prop} {B : S → State → Prop} {BX : String → SX → State → Prop} {AX : Nat → Prop} (hr : vx_Run5 p l e R s m args below meth c H locs cells slots mc ms (F0 m pc ls st0) rest (va_Qe ad post B A1 a) (vx_X px BX AX) free) (hS : va_S A0 H0 H locs) (hA : ∀ q, q < H.size → A1 q → A0 q) (hf : ∀ q, free q → A0 q) (hAX : ∀ q, q < H.size → AX q → A0 q)
    (kx : ∀ (E : String) (ce : Cell) (q9 : Addr) (u : SX) (t : State) (H1 : Heap) (locs1 : List Loc), t.heap = H1 → s.vm.Alike t.vm → px u → BX E u t → H.size ≤ H1.size → (∀ q : Nat, q < H.size → ¬ AX q → H1[q]? = H[q]?) → va_S A0 H0 H1 locs1 → H1[q9]? = some ce → ce.vm = .none → s.vm.findClass E = some ce.cls → vx_W p l e R s m args below meth c H1 locs1 (cells + mc) (slots + ms) Q (F0 m pc ls rest) q9)
    (kk : ∀ (r : Option Nat) (u : S) (t : State) (H1 : Heap) (locs1 : List Loc), t.heap = H1 → s.vm.Alike t.vm → post r u → B u t → H.size ≤ H1.size → (∀ q : Nat, q < H.size → ¬ A1 q → H1[q]? = H[q]?) → va_S A0 H0 H1 locs1 → W p l e R s m args below meth c H1 locs1 (cells + mc) (slots + ms) Q (F0 m (pc + 5) ls (va_re ad r :: rest))) : W p l e R s m args below meth c H locs cells slots Q (F0 m pc ls st0) := by
  intro T hT X
  rcases hr T hT X with ⟨v, st₀, t, T', L, h0, X', hL, e1, e2, ⟨⟨r, u, hv, hp, hb⟩, hF⟩, st⟩ | ⟨q, st₀, t, T', L, E, ce, h0, X', hL, e1, e2, ⟨u, hp, hb, hF⟩, hce, hcv, hcl, st⟩
  · cases hv
    obtain ⟨k1, k2, k3⟩ := vx_keep h0 e1 hS hA hf hL hF
    obtain ⟨t2, a1, b1⟩ := kk r u t T'.heap (locs ++ L) e1.symm (by rw [← e2]; exact X'.warmed.alike) hp hb k1 k2 k3 T' rfl X'
    exact ⟨t2, st t2 a1, b1⟩
  · obtain ⟨k1, k2, k3⟩ := vx_keep h0 e1 hS hAX hf hL hF
    obtain ⟨t2, a1, b1⟩ := kx E ce q u t T'.heap (locs ++ L) e1.symm (by rw [← e2]; exact X'.warmed.alike) hp hb k1 k2 k3 (by rw [e1]; exact hce) hcv hcl T' rfl X'
    exact ⟨t2, st.trans a1, b1⟩
end
/-! ===== END ===== -/
/-! ===== BEGIN what the machine throws by itself: null at a field, at athrow ===== -/
section VXM2
variable {p : Program} {l : Launch} {e : Env} {R : Room} {s : State} {m : MethodId} {args : Array Value} {below : List Frame} {meth : Method} {c : Code} {H : Heap} {locs : List Loc} {cells slots : Nat}
variable {Q : State → Prop} {cc : ByteArray} {pc : Nat} {ls : Array Slot} {rest : List Value}
theorem vx_getfN {D cl tys} {own ref C : String} {T : u_T} {N ci index : Nat} {Ts : List Cond} (hexec : p.tables.exec = Jvm.exec) (hb : c.code = cc) (hts : ∀ w ∈ Ts, w.before args s = true) (hin : ∀ w ∈ u_ws C T N, w ∈ Ts) (hown : s.vm.findClass own = some m.cls) (hK : va_K D cl tys s) (hc : cl[ci]? = some (C, T, N)) (k : Nat) (hk : k < N) (hlink : (Cond.fieldLink own index ref (T k).2.1 (T k).2.2.1).before args s = true) (hsame : ∀ x, s.fieldFound? (T k).1 (T k).2.1 (T k).2.2.1 = some x → s.fieldFound? ref (T k).2.1 (T k).2.2.1 = some x) (hdg : decode cc pc = .ok (.getfield index, 3)) (kk : vx_NoteN p l e R s m args below meth c H locs cells slots Q (F0 m pc ls rest)) : W p l e R s m args below meth c H locs cells slots Q (F0 m pc ls (.null :: rest)) := by
  obtain ⟨hS, hfc, kC, hkC, -⟩ := hK.1 ci _ hc
  obtain ⟨cf, kf, fi, f, hi, -⟩ := hS k hk
  intro U hU X
  obtain ⟨vm', X1, st1⟩ := X.getfieldNull hexec hown hlink (hsame _ hi) (u_facts hfc hkC (u_lays hts hin hk) hi).1 (g := F0 m pc ls (.null :: rest)) rfl (rest := rest) rfl (by rw [hb]; exact hdg)
  obtain ⟨t, st, q⟩ := kk (U.setVm vm') hU X1
  exact ⟨t, st1 t st, q⟩
theorem vx_getfNN {D cl tys} {own ref C host : String} {T : u_T} {N ci index : Nat} {Ts : List Cond} (hexec : p.tables.exec = Jvm.exec) (hb : c.code = cc) (hts : ∀ w ∈ Ts, w.before args s = true) (hin : ∀ w ∈ u_ws C T N, w ∈ Ts) (hown : s.vm.findClass own = some m.cls) (hK : va_K D cl tys s) (hc : cl[ci]? = some (C, T, N)) (k : Nat) (hk : k < N) (hlink : (Cond.fieldLinkNest own index ref (T k).2.1 (T k).2.2.1 host).before args s = true) (hsame : ∀ x, s.fieldFound? (T k).1 (T k).2.1 (T k).2.2.1 = some x → s.fieldFound? ref (T k).2.1 (T k).2.2.1 = some x) (hdg : decode cc pc = .ok (.getfield index, 3)) (kk : vx_NoteN p l e R s m args below meth c H locs cells slots Q (F0 m pc ls rest)) : W p l e R s m args below meth c H locs cells slots Q (F0 m pc ls (.null :: rest)) := by
  obtain ⟨hS, hfc, kC, hkC, -⟩ := hK.1 ci _ hc
  obtain ⟨cf, kf, fi, f, hi, -⟩ := hS k hk
  intro U hU X
  obtain ⟨vm', X1, st1⟩ := X.getfieldNullNest hexec hown hlink (hsame _ hi) (u_facts hfc hkC (u_lays hts hin hk) hi).1 (g := F0 m pc ls (.null :: rest)) rfl (rest := rest) rfl (by rw [hb]; exact hdg)
  obtain ⟨t, st, q⟩ := kk (U.setVm vm') hU X1
  exact ⟨t, st1 t st, q⟩
theorem vx_putfN {D cl tys} {own ref C : String} {T : u_T} {N ci index : Nat} {Ts : List Cond} (hexec : p.tables.exec = Jvm.exec) (hb : c.code = cc) (hts : ∀ w ∈ Ts, w.before args s = true) (hin : ∀ w ∈ u_ws C T N, w ∈ Ts) (hown : s.vm.findClass own = some m.cls) (hK : va_K D cl tys s) (hc : cl[ci]? = some (C, T, N)) (k : Nat) (hk : k < N) (hlink : (Cond.fieldLink own index ref (T k).2.1 (T k).2.2.1).before args s = true) (hsame : ∀ x, s.fieldFound? (T k).1 (T k).2.1 (T k).2.2.1 = some x → s.fieldFound? ref (T k).2.1 (T k).2.2.1 = some x) (hfin : (T k).2.2.2 = false) {v : Value} (hdg : decode cc pc = .ok (.putfield index, 3)) (kk : vx_NoteN p l e R s m args below meth c H locs cells slots Q (F0 m pc ls rest)) : W p l e R s m args below meth c H locs cells slots Q (F0 m pc ls (v :: .null :: rest)) := by
  obtain ⟨hS, hfc, kC, hkC, -⟩ := hK.1 ci _ hc
  obtain ⟨cf, kf, fi, f, hi, -⟩ := hS k hk
  have hlay := hts _ (hin _ (u_in_lay hk))
  unfold u_lay at hlay
  rw [if_neg (by rw [hfin]; decide)] at hlay
  obtain ⟨c9, k9, cf9, kf9, fi9, f9, -, -, hi9, hst9, hnf9, -⟩ := Cond.lays_spec hlay
  cases hi.symm.trans hi9
  intro U hU X
  obtain ⟨vm', X1, st1⟩ := X.putfieldNull hexec hown hlink (hsame _ hi) hst9 hnf9 (g := F0 m pc ls (v :: .null :: rest)) rfl (v := v) (rest := rest) rfl (by rw [hb]; exact hdg)
  obtain ⟨t, st, q⟩ := kk (U.setVm vm') hU X1
  exact ⟨t, st1 t st, q⟩
theorem vx_putfNN {D cl tys} {own ref C host : String} {T : u_T} {N ci index : Nat} {Ts : List Cond} (hexec : p.tables.exec = Jvm.exec) (hb : c.code = cc) (hts : ∀ w ∈ Ts, w.before args s = true) (hin : ∀ w ∈ u_ws C T N, w ∈ Ts) (hown : s.vm.findClass own = some m.cls) (hK : va_K D cl tys s) (hc : cl[ci]? = some (C, T, N)) (k : Nat) (hk : k < N) (hlink : (Cond.fieldLinkNest own index ref (T k).2.1 (T k).2.2.1 host).before args s = true) (hsame : ∀ x, s.fieldFound? (T k).1 (T k).2.1 (T k).2.2.1 = some x → s.fieldFound? ref (T k).2.1 (T k).2.2.1 = some x) (hfin : (T k).2.2.2 = false) {v : Value} (hdg : decode cc pc = .ok (.putfield index, 3)) (kk : vx_NoteN p l e R s m args below meth c H locs cells slots Q (F0 m pc ls rest)) : W p l e R s m args below meth c H locs cells slots Q (F0 m pc ls (v :: .null :: rest)) := by
  obtain ⟨hS, hfc, kC, hkC, -⟩ := hK.1 ci _ hc
  obtain ⟨cf, kf, fi, f, hi, -⟩ := hS k hk
  have hlay := hts _ (hin _ (u_in_lay hk))
  unfold u_lay at hlay
  rw [if_neg (by rw [hfin]; decide)] at hlay
  obtain ⟨c9, k9, cf9, kf9, fi9, f9, -, -, hi9, hst9, hnf9, -⟩ := Cond.lays_spec hlay
  cases hi.symm.trans hi9
  intro U hU X
  obtain ⟨vm', X1, st1⟩ := X.putfieldNullNest hexec hown hlink (hsame _ hi) hst9 hnf9 (g := F0 m pc ls (v :: .null :: rest)) rfl (v := v) (rest := rest) rfl (by rw [hb]; exact hdg)
  obtain ⟨t, st, q⟩ := kk (U.setVm vm') hU X1
  exact ⟨t, st1 t st, q⟩
theorem vx_athrowN (hexec : p.tables.exec = Jvm.exec) (hb : c.code = cc) (hdg : decode cc pc = .ok (.athrow, 1)) (k : vx_NoteN p l e R s m args below meth c H locs cells slots Q (F0 m pc ls rest)) : W p l e R s m args below meth c H locs cells slots Q (F0 m pc ls (.null :: rest)) := by
  intro T hT X
  obtain ⟨t, st, q⟩ := k T hT X
  exact ⟨t, X.athrowNull hexec (g := F0 m pc ls (.null :: rest)) rfl (rest := rest) rfl (by rw [hb]; exact hdg) t st, q⟩
end VXM2
/-! ===== END ===== -/
end
section
/-! the class's instructions -/
theorem dX9_isWithin_0 : decode cX9_isWithin 0 = .ok (.iload_n 0, 1) := by decide +kernel
theorem dX9_isWithin_1 : decode cX9_isWithin 1 = .ok (.iload_n 1, 1) := by decide +kernel
theorem dX9_isWithin_2 : decode cX9_isWithin 2 = .ok (.if_icmp .lt 12, 3) := by decide +kernel
theorem dX9_isWithin_5 : decode cX9_isWithin 5 = .ok (.iload_n 0, 1) := by decide +kernel
theorem dX9_isWithin_6 : decode cX9_isWithin 6 = .ok (.iload_n 2, 1) := by decide +kernel
theorem dX9_isWithin_7 : decode cX9_isWithin 7 = .ok (.if_icmp .gt 7, 3) := by decide +kernel
theorem dX9_isWithin_10 : decode cX9_isWithin 10 = .ok (.iconst 1, 1) := by decide +kernel
theorem dX9_isWithin_11 : decode cX9_isWithin 11 = .ok (.goto 4, 3) := by decide +kernel
theorem dX9_isWithin_14 : decode cX9_isWithin 14 = .ok (.iconst 0, 1) := by decide +kernel
theorem dX9_isWithin_15 : decode cX9_isWithin 15 = .ok (.ireturn, 1) := by decide +kernel
theorem dX4_add_0 : decode cX4_add 0 = .ok (.aload_n 0, 1) := by decide +kernel
theorem dX4_add_1 : decode cX4_add 1 = .ok (.getfield 28, 3) := by decide +kernel
theorem dX4_add_4 : decode cX4_add 4 = .ok (.bipush 60, 2) := by decide +kernel
theorem dX4_add_6 : decode cX4_add 6 = .ok (.if_icmp .ge 54, 3) := by decide +kernel
theorem dX4_add_9 : decode cX4_add 9 = .ok (.aload_n 0, 1) := by decide +kernel
theorem dX4_add_10 : decode cX4_add 10 = .ok (.getfield 9, 3) := by decide +kernel
theorem dX4_add_13 : decode cX4_add 13 = .ok (.aload_n 0, 1) := by decide +kernel
theorem dX4_add_14 : decode cX4_add 14 = .ok (.getfield 28, 3) := by decide +kernel
theorem dX4_add_17 : decode cX4_add 17 = .ok (.iload_n 1, 1) := by decide +kernel
theorem dX4_add_18 : decode cX4_add 18 = .ok (.iastore, 1) := by decide +kernel
theorem dX4_add_19 : decode cX4_add 19 = .ok (.aload_n 0, 1) := by decide +kernel
theorem dX4_add_20 : decode cX4_add 20 = .ok (.getfield 15, 3) := by decide +kernel
theorem dX4_add_23 : decode cX4_add 23 = .ok (.aload_n 0, 1) := by decide +kernel
theorem dX4_add_24 : decode cX4_add 24 = .ok (.getfield 28, 3) := by decide +kernel
theorem dX4_add_27 : decode cX4_add 27 = .ok (.iload_n 2, 1) := by decide +kernel
theorem dX4_add_28 : decode cX4_add 28 = .ok (.iastore, 1) := by decide +kernel
theorem dX4_add_29 : decode cX4_add 29 = .ok (.aload_n 0, 1) := by decide +kernel
theorem dX4_add_30 : decode cX4_add 30 = .ok (.getfield 18, 3) := by decide +kernel
theorem dX4_add_33 : decode cX4_add 33 = .ok (.aload_n 0, 1) := by decide +kernel
theorem dX4_add_34 : decode cX4_add 34 = .ok (.getfield 28, 3) := by decide +kernel
theorem dX4_add_37 : decode cX4_add 37 = .ok (.iload_n 3, 1) := by decide +kernel
theorem dX4_add_38 : decode cX4_add 38 = .ok (.iastore, 1) := by decide +kernel
theorem dX4_add_39 : decode cX4_add 39 = .ok (.aload_n 0, 1) := by decide +kernel
theorem dX4_add_40 : decode cX4_add 40 = .ok (.getfield 21, 3) := by decide +kernel
theorem dX4_add_43 : decode cX4_add 43 = .ok (.aload_n 0, 1) := by decide +kernel
theorem dX4_add_44 : decode cX4_add 44 = .ok (.getfield 28, 3) := by decide +kernel
theorem dX4_add_47 : decode cX4_add 47 = .ok (.iload 4, 2) := by decide +kernel
theorem dX4_add_49 : decode cX4_add 49 = .ok (.iastore, 1) := by decide +kernel
theorem dX4_add_50 : decode cX4_add 50 = .ok (.aload_n 0, 1) := by decide +kernel
theorem dX4_add_51 : decode cX4_add 51 = .ok (.dup, 1) := by decide +kernel
theorem dX4_add_52 : decode cX4_add 52 = .ok (.getfield 28, 3) := by decide +kernel
theorem dX4_add_55 : decode cX4_add 55 = .ok (.iconst 1, 1) := by decide +kernel
theorem dX4_add_56 : decode cX4_add 56 = .ok (.iadd, 1) := by decide +kernel
theorem dX4_add_57 : decode cX4_add 57 = .ok (.putfield 28, 3) := by decide +kernel
theorem dX4_add_60 : decode cX4_add 60 = .ok (.aload_n 0, 1) := by decide +kernel
theorem dX4_add_61 : decode cX4_add 61 = .ok (.getfield 28, 3) := by decide +kernel
theorem dX4_add_64 : decode cX4_add 64 = .ok (.iconst 1, 1) := by decide +kernel
theorem dX4_add_65 : decode cX4_add 65 = .ok (.isub, 1) := by decide +kernel
theorem dX4_add_66 : decode cX4_add 66 = .ok (.ireturn, 1) := by decide +kernel
theorem dX9_enter_0 : decode cX9_enter 0 = .ok (.iload_n 1, 1) := by decide +kernel
theorem dX9_enter_1 : decode cX9_enter 1 = .ok (.iconst 0, 1) := by decide +kernel
theorem dX9_enter_2 : decode cX9_enter 2 = .ok (.iconst 2, 1) := by decide +kernel
theorem dX9_enter_3 : decode cX9_enter 3 = .ok (.invokestatic 69, 3) := by decide +kernel
theorem dX9_enter_6 : decode cX9_enter 6 = .ok (.ifCond .eq 13, 3) := by decide +kernel
theorem dX9_enter_9 : decode cX9_enter 9 = .ok (.iload_n 2, 1) := by decide +kernel
theorem dX9_enter_10 : decode cX9_enter 10 = .ok (.iconst 0, 1) := by decide +kernel
theorem dX9_enter_11 : decode cX9_enter 11 = .ok (.bipush 19, 2) := by decide +kernel
theorem dX9_enter_13 : decode cX9_enter 13 = .ok (.invokestatic 69, 3) := by decide +kernel
theorem dX9_enter_16 : decode cX9_enter 16 = .ok (.ifCond .ne 13, 3) := by decide +kernel
theorem dX9_enter_19 : decode cX9_enter 19 = .ok (.new 73, 3) := by decide +kernel
theorem dX9_enter_22 : decode cX9_enter 22 = .ok (.dup, 1) := by decide +kernel
theorem dX9_enter_23 : decode cX9_enter 23 = .ok (.ldc 75, 2) := by decide +kernel
theorem dX9_enter_25 : decode cX9_enter 25 = .ok (.invokespecial 77, 3) := by decide +kernel
theorem dX9_enter_28 : decode cX9_enter 28 = .ok (.athrow, 1) := by decide +kernel
theorem dX9_enter_29 : decode cX9_enter 29 = .ok (.iload_n 3, 1) := by decide +kernel
theorem dX9_enter_30 : decode cX9_enter 30 = .ok (.iconst 0, 1) := by decide +kernel
theorem dX9_enter_31 : decode cX9_enter 31 = .ok (.sipush 1000, 3) := by decide +kernel
theorem dX9_enter_34 : decode cX9_enter 34 = .ok (.invokestatic 69, 3) := by decide +kernel
theorem dX9_enter_37 : decode cX9_enter 37 = .ok (.ifCond .eq 15, 3) := by decide +kernel
theorem dX9_enter_40 : decode cX9_enter 40 = .ok (.iload 4, 2) := by decide +kernel
theorem dX9_enter_42 : decode cX9_enter 42 = .ok (.iload_n 3, 1) := by decide +kernel
theorem dX9_enter_43 : decode cX9_enter 43 = .ok (.sipush 1000, 3) := by decide +kernel
theorem dX9_enter_46 : decode cX9_enter 46 = .ok (.invokestatic 69, 3) := by decide +kernel
theorem dX9_enter_49 : decode cX9_enter 49 = .ok (.ifCond .ne 13, 3) := by decide +kernel
theorem dX9_enter_52 : decode cX9_enter 52 = .ok (.new 80, 3) := by decide +kernel
theorem dX9_enter_55 : decode cX9_enter 55 = .ok (.dup, 1) := by decide +kernel
theorem dX9_enter_56 : decode cX9_enter 56 = .ok (.ldc 82, 2) := by decide +kernel
theorem dX9_enter_58 : decode cX9_enter 58 = .ok (.invokespecial 84, 3) := by decide +kernel
theorem dX9_enter_61 : decode cX9_enter 61 = .ok (.athrow, 1) := by decide +kernel
theorem dX9_enter_62 : decode cX9_enter 62 = .ok (.aload_n 0, 1) := by decide +kernel
theorem dX9_enter_63 : decode cX9_enter 63 = .ok (.getfield 10, 3) := by decide +kernel
theorem dX9_enter_66 : decode cX9_enter 66 = .ok (.getfield 85, 3) := by decide +kernel
theorem dX9_enter_69 : decode cX9_enter 69 = .ok (.bipush 60, 2) := by decide +kernel
theorem dX9_enter_71 : decode cX9_enter 71 = .ok (.if_icmp .lt 13, 3) := by decide +kernel
theorem dX9_enter_74 : decode cX9_enter 74 = .ok (.new 89, 3) := by decide +kernel
theorem dX9_enter_77 : decode cX9_enter 77 = .ok (.dup, 1) := by decide +kernel
theorem dX9_enter_78 : decode cX9_enter 78 = .ok (.ldc 91, 2) := by decide +kernel
theorem dX9_enter_80 : decode cX9_enter 80 = .ok (.invokespecial 93, 3) := by decide +kernel
theorem dX9_enter_83 : decode cX9_enter 83 = .ok (.athrow, 1) := by decide +kernel
theorem dX9_enter_84 : decode cX9_enter 84 = .ok (.aload_n 0, 1) := by decide +kernel
theorem dX9_enter_85 : decode cX9_enter 85 = .ok (.getfield 10, 3) := by decide +kernel
theorem dX9_enter_88 : decode cX9_enter 88 = .ok (.iload_n 1, 1) := by decide +kernel
theorem dX9_enter_89 : decode cX9_enter 89 = .ok (.iload_n 2, 1) := by decide +kernel
theorem dX9_enter_90 : decode cX9_enter 90 = .ok (.iload_n 3, 1) := by decide +kernel
theorem dX9_enter_91 : decode cX9_enter 91 = .ok (.iload 4, 2) := by decide +kernel
theorem dX9_enter_93 : decode cX9_enter 93 = .ok (.invokevirtual 94, 3) := by decide +kernel
theorem dX9_enter_96 : decode cX9_enter 96 = .ok (.ireturn, 1) := by decide +kernel
theorem dX4_allows_0 : decode cX4_allows 0 = .ok (.iconst 0, 1) := by decide +kernel
theorem dX4_allows_1 : decode cX4_allows 1 = .ok (.istore 4, 2) := by decide +kernel
theorem dX4_allows_3 : decode cX4_allows 3 = .ok (.iload 4, 2) := by decide +kernel
theorem dX4_allows_5 : decode cX4_allows 5 = .ok (.aload_n 0, 1) := by decide +kernel
theorem dX4_allows_6 : decode cX4_allows 6 = .ok (.getfield 28, 3) := by decide +kernel
theorem dX4_allows_9 : decode cX4_allows 9 = .ok (.if_icmp .ge 64, 3) := by decide +kernel
theorem dX4_allows_12 : decode cX4_allows 12 = .ok (.aload_n 0, 1) := by decide +kernel
theorem dX4_allows_13 : decode cX4_allows 13 = .ok (.getfield 24, 3) := by decide +kernel
theorem dX4_allows_16 : decode cX4_allows 16 = .ok (.iload 4, 2) := by decide +kernel
theorem dX4_allows_18 : decode cX4_allows 18 = .ok (.baload, 1) := by decide +kernel
theorem dX4_allows_19 : decode cX4_allows 19 = .ok (.ifCond .ne 48, 3) := by decide +kernel
theorem dX4_allows_22 : decode cX4_allows 22 = .ok (.aload_n 0, 1) := by decide +kernel
theorem dX4_allows_23 : decode cX4_allows 23 = .ok (.getfield 9, 3) := by decide +kernel
theorem dX4_allows_26 : decode cX4_allows 26 = .ok (.iload 4, 2) := by decide +kernel
theorem dX4_allows_28 : decode cX4_allows 28 = .ok (.iaload, 1) := by decide +kernel
theorem dX4_allows_29 : decode cX4_allows 29 = .ok (.iload_n 1, 1) := by decide +kernel
theorem dX4_allows_30 : decode cX4_allows 30 = .ok (.if_icmp .ne 37, 3) := by decide +kernel
theorem dX4_allows_33 : decode cX4_allows 33 = .ok (.aload_n 0, 1) := by decide +kernel
theorem dX4_allows_34 : decode cX4_allows 34 = .ok (.getfield 15, 3) := by decide +kernel
theorem dX4_allows_37 : decode cX4_allows 37 = .ok (.iload 4, 2) := by decide +kernel
theorem dX4_allows_39 : decode cX4_allows 39 = .ok (.iaload, 1) := by decide +kernel
theorem dX4_allows_40 : decode cX4_allows 40 = .ok (.iload_n 2, 1) := by decide +kernel
theorem dX4_allows_41 : decode cX4_allows 41 = .ok (.if_icmp .ne 26, 3) := by decide +kernel
theorem dX4_allows_44 : decode cX4_allows 44 = .ok (.iload_n 3, 1) := by decide +kernel
theorem dX4_allows_45 : decode cX4_allows 45 = .ok (.aload_n 0, 1) := by decide +kernel
theorem dX4_allows_46 : decode cX4_allows 46 = .ok (.getfield 18, 3) := by decide +kernel
theorem dX4_allows_49 : decode cX4_allows 49 = .ok (.iload 4, 2) := by decide +kernel
theorem dX4_allows_51 : decode cX4_allows 51 = .ok (.iaload, 1) := by decide +kernel
theorem dX4_allows_52 : decode cX4_allows 52 = .ok (.aload_n 0, 1) := by decide +kernel
theorem dX4_allows_53 : decode cX4_allows 53 = .ok (.getfield 21, 3) := by decide +kernel
theorem dX4_allows_56 : decode cX4_allows 56 = .ok (.iload 4, 2) := by decide +kernel
theorem dX4_allows_58 : decode cX4_allows 58 = .ok (.iaload, 1) := by decide +kernel
theorem dX4_allows_59 : decode cX4_allows 59 = .ok (.invokestatic 32, 3) := by decide +kernel
theorem dX4_allows_62 : decode cX4_allows 62 = .ok (.ifCond .eq 5, 3) := by decide +kernel
theorem dX4_allows_65 : decode cX4_allows 65 = .ok (.iconst 1, 1) := by decide +kernel
theorem dX4_allows_66 : decode cX4_allows 66 = .ok (.ireturn, 1) := by decide +kernel
theorem dX4_allows_67 : decode cX4_allows 67 = .ok (.iinc 4 1, 3) := by decide +kernel
theorem dX4_allows_70 : decode cX4_allows 70 = .ok (.goto (-67), 3) := by decide +kernel
theorem dX4_allows_73 : decode cX4_allows 73 = .ok (.iconst 0, 1) := by decide +kernel
theorem dX4_allows_74 : decode cX4_allows 74 = .ok (.ireturn, 1) := by decide +kernel
theorem dX0_reasonOf_0 : decode cX0_reasonOf 0 = .ok (.iload_n 1, 1) := by decide +kernel
theorem dX0_reasonOf_1 : decode cX0_reasonOf 1 = .ok (.iconst 1, 1) := by decide +kernel
theorem dX0_reasonOf_2 : decode cX0_reasonOf 2 = .ok (.iadd, 1) := by decide +kernel
theorem dX0_reasonOf_3 : decode cX0_reasonOf 3 = .ok (.istore_n 2, 1) := by decide +kernel
theorem dX0_reasonOf_4 : decode cX0_reasonOf 4 = .ok (.iload_n 2, 1) := by decide +kernel
theorem dX0_reasonOf_5 : decode cX0_reasonOf 5 = .ok (.aload_n 0, 1) := by decide +kernel
theorem dX0_reasonOf_6 : decode cX0_reasonOf 6 = .ok (.getfield 41, 3) := by decide +kernel
theorem dX0_reasonOf_9 : decode cX0_reasonOf 9 = .ok (.if_icmp .ge 41, 3) := by decide +kernel
theorem dX0_reasonOf_12 : decode cX0_reasonOf 12 = .ok (.aload_n 0, 1) := by decide +kernel
theorem dX0_reasonOf_13 : decode cX0_reasonOf 13 = .ok (.getfield 9, 3) := by decide +kernel
theorem dX0_reasonOf_16 : decode cX0_reasonOf 16 = .ok (.iload_n 2, 1) := by decide +kernel
theorem dX0_reasonOf_17 : decode cX0_reasonOf 17 = .ok (.iaload, 1) := by decide +kernel
theorem dX0_reasonOf_18 : decode cX0_reasonOf 18 = .ok (.aload_n 0, 1) := by decide +kernel
theorem dX0_reasonOf_19 : decode cX0_reasonOf 19 = .ok (.getfield 9, 3) := by decide +kernel
theorem dX0_reasonOf_22 : decode cX0_reasonOf 22 = .ok (.iload_n 1, 1) := by decide +kernel
theorem dX0_reasonOf_23 : decode cX0_reasonOf 23 = .ok (.iaload, 1) := by decide +kernel
theorem dX0_reasonOf_24 : decode cX0_reasonOf 24 = .ok (.if_icmp .ne 20, 3) := by decide +kernel
theorem dX0_reasonOf_27 : decode cX0_reasonOf 27 = .ok (.aload_n 0, 1) := by decide +kernel
theorem dX0_reasonOf_28 : decode cX0_reasonOf 28 = .ok (.getfield 18, 3) := by decide +kernel
theorem dX0_reasonOf_31 : decode cX0_reasonOf 31 = .ok (.iload_n 2, 1) := by decide +kernel
theorem dX0_reasonOf_32 : decode cX0_reasonOf 32 = .ok (.iaload, 1) := by decide +kernel
theorem dX0_reasonOf_33 : decode cX0_reasonOf 33 = .ok (.aload_n 0, 1) := by decide +kernel
theorem dX0_reasonOf_34 : decode cX0_reasonOf 34 = .ok (.getfield 18, 3) := by decide +kernel
theorem dX0_reasonOf_37 : decode cX0_reasonOf 37 = .ok (.iload_n 1, 1) := by decide +kernel
theorem dX0_reasonOf_38 : decode cX0_reasonOf 38 = .ok (.iaload, 1) := by decide +kernel
theorem dX0_reasonOf_39 : decode cX0_reasonOf 39 = .ok (.if_icmp .ne 5, 3) := by decide +kernel
theorem dX0_reasonOf_42 : decode cX0_reasonOf 42 = .ok (.iconst 1, 1) := by decide +kernel
theorem dX0_reasonOf_43 : decode cX0_reasonOf 43 = .ok (.ireturn, 1) := by decide +kernel
theorem dX0_reasonOf_44 : decode cX0_reasonOf 44 = .ok (.iinc 2 1, 3) := by decide +kernel
theorem dX0_reasonOf_47 : decode cX0_reasonOf 47 = .ok (.goto (-43), 3) := by decide +kernel
theorem dX0_reasonOf_50 : decode cX0_reasonOf 50 = .ok (.aload_n 0, 1) := by decide +kernel
theorem dX0_reasonOf_51 : decode cX0_reasonOf 51 = .ok (.getfield 37, 3) := by decide +kernel
theorem dX0_reasonOf_54 : decode cX0_reasonOf 54 = .ok (.aload_n 0, 1) := by decide +kernel
theorem dX0_reasonOf_55 : decode cX0_reasonOf 55 = .ok (.getfield 15, 3) := by decide +kernel
theorem dX0_reasonOf_58 : decode cX0_reasonOf 58 = .ok (.iload_n 1, 1) := by decide +kernel
theorem dX0_reasonOf_59 : decode cX0_reasonOf 59 = .ok (.iaload, 1) := by decide +kernel
theorem dX0_reasonOf_60 : decode cX0_reasonOf 60 = .ok (.aload_n 0, 1) := by decide +kernel
theorem dX0_reasonOf_61 : decode cX0_reasonOf 61 = .ok (.getfield 18, 3) := by decide +kernel
theorem dX0_reasonOf_64 : decode cX0_reasonOf 64 = .ok (.iload_n 1, 1) := by decide +kernel
theorem dX0_reasonOf_65 : decode cX0_reasonOf 65 = .ok (.iaload, 1) := by decide +kernel
theorem dX0_reasonOf_66 : decode cX0_reasonOf 66 = .ok (.aload_n 0, 1) := by decide +kernel
theorem dX0_reasonOf_67 : decode cX0_reasonOf 67 = .ok (.getfield 21, 3) := by decide +kernel
theorem dX0_reasonOf_70 : decode cX0_reasonOf 70 = .ok (.iload_n 1, 1) := by decide +kernel
theorem dX0_reasonOf_71 : decode cX0_reasonOf 71 = .ok (.iaload, 1) := by decide +kernel
theorem dX0_reasonOf_72 : decode cX0_reasonOf 72 = .ok (.invokevirtual 51, 3) := by decide +kernel
theorem dX0_reasonOf_75 : decode cX0_reasonOf 75 = .ok (.ifCond .eq 7, 3) := by decide +kernel
theorem dX0_reasonOf_78 : decode cX0_reasonOf 78 = .ok (.iconst 0, 1) := by decide +kernel
theorem dX0_reasonOf_79 : decode cX0_reasonOf 79 = .ok (.goto 4, 3) := by decide +kernel
theorem dX0_reasonOf_82 : decode cX0_reasonOf 82 = .ok (.iconst 2, 1) := by decide +kernel
theorem dX0_reasonOf_83 : decode cX0_reasonOf 83 = .ok (.ireturn, 1) := by decide +kernel
theorem dX0_countAll_0 : decode cX0_countAll 0 = .ok (.iconst 0, 1) := by decide +kernel
theorem dX0_countAll_1 : decode cX0_countAll 1 = .ok (.istore_n 1, 1) := by decide +kernel
theorem dX0_countAll_2 : decode cX0_countAll 2 = .ok (.iconst 0, 1) := by decide +kernel
theorem dX0_countAll_3 : decode cX0_countAll 3 = .ok (.istore_n 2, 1) := by decide +kernel
theorem dX0_countAll_4 : decode cX0_countAll 4 = .ok (.iload_n 2, 1) := by decide +kernel
theorem dX0_countAll_5 : decode cX0_countAll 5 = .ok (.aload_n 0, 1) := by decide +kernel
theorem dX0_countAll_6 : decode cX0_countAll 6 = .ok (.getfield 41, 3) := by decide +kernel
theorem dX0_countAll_9 : decode cX0_countAll 9 = .ok (.if_icmp .ge 20, 3) := by decide +kernel
theorem dX0_countAll_12 : decode cX0_countAll 12 = .ok (.aload_n 0, 1) := by decide +kernel
theorem dX0_countAll_13 : decode cX0_countAll 13 = .ok (.iload_n 2, 1) := by decide +kernel
theorem dX0_countAll_14 : decode cX0_countAll 14 = .ok (.invokevirtual 60, 3) := by decide +kernel
theorem dX0_countAll_17 : decode cX0_countAll 17 = .ok (.ifCond .ne 6, 3) := by decide +kernel
theorem dX0_countAll_20 : decode cX0_countAll 20 = .ok (.iinc 1 1, 3) := by decide +kernel
theorem dX0_countAll_23 : decode cX0_countAll 23 = .ok (.iinc 2 1, 3) := by decide +kernel
theorem dX0_countAll_26 : decode cX0_countAll 26 = .ok (.goto (-22), 3) := by decide +kernel
theorem dX0_countAll_29 : decode cX0_countAll 29 = .ok (.iload_n 1, 1) := by decide +kernel
theorem dX0_countAll_30 : decode cX0_countAll 30 = .ok (.ireturn, 1) := by decide +kernel
theorem dX9_strike_0 : decode cX9_strike 0 = .ok (.iload_n 1, 1) := by decide +kernel
theorem dX9_strike_1 : decode cX9_strike 1 = .ok (.iconst 0, 1) := by decide +kernel
theorem dX9_strike_2 : decode cX9_strike 2 = .ok (.aload_n 0, 1) := by decide +kernel
theorem dX9_strike_3 : decode cX9_strike 3 = .ok (.getfield 10, 3) := by decide +kernel
theorem dX9_strike_6 : decode cX9_strike 6 = .ok (.getfield 85, 3) := by decide +kernel
theorem dX9_strike_9 : decode cX9_strike 9 = .ok (.iconst 1, 1) := by decide +kernel
theorem dX9_strike_10 : decode cX9_strike 10 = .ok (.isub, 1) := by decide +kernel
theorem dX9_strike_11 : decode cX9_strike 11 = .ok (.invokestatic 69, 3) := by decide +kernel
theorem dX9_strike_14 : decode cX9_strike 14 = .ok (.ifCond .ne 13, 3) := by decide +kernel
theorem dX9_strike_17 : decode cX9_strike 17 = .ok (.new 73, 3) := by decide +kernel
theorem dX9_strike_20 : decode cX9_strike 20 = .ok (.dup, 1) := by decide +kernel
theorem dX9_strike_21 : decode cX9_strike 21 = .ok (.ldc 98, 2) := by decide +kernel
theorem dX9_strike_23 : decode cX9_strike 23 = .ok (.invokespecial 77, 3) := by decide +kernel
theorem dX9_strike_26 : decode cX9_strike 26 = .ok (.athrow, 1) := by decide +kernel
theorem dX9_strike_27 : decode cX9_strike 27 = .ok (.aload_n 0, 1) := by decide +kernel
theorem dX9_strike_28 : decode cX9_strike 28 = .ok (.getfield 10, 3) := by decide +kernel
theorem dX9_strike_31 : decode cX9_strike 31 = .ok (.getfield 100, 3) := by decide +kernel
theorem dX9_strike_34 : decode cX9_strike 34 = .ok (.iload_n 1, 1) := by decide +kernel
theorem dX9_strike_35 : decode cX9_strike 35 = .ok (.baload, 1) := by decide +kernel
theorem dX9_strike_36 : decode cX9_strike 36 = .ok (.ifCond .eq 13, 3) := by decide +kernel
theorem dX9_strike_39 : decode cX9_strike 39 = .ok (.new 89, 3) := by decide +kernel
theorem dX9_strike_42 : decode cX9_strike 42 = .ok (.dup, 1) := by decide +kernel
theorem dX9_strike_43 : decode cX9_strike 43 = .ok (.ldc 104, 2) := by decide +kernel
theorem dX9_strike_45 : decode cX9_strike 45 = .ok (.invokespecial 93, 3) := by decide +kernel
theorem dX9_strike_48 : decode cX9_strike 48 = .ok (.athrow, 1) := by decide +kernel
theorem dX9_strike_49 : decode cX9_strike 49 = .ok (.aload_n 0, 1) := by decide +kernel
theorem dX9_strike_50 : decode cX9_strike 50 = .ok (.getfield 47, 3) := by decide +kernel
theorem dX9_strike_53 : decode cX9_strike 53 = .ok (.invokevirtual 106, 3) := by decide +kernel
theorem dX9_strike_56 : decode cX9_strike 56 = .ok (.istore_n 2, 1) := by decide +kernel
theorem dX9_strike_57 : decode cX9_strike 57 = .ok (.aload_n 0, 1) := by decide +kernel
theorem dX9_strike_58 : decode cX9_strike 58 = .ok (.getfield 10, 3) := by decide +kernel
theorem dX9_strike_61 : decode cX9_strike 61 = .ok (.getfield 100, 3) := by decide +kernel
theorem dX9_strike_64 : decode cX9_strike 64 = .ok (.iload_n 1, 1) := by decide +kernel
theorem dX9_strike_65 : decode cX9_strike 65 = .ok (.iconst 1, 1) := by decide +kernel
theorem dX9_strike_66 : decode cX9_strike 66 = .ok (.bastore, 1) := by decide +kernel
theorem dX9_strike_67 : decode cX9_strike 67 = .ok (.iload_n 2, 1) := by decide +kernel
theorem dX9_strike_68 : decode cX9_strike 68 = .ok (.aload_n 0, 1) := by decide +kernel
theorem dX9_strike_69 : decode cX9_strike 69 = .ok (.getfield 47, 3) := by decide +kernel
theorem dX9_strike_72 : decode cX9_strike 72 = .ok (.invokevirtual 106, 3) := by decide +kernel
theorem dX9_strike_75 : decode cX9_strike 75 = .ok (.isub, 1) := by decide +kernel
theorem dX9_strike_76 : decode cX9_strike 76 = .ok (.ireturn, 1) := by decide +kernel
theorem dX9_isAllowed_0 : decode cX9_isAllowed 0 = .ok (.iload_n 1, 1) := by decide +kernel
theorem dX9_isAllowed_1 : decode cX9_isAllowed 1 = .ok (.iconst 0, 1) := by decide +kernel
theorem dX9_isAllowed_2 : decode cX9_isAllowed 2 = .ok (.iconst 2, 1) := by decide +kernel
theorem dX9_isAllowed_3 : decode cX9_isAllowed 3 = .ok (.invokestatic 69, 3) := by decide +kernel
theorem dX9_isAllowed_6 : decode cX9_isAllowed 6 = .ok (.ifCond .eq 13, 3) := by decide +kernel
theorem dX9_isAllowed_9 : decode cX9_isAllowed 9 = .ok (.iload_n 2, 1) := by decide +kernel
theorem dX9_isAllowed_10 : decode cX9_isAllowed 10 = .ok (.iconst 0, 1) := by decide +kernel
theorem dX9_isAllowed_11 : decode cX9_isAllowed 11 = .ok (.bipush 19, 2) := by decide +kernel
theorem dX9_isAllowed_13 : decode cX9_isAllowed 13 = .ok (.invokestatic 69, 3) := by decide +kernel
theorem dX9_isAllowed_16 : decode cX9_isAllowed 16 = .ok (.ifCond .ne 13, 3) := by decide +kernel
theorem dX9_isAllowed_19 : decode cX9_isAllowed 19 = .ok (.new 73, 3) := by decide +kernel
theorem dX9_isAllowed_22 : decode cX9_isAllowed 22 = .ok (.dup, 1) := by decide +kernel
theorem dX9_isAllowed_23 : decode cX9_isAllowed 23 = .ok (.ldc 75, 2) := by decide +kernel
theorem dX9_isAllowed_25 : decode cX9_isAllowed 25 = .ok (.invokespecial 77, 3) := by decide +kernel
theorem dX9_isAllowed_28 : decode cX9_isAllowed 28 = .ok (.athrow, 1) := by decide +kernel
theorem dX9_isAllowed_29 : decode cX9_isAllowed 29 = .ok (.iload_n 3, 1) := by decide +kernel
theorem dX9_isAllowed_30 : decode cX9_isAllowed 30 = .ok (.iconst 0, 1) := by decide +kernel
theorem dX9_isAllowed_31 : decode cX9_isAllowed 31 = .ok (.sipush 1000, 3) := by decide +kernel
theorem dX9_isAllowed_34 : decode cX9_isAllowed 34 = .ok (.invokestatic 69, 3) := by decide +kernel
theorem dX9_isAllowed_37 : decode cX9_isAllowed 37 = .ok (.ifCond .ne 13, 3) := by decide +kernel
theorem dX9_isAllowed_40 : decode cX9_isAllowed 40 = .ok (.new 80, 3) := by decide +kernel
theorem dX9_isAllowed_43 : decode cX9_isAllowed 43 = .ok (.dup, 1) := by decide +kernel
theorem dX9_isAllowed_44 : decode cX9_isAllowed 44 = .ok (.ldc 110, 2) := by decide +kernel
theorem dX9_isAllowed_46 : decode cX9_isAllowed 46 = .ok (.invokespecial 84, 3) := by decide +kernel
theorem dX9_isAllowed_49 : decode cX9_isAllowed 49 = .ok (.athrow, 1) := by decide +kernel
theorem dX9_isAllowed_50 : decode cX9_isAllowed 50 = .ok (.aload_n 0, 1) := by decide +kernel
theorem dX9_isAllowed_51 : decode cX9_isAllowed 51 = .ok (.getfield 10, 3) := by decide +kernel
theorem dX9_isAllowed_54 : decode cX9_isAllowed 54 = .ok (.iload_n 1, 1) := by decide +kernel
theorem dX9_isAllowed_55 : decode cX9_isAllowed 55 = .ok (.iload_n 2, 1) := by decide +kernel
theorem dX9_isAllowed_56 : decode cX9_isAllowed 56 = .ok (.iload_n 3, 1) := by decide +kernel
theorem dX9_isAllowed_57 : decode cX9_isAllowed 57 = .ok (.invokevirtual 112, 3) := by decide +kernel
theorem dX9_isAllowed_60 : decode cX9_isAllowed 60 = .ok (.ireturn, 1) := by decide +kernel
theorem dX9_pass_0 : decode cX9_pass 0 = .ok (.iload_n 1, 1) := by decide +kernel
theorem dX9_pass_1 : decode cX9_pass 1 = .ok (.iconst 1, 1) := by decide +kernel
theorem dX9_pass_2 : decode cX9_pass 2 = .ok (.bipush 100, 2) := by decide +kernel
theorem dX9_pass_4 : decode cX9_pass 4 = .ok (.invokestatic 69, 3) := by decide +kernel
theorem dX9_pass_7 : decode cX9_pass 7 = .ok (.ifCond .ne 13, 3) := by decide +kernel
theorem dX9_pass_10 : decode cX9_pass 10 = .ok (.new 80, 3) := by decide +kernel
theorem dX9_pass_13 : decode cX9_pass 13 = .ok (.dup, 1) := by decide +kernel
theorem dX9_pass_14 : decode cX9_pass 14 = .ok (.ldc 115, 2) := by decide +kernel
theorem dX9_pass_16 : decode cX9_pass 16 = .ok (.invokespecial 84, 3) := by decide +kernel
theorem dX9_pass_19 : decode cX9_pass 19 = .ok (.athrow, 1) := by decide +kernel
theorem dX9_pass_20 : decode cX9_pass 20 = .ok (.aload_n 0, 1) := by decide +kernel
theorem dX9_pass_21 : decode cX9_pass 21 = .ok (.getfield 117, 3) := by decide +kernel
theorem dX9_pass_24 : decode cX9_pass 24 = .ok (.iload_n 1, 1) := by decide +kernel
theorem dX9_pass_25 : decode cX9_pass 25 = .ok (.iadd, 1) := by decide +kernel
theorem dX9_pass_26 : decode cX9_pass 26 = .ok (.sipush 1000, 3) := by decide +kernel
theorem dX9_pass_29 : decode cX9_pass 29 = .ok (.if_icmp .le 13, 3) := by decide +kernel
theorem dX9_pass_32 : decode cX9_pass 32 = .ok (.new 89, 3) := by decide +kernel
theorem dX9_pass_35 : decode cX9_pass 35 = .ok (.dup, 1) := by decide +kernel
theorem dX9_pass_36 : decode cX9_pass 36 = .ok (.ldc 120, 2) := by decide +kernel
theorem dX9_pass_38 : decode cX9_pass 38 = .ok (.invokespecial 93, 3) := by decide +kernel
theorem dX9_pass_41 : decode cX9_pass 41 = .ok (.athrow, 1) := by decide +kernel
theorem dX9_pass_42 : decode cX9_pass 42 = .ok (.aload_n 0, 1) := by decide +kernel
theorem dX9_pass_43 : decode cX9_pass 43 = .ok (.dup, 1) := by decide +kernel
theorem dX9_pass_44 : decode cX9_pass 44 = .ok (.getfield 117, 3) := by decide +kernel
theorem dX9_pass_47 : decode cX9_pass 47 = .ok (.iload_n 1, 1) := by decide +kernel
theorem dX9_pass_48 : decode cX9_pass 48 = .ok (.iadd, 1) := by decide +kernel
theorem dX9_pass_49 : decode cX9_pass 49 = .ok (.putfield 117, 3) := by decide +kernel
theorem dX9_pass_52 : decode cX9_pass 52 = .ok (.aload_n 0, 1) := by decide +kernel
theorem dX9_pass_53 : decode cX9_pass 53 = .ok (.getfield 117, 3) := by decide +kernel
theorem dX9_pass_56 : decode cX9_pass 56 = .ok (.ireturn, 1) := by decide +kernel
theorem dX9_isDigit_0 : decode cX9_isDigit 0 = .ok (.iload_n 0, 1) := by decide +kernel
theorem dX9_isDigit_1 : decode cX9_isDigit 1 = .ok (.bipush 48, 2) := by decide +kernel
theorem dX9_isDigit_3 : decode cX9_isDigit 3 = .ok (.if_icmp .lt 13, 3) := by decide +kernel
theorem dX9_isDigit_6 : decode cX9_isDigit 6 = .ok (.iload_n 0, 1) := by decide +kernel
theorem dX9_isDigit_7 : decode cX9_isDigit 7 = .ok (.bipush 57, 2) := by decide +kernel
theorem dX9_isDigit_9 : decode cX9_isDigit 9 = .ok (.if_icmp .gt 7, 3) := by decide +kernel
theorem dX9_isDigit_12 : decode cX9_isDigit 12 = .ok (.iconst 1, 1) := by decide +kernel
theorem dX9_isDigit_13 : decode cX9_isDigit 13 = .ok (.goto 4, 3) := by decide +kernel
theorem dX9_isDigit_16 : decode cX9_isDigit 16 = .ok (.iconst 0, 1) := by decide +kernel
theorem dX9_isDigit_17 : decode cX9_isDigit 17 = .ok (.ireturn, 1) := by decide +kernel
theorem dX9_isTypable_0 : decode cX9_isTypable 0 = .ok (.iload_n 0, 1) := by decide +kernel
theorem dX9_isTypable_1 : decode cX9_isTypable 1 = .ok (.bipush 97, 2) := by decide +kernel
theorem dX9_isTypable_3 : decode cX9_isTypable 3 = .ok (.if_icmp .lt 9, 3) := by decide +kernel
theorem dX9_isTypable_6 : decode cX9_isTypable 6 = .ok (.iload_n 0, 1) := by decide +kernel
theorem dX9_isTypable_7 : decode cX9_isTypable 7 = .ok (.bipush 122, 2) := by decide +kernel
theorem dX9_isTypable_9 : decode cX9_isTypable 9 = .ok (.if_icmp .le 28, 3) := by decide +kernel
theorem dX9_isTypable_12 : decode cX9_isTypable 12 = .ok (.iload_n 0, 1) := by decide +kernel
theorem dX9_isTypable_13 : decode cX9_isTypable 13 = .ok (.invokestatic 301, 3) := by decide +kernel
theorem dX9_isTypable_16 : decode cX9_isTypable 16 = .ok (.ifCond .ne 21, 3) := by decide +kernel
theorem dX9_isTypable_19 : decode cX9_isTypable 19 = .ok (.iload_n 0, 1) := by decide +kernel
theorem dX9_isTypable_20 : decode cX9_isTypable 20 = .ok (.bipush 59, 2) := by decide +kernel
theorem dX9_isTypable_22 : decode cX9_isTypable 22 = .ok (.if_icmp .eq 15, 3) := by decide +kernel
theorem dX9_isTypable_25 : decode cX9_isTypable 25 = .ok (.iload_n 0, 1) := by decide +kernel
theorem dX9_isTypable_26 : decode cX9_isTypable 26 = .ok (.bipush 40, 2) := by decide +kernel
theorem dX9_isTypable_28 : decode cX9_isTypable 28 = .ok (.if_icmp .eq 9, 3) := by decide +kernel
theorem dX9_isTypable_31 : decode cX9_isTypable 31 = .ok (.iload_n 0, 1) := by decide +kernel
theorem dX9_isTypable_32 : decode cX9_isTypable 32 = .ok (.bipush 41, 2) := by decide +kernel
theorem dX9_isTypable_34 : decode cX9_isTypable 34 = .ok (.if_icmp .ne 7, 3) := by decide +kernel
theorem dX9_isTypable_37 : decode cX9_isTypable 37 = .ok (.iconst 1, 1) := by decide +kernel
theorem dX9_isTypable_38 : decode cX9_isTypable 38 = .ok (.goto 4, 3) := by decide +kernel
theorem dX9_isTypable_41 : decode cX9_isTypable 41 = .ok (.iconst 0, 1) := by decide +kernel
theorem dX9_isTypable_42 : decode cX9_isTypable 42 = .ok (.ireturn, 1) := by decide +kernel
theorem dX7_add_0 : decode cX7_add 0 = .ok (.aload_n 0, 1) := by decide +kernel
theorem dX7_add_1 : decode cX7_add 1 = .ok (.getfield 15, 3) := by decide +kernel
theorem dX7_add_4 : decode cX7_add 4 = .ok (.bipush 24, 2) := by decide +kernel
theorem dX7_add_6 : decode cX7_add 6 = .ok (.if_icmp .ge 23, 3) := by decide +kernel
theorem dX7_add_9 : decode cX7_add 9 = .ok (.aload_n 0, 1) := by decide +kernel
theorem dX7_add_10 : decode cX7_add 10 = .ok (.getfield 9, 3) := by decide +kernel
theorem dX7_add_13 : decode cX7_add 13 = .ok (.aload_n 0, 1) := by decide +kernel
theorem dX7_add_14 : decode cX7_add 14 = .ok (.getfield 15, 3) := by decide +kernel
theorem dX7_add_17 : decode cX7_add 17 = .ok (.iload_n 1, 1) := by decide +kernel
theorem dX7_add_18 : decode cX7_add 18 = .ok (.castore, 1) := by decide +kernel
theorem dX7_add_19 : decode cX7_add 19 = .ok (.aload_n 0, 1) := by decide +kernel
theorem dX7_add_20 : decode cX7_add 20 = .ok (.dup, 1) := by decide +kernel
theorem dX7_add_21 : decode cX7_add 21 = .ok (.getfield 15, 3) := by decide +kernel
theorem dX7_add_24 : decode cX7_add 24 = .ok (.iconst 1, 1) := by decide +kernel
theorem dX7_add_25 : decode cX7_add 25 = .ok (.iadd, 1) := by decide +kernel
theorem dX7_add_26 : decode cX7_add 26 = .ok (.putfield 15, 3) := by decide +kernel
theorem dX7_add_29 : decode cX7_add 29 = .ok (.aload_n 0, 1) := by decide +kernel
theorem dX7_add_30 : decode cX7_add 30 = .ok (.getfield 15, 3) := by decide +kernel
theorem dX7_add_33 : decode cX7_add 33 = .ok (.ireturn, 1) := by decide +kernel
theorem dX9_type_0 : decode cX9_type 0 = .ok (.iload_n 1, 1) := by decide +kernel
theorem dX9_type_1 : decode cX9_type 1 = .ok (.invokestatic 122, 3) := by decide +kernel
theorem dX9_type_4 : decode cX9_type 4 = .ok (.ifCond .ne 13, 3) := by decide +kernel
theorem dX9_type_7 : decode cX9_type 7 = .ok (.new 80, 3) := by decide +kernel
theorem dX9_type_10 : decode cX9_type 10 = .ok (.dup, 1) := by decide +kernel
theorem dX9_type_11 : decode cX9_type 11 = .ok (.ldc 126, 2) := by decide +kernel
theorem dX9_type_13 : decode cX9_type 13 = .ok (.invokespecial 84, 3) := by decide +kernel
theorem dX9_type_16 : decode cX9_type 16 = .ok (.athrow, 1) := by decide +kernel
theorem dX9_type_17 : decode cX9_type 17 = .ok (.aload_n 0, 1) := by decide +kernel
theorem dX9_type_18 : decode cX9_type 18 = .ok (.getfield 19, 3) := by decide +kernel
theorem dX9_type_21 : decode cX9_type 21 = .ok (.getfield 128, 3) := by decide +kernel
theorem dX9_type_24 : decode cX9_type 24 = .ok (.bipush 24, 2) := by decide +kernel
theorem dX9_type_26 : decode cX9_type 26 = .ok (.if_icmp .lt 13, 3) := by decide +kernel
theorem dX9_type_29 : decode cX9_type 29 = .ok (.new 89, 3) := by decide +kernel
theorem dX9_type_32 : decode cX9_type 32 = .ok (.dup, 1) := by decide +kernel
theorem dX9_type_33 : decode cX9_type 33 = .ok (.ldc 129, 2) := by decide +kernel
theorem dX9_type_35 : decode cX9_type 35 = .ok (.invokespecial 93, 3) := by decide +kernel
theorem dX9_type_38 : decode cX9_type 38 = .ok (.athrow, 1) := by decide +kernel
theorem dX9_type_39 : decode cX9_type 39 = .ok (.aload_n 0, 1) := by decide +kernel
theorem dX9_type_40 : decode cX9_type 40 = .ok (.getfield 19, 3) := by decide +kernel
theorem dX9_type_43 : decode cX9_type 43 = .ok (.iload_n 1, 1) := by decide +kernel
theorem dX9_type_44 : decode cX9_type 44 = .ok (.invokevirtual 131, 3) := by decide +kernel
theorem dX9_type_47 : decode cX9_type 47 = .ok (.ireturn, 1) := by decide +kernel
theorem dX9_wipe_0 : decode cX9_wipe 0 = .ok (.aload_n 0, 1) := by decide +kernel
theorem dX9_wipe_1 : decode cX9_wipe 1 = .ok (.getfield 19, 3) := by decide +kernel
theorem dX9_wipe_4 : decode cX9_wipe 4 = .ok (.getfield 128, 3) := by decide +kernel
theorem dX9_wipe_7 : decode cX9_wipe 7 = .ok (.istore_n 1, 1) := by decide +kernel
theorem dX9_wipe_8 : decode cX9_wipe 8 = .ok (.aload_n 0, 1) := by decide +kernel
theorem dX9_wipe_9 : decode cX9_wipe 9 = .ok (.getfield 19, 3) := by decide +kernel
theorem dX9_wipe_12 : decode cX9_wipe 12 = .ok (.iconst 0, 1) := by decide +kernel
theorem dX9_wipe_13 : decode cX9_wipe 13 = .ok (.putfield 128, 3) := by decide +kernel
theorem dX9_wipe_16 : decode cX9_wipe 16 = .ok (.iload_n 1, 1) := by decide +kernel
theorem dX9_wipe_17 : decode cX9_wipe 17 = .ok (.ireturn, 1) := by decide +kernel
theorem dX7_stateAfter_0 : decode cX7_stateAfter 0 = .ok (.iload_n 1, 1) := by decide +kernel
theorem dX7_stateAfter_1 : decode cX7_stateAfter 1 = .ok (.iconst 2, 1) := by decide +kernel
theorem dX7_stateAfter_2 : decode cX7_stateAfter 2 = .ok (.if_icmp .ne 15, 3) := by decide +kernel
theorem dX7_stateAfter_5 : decode cX7_stateAfter 5 = .ok (.iload_n 0, 1) := by decide +kernel
theorem dX7_stateAfter_6 : decode cX7_stateAfter 6 = .ok (.bipush 59, 2) := by decide +kernel
theorem dX7_stateAfter_8 : decode cX7_stateAfter 8 = .ok (.if_icmp .ne 7, 3) := by decide +kernel
theorem dX7_stateAfter_11 : decode cX7_stateAfter 11 = .ok (.iconst 1, 1) := by decide +kernel
theorem dX7_stateAfter_12 : decode cX7_stateAfter 12 = .ok (.goto 4, 3) := by decide +kernel
theorem dX7_stateAfter_15 : decode cX7_stateAfter 15 = .ok (.iconst 5, 1) := by decide +kernel
theorem dX7_stateAfter_16 : decode cX7_stateAfter 16 = .ok (.ireturn, 1) := by decide +kernel
theorem dX7_stateAfter_17 : decode cX7_stateAfter 17 = .ok (.iload_n 1, 1) := by decide +kernel
theorem dX7_stateAfter_18 : decode cX7_stateAfter 18 = .ok (.iconst 3, 1) := by decide +kernel
theorem dX7_stateAfter_19 : decode cX7_stateAfter 19 = .ok (.if_icmp .ne 16, 3) := by decide +kernel
theorem dX7_stateAfter_22 : decode cX7_stateAfter 22 = .ok (.iload_n 0, 1) := by decide +kernel
theorem dX7_stateAfter_23 : decode cX7_stateAfter 23 = .ok (.invokestatic 23, 3) := by decide +kernel
theorem dX7_stateAfter_26 : decode cX7_stateAfter 26 = .ok (.ifCond .eq 7, 3) := by decide +kernel
theorem dX7_stateAfter_29 : decode cX7_stateAfter 29 = .ok (.iconst 4, 1) := by decide +kernel
theorem dX7_stateAfter_30 : decode cX7_stateAfter 30 = .ok (.goto 4, 3) := by decide +kernel
theorem dX7_stateAfter_33 : decode cX7_stateAfter 33 = .ok (.iconst 5, 1) := by decide +kernel
theorem dX7_stateAfter_34 : decode cX7_stateAfter 34 = .ok (.ireturn, 1) := by decide +kernel
theorem dX7_stateAfter_35 : decode cX7_stateAfter 35 = .ok (.iload_n 1, 1) := by decide +kernel
theorem dX7_stateAfter_36 : decode cX7_stateAfter 36 = .ok (.iconst 4, 1) := by decide +kernel
theorem dX7_stateAfter_37 : decode cX7_stateAfter 37 = .ok (.if_icmp .ne 26, 3) := by decide +kernel
theorem dX7_stateAfter_40 : decode cX7_stateAfter 40 = .ok (.iload_n 0, 1) := by decide +kernel
theorem dX7_stateAfter_41 : decode cX7_stateAfter 41 = .ok (.bipush 59, 2) := by decide +kernel
theorem dX7_stateAfter_43 : decode cX7_stateAfter 43 = .ok (.if_icmp .ne 7, 3) := by decide +kernel
theorem dX7_stateAfter_46 : decode cX7_stateAfter 46 = .ok (.iconst 1, 1) := by decide +kernel
theorem dX7_stateAfter_47 : decode cX7_stateAfter 47 = .ok (.goto 15, 3) := by decide +kernel
theorem dX7_stateAfter_50 : decode cX7_stateAfter 50 = .ok (.iload_n 0, 1) := by decide +kernel
theorem dX7_stateAfter_51 : decode cX7_stateAfter 51 = .ok (.invokestatic 23, 3) := by decide +kernel
theorem dX7_stateAfter_54 : decode cX7_stateAfter 54 = .ok (.ifCond .eq 7, 3) := by decide +kernel
theorem dX7_stateAfter_57 : decode cX7_stateAfter 57 = .ok (.iconst 2, 1) := by decide +kernel
theorem dX7_stateAfter_58 : decode cX7_stateAfter 58 = .ok (.goto 4, 3) := by decide +kernel
theorem dX7_stateAfter_61 : decode cX7_stateAfter 61 = .ok (.iconst 5, 1) := by decide +kernel
theorem dX7_stateAfter_62 : decode cX7_stateAfter 62 = .ok (.ireturn, 1) := by decide +kernel
theorem dX7_stateAfter_63 : decode cX7_stateAfter 63 = .ok (.iload_n 0, 1) := by decide +kernel
theorem dX7_stateAfter_64 : decode cX7_stateAfter 64 = .ok (.bipush 41, 2) := by decide +kernel
theorem dX7_stateAfter_66 : decode cX7_stateAfter 66 = .ok (.if_icmp .ne 18, 3) := by decide +kernel
theorem dX7_stateAfter_69 : decode cX7_stateAfter 69 = .ok (.iload_n 1, 1) := by decide +kernel
theorem dX7_stateAfter_70 : decode cX7_stateAfter 70 = .ok (.iconst 1, 1) := by decide +kernel
theorem dX7_stateAfter_71 : decode cX7_stateAfter 71 = .ok (.if_icmp .ne 11, 3) := by decide +kernel
theorem dX7_stateAfter_74 : decode cX7_stateAfter 74 = .ok (.iload_n 2, 1) := by decide +kernel
theorem dX7_stateAfter_75 : decode cX7_stateAfter 75 = .ok (.ifCond .le 7, 3) := by decide +kernel
theorem dX7_stateAfter_78 : decode cX7_stateAfter 78 = .ok (.iconst 1, 1) := by decide +kernel
theorem dX7_stateAfter_79 : decode cX7_stateAfter 79 = .ok (.goto 4, 3) := by decide +kernel
theorem dX7_stateAfter_82 : decode cX7_stateAfter 82 = .ok (.iconst 5, 1) := by decide +kernel
theorem dX7_stateAfter_83 : decode cX7_stateAfter 83 = .ok (.ireturn, 1) := by decide +kernel
theorem dX7_stateAfter_84 : decode cX7_stateAfter 84 = .ok (.iload_n 0, 1) := by decide +kernel
theorem dX7_stateAfter_85 : decode cX7_stateAfter 85 = .ok (.bipush 40, 2) := by decide +kernel
theorem dX7_stateAfter_87 : decode cX7_stateAfter 87 = .ok (.if_icmp .ne 5, 3) := by decide +kernel
theorem dX7_stateAfter_90 : decode cX7_stateAfter 90 = .ok (.iconst 0, 1) := by decide +kernel
theorem dX7_stateAfter_91 : decode cX7_stateAfter 91 = .ok (.ireturn, 1) := by decide +kernel
theorem dX7_stateAfter_92 : decode cX7_stateAfter 92 = .ok (.iload_n 0, 1) := by decide +kernel
theorem dX7_stateAfter_93 : decode cX7_stateAfter 93 = .ok (.bipush 101, 2) := by decide +kernel
theorem dX7_stateAfter_95 : decode cX7_stateAfter 95 = .ok (.if_icmp .ne 5, 3) := by decide +kernel
theorem dX7_stateAfter_98 : decode cX7_stateAfter 98 = .ok (.iconst 3, 1) := by decide +kernel
theorem dX7_stateAfter_99 : decode cX7_stateAfter 99 = .ok (.ireturn, 1) := by decide +kernel
theorem dX7_stateAfter_100 : decode cX7_stateAfter 100 = .ok (.ldc 27, 2) := by decide +kernel
theorem dX7_stateAfter_102 : decode cX7_stateAfter 102 = .ok (.iload_n 0, 1) := by decide +kernel
theorem dX7_stateAfter_103 : decode cX7_stateAfter 103 = .ok (.invokevirtual 29, 3) := by decide +kernel
theorem dX7_stateAfter_106 : decode cX7_stateAfter 106 = .ok (.ifCond .lt 7, 3) := by decide +kernel
theorem dX7_stateAfter_109 : decode cX7_stateAfter 109 = .ok (.iconst 2, 1) := by decide +kernel
theorem dX7_stateAfter_110 : decode cX7_stateAfter 110 = .ok (.goto 4, 3) := by decide +kernel
theorem dX7_stateAfter_113 : decode cX7_stateAfter 113 = .ok (.iconst 5, 1) := by decide +kernel
theorem dX7_stateAfter_114 : decode cX7_stateAfter 114 = .ok (.ireturn, 1) := by decide +kernel
theorem dX7_firstFault_0 : decode cX7_firstFault 0 = .ok (.iconst 0, 1) := by decide +kernel
theorem dX7_firstFault_1 : decode cX7_firstFault 1 = .ok (.istore_n 1, 1) := by decide +kernel
theorem dX7_firstFault_2 : decode cX7_firstFault 2 = .ok (.iconst 0, 1) := by decide +kernel
theorem dX7_firstFault_3 : decode cX7_firstFault 3 = .ok (.istore_n 2, 1) := by decide +kernel
theorem dX7_firstFault_4 : decode cX7_firstFault 4 = .ok (.iconst 0, 1) := by decide +kernel
theorem dX7_firstFault_5 : decode cX7_firstFault 5 = .ok (.istore_n 3, 1) := by decide +kernel
theorem dX7_firstFault_6 : decode cX7_firstFault 6 = .ok (.iload_n 3, 1) := by decide +kernel
theorem dX7_firstFault_7 : decode cX7_firstFault 7 = .ok (.aload_n 0, 1) := by decide +kernel
theorem dX7_firstFault_8 : decode cX7_firstFault 8 = .ok (.getfield 15, 3) := by decide +kernel
theorem dX7_firstFault_11 : decode cX7_firstFault 11 = .ok (.if_icmp .ge 55, 3) := by decide +kernel
theorem dX7_firstFault_14 : decode cX7_firstFault 14 = .ok (.aload_n 0, 1) := by decide +kernel
theorem dX7_firstFault_15 : decode cX7_firstFault 15 = .ok (.getfield 9, 3) := by decide +kernel
theorem dX7_firstFault_18 : decode cX7_firstFault 18 = .ok (.iload_n 3, 1) := by decide +kernel
theorem dX7_firstFault_19 : decode cX7_firstFault 19 = .ok (.caload, 1) := by decide +kernel
theorem dX7_firstFault_20 : decode cX7_firstFault 20 = .ok (.istore 4, 2) := by decide +kernel
theorem dX7_firstFault_22 : decode cX7_firstFault 22 = .ok (.iload 4, 2) := by decide +kernel
theorem dX7_firstFault_24 : decode cX7_firstFault 24 = .ok (.iload_n 1, 1) := by decide +kernel
theorem dX7_firstFault_25 : decode cX7_firstFault 25 = .ok (.iload_n 2, 1) := by decide +kernel
theorem dX7_firstFault_26 : decode cX7_firstFault 26 = .ok (.invokestatic 19, 3) := by decide +kernel
theorem dX7_firstFault_29 : decode cX7_firstFault 29 = .ok (.istore_n 1, 1) := by decide +kernel
theorem dX7_firstFault_30 : decode cX7_firstFault 30 = .ok (.iload_n 1, 1) := by decide +kernel
theorem dX7_firstFault_31 : decode cX7_firstFault 31 = .ok (.iconst 5, 1) := by decide +kernel
theorem dX7_firstFault_32 : decode cX7_firstFault 32 = .ok (.if_icmp .ne 5, 3) := by decide +kernel
theorem dX7_firstFault_35 : decode cX7_firstFault 35 = .ok (.iload_n 3, 1) := by decide +kernel
theorem dX7_firstFault_36 : decode cX7_firstFault 36 = .ok (.ireturn, 1) := by decide +kernel
theorem dX7_firstFault_37 : decode cX7_firstFault 37 = .ok (.iload 4, 2) := by decide +kernel
theorem dX7_firstFault_39 : decode cX7_firstFault 39 = .ok (.bipush 40, 2) := by decide +kernel
theorem dX7_firstFault_41 : decode cX7_firstFault 41 = .ok (.if_icmp .ne 9, 3) := by decide +kernel
theorem dX7_firstFault_44 : decode cX7_firstFault 44 = .ok (.iinc 2 1, 3) := by decide +kernel
theorem dX7_firstFault_47 : decode cX7_firstFault 47 = .ok (.goto 13, 3) := by decide +kernel
theorem dX7_firstFault_50 : decode cX7_firstFault 50 = .ok (.iload 4, 2) := by decide +kernel
theorem dX7_firstFault_52 : decode cX7_firstFault 52 = .ok (.bipush 41, 2) := by decide +kernel
theorem dX7_firstFault_54 : decode cX7_firstFault 54 = .ok (.if_icmp .ne 6, 3) := by decide +kernel
theorem dX7_firstFault_57 : decode cX7_firstFault 57 = .ok (.iinc 2 (-1), 3) := by decide +kernel
theorem dX7_firstFault_60 : decode cX7_firstFault 60 = .ok (.iinc 3 1, 3) := by decide +kernel
theorem dX7_firstFault_63 : decode cX7_firstFault 63 = .ok (.goto (-57), 3) := by decide +kernel
theorem dX7_firstFault_66 : decode cX7_firstFault 66 = .ok (.iload_n 1, 1) := by decide +kernel
theorem dX7_firstFault_67 : decode cX7_firstFault 67 = .ok (.iconst 1, 1) := by decide +kernel
theorem dX7_firstFault_68 : decode cX7_firstFault 68 = .ok (.if_icmp .ne 11, 3) := by decide +kernel
theorem dX7_firstFault_71 : decode cX7_firstFault 71 = .ok (.iload_n 2, 1) := by decide +kernel
theorem dX7_firstFault_72 : decode cX7_firstFault 72 = .ok (.ifCond .ne 7, 3) := by decide +kernel
theorem dX7_firstFault_75 : decode cX7_firstFault 75 = .ok (.iconst (-1), 1) := by decide +kernel
theorem dX7_firstFault_76 : decode cX7_firstFault 76 = .ok (.goto 7, 3) := by decide +kernel
theorem dX7_firstFault_79 : decode cX7_firstFault 79 = .ok (.aload_n 0, 1) := by decide +kernel
theorem dX7_firstFault_80 : decode cX7_firstFault 80 = .ok (.getfield 15, 3) := by decide +kernel
theorem dX7_firstFault_83 : decode cX7_firstFault 83 = .ok (.ireturn, 1) := by decide +kernel
theorem dX9_fault_0 : decode cX9_fault 0 = .ok (.aload_n 0, 1) := by decide +kernel
theorem dX9_fault_1 : decode cX9_fault 1 = .ok (.getfield 19, 3) := by decide +kernel
theorem dX9_fault_4 : decode cX9_fault 4 = .ok (.invokevirtual 134, 3) := by decide +kernel
theorem dX9_fault_7 : decode cX9_fault 7 = .ok (.ireturn, 1) := by decide +kernel
theorem dX5_addStep_0 : decode cX5_addStep 0 = .ok (.aload_n 0, 1) := by decide +kernel
theorem dX5_addStep_1 : decode cX5_addStep 1 = .ok (.getfield 29, 3) := by decide +kernel
theorem dX5_addStep_4 : decode cX5_addStep 4 = .ok (.istore_n 3, 1) := by decide +kernel
theorem dX5_addStep_5 : decode cX5_addStep 5 = .ok (.iload_n 3, 1) := by decide +kernel
theorem dX5_addStep_6 : decode cX5_addStep 6 = .ok (.bipush 24, 2) := by decide +kernel
theorem dX5_addStep_8 : decode cX5_addStep 8 = .ok (.if_icmp .lt 5, 3) := by decide +kernel
theorem dX5_addStep_11 : decode cX5_addStep 11 = .ok (.iload_n 2, 1) := by decide +kernel
theorem dX5_addStep_12 : decode cX5_addStep 12 = .ok (.ireturn, 1) := by decide +kernel
theorem dX5_addStep_13 : decode cX5_addStep 13 = .ok (.aload_n 0, 1) := by decide +kernel
theorem dX5_addStep_14 : decode cX5_addStep 14 = .ok (.dup, 1) := by decide +kernel
theorem dX5_addStep_15 : decode cX5_addStep 15 = .ok (.getfield 29, 3) := by decide +kernel
theorem dX5_addStep_18 : decode cX5_addStep 18 = .ok (.iconst 1, 1) := by decide +kernel
theorem dX5_addStep_19 : decode cX5_addStep 19 = .ok (.iadd, 1) := by decide +kernel
theorem dX5_addStep_20 : decode cX5_addStep 20 = .ok (.putfield 29, 3) := by decide +kernel
theorem dX5_addStep_23 : decode cX5_addStep 23 = .ok (.aload_n 0, 1) := by decide +kernel
theorem dX5_addStep_24 : decode cX5_addStep 24 = .ok (.getfield 15, 3) := by decide +kernel
theorem dX5_addStep_27 : decode cX5_addStep 27 = .ok (.iload_n 3, 1) := by decide +kernel
theorem dX5_addStep_28 : decode cX5_addStep 28 = .ok (.iload_n 1, 1) := by decide +kernel
theorem dX5_addStep_29 : decode cX5_addStep 29 = .ok (.castore, 1) := by decide +kernel
theorem dX5_addStep_30 : decode cX5_addStep 30 = .ok (.aload_n 0, 1) := by decide +kernel
theorem dX5_addStep_31 : decode cX5_addStep 31 = .ok (.getfield 18, 3) := by decide +kernel
theorem dX5_addStep_34 : decode cX5_addStep 34 = .ok (.iload_n 3, 1) := by decide +kernel
theorem dX5_addStep_35 : decode cX5_addStep 35 = .ok (.iload_n 1, 1) := by decide +kernel
theorem dX5_addStep_36 : decode cX5_addStep 36 = .ok (.bipush 40, 2) := by decide +kernel
theorem dX5_addStep_38 : decode cX5_addStep 38 = .ok (.if_icmp .eq 9, 3) := by decide +kernel
theorem dX5_addStep_41 : decode cX5_addStep 41 = .ok (.iload_n 1, 1) := by decide +kernel
theorem dX5_addStep_42 : decode cX5_addStep 42 = .ok (.bipush 41, 2) := by decide +kernel
theorem dX5_addStep_44 : decode cX5_addStep 44 = .ok (.if_icmp .ne 7, 3) := by decide +kernel
theorem dX5_addStep_47 : decode cX5_addStep 47 = .ok (.iload_n 2, 1) := by decide +kernel
theorem dX5_addStep_48 : decode cX5_addStep 48 = .ok (.goto 4, 3) := by decide +kernel
theorem dX5_addStep_51 : decode cX5_addStep 51 = .ok (.iconst 0, 1) := by decide +kernel
theorem dX5_addStep_52 : decode cX5_addStep 52 = .ok (.iastore, 1) := by decide +kernel
theorem dX5_addStep_53 : decode cX5_addStep 53 = .ok (.iload_n 1, 1) := by decide +kernel
theorem dX5_addStep_54 : decode cX5_addStep 54 = .ok (.bipush 40, 2) := by decide +kernel
theorem dX5_addStep_56 : decode cX5_addStep 56 = .ok (.if_icmp .ne 5, 3) := by decide +kernel
theorem dX5_addStep_59 : decode cX5_addStep 59 = .ok (.iload_n 3, 1) := by decide +kernel
theorem dX5_addStep_60 : decode cX5_addStep 60 = .ok (.ireturn, 1) := by decide +kernel
theorem dX5_addStep_61 : decode cX5_addStep 61 = .ok (.iload_n 1, 1) := by decide +kernel
theorem dX5_addStep_62 : decode cX5_addStep 62 = .ok (.bipush 41, 2) := by decide +kernel
theorem dX5_addStep_64 : decode cX5_addStep 64 = .ok (.if_icmp .ne 16, 3) := by decide +kernel
theorem dX5_addStep_67 : decode cX5_addStep 67 = .ok (.iload_n 2, 1) := by decide +kernel
theorem dX5_addStep_68 : decode cX5_addStep 68 = .ok (.ifCond .lt 12, 3) := by decide +kernel
theorem dX5_addStep_71 : decode cX5_addStep 71 = .ok (.aload_n 0, 1) := by decide +kernel
theorem dX5_addStep_72 : decode cX5_addStep 72 = .ok (.getfield 18, 3) := by decide +kernel
theorem dX5_addStep_75 : decode cX5_addStep 75 = .ok (.iload_n 2, 1) := by decide +kernel
theorem dX5_addStep_76 : decode cX5_addStep 76 = .ok (.iaload, 1) := by decide +kernel
theorem dX5_addStep_77 : decode cX5_addStep 77 = .ok (.goto 4, 3) := by decide +kernel
theorem dX5_addStep_80 : decode cX5_addStep 80 = .ok (.iload_n 2, 1) := by decide +kernel
theorem dX5_addStep_81 : decode cX5_addStep 81 = .ok (.ireturn, 1) := by decide +kernel
theorem dX5_take_0 : decode cX5_take 0 = .ok (.aload_n 0, 1) := by decide +kernel
theorem dX5_take_1 : decode cX5_take 1 = .ok (.aload_n 1, 1) := by decide +kernel
theorem dX5_take_2 : decode cX5_take 2 = .ok (.getfield 22, 3) := by decide +kernel
theorem dX5_take_5 : decode cX5_take 5 = .ok (.putfield 28, 3) := by decide +kernel
theorem dX5_take_8 : decode cX5_take 8 = .ok (.aload_n 0, 1) := by decide +kernel
theorem dX5_take_9 : decode cX5_take 9 = .ok (.iconst 0, 1) := by decide +kernel
theorem dX5_take_10 : decode cX5_take 10 = .ok (.putfield 29, 3) := by decide +kernel
theorem dX5_take_13 : decode cX5_take 13 = .ok (.aload_n 0, 1) := by decide +kernel
theorem dX5_take_14 : decode cX5_take 14 = .ok (.iconst 0, 1) := by decide +kernel
theorem dX5_take_15 : decode cX5_take 15 = .ok (.putfield 32, 3) := by decide +kernel
theorem dX5_take_18 : decode cX5_take 18 = .ok (.iconst (-1), 1) := by decide +kernel
theorem dX5_take_19 : decode cX5_take 19 = .ok (.istore_n 2, 1) := by decide +kernel
theorem dX5_take_20 : decode cX5_take 20 = .ok (.iconst 0, 1) := by decide +kernel
theorem dX5_take_21 : decode cX5_take 21 = .ok (.istore_n 3, 1) := by decide +kernel
theorem dX5_take_22 : decode cX5_take 22 = .ok (.iload_n 3, 1) := by decide +kernel
theorem dX5_take_23 : decode cX5_take 23 = .ok (.aload_n 0, 1) := by decide +kernel
theorem dX5_take_24 : decode cX5_take 24 = .ok (.getfield 28, 3) := by decide +kernel
theorem dX5_take_27 : decode cX5_take 27 = .ok (.if_icmp .ge 102, 3) := by decide +kernel
theorem dX5_take_30 : decode cX5_take 30 = .ok (.aload_n 1, 1) := by decide +kernel
theorem dX5_take_31 : decode cX5_take 31 = .ok (.getfield 35, 3) := by decide +kernel
theorem dX5_take_34 : decode cX5_take 34 = .ok (.iload_n 3, 1) := by decide +kernel
theorem dX5_take_35 : decode cX5_take 35 = .ok (.caload, 1) := by decide +kernel
theorem dX5_take_36 : decode cX5_take 36 = .ok (.istore 4, 2) := by decide +kernel
theorem dX5_take_38 : decode cX5_take 38 = .ok (.aload_n 0, 1) := by decide +kernel
theorem dX5_take_39 : decode cX5_take 39 = .ok (.getfield 9, 3) := by decide +kernel
theorem dX5_take_42 : decode cX5_take 42 = .ok (.iload_n 3, 1) := by decide +kernel
theorem dX5_take_43 : decode cX5_take 43 = .ok (.iload 4, 2) := by decide +kernel
theorem dX5_take_45 : decode cX5_take 45 = .ok (.castore, 1) := by decide +kernel
theorem dX5_take_46 : decode cX5_take 46 = .ok (.iload 4, 2) := by decide +kernel
theorem dX5_take_48 : decode cX5_take 48 = .ok (.bipush 59, 2) := by decide +kernel
theorem dX5_take_50 : decode cX5_take 50 = .ok (.if_icmp .ne 16, 3) := by decide +kernel
theorem dX5_take_53 : decode cX5_take 53 = .ok (.aload_n 0, 1) := by decide +kernel
theorem dX5_take_54 : decode cX5_take 54 = .ok (.dup, 1) := by decide +kernel
theorem dX5_take_55 : decode cX5_take 55 = .ok (.getfield 32, 3) := by decide +kernel
theorem dX5_take_58 : decode cX5_take 58 = .ok (.iconst 1, 1) := by decide +kernel
theorem dX5_take_59 : decode cX5_take 59 = .ok (.iadd, 1) := by decide +kernel
theorem dX5_take_60 : decode cX5_take 60 = .ok (.putfield 32, 3) := by decide +kernel
theorem dX5_take_63 : decode cX5_take 63 = .ok (.goto 60, 3) := by decide +kernel
theorem dX5_take_66 : decode cX5_take 66 = .ok (.iload 4, 2) := by decide +kernel
theorem dX5_take_68 : decode cX5_take 68 = .ok (.invokestatic 36, 3) := by decide +kernel
theorem dX5_take_71 : decode cX5_take 71 = .ok (.ifCond .ne 14, 3) := by decide +kernel
theorem dX5_take_74 : decode cX5_take 74 = .ok (.aload_n 0, 1) := by decide +kernel
theorem dX5_take_75 : decode cX5_take 75 = .ok (.iload 4, 2) := by decide +kernel
theorem dX5_take_77 : decode cX5_take 77 = .ok (.iload_n 2, 1) := by decide +kernel
theorem dX5_take_78 : decode cX5_take 78 = .ok (.invokevirtual 40, 3) := by decide +kernel
theorem dX5_take_81 : decode cX5_take 81 = .ok (.istore_n 2, 1) := by decide +kernel
theorem dX5_take_82 : decode cX5_take 82 = .ok (.goto 41, 3) := by decide +kernel
theorem dX5_take_85 : decode cX5_take 85 = .ok (.aload_n 0, 1) := by decide +kernel
theorem dX5_take_86 : decode cX5_take 86 = .ok (.getfield 29, 3) := by decide +kernel
theorem dX5_take_89 : decode cX5_take 89 = .ok (.ifCond .le 34, 3) := by decide +kernel
theorem dX5_take_92 : decode cX5_take 92 = .ok (.aload_n 0, 1) := by decide +kernel
theorem dX5_take_93 : decode cX5_take 93 = .ok (.getfield 18, 3) := by decide +kernel
theorem dX5_take_96 : decode cX5_take 96 = .ok (.aload_n 0, 1) := by decide +kernel
theorem dX5_take_97 : decode cX5_take 97 = .ok (.getfield 29, 3) := by decide +kernel
theorem dX5_take_100 : decode cX5_take 100 = .ok (.iconst 1, 1) := by decide +kernel
theorem dX5_take_101 : decode cX5_take 101 = .ok (.isub, 1) := by decide +kernel
theorem dX5_take_102 : decode cX5_take 102 = .ok (.bipush 10, 2) := by decide +kernel
theorem dX5_take_104 : decode cX5_take 104 = .ok (.aload_n 0, 1) := by decide +kernel
theorem dX5_take_105 : decode cX5_take 105 = .ok (.getfield 18, 3) := by decide +kernel
theorem dX5_take_108 : decode cX5_take 108 = .ok (.aload_n 0, 1) := by decide +kernel
theorem dX5_take_109 : decode cX5_take 109 = .ok (.getfield 29, 3) := by decide +kernel
theorem dX5_take_112 : decode cX5_take 112 = .ok (.iconst 1, 1) := by decide +kernel
theorem dX5_take_113 : decode cX5_take 113 = .ok (.isub, 1) := by decide +kernel
theorem dX5_take_114 : decode cX5_take 114 = .ok (.iaload, 1) := by decide +kernel
theorem dX5_take_115 : decode cX5_take 115 = .ok (.imul, 1) := by decide +kernel
theorem dX5_take_116 : decode cX5_take 116 = .ok (.iload 4, 2) := by decide +kernel
theorem dX5_take_118 : decode cX5_take 118 = .ok (.bipush 48, 2) := by decide +kernel
theorem dX5_take_120 : decode cX5_take 120 = .ok (.isub, 1) := by decide +kernel
theorem dX5_take_121 : decode cX5_take 121 = .ok (.iadd, 1) := by decide +kernel
theorem dX5_take_122 : decode cX5_take 122 = .ok (.iastore, 1) := by decide +kernel
theorem dX5_take_123 : decode cX5_take 123 = .ok (.iinc 3 1, 3) := by decide +kernel
theorem dX5_take_126 : decode cX5_take 126 = .ok (.goto (-104), 3) := by decide +kernel
theorem dX5_take_129 : decode cX5_take 129 = .ok (.return_, 1) := by decide +kernel
theorem dX9_rule_0 : decode cX9_rule 0 = .ok (.aload_n 0, 1) := by decide +kernel
theorem dX9_rule_1 : decode cX9_rule 1 = .ok (.getfield 19, 3) := by decide +kernel
theorem dX9_rule_4 : decode cX9_rule 4 = .ok (.invokevirtual 134, 3) := by decide +kernel
theorem dX9_rule_7 : decode cX9_rule 7 = .ok (.iconst (-1), 1) := by decide +kernel
theorem dX9_rule_8 : decode cX9_rule 8 = .ok (.if_icmp .eq 13, 3) := by decide +kernel
theorem dX9_rule_11 : decode cX9_rule 11 = .ok (.new 80, 3) := by decide +kernel
theorem dX9_rule_14 : decode cX9_rule 14 = .ok (.dup, 1) := by decide +kernel
theorem dX9_rule_15 : decode cX9_rule 15 = .ok (.ldc 137, 2) := by decide +kernel
theorem dX9_rule_17 : decode cX9_rule 17 = .ok (.invokespecial 84, 3) := by decide +kernel
theorem dX9_rule_20 : decode cX9_rule 20 = .ok (.athrow, 1) := by decide +kernel
theorem dX9_rule_21 : decode cX9_rule 21 = .ok (.aload_n 0, 1) := by decide +kernel
theorem dX9_rule_22 : decode cX9_rule 22 = .ok (.getfield 139, 3) := by decide +kernel
theorem dX9_rule_25 : decode cX9_rule 25 = .ok (.bipush 8, 2) := by decide +kernel
theorem dX9_rule_27 : decode cX9_rule 27 = .ok (.if_icmp .lt 13, 3) := by decide +kernel
theorem dX9_rule_30 : decode cX9_rule 30 = .ok (.new 89, 3) := by decide +kernel
theorem dX9_rule_33 : decode cX9_rule 33 = .ok (.dup, 1) := by decide +kernel
theorem dX9_rule_34 : decode cX9_rule 34 = .ok (.ldc 142, 2) := by decide +kernel
theorem dX9_rule_36 : decode cX9_rule 36 = .ok (.invokespecial 93, 3) := by decide +kernel
theorem dX9_rule_39 : decode cX9_rule 39 = .ok (.athrow, 1) := by decide +kernel
theorem dX9_rule_40 : decode cX9_rule 40 = .ok (.aload_n 0, 1) := by decide +kernel
theorem dX9_rule_41 : decode cX9_rule 41 = .ok (.getfield 25, 3) := by decide +kernel
theorem dX9_rule_44 : decode cX9_rule 44 = .ok (.aload_n 0, 1) := by decide +kernel
theorem dX9_rule_45 : decode cX9_rule 45 = .ok (.getfield 139, 3) := by decide +kernel
theorem dX9_rule_48 : decode cX9_rule 48 = .ok (.aaload, 1) := by decide +kernel
theorem dX9_rule_49 : decode cX9_rule 49 = .ok (.aload_n 0, 1) := by decide +kernel
theorem dX9_rule_50 : decode cX9_rule 50 = .ok (.getfield 19, 3) := by decide +kernel
theorem dX9_rule_53 : decode cX9_rule 53 = .ok (.invokevirtual 144, 3) := by decide +kernel
theorem dX9_rule_56 : decode cX9_rule 56 = .ok (.aload_n 0, 1) := by decide +kernel
theorem dX9_rule_57 : decode cX9_rule 57 = .ok (.dup, 1) := by decide +kernel
theorem dX9_rule_58 : decode cX9_rule 58 = .ok (.getfield 139, 3) := by decide +kernel
theorem dX9_rule_61 : decode cX9_rule 61 = .ok (.iconst 1, 1) := by decide +kernel
theorem dX9_rule_62 : decode cX9_rule 62 = .ok (.iadd, 1) := by decide +kernel
theorem dX9_rule_63 : decode cX9_rule 63 = .ok (.putfield 139, 3) := by decide +kernel
theorem dX9_rule_66 : decode cX9_rule 66 = .ok (.aload_n 0, 1) := by decide +kernel
theorem dX9_rule_67 : decode cX9_rule 67 = .ok (.getfield 139, 3) := by decide +kernel
theorem dX9_rule_70 : decode cX9_rule 70 = .ok (.iconst 1, 1) := by decide +kernel
theorem dX9_rule_71 : decode cX9_rule 71 = .ok (.isub, 1) := by decide +kernel
theorem dX9_rule_72 : decode cX9_rule 72 = .ok (.ireturn, 1) := by decide +kernel
theorem dX0_gather_0 : decode cX0_gather 0 = .ok (.aload_n 0, 1) := by decide +kernel
theorem dX0_gather_1 : decode cX0_gather 1 = .ok (.iconst 0, 1) := by decide +kernel
theorem dX0_gather_2 : decode cX0_gather 2 = .ok (.putfield 57, 3) := by decide +kernel
theorem dX0_gather_5 : decode cX0_gather 5 = .ok (.iconst 0, 1) := by decide +kernel
theorem dX0_gather_6 : decode cX0_gather 6 = .ok (.istore_n 2, 1) := by decide +kernel
theorem dX0_gather_7 : decode cX0_gather 7 = .ok (.iload_n 2, 1) := by decide +kernel
theorem dX0_gather_8 : decode cX0_gather 8 = .ok (.aload_n 0, 1) := by decide +kernel
theorem dX0_gather_9 : decode cX0_gather 9 = .ok (.getfield 41, 3) := by decide +kernel
theorem dX0_gather_12 : decode cX0_gather 12 = .ok (.if_icmp .ge 47, 3) := by decide +kernel
theorem dX0_gather_15 : decode cX0_gather 15 = .ok (.aload_n 0, 1) := by decide +kernel
theorem dX0_gather_16 : decode cX0_gather 16 = .ok (.getfield 9, 3) := by decide +kernel
theorem dX0_gather_19 : decode cX0_gather 19 = .ok (.iload_n 2, 1) := by decide +kernel
theorem dX0_gather_20 : decode cX0_gather 20 = .ok (.iaload, 1) := by decide +kernel
theorem dX0_gather_21 : decode cX0_gather 21 = .ok (.iload_n 1, 1) := by decide +kernel
theorem dX0_gather_22 : decode cX0_gather 22 = .ok (.if_icmp .ne 31, 3) := by decide +kernel
theorem dX0_gather_25 : decode cX0_gather 25 = .ok (.aload_n 0, 1) := by decide +kernel
theorem dX0_gather_26 : decode cX0_gather 26 = .ok (.iload_n 2, 1) := by decide +kernel
theorem dX0_gather_27 : decode cX0_gather 27 = .ok (.invokevirtual 60, 3) := by decide +kernel
theorem dX0_gather_30 : decode cX0_gather 30 = .ok (.ifCond .ne 23, 3) := by decide +kernel
theorem dX0_gather_33 : decode cX0_gather 33 = .ok (.aload_n 0, 1) := by decide +kernel
theorem dX0_gather_34 : decode cX0_gather 34 = .ok (.getfield 34, 3) := by decide +kernel
theorem dX0_gather_37 : decode cX0_gather 37 = .ok (.aload_n 0, 1) := by decide +kernel
theorem dX0_gather_38 : decode cX0_gather 38 = .ok (.getfield 57, 3) := by decide +kernel
theorem dX0_gather_41 : decode cX0_gather 41 = .ok (.iload_n 2, 1) := by decide +kernel
theorem dX0_gather_42 : decode cX0_gather 42 = .ok (.iastore, 1) := by decide +kernel
theorem dX0_gather_43 : decode cX0_gather 43 = .ok (.aload_n 0, 1) := by decide +kernel
theorem dX0_gather_44 : decode cX0_gather 44 = .ok (.dup, 1) := by decide +kernel
theorem dX0_gather_45 : decode cX0_gather 45 = .ok (.getfield 57, 3) := by decide +kernel
theorem dX0_gather_48 : decode cX0_gather 48 = .ok (.iconst 1, 1) := by decide +kernel
theorem dX0_gather_49 : decode cX0_gather 49 = .ok (.iadd, 1) := by decide +kernel
theorem dX0_gather_50 : decode cX0_gather 50 = .ok (.putfield 57, 3) := by decide +kernel
theorem dX0_gather_53 : decode cX0_gather 53 = .ok (.iinc 2 1, 3) := by decide +kernel
theorem dX0_gather_56 : decode cX0_gather 56 = .ok (.goto (-49), 3) := by decide +kernel
theorem dX0_gather_59 : decode cX0_gather 59 = .ok (.return_, 1) := by decide +kernel
theorem dX1_begin_0 : decode cX1_begin 0 = .ok (.aload_n 0, 1) := by decide +kernel
theorem dX1_begin_1 : decode cX1_begin 1 = .ok (.iconst 0, 1) := by decide +kernel
theorem dX1_begin_2 : decode cX1_begin 2 = .ok (.putfield 19, 3) := by decide +kernel
theorem dX1_begin_5 : decode cX1_begin 5 = .ok (.aload_n 0, 1) := by decide +kernel
theorem dX1_begin_6 : decode cX1_begin 6 = .ok (.iconst 0, 1) := by decide +kernel
theorem dX1_begin_7 : decode cX1_begin 7 = .ok (.putfield 23, 3) := by decide +kernel
theorem dX1_begin_10 : decode cX1_begin 10 = .ok (.aload_n 0, 1) := by decide +kernel
theorem dX1_begin_11 : decode cX1_begin 11 = .ok (.iload_n 2, 1) := by decide +kernel
theorem dX1_begin_12 : decode cX1_begin 12 = .ok (.putfield 26, 3) := by decide +kernel
theorem dX1_begin_15 : decode cX1_begin 15 = .ok (.aload_n 0, 1) := by decide +kernel
theorem dX1_begin_16 : decode cX1_begin 16 = .ok (.iconst 1, 1) := by decide +kernel
theorem dX1_begin_17 : decode cX1_begin 17 = .ok (.iload_n 1, 1) := by decide +kernel
theorem dX1_begin_18 : decode cX1_begin 18 = .ok (.ishl, 1) := by decide +kernel
theorem dX1_begin_19 : decode cX1_begin 19 = .ok (.iconst 1, 1) := by decide +kernel
theorem dX1_begin_20 : decode cX1_begin 20 = .ok (.isub, 1) := by decide +kernel
theorem dX1_begin_21 : decode cX1_begin 21 = .ok (.putfield 29, 3) := by decide +kernel
theorem dX1_begin_24 : decode cX1_begin 24 = .ok (.aload_n 0, 1) := by decide +kernel
theorem dX1_begin_25 : decode cX1_begin 25 = .ok (.iconst 0, 1) := by decide +kernel
theorem dX1_begin_26 : decode cX1_begin 26 = .ok (.putfield 32, 3) := by decide +kernel
theorem dX1_begin_29 : decode cX1_begin 29 = .ok (.aload_n 0, 1) := by decide +kernel
theorem dX1_begin_30 : decode cX1_begin 30 = .ok (.bipush 108, 2) := by decide +kernel
theorem dX1_begin_32 : decode cX1_begin 32 = .ok (.putfield 35, 3) := by decide +kernel
theorem dX1_begin_35 : decode cX1_begin 35 = .ok (.return_, 1) := by decide +kernel
theorem dX1_remove_0 : decode cX1_remove 0 = .ok (.aload_n 0, 1) := by decide +kernel
theorem dX1_remove_1 : decode cX1_remove 1 = .ok (.dup, 1) := by decide +kernel
theorem dX1_remove_2 : decode cX1_remove 2 = .ok (.getfield 29, 3) := by decide +kernel
theorem dX1_remove_5 : decode cX1_remove 5 = .ok (.iconst 1, 1) := by decide +kernel
theorem dX1_remove_6 : decode cX1_remove 6 = .ok (.iload_n 1, 1) := by decide +kernel
theorem dX1_remove_7 : decode cX1_remove 7 = .ok (.ishl, 1) := by decide +kernel
theorem dX1_remove_8 : decode cX1_remove 8 = .ok (.iconst (-1), 1) := by decide +kernel
theorem dX1_remove_9 : decode cX1_remove 9 = .ok (.ixor, 1) := by decide +kernel
theorem dX1_remove_10 : decode cX1_remove 10 = .ok (.iand, 1) := by decide +kernel
theorem dX1_remove_11 : decode cX1_remove 11 = .ok (.putfield 29, 3) := by decide +kernel
theorem dX1_remove_14 : decode cX1_remove 14 = .ok (.iload_n 2, 1) := by decide +kernel
theorem dX1_remove_15 : decode cX1_remove 15 = .ok (.ifCond .eq 25, 3) := by decide +kernel
theorem dX1_remove_18 : decode cX1_remove 18 = .ok (.aload_n 0, 1) := by decide +kernel
theorem dX1_remove_19 : decode cX1_remove 19 = .ok (.dup, 1) := by decide +kernel
theorem dX1_remove_20 : decode cX1_remove 20 = .ok (.getfield 32, 3) := by decide +kernel
theorem dX1_remove_23 : decode cX1_remove 23 = .ok (.iconst 1, 1) := by decide +kernel
theorem dX1_remove_24 : decode cX1_remove 24 = .ok (.iload_n 1, 1) := by decide +kernel
theorem dX1_remove_25 : decode cX1_remove 25 = .ok (.ishl, 1) := by decide +kernel
theorem dX1_remove_26 : decode cX1_remove 26 = .ok (.ior, 1) := by decide +kernel
theorem dX1_remove_27 : decode cX1_remove 27 = .ok (.putfield 32, 3) := by decide +kernel
theorem dX1_remove_30 : decode cX1_remove 30 = .ok (.aload_n 0, 1) := by decide +kernel
theorem dX1_remove_31 : decode cX1_remove 31 = .ok (.dup, 1) := by decide +kernel
theorem dX1_remove_32 : decode cX1_remove 32 = .ok (.getfield 26, 3) := by decide +kernel
theorem dX1_remove_35 : decode cX1_remove 35 = .ok (.iconst 1, 1) := by decide +kernel
theorem dX1_remove_36 : decode cX1_remove 36 = .ok (.isub, 1) := by decide +kernel
theorem dX1_remove_37 : decode cX1_remove 37 = .ok (.putfield 26, 3) := by decide +kernel
theorem dX1_remove_40 : decode cX1_remove 40 = .ok (.return_, 1) := by decide +kernel
theorem dX1_hasBit_0 : decode cX1_hasBit 0 = .ok (.iload_n 0, 1) := by decide +kernel
theorem dX1_hasBit_1 : decode cX1_hasBit 1 = .ok (.iload_n 1, 1) := by decide +kernel
theorem dX1_hasBit_2 : decode cX1_hasBit 2 = .ok (.ishr, 1) := by decide +kernel
theorem dX1_hasBit_3 : decode cX1_hasBit 3 = .ok (.iconst 1, 1) := by decide +kernel
theorem dX1_hasBit_4 : decode cX1_hasBit 4 = .ok (.iand, 1) := by decide +kernel
theorem dX1_hasBit_5 : decode cX1_hasBit 5 = .ok (.ifCond .eq 7, 3) := by decide +kernel
theorem dX1_hasBit_8 : decode cX1_hasBit 8 = .ok (.iconst 1, 1) := by decide +kernel
theorem dX1_hasBit_9 : decode cX1_hasBit 9 = .ok (.goto 4, 3) := by decide +kernel
theorem dX1_hasBit_12 : decode cX1_hasBit 12 = .ok (.iconst 0, 1) := by decide +kernel
theorem dX1_hasBit_13 : decode cX1_hasBit 13 = .ok (.ireturn, 1) := by decide +kernel
theorem dX1_lowest_0 : decode cX1_lowest 0 = .ok (.iconst 0, 1) := by decide +kernel
theorem dX1_lowest_1 : decode cX1_lowest 1 = .ok (.istore_n 1, 1) := by decide +kernel
theorem dX1_lowest_2 : decode cX1_lowest 2 = .ok (.iload_n 1, 1) := by decide +kernel
theorem dX1_lowest_3 : decode cX1_lowest 3 = .ok (.bipush 6, 2) := by decide +kernel
theorem dX1_lowest_5 : decode cX1_lowest 5 = .ok (.if_icmp .ge 19, 3) := by decide +kernel
theorem dX1_lowest_8 : decode cX1_lowest 8 = .ok (.iload_n 0, 1) := by decide +kernel
theorem dX1_lowest_9 : decode cX1_lowest 9 = .ok (.iload_n 1, 1) := by decide +kernel
theorem dX1_lowest_10 : decode cX1_lowest 10 = .ok (.invokestatic 91, 3) := by decide +kernel
theorem dX1_lowest_13 : decode cX1_lowest 13 = .ok (.ifCond .eq 5, 3) := by decide +kernel
theorem dX1_lowest_16 : decode cX1_lowest 16 = .ok (.iload_n 1, 1) := by decide +kernel
theorem dX1_lowest_17 : decode cX1_lowest 17 = .ok (.ireturn, 1) := by decide +kernel
theorem dX1_lowest_18 : decode cX1_lowest 18 = .ok (.iinc 1 1, 3) := by decide +kernel
theorem dX1_lowest_21 : decode cX1_lowest 21 = .ok (.goto (-19), 3) := by decide +kernel
theorem dX1_lowest_24 : decode cX1_lowest 24 = .ok (.iconst 0, 1) := by decide +kernel
theorem dX1_lowest_25 : decode cX1_lowest 25 = .ok (.ireturn, 1) := by decide +kernel
theorem dX1_highest_0 : decode cX1_highest 0 = .ok (.iconst 5, 1) := by decide +kernel
theorem dX1_highest_1 : decode cX1_highest 1 = .ok (.istore_n 1, 1) := by decide +kernel
theorem dX1_highest_2 : decode cX1_highest 2 = .ok (.iload_n 1, 1) := by decide +kernel
theorem dX1_highest_3 : decode cX1_highest 3 = .ok (.ifCond .le 19, 3) := by decide +kernel
theorem dX1_highest_6 : decode cX1_highest 6 = .ok (.iload_n 0, 1) := by decide +kernel
theorem dX1_highest_7 : decode cX1_highest 7 = .ok (.iload_n 1, 1) := by decide +kernel
theorem dX1_highest_8 : decode cX1_highest 8 = .ok (.invokestatic 91, 3) := by decide +kernel
theorem dX1_highest_11 : decode cX1_highest 11 = .ok (.ifCond .eq 5, 3) := by decide +kernel
theorem dX1_highest_14 : decode cX1_highest 14 = .ok (.iload_n 1, 1) := by decide +kernel
theorem dX1_highest_15 : decode cX1_highest 15 = .ok (.ireturn, 1) := by decide +kernel
theorem dX1_highest_16 : decode cX1_highest 16 = .ok (.iinc 1 (-1), 3) := by decide +kernel
theorem dX1_highest_19 : decode cX1_highest 19 = .ok (.goto (-17), 3) := by decide +kernel
theorem dX1_highest_22 : decode cX1_highest 22 = .ok (.iconst 0, 1) := by decide +kernel
theorem dX1_highest_23 : decode cX1_highest 23 = .ok (.ireturn, 1) := by decide +kernel
theorem dJ6_bitCount_0f7a4_0 : decode cJ6_bitCount_0f7a4 0 = .ok (.iload_n 0, 1) := by decide +kernel
theorem dJ6_bitCount_0f7a4_1 : decode cJ6_bitCount_0f7a4 1 = .ok (.iload_n 0, 1) := by decide +kernel
theorem dJ6_bitCount_0f7a4_2 : decode cJ6_bitCount_0f7a4 2 = .ok (.iconst 1, 1) := by decide +kernel
theorem dJ6_bitCount_0f7a4_3 : decode cJ6_bitCount_0f7a4 3 = .ok (.iushr, 1) := by decide +kernel
theorem dJ6_bitCount_0f7a4_4 : decode cJ6_bitCount_0f7a4 4 = .ok (.ldc_w 265, 3) := by decide +kernel
theorem dJ6_bitCount_0f7a4_7 : decode cJ6_bitCount_0f7a4 7 = .ok (.iand, 1) := by decide +kernel
theorem dJ6_bitCount_0f7a4_8 : decode cJ6_bitCount_0f7a4 8 = .ok (.isub, 1) := by decide +kernel
theorem dJ6_bitCount_0f7a4_9 : decode cJ6_bitCount_0f7a4 9 = .ok (.istore_n 0, 1) := by decide +kernel
theorem dJ6_bitCount_0f7a4_10 : decode cJ6_bitCount_0f7a4 10 = .ok (.iload_n 0, 1) := by decide +kernel
theorem dJ6_bitCount_0f7a4_11 : decode cJ6_bitCount_0f7a4 11 = .ok (.ldc_w 266, 3) := by decide +kernel
theorem dJ6_bitCount_0f7a4_14 : decode cJ6_bitCount_0f7a4 14 = .ok (.iand, 1) := by decide +kernel
theorem dJ6_bitCount_0f7a4_15 : decode cJ6_bitCount_0f7a4 15 = .ok (.iload_n 0, 1) := by decide +kernel
theorem dJ6_bitCount_0f7a4_16 : decode cJ6_bitCount_0f7a4 16 = .ok (.iconst 2, 1) := by decide +kernel
theorem dJ6_bitCount_0f7a4_17 : decode cJ6_bitCount_0f7a4 17 = .ok (.iushr, 1) := by decide +kernel
theorem dJ6_bitCount_0f7a4_18 : decode cJ6_bitCount_0f7a4 18 = .ok (.ldc_w 266, 3) := by decide +kernel
theorem dJ6_bitCount_0f7a4_21 : decode cJ6_bitCount_0f7a4 21 = .ok (.iand, 1) := by decide +kernel
theorem dJ6_bitCount_0f7a4_22 : decode cJ6_bitCount_0f7a4 22 = .ok (.iadd, 1) := by decide +kernel
theorem dJ6_bitCount_0f7a4_23 : decode cJ6_bitCount_0f7a4 23 = .ok (.istore_n 0, 1) := by decide +kernel
theorem dJ6_bitCount_0f7a4_24 : decode cJ6_bitCount_0f7a4 24 = .ok (.iload_n 0, 1) := by decide +kernel
theorem dJ6_bitCount_0f7a4_25 : decode cJ6_bitCount_0f7a4 25 = .ok (.iload_n 0, 1) := by decide +kernel
theorem dJ6_bitCount_0f7a4_26 : decode cJ6_bitCount_0f7a4 26 = .ok (.iconst 4, 1) := by decide +kernel
theorem dJ6_bitCount_0f7a4_27 : decode cJ6_bitCount_0f7a4 27 = .ok (.iushr, 1) := by decide +kernel
theorem dJ6_bitCount_0f7a4_28 : decode cJ6_bitCount_0f7a4 28 = .ok (.iadd, 1) := by decide +kernel
theorem dJ6_bitCount_0f7a4_29 : decode cJ6_bitCount_0f7a4 29 = .ok (.ldc_w 267, 3) := by decide +kernel
theorem dJ6_bitCount_0f7a4_32 : decode cJ6_bitCount_0f7a4 32 = .ok (.iand, 1) := by decide +kernel
theorem dJ6_bitCount_0f7a4_33 : decode cJ6_bitCount_0f7a4 33 = .ok (.istore_n 0, 1) := by decide +kernel
theorem dJ6_bitCount_0f7a4_34 : decode cJ6_bitCount_0f7a4 34 = .ok (.iload_n 0, 1) := by decide +kernel
theorem dJ6_bitCount_0f7a4_35 : decode cJ6_bitCount_0f7a4 35 = .ok (.iload_n 0, 1) := by decide +kernel
theorem dJ6_bitCount_0f7a4_36 : decode cJ6_bitCount_0f7a4 36 = .ok (.bipush 8, 2) := by decide +kernel
theorem dJ6_bitCount_0f7a4_38 : decode cJ6_bitCount_0f7a4 38 = .ok (.iushr, 1) := by decide +kernel
theorem dJ6_bitCount_0f7a4_39 : decode cJ6_bitCount_0f7a4 39 = .ok (.iadd, 1) := by decide +kernel
theorem dJ6_bitCount_0f7a4_40 : decode cJ6_bitCount_0f7a4 40 = .ok (.istore_n 0, 1) := by decide +kernel
theorem dJ6_bitCount_0f7a4_41 : decode cJ6_bitCount_0f7a4 41 = .ok (.iload_n 0, 1) := by decide +kernel
theorem dJ6_bitCount_0f7a4_42 : decode cJ6_bitCount_0f7a4 42 = .ok (.iload_n 0, 1) := by decide +kernel
theorem dJ6_bitCount_0f7a4_43 : decode cJ6_bitCount_0f7a4 43 = .ok (.bipush 16, 2) := by decide +kernel
theorem dJ6_bitCount_0f7a4_45 : decode cJ6_bitCount_0f7a4 45 = .ok (.iushr, 1) := by decide +kernel
theorem dJ6_bitCount_0f7a4_46 : decode cJ6_bitCount_0f7a4 46 = .ok (.iadd, 1) := by decide +kernel
theorem dJ6_bitCount_0f7a4_47 : decode cJ6_bitCount_0f7a4 47 = .ok (.istore_n 0, 1) := by decide +kernel
theorem dJ6_bitCount_0f7a4_48 : decode cJ6_bitCount_0f7a4 48 = .ok (.iload_n 0, 1) := by decide +kernel
theorem dJ6_bitCount_0f7a4_49 : decode cJ6_bitCount_0f7a4 49 = .ok (.bipush 63, 2) := by decide +kernel
theorem dJ6_bitCount_0f7a4_51 : decode cJ6_bitCount_0f7a4 51 = .ok (.iand, 1) := by decide +kernel
theorem dJ6_bitCount_0f7a4_52 : decode cJ6_bitCount_0f7a4 52 = .ok (.ireturn, 1) := by decide +kernel
theorem dX3_votesIn_0 : decode cX3_votesIn 0 = .ok (.iload_n 1, 1) := by decide +kernel
theorem dX3_votesIn_1 : decode cX3_votesIn 1 = .ok (.ifCond .ge 7, 3) := by decide +kernel
theorem dX3_votesIn_4 : decode cX3_votesIn 4 = .ok (.iconst 0, 1) := by decide +kernel
theorem dX3_votesIn_5 : decode cX3_votesIn 5 = .ok (.goto 14, 3) := by decide +kernel
theorem dX3_votesIn_8 : decode cX3_votesIn 8 = .ok (.aload_n 0, 1) := by decide +kernel
theorem dX3_votesIn_9 : decode cX3_votesIn 9 = .ok (.getfield 9, 3) := by decide +kernel
theorem dX3_votesIn_12 : decode cX3_votesIn 12 = .ok (.iload_n 1, 1) := by decide +kernel
theorem dX3_votesIn_13 : decode cX3_votesIn 13 = .ok (.bipush 6, 2) := by decide +kernel
theorem dX3_votesIn_15 : decode cX3_votesIn 15 = .ok (.imul, 1) := by decide +kernel
theorem dX3_votesIn_16 : decode cX3_votesIn 16 = .ok (.iload_n 2, 1) := by decide +kernel
theorem dX3_votesIn_17 : decode cX3_votesIn 17 = .ok (.iadd, 1) := by decide +kernel
theorem dX3_votesIn_18 : decode cX3_votesIn 18 = .ok (.iaload, 1) := by decide +kernel
theorem dX3_votesIn_19 : decode cX3_votesIn 19 = .ok (.ireturn, 1) := by decide +kernel
theorem dX1_leaders_0 : decode cX1_leaders 0 = .ok (.iconst 0, 1) := by decide +kernel
theorem dX1_leaders_1 : decode cX1_leaders 1 = .ok (.istore 4, 2) := by decide +kernel
theorem dX1_leaders_3 : decode cX1_leaders 3 = .ok (.iconst 0, 1) := by decide +kernel
theorem dX1_leaders_4 : decode cX1_leaders 4 = .ok (.istore 5, 2) := by decide +kernel
theorem dX1_leaders_6 : decode cX1_leaders 6 = .ok (.iconst 0, 1) := by decide +kernel
theorem dX1_leaders_7 : decode cX1_leaders 7 = .ok (.istore 6, 2) := by decide +kernel
theorem dX1_leaders_9 : decode cX1_leaders 9 = .ok (.iload 6, 2) := by decide +kernel
theorem dX1_leaders_11 : decode cX1_leaders 11 = .ok (.bipush 6, 2) := by decide +kernel
theorem dX1_leaders_13 : decode cX1_leaders 13 = .ok (.if_icmp .ge 85, 3) := by decide +kernel
theorem dX1_leaders_16 : decode cX1_leaders 16 = .ok (.iload_n 1, 1) := by decide +kernel
theorem dX1_leaders_17 : decode cX1_leaders 17 = .ok (.iload 6, 2) := by decide +kernel
theorem dX1_leaders_19 : decode cX1_leaders 19 = .ok (.invokestatic 91, 3) := by decide +kernel
theorem dX1_leaders_22 : decode cX1_leaders 22 = .ok (.ifCond .ne 6, 3) := by decide +kernel
theorem dX1_leaders_25 : decode cX1_leaders 25 = .ok (.goto 67, 3) := by decide +kernel
theorem dX1_leaders_28 : decode cX1_leaders 28 = .ok (.aload_n 0, 1) := by decide +kernel
theorem dX1_leaders_29 : decode cX1_leaders 29 = .ok (.iload_n 2, 1) := by decide +kernel
theorem dX1_leaders_30 : decode cX1_leaders 30 = .ok (.iload 6, 2) := by decide +kernel
theorem dX1_leaders_32 : decode cX1_leaders 32 = .ok (.invokevirtual 84, 3) := by decide +kernel
theorem dX1_leaders_35 : decode cX1_leaders 35 = .ok (.istore 7, 2) := by decide +kernel
theorem dX1_leaders_37 : decode cX1_leaders 37 = .ok (.iload 4, 2) := by decide +kernel
theorem dX1_leaders_39 : decode cX1_leaders 39 = .ok (.ifCond .eq 24, 3) := by decide +kernel
theorem dX1_leaders_42 : decode cX1_leaders 42 = .ok (.iload_n 3, 1) := by decide +kernel
theorem dX1_leaders_43 : decode cX1_leaders 43 = .ok (.ifCond .eq 13, 3) := by decide +kernel
theorem dX1_leaders_46 : decode cX1_leaders 46 = .ok (.iload 7, 2) := by decide +kernel
theorem dX1_leaders_48 : decode cX1_leaders 48 = .ok (.iload 5, 2) := by decide +kernel
theorem dX1_leaders_50 : decode cX1_leaders 50 = .ok (.if_icmp .le 26, 3) := by decide +kernel
theorem dX1_leaders_53 : decode cX1_leaders 53 = .ok (.goto 10, 3) := by decide +kernel
theorem dX1_leaders_56 : decode cX1_leaders 56 = .ok (.iload 7, 2) := by decide +kernel
theorem dX1_leaders_58 : decode cX1_leaders 58 = .ok (.iload 5, 2) := by decide +kernel
theorem dX1_leaders_60 : decode cX1_leaders 60 = .ok (.if_icmp .ge 16, 3) := by decide +kernel
theorem dX1_leaders_63 : decode cX1_leaders 63 = .ok (.iconst 1, 1) := by decide +kernel
theorem dX1_leaders_64 : decode cX1_leaders 64 = .ok (.iload 6, 2) := by decide +kernel
theorem dX1_leaders_66 : decode cX1_leaders 66 = .ok (.ishl, 1) := by decide +kernel
theorem dX1_leaders_67 : decode cX1_leaders 67 = .ok (.istore 4, 2) := by decide +kernel
theorem dX1_leaders_69 : decode cX1_leaders 69 = .ok (.iload 7, 2) := by decide +kernel
theorem dX1_leaders_71 : decode cX1_leaders 71 = .ok (.istore 5, 2) := by decide +kernel
theorem dX1_leaders_73 : decode cX1_leaders 73 = .ok (.goto 19, 3) := by decide +kernel
theorem dX1_leaders_76 : decode cX1_leaders 76 = .ok (.iload 7, 2) := by decide +kernel
theorem dX1_leaders_78 : decode cX1_leaders 78 = .ok (.iload 5, 2) := by decide +kernel
theorem dX1_leaders_80 : decode cX1_leaders 80 = .ok (.if_icmp .ne 12, 3) := by decide +kernel
theorem dX1_leaders_83 : decode cX1_leaders 83 = .ok (.iload 4, 2) := by decide +kernel
theorem dX1_leaders_85 : decode cX1_leaders 85 = .ok (.iconst 1, 1) := by decide +kernel
theorem dX1_leaders_86 : decode cX1_leaders 86 = .ok (.iload 6, 2) := by decide +kernel
theorem dX1_leaders_88 : decode cX1_leaders 88 = .ok (.ishl, 1) := by decide +kernel
theorem dX1_leaders_89 : decode cX1_leaders 89 = .ok (.ior, 1) := by decide +kernel
theorem dX1_leaders_90 : decode cX1_leaders 90 = .ok (.istore 4, 2) := by decide +kernel
theorem dX1_leaders_92 : decode cX1_leaders 92 = .ok (.iinc 6 1, 3) := by decide +kernel
theorem dX1_leaders_95 : decode cX1_leaders 95 = .ok (.goto (-86), 3) := by decide +kernel
theorem dX1_leaders_98 : decode cX1_leaders 98 = .ok (.iload 4, 2) := by decide +kernel
theorem dX1_leaders_100 : decode cX1_leaders 100 = .ok (.ireturn, 1) := by decide +kernel
theorem dX3_weightOf_0 : decode cX3_weightOf 0 = .ok (.iload_n 1, 1) := by decide +kernel
theorem dX3_weightOf_1 : decode cX3_weightOf 1 = .ok (.ifCond .ge 7, 3) := by decide +kernel
theorem dX3_weightOf_4 : decode cX3_weightOf 4 = .ok (.iconst 0, 1) := by decide +kernel
theorem dX3_weightOf_5 : decode cX3_weightOf 5 = .ok (.goto 9, 3) := by decide +kernel
theorem dX3_weightOf_8 : decode cX3_weightOf 8 = .ok (.aload_n 0, 1) := by decide +kernel
theorem dX3_weightOf_9 : decode cX3_weightOf 9 = .ok (.getfield 18, 3) := by decide +kernel
theorem dX3_weightOf_12 : decode cX3_weightOf 12 = .ok (.iload_n 1, 1) := by decide +kernel
theorem dX3_weightOf_13 : decode cX3_weightOf 13 = .ok (.iaload, 1) := by decide +kernel
theorem dX3_weightOf_14 : decode cX3_weightOf 14 = .ok (.ireturn, 1) := by decide +kernel
theorem dX1_maySomeGo_0 : decode cX1_maySomeGo 0 = .ok (.iload_n 1, 1) := by decide +kernel
theorem dX1_maySomeGo_1 : decode cX1_maySomeGo 1 = .ok (.bipush 120, 2) := by decide +kernel
theorem dX1_maySomeGo_3 : decode cX1_maySomeGo 3 = .ok (.if_icmp .ne 23, 3) := by decide +kernel
theorem dX1_maySomeGo_6 : decode cX1_maySomeGo 6 = .ok (.aload_n 0, 1) := by decide +kernel
theorem dX1_maySomeGo_7 : decode cX1_maySomeGo 7 = .ok (.getfield 29, 3) := by decide +kernel
theorem dX1_maySomeGo_10 : decode cX1_maySomeGo 10 = .ok (.invokestatic 69, 3) := by decide +kernel
theorem dX1_maySomeGo_13 : decode cX1_maySomeGo 13 = .ok (.aload_n 0, 1) := by decide +kernel
theorem dX1_maySomeGo_14 : decode cX1_maySomeGo 14 = .ok (.getfield 26, 3) := by decide +kernel
theorem dX1_maySomeGo_17 : decode cX1_maySomeGo 17 = .ok (.if_icmp .le 7, 3) := by decide +kernel
theorem dX1_maySomeGo_20 : decode cX1_maySomeGo 20 = .ok (.iconst 1, 1) := by decide +kernel
theorem dX1_maySomeGo_21 : decode cX1_maySomeGo 21 = .ok (.goto 4, 3) := by decide +kernel
theorem dX1_maySomeGo_24 : decode cX1_maySomeGo 24 = .ok (.iconst 0, 1) := by decide +kernel
theorem dX1_maySomeGo_25 : decode cX1_maySomeGo 25 = .ok (.ireturn, 1) := by decide +kernel
theorem dX1_maySomeGo_26 : decode cX1_maySomeGo 26 = .ok (.iload_n 1, 1) := by decide +kernel
theorem dX1_maySomeGo_27 : decode cX1_maySomeGo 27 = .ok (.bipush 101, 2) := by decide +kernel
theorem dX1_maySomeGo_29 : decode cX1_maySomeGo 29 = .ok (.if_icmp .ne 45, 3) := by decide +kernel
theorem dX1_maySomeGo_32 : decode cX1_maySomeGo 32 = .ok (.iload_n 3, 1) := by decide +kernel
theorem dX1_maySomeGo_33 : decode cX1_maySomeGo 33 = .ok (.ifCond .eq 41, 3) := by decide +kernel
theorem dX1_maySomeGo_36 : decode cX1_maySomeGo 36 = .ok (.aload_n 0, 1) := by decide +kernel
theorem dX1_maySomeGo_37 : decode cX1_maySomeGo 37 = .ok (.getfield 23, 3) := by decide +kernel
theorem dX1_maySomeGo_40 : decode cX1_maySomeGo 40 = .ok (.iconst 1, 1) := by decide +kernel
theorem dX1_maySomeGo_41 : decode cX1_maySomeGo 41 = .ok (.isub, 1) := by decide +kernel
theorem dX1_maySomeGo_42 : decode cX1_maySomeGo 42 = .ok (.istore 4, 2) := by decide +kernel
theorem dX1_maySomeGo_44 : decode cX1_maySomeGo 44 = .ok (.bipush 100, 2) := by decide +kernel
theorem dX1_maySomeGo_46 : decode cX1_maySomeGo 46 = .ok (.aload_n 0, 1) := by decide +kernel
theorem dX1_maySomeGo_47 : decode cX1_maySomeGo 47 = .ok (.iload 4, 2) := by decide +kernel
theorem dX1_maySomeGo_49 : decode cX1_maySomeGo 49 = .ok (.iload_n 3, 1) := by decide +kernel
theorem dX1_maySomeGo_50 : decode cX1_maySomeGo 50 = .ok (.invokestatic 77, 3) := by decide +kernel
theorem dX1_maySomeGo_53 : decode cX1_maySomeGo 53 = .ok (.invokevirtual 84, 3) := by decide +kernel
theorem dX1_maySomeGo_56 : decode cX1_maySomeGo 56 = .ok (.imul, 1) := by decide +kernel
theorem dX1_maySomeGo_57 : decode cX1_maySomeGo 57 = .ok (.iload_n 2, 1) := by decide +kernel
theorem dX1_maySomeGo_58 : decode cX1_maySomeGo 58 = .ok (.aload_n 0, 1) := by decide +kernel
theorem dX1_maySomeGo_59 : decode cX1_maySomeGo 59 = .ok (.iload 4, 2) := by decide +kernel
theorem dX1_maySomeGo_61 : decode cX1_maySomeGo 61 = .ok (.invokevirtual 88, 3) := by decide +kernel
theorem dX1_maySomeGo_64 : decode cX1_maySomeGo 64 = .ok (.imul, 1) := by decide +kernel
theorem dX1_maySomeGo_65 : decode cX1_maySomeGo 65 = .ok (.if_icmp .le 7, 3) := by decide +kernel
theorem dX1_maySomeGo_68 : decode cX1_maySomeGo 68 = .ok (.iconst 1, 1) := by decide +kernel
theorem dX1_maySomeGo_69 : decode cX1_maySomeGo 69 = .ok (.goto 4, 3) := by decide +kernel
theorem dX1_maySomeGo_72 : decode cX1_maySomeGo 72 = .ok (.iconst 0, 1) := by decide +kernel
theorem dX1_maySomeGo_73 : decode cX1_maySomeGo 73 = .ok (.ireturn, 1) := by decide +kernel
theorem dX1_maySomeGo_74 : decode cX1_maySomeGo 74 = .ok (.iload_n 3, 1) := by decide +kernel
theorem dX1_maySomeGo_75 : decode cX1_maySomeGo 75 = .ok (.ifCond .eq 7, 3) := by decide +kernel
theorem dX1_maySomeGo_78 : decode cX1_maySomeGo 78 = .ok (.iconst 1, 1) := by decide +kernel
theorem dX1_maySomeGo_79 : decode cX1_maySomeGo 79 = .ok (.goto 4, 3) := by decide +kernel
theorem dX1_maySomeGo_82 : decode cX1_maySomeGo 82 = .ok (.iconst 0, 1) := by decide +kernel
theorem dX1_maySomeGo_83 : decode cX1_maySomeGo 83 = .ok (.ireturn, 1) := by decide +kernel
theorem dX1_keepTie_0 : decode cX1_keepTie 0 = .ok (.iload_n 1, 1) := by decide +kernel
theorem dX1_keepTie_1 : decode cX1_keepTie 1 = .ok (.invokestatic 69, 3) := by decide +kernel
theorem dX1_keepTie_4 : decode cX1_keepTie 4 = .ok (.iconst 1, 1) := by decide +kernel
theorem dX1_keepTie_5 : decode cX1_keepTie 5 = .ok (.if_icmp .le 32, 3) := by decide +kernel
theorem dX1_keepTie_8 : decode cX1_keepTie 8 = .ok (.aload_n 0, 1) := by decide +kernel
theorem dX1_keepTie_9 : decode cX1_keepTie 9 = .ok (.getfield 19, 3) := by decide +kernel
theorem dX1_keepTie_12 : decode cX1_keepTie 12 = .ok (.bipush 6, 2) := by decide +kernel
theorem dX1_keepTie_14 : decode cX1_keepTie 14 = .ok (.if_icmp .ge 23, 3) := by decide +kernel
theorem dX1_keepTie_17 : decode cX1_keepTie 17 = .ok (.aload_n 0, 1) := by decide +kernel
theorem dX1_keepTie_18 : decode cX1_keepTie 18 = .ok (.getfield 9, 3) := by decide +kernel
theorem dX1_keepTie_21 : decode cX1_keepTie 21 = .ok (.aload_n 0, 1) := by decide +kernel
theorem dX1_keepTie_22 : decode cX1_keepTie 22 = .ok (.getfield 19, 3) := by decide +kernel
theorem dX1_keepTie_25 : decode cX1_keepTie 25 = .ok (.iload_n 1, 1) := by decide +kernel
theorem dX1_keepTie_26 : decode cX1_keepTie 26 = .ok (.iastore, 1) := by decide +kernel
theorem dX1_keepTie_27 : decode cX1_keepTie 27 = .ok (.aload_n 0, 1) := by decide +kernel
theorem dX1_keepTie_28 : decode cX1_keepTie 28 = .ok (.dup, 1) := by decide +kernel
theorem dX1_keepTie_29 : decode cX1_keepTie 29 = .ok (.getfield 19, 3) := by decide +kernel
theorem dX1_keepTie_32 : decode cX1_keepTie 32 = .ok (.iconst 1, 1) := by decide +kernel
theorem dX1_keepTie_33 : decode cX1_keepTie 33 = .ok (.iadd, 1) := by decide +kernel
theorem dX1_keepTie_34 : decode cX1_keepTie 34 = .ok (.putfield 19, 3) := by decide +kernel
theorem dX1_keepTie_37 : decode cX1_keepTie 37 = .ok (.return_, 1) := by decide +kernel
theorem dX1_letGo_0 : decode cX1_letGo 0 = .ok (.iload_n 1, 1) := by decide +kernel
theorem dX1_letGo_1 : decode cX1_letGo 1 = .ok (.bipush 120, 2) := by decide +kernel
theorem dX1_letGo_3 : decode cX1_letGo 3 = .ok (.if_icmp .eq 7, 3) := by decide +kernel
theorem dX1_letGo_6 : decode cX1_letGo 6 = .ok (.iconst 1, 1) := by decide +kernel
theorem dX1_letGo_7 : decode cX1_letGo 7 = .ok (.goto 4, 3) := by decide +kernel
theorem dX1_letGo_10 : decode cX1_letGo 10 = .ok (.iconst 0, 1) := by decide +kernel
theorem dX1_letGo_11 : decode cX1_letGo 11 = .ok (.istore_n 3, 1) := by decide +kernel
theorem dX1_letGo_12 : decode cX1_letGo 12 = .ok (.iload_n 1, 1) := by decide +kernel
theorem dX1_letGo_13 : decode cX1_letGo 13 = .ok (.bipush 101, 2) := by decide +kernel
theorem dX1_letGo_15 : decode cX1_letGo 15 = .ok (.if_icmp .eq 9, 3) := by decide +kernel
theorem dX1_letGo_18 : decode cX1_letGo 18 = .ok (.iload_n 1, 1) := by decide +kernel
theorem dX1_letGo_19 : decode cX1_letGo 19 = .ok (.bipush 114, 2) := by decide +kernel
theorem dX1_letGo_21 : decode cX1_letGo 21 = .ok (.if_icmp .ne 8, 3) := by decide +kernel
theorem dX1_letGo_24 : decode cX1_letGo 24 = .ok (.bipush 6, 2) := by decide +kernel
theorem dX1_letGo_26 : decode cX1_letGo 26 = .ok (.goto 4, 3) := by decide +kernel
theorem dX1_letGo_29 : decode cX1_letGo 29 = .ok (.iconst 1, 1) := by decide +kernel
theorem dX1_letGo_30 : decode cX1_letGo 30 = .ok (.istore 4, 2) := by decide +kernel
theorem dX1_letGo_32 : decode cX1_letGo 32 = .ok (.aload_n 0, 1) := by decide +kernel
theorem dX1_letGo_33 : decode cX1_letGo 33 = .ok (.getfield 23, 3) := by decide +kernel
theorem dX1_letGo_36 : decode cX1_letGo 36 = .ok (.iconst 1, 1) := by decide +kernel
theorem dX1_letGo_37 : decode cX1_letGo 37 = .ok (.isub, 1) := by decide +kernel
theorem dX1_letGo_38 : decode cX1_letGo 38 = .ok (.istore 5, 2) := by decide +kernel
theorem dX1_letGo_40 : decode cX1_letGo 40 = .ok (.iconst 0, 1) := by decide +kernel
theorem dX1_letGo_41 : decode cX1_letGo 41 = .ok (.istore 6, 2) := by decide +kernel
theorem dX1_letGo_43 : decode cX1_letGo 43 = .ok (.iload 6, 2) := by decide +kernel
theorem dX1_letGo_45 : decode cX1_letGo 45 = .ok (.iload 4, 2) := by decide +kernel
theorem dX1_letGo_47 : decode cX1_letGo 47 = .ok (.if_icmp .ge 128, 3) := by decide +kernel
theorem dX1_letGo_50 : decode cX1_letGo 50 = .ok (.aload_n 0, 1) := by decide +kernel
theorem dX1_letGo_51 : decode cX1_letGo 51 = .ok (.getfield 26, 3) := by decide +kernel
theorem dX1_letGo_54 : decode cX1_letGo 54 = .ok (.ifCond .le 121, 3) := by decide +kernel
theorem dX1_letGo_57 : decode cX1_letGo 57 = .ok (.aload_n 0, 1) := by decide +kernel
theorem dX1_letGo_58 : decode cX1_letGo 58 = .ok (.aload_n 0, 1) := by decide +kernel
theorem dX1_letGo_59 : decode cX1_letGo 59 = .ok (.getfield 29, 3) := by decide +kernel
theorem dX1_letGo_62 : decode cX1_letGo 62 = .ok (.iload 5, 2) := by decide +kernel
theorem dX1_letGo_64 : decode cX1_letGo 64 = .ok (.iload_n 3, 1) := by decide +kernel
theorem dX1_letGo_65 : decode cX1_letGo 65 = .ok (.invokevirtual 57, 3) := by decide +kernel
theorem dX1_letGo_68 : decode cX1_letGo 68 = .ok (.istore 7, 2) := by decide +kernel
theorem dX1_letGo_70 : decode cX1_letGo 70 = .ok (.aload_n 0, 1) := by decide +kernel
theorem dX1_letGo_71 : decode cX1_letGo 71 = .ok (.iload_n 1, 1) := by decide +kernel
theorem dX1_letGo_72 : decode cX1_letGo 72 = .ok (.iload_n 2, 1) := by decide +kernel
theorem dX1_letGo_73 : decode cX1_letGo 73 = .ok (.iload 7, 2) := by decide +kernel
theorem dX1_letGo_75 : decode cX1_letGo 75 = .ok (.invokevirtual 61, 3) := by decide +kernel
theorem dX1_letGo_78 : decode cX1_letGo 78 = .ok (.ifCond .ne 4, 3) := by decide +kernel
theorem dX1_letGo_81 : decode cX1_letGo 81 = .ok (.return_, 1) := by decide +kernel
theorem dX1_letGo_82 : decode cX1_letGo 82 = .ok (.aload_n 0, 1) := by decide +kernel
theorem dX1_letGo_83 : decode cX1_letGo 83 = .ok (.iload 7, 2) := by decide +kernel
theorem dX1_letGo_85 : decode cX1_letGo 85 = .ok (.invokevirtual 65, 3) := by decide +kernel
theorem dX1_letGo_88 : decode cX1_letGo 88 = .ok (.aload_n 0, 1) := by decide +kernel
theorem dX1_letGo_89 : decode cX1_letGo 89 = .ok (.getfield 35, 3) := by decide +kernel
theorem dX1_letGo_92 : decode cX1_letGo 92 = .ok (.bipush 113, 2) := by decide +kernel
theorem dX1_letGo_94 : decode cX1_letGo 94 = .ok (.if_icmp .ne 10, 3) := by decide +kernel
theorem dX1_letGo_97 : decode cX1_letGo 97 = .ok (.iload 5, 2) := by decide +kernel
theorem dX1_letGo_99 : decode cX1_letGo 99 = .ok (.iconst 1, 1) := by decide +kernel
theorem dX1_letGo_100 : decode cX1_letGo 100 = .ok (.isub, 1) := by decide +kernel
theorem dX1_letGo_101 : decode cX1_letGo 101 = .ok (.goto 4, 3) := by decide +kernel
theorem dX1_letGo_104 : decode cX1_letGo 104 = .ok (.iconst (-1), 1) := by decide +kernel
theorem dX1_letGo_105 : decode cX1_letGo 105 = .ok (.istore 8, 2) := by decide +kernel
theorem dX1_letGo_107 : decode cX1_letGo 107 = .ok (.iload 8, 2) := by decide +kernel
theorem dX1_letGo_109 : decode cX1_letGo 109 = .ok (.istore 9, 2) := by decide +kernel
theorem dX1_letGo_111 : decode cX1_letGo 111 = .ok (.iload 9, 2) := by decide +kernel
theorem dX1_letGo_113 : decode cX1_letGo 113 = .ok (.ifCond .lt 29, 3) := by decide +kernel
theorem dX1_letGo_116 : decode cX1_letGo 116 = .ok (.iload 7, 2) := by decide +kernel
theorem dX1_letGo_118 : decode cX1_letGo 118 = .ok (.invokestatic 69, 3) := by decide +kernel
theorem dX1_letGo_121 : decode cX1_letGo 121 = .ok (.iconst 1, 1) := by decide +kernel
theorem dX1_letGo_122 : decode cX1_letGo 122 = .ok (.if_icmp .le 20, 3) := by decide +kernel
theorem dX1_letGo_125 : decode cX1_letGo 125 = .ok (.aload_n 0, 1) := by decide +kernel
theorem dX1_letGo_126 : decode cX1_letGo 126 = .ok (.iload 7, 2) := by decide +kernel
theorem dX1_letGo_128 : decode cX1_letGo 128 = .ok (.iload 9, 2) := by decide +kernel
theorem dX1_letGo_130 : decode cX1_letGo 130 = .ok (.iload_n 3, 1) := by decide +kernel
theorem dX1_letGo_131 : decode cX1_letGo 131 = .ok (.invokevirtual 57, 3) := by decide +kernel
theorem dX1_letGo_134 : decode cX1_letGo 134 = .ok (.istore 7, 2) := by decide +kernel
theorem dX1_letGo_136 : decode cX1_letGo 136 = .ok (.iinc 9 (-1), 3) := by decide +kernel
theorem dX1_letGo_139 : decode cX1_letGo 139 = .ok (.goto (-28), 3) := by decide +kernel
theorem dX1_letGo_142 : decode cX1_letGo 142 = .ok (.aload_n 0, 1) := by decide +kernel
theorem dX1_letGo_143 : decode cX1_letGo 143 = .ok (.aload_n 0, 1) := by decide +kernel
theorem dX1_letGo_144 : decode cX1_letGo 144 = .ok (.getfield 35, 3) := by decide +kernel
theorem dX1_letGo_147 : decode cX1_letGo 147 = .ok (.bipush 104, 2) := by decide +kernel
theorem dX1_letGo_149 : decode cX1_letGo 149 = .ok (.if_icmp .ne 11, 3) := by decide +kernel
theorem dX1_letGo_152 : decode cX1_letGo 152 = .ok (.iload 7, 2) := by decide +kernel
theorem dX1_letGo_154 : decode cX1_letGo 154 = .ok (.invokestatic 74, 3) := by decide +kernel
theorem dX1_letGo_157 : decode cX1_letGo 157 = .ok (.goto 8, 3) := by decide +kernel
theorem dX1_letGo_160 : decode cX1_letGo 160 = .ok (.iload 7, 2) := by decide +kernel
theorem dX1_letGo_162 : decode cX1_letGo 162 = .ok (.invokestatic 77, 3) := by decide +kernel
theorem dX1_letGo_165 : decode cX1_letGo 165 = .ok (.iload_n 3, 1) := by decide +kernel
theorem dX1_letGo_166 : decode cX1_letGo 166 = .ok (.invokevirtual 80, 3) := by decide +kernel
theorem dX1_letGo_169 : decode cX1_letGo 169 = .ok (.iinc 6 1, 3) := by decide +kernel
theorem dX1_letGo_172 : decode cX1_letGo 172 = .ok (.goto (-129), 3) := by decide +kernel
theorem dX1_letGo_175 : decode cX1_letGo 175 = .ok (.return_, 1) := by decide +kernel
theorem dX0_candidateAt_0 : decode cX0_candidateAt 0 = .ok (.iload_n 2, 1) := by decide +kernel
theorem dX0_candidateAt_1 : decode cX0_candidateAt 1 = .ok (.aload_n 0, 1) := by decide +kernel
theorem dX0_candidateAt_2 : decode cX0_candidateAt 2 = .ok (.getfield 24, 3) := by decide +kernel
theorem dX0_candidateAt_5 : decode cX0_candidateAt 5 = .ok (.iload_n 1, 1) := by decide +kernel
theorem dX0_candidateAt_6 : decode cX0_candidateAt 6 = .ok (.iaload, 1) := by decide +kernel
theorem dX0_candidateAt_7 : decode cX0_candidateAt 7 = .ok (.if_icmp .lt 5, 3) := by decide +kernel
theorem dX0_candidateAt_10 : decode cX0_candidateAt 10 = .ok (.iconst (-1), 1) := by decide +kernel
theorem dX0_candidateAt_11 : decode cX0_candidateAt 11 = .ok (.ireturn, 1) := by decide +kernel
theorem dX0_candidateAt_12 : decode cX0_candidateAt 12 = .ok (.aload_n 0, 1) := by decide +kernel
theorem dX0_candidateAt_13 : decode cX0_candidateAt 13 = .ok (.getfield 30, 3) := by decide +kernel
theorem dX0_candidateAt_16 : decode cX0_candidateAt 16 = .ok (.iload_n 1, 1) := by decide +kernel
theorem dX0_candidateAt_17 : decode cX0_candidateAt 17 = .ok (.baload, 1) := by decide +kernel
theorem dX0_candidateAt_18 : decode cX0_candidateAt 18 = .ok (.ifCond .eq 14, 3) := by decide +kernel
theorem dX0_candidateAt_21 : decode cX0_candidateAt 21 = .ok (.iload_n 2, 1) := by decide +kernel
theorem dX0_candidateAt_22 : decode cX0_candidateAt 22 = .ok (.iconst 2, 1) := by decide +kernel
theorem dX0_candidateAt_23 : decode cX0_candidateAt 23 = .ok (.if_icmp .ge 9, 3) := by decide +kernel
theorem dX0_candidateAt_26 : decode cX0_candidateAt 26 = .ok (.iconst 1, 1) := by decide +kernel
theorem dX0_candidateAt_27 : decode cX0_candidateAt 27 = .ok (.iload_n 2, 1) := by decide +kernel
theorem dX0_candidateAt_28 : decode cX0_candidateAt 28 = .ok (.isub, 1) := by decide +kernel
theorem dX0_candidateAt_29 : decode cX0_candidateAt 29 = .ok (.goto 4, 3) := by decide +kernel
theorem dX0_candidateAt_32 : decode cX0_candidateAt 32 = .ok (.iload_n 2, 1) := by decide +kernel
theorem dX0_candidateAt_33 : decode cX0_candidateAt 33 = .ok (.istore_n 3, 1) := by decide +kernel
theorem dX0_candidateAt_34 : decode cX0_candidateAt 34 = .ok (.aload_n 0, 1) := by decide +kernel
theorem dX0_candidateAt_35 : decode cX0_candidateAt 35 = .ok (.getfield 27, 3) := by decide +kernel
theorem dX0_candidateAt_38 : decode cX0_candidateAt 38 = .ok (.iload_n 1, 1) := by decide +kernel
theorem dX0_candidateAt_39 : decode cX0_candidateAt 39 = .ok (.bipush 6, 2) := by decide +kernel
theorem dX0_candidateAt_41 : decode cX0_candidateAt 41 = .ok (.imul, 1) := by decide +kernel
theorem dX0_candidateAt_42 : decode cX0_candidateAt 42 = .ok (.iload_n 3, 1) := by decide +kernel
theorem dX0_candidateAt_43 : decode cX0_candidateAt 43 = .ok (.iadd, 1) := by decide +kernel
theorem dX0_candidateAt_44 : decode cX0_candidateAt 44 = .ok (.iaload, 1) := by decide +kernel
theorem dX0_candidateAt_45 : decode cX0_candidateAt 45 = .ok (.ireturn, 1) := by decide +kernel
theorem dX3_addBallot_0 : decode cX3_addBallot 0 = .ok (.iload_n 2, 1) := by decide +kernel
theorem dX3_addBallot_1 : decode cX3_addBallot 1 = .ok (.bipush 98, 2) := by decide +kernel
theorem dX3_addBallot_3 : decode cX3_addBallot 3 = .ok (.if_icmp .ne 13, 3) := by decide +kernel
theorem dX3_addBallot_6 : decode cX3_addBallot 6 = .ok (.aload_n 0, 1) := by decide +kernel
theorem dX3_addBallot_7 : decode cX3_addBallot 7 = .ok (.getfield 44, 3) := by decide +kernel
theorem dX3_addBallot_10 : decode cX3_addBallot 10 = .ok (.invokestatic 74, 3) := by decide +kernel
theorem dX3_addBallot_13 : decode cX3_addBallot 13 = .ok (.goto 4, 3) := by decide +kernel
theorem dX3_addBallot_16 : decode cX3_addBallot 16 = .ok (.iconst 1, 1) := by decide +kernel
theorem dX3_addBallot_17 : decode cX3_addBallot 17 = .ok (.istore 4, 2) := by decide +kernel
theorem dX3_addBallot_19 : decode cX3_addBallot 19 = .ok (.iconst 0, 1) := by decide +kernel
theorem dX3_addBallot_20 : decode cX3_addBallot 20 = .ok (.istore 5, 2) := by decide +kernel
theorem dX3_addBallot_22 : decode cX3_addBallot 22 = .ok (.iconst 0, 1) := by decide +kernel
theorem dX3_addBallot_23 : decode cX3_addBallot 23 = .ok (.istore 6, 2) := by decide +kernel
theorem dX3_addBallot_25 : decode cX3_addBallot 25 = .ok (.iload 6, 2) := by decide +kernel
theorem dX3_addBallot_27 : decode cX3_addBallot 27 = .ok (.aload_n 0, 1) := by decide +kernel
theorem dX3_addBallot_28 : decode cX3_addBallot 28 = .ok (.getfield 58, 3) := by decide +kernel
theorem dX3_addBallot_31 : decode cX3_addBallot 31 = .ok (.getfield 80, 3) := by decide +kernel
theorem dX3_addBallot_34 : decode cX3_addBallot 34 = .ok (.iload_n 1, 1) := by decide +kernel
theorem dX3_addBallot_35 : decode cX3_addBallot 35 = .ok (.iaload, 1) := by decide +kernel
theorem dX3_addBallot_36 : decode cX3_addBallot 36 = .ok (.if_icmp .ge 76, 3) := by decide +kernel
theorem dX3_addBallot_39 : decode cX3_addBallot 39 = .ok (.aload_n 0, 1) := by decide +kernel
theorem dX3_addBallot_40 : decode cX3_addBallot 40 = .ok (.getfield 58, 3) := by decide +kernel
theorem dX3_addBallot_43 : decode cX3_addBallot 43 = .ok (.iload_n 1, 1) := by decide +kernel
theorem dX3_addBallot_44 : decode cX3_addBallot 44 = .ok (.iload 6, 2) := by decide +kernel
theorem dX3_addBallot_46 : decode cX3_addBallot 46 = .ok (.invokevirtual 83, 3) := by decide +kernel
theorem dX3_addBallot_49 : decode cX3_addBallot 49 = .ok (.istore 7, 2) := by decide +kernel
theorem dX3_addBallot_51 : decode cX3_addBallot 51 = .ok (.iload 7, 2) := by decide +kernel
theorem dX3_addBallot_53 : decode cX3_addBallot 53 = .ok (.ifCond .lt 53, 3) := by decide +kernel
theorem dX3_addBallot_56 : decode cX3_addBallot 56 = .ok (.aload_n 0, 1) := by decide +kernel
theorem dX3_addBallot_57 : decode cX3_addBallot 57 = .ok (.getfield 44, 3) := by decide +kernel
theorem dX3_addBallot_60 : decode cX3_addBallot 60 = .ok (.iload 7, 2) := by decide +kernel
theorem dX3_addBallot_62 : decode cX3_addBallot 62 = .ok (.invokestatic 86, 3) := by decide +kernel
theorem dX3_addBallot_65 : decode cX3_addBallot 65 = .ok (.ifCond .ne 6, 3) := by decide +kernel
theorem dX3_addBallot_68 : decode cX3_addBallot 68 = .ok (.goto 38, 3) := by decide +kernel
theorem dX3_addBallot_71 : decode cX3_addBallot 71 = .ok (.aload_n 0, 1) := by decide +kernel
theorem dX3_addBallot_72 : decode cX3_addBallot 72 = .ok (.getfield 9, 3) := by decide +kernel
theorem dX3_addBallot_75 : decode cX3_addBallot 75 = .ok (.iload_n 3, 1) := by decide +kernel
theorem dX3_addBallot_76 : decode cX3_addBallot 76 = .ok (.iload 7, 2) := by decide +kernel
theorem dX3_addBallot_78 : decode cX3_addBallot 78 = .ok (.iadd, 1) := by decide +kernel
theorem dX3_addBallot_79 : decode cX3_addBallot 79 = .ok (.dup2, 1) := by decide +kernel
theorem dX3_addBallot_80 : decode cX3_addBallot 80 = .ok (.iaload, 1) := by decide +kernel
theorem dX3_addBallot_81 : decode cX3_addBallot 81 = .ok (.iload 4, 2) := by decide +kernel
theorem dX3_addBallot_83 : decode cX3_addBallot 83 = .ok (.iadd, 1) := by decide +kernel
theorem dX3_addBallot_84 : decode cX3_addBallot 84 = .ok (.iastore, 1) := by decide +kernel
theorem dX3_addBallot_85 : decode cX3_addBallot 85 = .ok (.iconst 1, 1) := by decide +kernel
theorem dX3_addBallot_86 : decode cX3_addBallot 86 = .ok (.istore 5, 2) := by decide +kernel
theorem dX3_addBallot_88 : decode cX3_addBallot 88 = .ok (.iload_n 2, 1) := by decide +kernel
theorem dX3_addBallot_89 : decode cX3_addBallot 89 = .ok (.bipush 116, 2) := by decide +kernel
theorem dX3_addBallot_91 : decode cX3_addBallot 91 = .ok (.if_icmp .ne 6, 3) := by decide +kernel
theorem dX3_addBallot_94 : decode cX3_addBallot 94 = .ok (.iload 5, 2) := by decide +kernel
theorem dX3_addBallot_96 : decode cX3_addBallot 96 = .ok (.ireturn, 1) := by decide +kernel
theorem dX3_addBallot_97 : decode cX3_addBallot 97 = .ok (.iload_n 2, 1) := by decide +kernel
theorem dX3_addBallot_98 : decode cX3_addBallot 98 = .ok (.bipush 98, 2) := by decide +kernel
theorem dX3_addBallot_100 : decode cX3_addBallot 100 = .ok (.if_icmp .ne 6, 3) := by decide +kernel
theorem dX3_addBallot_103 : decode cX3_addBallot 103 = .ok (.iinc 4 (-1), 3) := by decide +kernel
theorem dX3_addBallot_106 : decode cX3_addBallot 106 = .ok (.iinc 6 1, 3) := by decide +kernel
theorem dX3_addBallot_109 : decode cX3_addBallot 109 = .ok (.goto (-84), 3) := by decide +kernel
theorem dX3_addBallot_112 : decode cX3_addBallot 112 = .ok (.iload 5, 2) := by decide +kernel
theorem dX3_addBallot_114 : decode cX3_addBallot 114 = .ok (.ireturn, 1) := by decide +kernel
theorem dX3_makeTally_0 : decode cX3_makeTally 0 = .ok (.aload_n 0, 1) := by decide +kernel
theorem dX3_makeTally_1 : decode cX3_makeTally 1 = .ok (.getfield 55, 3) := by decide +kernel
theorem dX3_makeTally_4 : decode cX3_makeTally 4 = .ok (.sipush 156, 3) := by decide +kernel
theorem dX3_makeTally_7 : decode cX3_makeTally 7 = .ok (.if_icmp .lt 4, 3) := by decide +kernel
theorem dX3_makeTally_10 : decode cX3_makeTally 10 = .ok (.return_, 1) := by decide +kernel
theorem dX3_makeTally_11 : decode cX3_makeTally 11 = .ok (.aload_n 0, 1) := by decide +kernel
theorem dX3_makeTally_12 : decode cX3_makeTally 12 = .ok (.getfield 55, 3) := by decide +kernel
theorem dX3_makeTally_15 : decode cX3_makeTally 15 = .ok (.bipush 6, 2) := by decide +kernel
theorem dX3_makeTally_17 : decode cX3_makeTally 17 = .ok (.imul, 1) := by decide +kernel
theorem dX3_makeTally_18 : decode cX3_makeTally 18 = .ok (.istore_n 2, 1) := by decide +kernel
theorem dX3_makeTally_19 : decode cX3_makeTally 19 = .ok (.iconst 0, 1) := by decide +kernel
theorem dX3_makeTally_20 : decode cX3_makeTally 20 = .ok (.istore_n 3, 1) := by decide +kernel
theorem dX3_makeTally_21 : decode cX3_makeTally 21 = .ok (.iload_n 3, 1) := by decide +kernel
theorem dX3_makeTally_22 : decode cX3_makeTally 22 = .ok (.bipush 6, 2) := by decide +kernel
theorem dX3_makeTally_24 : decode cX3_makeTally 24 = .ok (.if_icmp .ge 18, 3) := by decide +kernel
theorem dX3_makeTally_27 : decode cX3_makeTally 27 = .ok (.aload_n 0, 1) := by decide +kernel
theorem dX3_makeTally_28 : decode cX3_makeTally 28 = .ok (.getfield 9, 3) := by decide +kernel
theorem dX3_makeTally_31 : decode cX3_makeTally 31 = .ok (.iload_n 2, 1) := by decide +kernel
theorem dX3_makeTally_32 : decode cX3_makeTally 32 = .ok (.iload_n 3, 1) := by decide +kernel
theorem dX3_makeTally_33 : decode cX3_makeTally 33 = .ok (.iadd, 1) := by decide +kernel
theorem dX3_makeTally_34 : decode cX3_makeTally 34 = .ok (.iconst 0, 1) := by decide +kernel
theorem dX3_makeTally_35 : decode cX3_makeTally 35 = .ok (.iastore, 1) := by decide +kernel
theorem dX3_makeTally_36 : decode cX3_makeTally 36 = .ok (.iinc 3 1, 3) := by decide +kernel
theorem dX3_makeTally_39 : decode cX3_makeTally 39 = .ok (.goto (-18), 3) := by decide +kernel
theorem dX3_makeTally_42 : decode cX3_makeTally 42 = .ok (.iconst 0, 1) := by decide +kernel
theorem dX3_makeTally_43 : decode cX3_makeTally 43 = .ok (.istore_n 3, 1) := by decide +kernel
theorem dX3_makeTally_44 : decode cX3_makeTally 44 = .ok (.iconst 0, 1) := by decide +kernel
theorem dX3_makeTally_45 : decode cX3_makeTally 45 = .ok (.istore 4, 2) := by decide +kernel
theorem dX3_makeTally_47 : decode cX3_makeTally 47 = .ok (.iload 4, 2) := by decide +kernel
theorem dX3_makeTally_49 : decode cX3_makeTally 49 = .ok (.aload_n 0, 1) := by decide +kernel
theorem dX3_makeTally_50 : decode cX3_makeTally 50 = .ok (.getfield 58, 3) := by decide +kernel
theorem dX3_makeTally_53 : decode cX3_makeTally 53 = .ok (.getfield 62, 3) := by decide +kernel
theorem dX3_makeTally_56 : decode cX3_makeTally 56 = .ok (.if_icmp .ge 28, 3) := by decide +kernel
theorem dX3_makeTally_59 : decode cX3_makeTally 59 = .ok (.iload_n 3, 1) := by decide +kernel
theorem dX3_makeTally_60 : decode cX3_makeTally 60 = .ok (.aload_n 0, 1) := by decide +kernel
theorem dX3_makeTally_61 : decode cX3_makeTally 61 = .ok (.aload_n 0, 1) := by decide +kernel
theorem dX3_makeTally_62 : decode cX3_makeTally 62 = .ok (.getfield 58, 3) := by decide +kernel
theorem dX3_makeTally_65 : decode cX3_makeTally 65 = .ok (.getfield 67, 3) := by decide +kernel
theorem dX3_makeTally_68 : decode cX3_makeTally 68 = .ok (.iload 4, 2) := by decide +kernel
theorem dX3_makeTally_70 : decode cX3_makeTally 70 = .ok (.iaload, 1) := by decide +kernel
theorem dX3_makeTally_71 : decode cX3_makeTally 71 = .ok (.iload_n 1, 1) := by decide +kernel
theorem dX3_makeTally_72 : decode cX3_makeTally 72 = .ok (.iload_n 2, 1) := by decide +kernel
theorem dX3_makeTally_73 : decode cX3_makeTally 73 = .ok (.invokevirtual 70, 3) := by decide +kernel
theorem dX3_makeTally_76 : decode cX3_makeTally 76 = .ok (.iadd, 1) := by decide +kernel
theorem dX3_makeTally_77 : decode cX3_makeTally 77 = .ok (.istore_n 3, 1) := by decide +kernel
theorem dX3_makeTally_78 : decode cX3_makeTally 78 = .ok (.iinc 4 1, 3) := by decide +kernel
theorem dX3_makeTally_81 : decode cX3_makeTally 81 = .ok (.goto (-34), 3) := by decide +kernel
theorem dX3_makeTally_84 : decode cX3_makeTally 84 = .ok (.aload_n 0, 1) := by decide +kernel
theorem dX3_makeTally_85 : decode cX3_makeTally 85 = .ok (.getfield 15, 3) := by decide +kernel
theorem dX3_makeTally_88 : decode cX3_makeTally 88 = .ok (.aload_n 0, 1) := by decide +kernel
theorem dX3_makeTally_89 : decode cX3_makeTally 89 = .ok (.getfield 55, 3) := by decide +kernel
theorem dX3_makeTally_92 : decode cX3_makeTally 92 = .ok (.aload_n 0, 1) := by decide +kernel
theorem dX3_makeTally_93 : decode cX3_makeTally 93 = .ok (.getfield 44, 3) := by decide +kernel
theorem dX3_makeTally_96 : decode cX3_makeTally 96 = .ok (.iastore, 1) := by decide +kernel
theorem dX3_makeTally_97 : decode cX3_makeTally 97 = .ok (.aload_n 0, 1) := by decide +kernel
theorem dX3_makeTally_98 : decode cX3_makeTally 98 = .ok (.getfield 18, 3) := by decide +kernel
theorem dX3_makeTally_101 : decode cX3_makeTally 101 = .ok (.aload_n 0, 1) := by decide +kernel
theorem dX3_makeTally_102 : decode cX3_makeTally 102 = .ok (.getfield 55, 3) := by decide +kernel
theorem dX3_makeTally_105 : decode cX3_makeTally 105 = .ok (.iload_n 3, 1) := by decide +kernel
theorem dX3_makeTally_106 : decode cX3_makeTally 106 = .ok (.iastore, 1) := by decide +kernel
theorem dX3_makeTally_107 : decode cX3_makeTally 107 = .ok (.aload_n 0, 1) := by decide +kernel
theorem dX3_makeTally_108 : decode cX3_makeTally 108 = .ok (.dup, 1) := by decide +kernel
theorem dX3_makeTally_109 : decode cX3_makeTally 109 = .ok (.getfield 55, 3) := by decide +kernel
theorem dX3_makeTally_112 : decode cX3_makeTally 112 = .ok (.iconst 1, 1) := by decide +kernel
theorem dX3_makeTally_113 : decode cX3_makeTally 113 = .ok (.iadd, 1) := by decide +kernel
theorem dX3_makeTally_114 : decode cX3_makeTally 114 = .ok (.putfield 55, 3) := by decide +kernel
theorem dX3_makeTally_117 : decode cX3_makeTally 117 = .ok (.return_, 1) := by decide +kernel
theorem dX1_obey_0 : decode cX1_obey 0 = .ok (.ldc 39, 2) := by decide +kernel
theorem dX1_obey_2 : decode cX1_obey 2 = .ok (.iload_n 1, 1) := by decide +kernel
theorem dX1_obey_3 : decode cX1_obey 3 = .ok (.invokevirtual 41, 3) := by decide +kernel
theorem dX1_obey_6 : decode cX1_obey 6 = .ok (.ifCond .lt 11, 3) := by decide +kernel
theorem dX1_obey_9 : decode cX1_obey 9 = .ok (.aload_n 0, 1) := by decide +kernel
theorem dX1_obey_10 : decode cX1_obey 10 = .ok (.iload_n 1, 1) := by decide +kernel
theorem dX1_obey_11 : decode cX1_obey 11 = .ok (.invokevirtual 47, 3) := by decide +kernel
theorem dX1_obey_14 : decode cX1_obey 14 = .ok (.goto 26, 3) := by decide +kernel
theorem dX1_obey_17 : decode cX1_obey 17 = .ok (.ldc 51, 2) := by decide +kernel
theorem dX1_obey_19 : decode cX1_obey 19 = .ok (.iload_n 1, 1) := by decide +kernel
theorem dX1_obey_20 : decode cX1_obey 20 = .ok (.invokevirtual 41, 3) := by decide +kernel
theorem dX1_obey_23 : decode cX1_obey 23 = .ok (.ifCond .lt 11, 3) := by decide +kernel
theorem dX1_obey_26 : decode cX1_obey 26 = .ok (.aload_n 0, 1) := by decide +kernel
theorem dX1_obey_27 : decode cX1_obey 27 = .ok (.iload_n 1, 1) := by decide +kernel
theorem dX1_obey_28 : decode cX1_obey 28 = .ok (.putfield 35, 3) := by decide +kernel
theorem dX1_obey_31 : decode cX1_obey 31 = .ok (.goto 9, 3) := by decide +kernel
theorem dX1_obey_34 : decode cX1_obey 34 = .ok (.aload_n 0, 1) := by decide +kernel
theorem dX1_obey_35 : decode cX1_obey 35 = .ok (.iload_n 1, 1) := by decide +kernel
theorem dX1_obey_36 : decode cX1_obey 36 = .ok (.iload_n 2, 1) := by decide +kernel
theorem dX1_obey_37 : decode cX1_obey 37 = .ok (.invokevirtual 53, 3) := by decide +kernel
theorem dX1_obey_40 : decode cX1_obey 40 = .ok (.return_, 1) := by decide +kernel
theorem dX3_stepAfterPass_0 : decode cX3_stepAfterPass 0 = .ok (.iload_n 2, 1) := by decide +kernel
theorem dX3_stepAfterPass_1 : decode cX3_stepAfterPass 1 = .ok (.iconst 0, 1) := by decide +kernel
theorem dX3_stepAfterPass_2 : decode cX3_stepAfterPass 2 = .ok (.iload_n 1, 1) := by decide +kernel
theorem dX3_stepAfterPass_3 : decode cX3_stepAfterPass 3 = .ok (.invokestatic 51, 3) := by decide +kernel
theorem dX3_stepAfterPass_6 : decode cX3_stepAfterPass 6 = .ok (.ifCond .eq 20, 3) := by decide +kernel
theorem dX3_stepAfterPass_9 : decode cX3_stepAfterPass 9 = .ok (.aload_n 0, 1) := by decide +kernel
theorem dX3_stepAfterPass_10 : decode cX3_stepAfterPass 10 = .ok (.getfield 21, 3) := by decide +kernel
theorem dX3_stepAfterPass_13 : decode cX3_stepAfterPass 13 = .ok (.iload_n 2, 1) := by decide +kernel
theorem dX3_stepAfterPass_14 : decode cX3_stepAfterPass 14 = .ok (.iaload, 1) := by decide +kernel
theorem dX3_stepAfterPass_15 : decode cX3_stepAfterPass 15 = .ok (.aload_n 0, 1) := by decide +kernel
theorem dX3_stepAfterPass_16 : decode cX3_stepAfterPass 16 = .ok (.getfield 44, 3) := by decide +kernel
theorem dX3_stepAfterPass_19 : decode cX3_stepAfterPass 19 = .ok (.if_icmp .eq 7, 3) := by decide +kernel
theorem dX3_stepAfterPass_22 : decode cX3_stepAfterPass 22 = .ok (.iconst 1, 1) := by decide +kernel
theorem dX3_stepAfterPass_23 : decode cX3_stepAfterPass 23 = .ok (.goto 4, 3) := by decide +kernel
theorem dX3_stepAfterPass_26 : decode cX3_stepAfterPass 26 = .ok (.iconst 0, 1) := by decide +kernel
theorem dX3_stepAfterPass_27 : decode cX3_stepAfterPass 27 = .ok (.istore_n 3, 1) := by decide +kernel
theorem dX3_stepAfterPass_28 : decode cX3_stepAfterPass 28 = .ok (.iload_n 3, 1) := by decide +kernel
theorem dX3_stepAfterPass_29 : decode cX3_stepAfterPass 29 = .ok (.ifCond .eq 7, 3) := by decide +kernel
theorem dX3_stepAfterPass_32 : decode cX3_stepAfterPass 32 = .ok (.iload_n 2, 1) := by decide +kernel
theorem dX3_stepAfterPass_33 : decode cX3_stepAfterPass 33 = .ok (.goto 6, 3) := by decide +kernel
theorem dX3_stepAfterPass_36 : decode cX3_stepAfterPass 36 = .ok (.iload_n 1, 1) := by decide +kernel
theorem dX3_stepAfterPass_37 : decode cX3_stepAfterPass 37 = .ok (.iconst 1, 1) := by decide +kernel
theorem dX3_stepAfterPass_38 : decode cX3_stepAfterPass 38 = .ok (.iadd, 1) := by decide +kernel
theorem dX3_stepAfterPass_39 : decode cX3_stepAfterPass 39 = .ok (.ireturn, 1) := by decide +kernel
theorem dX3_follow_0 : decode cX3_follow 0 = .ok (.iconst 0, 1) := by decide +kernel
theorem dX3_follow_1 : decode cX3_follow 1 = .ok (.istore_n 2, 1) := by decide +kernel
theorem dX3_follow_2 : decode cX3_follow 2 = .ok (.iconst 0, 1) := by decide +kernel
theorem dX3_follow_3 : decode cX3_follow 3 = .ok (.istore_n 3, 1) := by decide +kernel
theorem dX3_follow_4 : decode cX3_follow 4 = .ok (.iload_n 3, 1) := by decide +kernel
theorem dX3_follow_5 : decode cX3_follow 5 = .ok (.sipush 10000, 3) := by decide +kernel
theorem dX3_follow_8 : decode cX3_follow 8 = .ok (.if_icmp .ge 94, 3) := by decide +kernel
theorem dX3_follow_11 : decode cX3_follow 11 = .ok (.aload_n 0, 1) := by decide +kernel
theorem dX3_follow_12 : decode cX3_follow 12 = .ok (.getfield 24, 3) := by decide +kernel
theorem dX3_follow_15 : decode cX3_follow 15 = .ok (.ifCond .le 87, 3) := by decide +kernel
theorem dX3_follow_18 : decode cX3_follow 18 = .ok (.iload_n 2, 1) := by decide +kernel
theorem dX3_follow_19 : decode cX3_follow 19 = .ok (.ifCond .lt 11, 3) := by decide +kernel
theorem dX3_follow_22 : decode cX3_follow 22 = .ok (.iload_n 2, 1) := by decide +kernel
theorem dX3_follow_23 : decode cX3_follow 23 = .ok (.aload_n 1, 1) := by decide +kernel
theorem dX3_follow_24 : decode cX3_follow 24 = .ok (.getfield 28, 3) := by decide +kernel
theorem dX3_follow_27 : decode cX3_follow 27 = .ok (.if_icmp .lt 4, 3) := by decide +kernel
theorem dX3_follow_30 : decode cX3_follow 30 = .ok (.return_, 1) := by decide +kernel
theorem dX3_follow_31 : decode cX3_follow 31 = .ok (.aload_n 1, 1) := by decide +kernel
theorem dX3_follow_32 : decode cX3_follow 32 = .ok (.getfield 33, 3) := by decide +kernel
theorem dX3_follow_35 : decode cX3_follow 35 = .ok (.iload_n 2, 1) := by decide +kernel
theorem dX3_follow_36 : decode cX3_follow 36 = .ok (.caload, 1) := by decide +kernel
theorem dX3_follow_37 : decode cX3_follow 37 = .ok (.istore 4, 2) := by decide +kernel
theorem dX3_follow_39 : decode cX3_follow 39 = .ok (.iload 4, 2) := by decide +kernel
theorem dX3_follow_41 : decode cX3_follow 41 = .ok (.bipush 41, 2) := by decide +kernel
theorem dX3_follow_43 : decode cX3_follow 43 = .ok (.if_icmp .ne 18, 3) := by decide +kernel
theorem dX3_follow_46 : decode cX3_follow 46 = .ok (.aload_n 0, 1) := by decide +kernel
theorem dX3_follow_47 : decode cX3_follow 47 = .ok (.iload_n 2, 1) := by decide +kernel
theorem dX3_follow_48 : decode cX3_follow 48 = .ok (.aload_n 1, 1) := by decide +kernel
theorem dX3_follow_49 : decode cX3_follow 49 = .ok (.getfield 37, 3) := by decide +kernel
theorem dX3_follow_52 : decode cX3_follow 52 = .ok (.iload_n 2, 1) := by decide +kernel
theorem dX3_follow_53 : decode cX3_follow 53 = .ok (.iaload, 1) := by decide +kernel
theorem dX3_follow_54 : decode cX3_follow 54 = .ok (.invokevirtual 40, 3) := by decide +kernel
theorem dX3_follow_57 : decode cX3_follow 57 = .ok (.istore_n 2, 1) := by decide +kernel
theorem dX3_follow_58 : decode cX3_follow 58 = .ok (.goto 38, 3) := by decide +kernel
theorem dX3_follow_61 : decode cX3_follow 61 = .ok (.iload 4, 2) := by decide +kernel
theorem dX3_follow_63 : decode cX3_follow 63 = .ok (.bipush 40, 2) := by decide +kernel
theorem dX3_follow_65 : decode cX3_follow 65 = .ok (.if_icmp .ne 16, 3) := by decide +kernel
theorem dX3_follow_68 : decode cX3_follow 68 = .ok (.aload_n 0, 1) := by decide +kernel
theorem dX3_follow_69 : decode cX3_follow 69 = .ok (.getfield 21, 3) := by decide +kernel
theorem dX3_follow_72 : decode cX3_follow 72 = .ok (.iload_n 2, 1) := by decide +kernel
theorem dX3_follow_73 : decode cX3_follow 73 = .ok (.aload_n 0, 1) := by decide +kernel
theorem dX3_follow_74 : decode cX3_follow 74 = .ok (.getfield 44, 3) := by decide +kernel
theorem dX3_follow_77 : decode cX3_follow 77 = .ok (.iastore, 1) := by decide +kernel
theorem dX3_follow_78 : decode cX3_follow 78 = .ok (.goto 15, 3) := by decide +kernel
theorem dX3_follow_81 : decode cX3_follow 81 = .ok (.aload_n 0, 1) := by decide +kernel
theorem dX3_follow_82 : decode cX3_follow 82 = .ok (.iload 4, 2) := by decide +kernel
theorem dX3_follow_84 : decode cX3_follow 84 = .ok (.aload_n 1, 1) := by decide +kernel
theorem dX3_follow_85 : decode cX3_follow 85 = .ok (.getfield 37, 3) := by decide +kernel
theorem dX3_follow_88 : decode cX3_follow 88 = .ok (.iload_n 2, 1) := by decide +kernel
theorem dX3_follow_89 : decode cX3_follow 89 = .ok (.iaload, 1) := by decide +kernel
theorem dX3_follow_90 : decode cX3_follow 90 = .ok (.invokevirtual 47, 3) := by decide +kernel
theorem dX3_follow_93 : decode cX3_follow 93 = .ok (.iinc 2 1, 3) := by decide +kernel
theorem dX3_follow_96 : decode cX3_follow 96 = .ok (.iinc 3 1, 3) := by decide +kernel
theorem dX3_follow_99 : decode cX3_follow 99 = .ok (.goto (-95), 3) := by decide +kernel
theorem dX3_follow_102 : decode cX3_follow 102 = .ok (.return_, 1) := by decide +kernel
theorem dX9_countVote_0 : decode cX9_countVote 0 = .ok (.aload_n 0, 1) := by decide +kernel
theorem dX9_countVote_1 : decode cX9_countVote 1 = .ok (.getfield 47, 3) := by decide +kernel
theorem dX9_countVote_4 : decode cX9_countVote 4 = .ok (.iload_n 1, 1) := by decide +kernel
theorem dX9_countVote_5 : decode cX9_countVote 5 = .ok (.invokevirtual 186, 3) := by decide +kernel
theorem dX9_countVote_8 : decode cX9_countVote 8 = .ok (.aload_n 0, 1) := by decide +kernel
theorem dX9_countVote_9 : decode cX9_countVote 9 = .ok (.getfield 56, 3) := by decide +kernel
theorem dX9_countVote_12 : decode cX9_countVote 12 = .ok (.aload_n 0, 1) := by decide +kernel
theorem dX9_countVote_13 : decode cX9_countVote 13 = .ok (.getfield 31, 3) := by decide +kernel
theorem dX9_countVote_16 : decode cX9_countVote 16 = .ok (.iload_n 1, 1) := by decide +kernel
theorem dX9_countVote_17 : decode cX9_countVote 17 = .ok (.aaload, 1) := by decide +kernel
theorem dX9_countVote_18 : decode cX9_countVote 18 = .ok (.getfield 209, 3) := by decide +kernel
theorem dX9_countVote_21 : decode cX9_countVote 21 = .ok (.aload_n 0, 1) := by decide +kernel
theorem dX9_countVote_22 : decode cX9_countVote 22 = .ok (.getfield 31, 3) := by decide +kernel
theorem dX9_countVote_25 : decode cX9_countVote 25 = .ok (.iload_n 1, 1) := by decide +kernel
theorem dX9_countVote_26 : decode cX9_countVote 26 = .ok (.aaload, 1) := by decide +kernel
theorem dX9_countVote_27 : decode cX9_countVote 27 = .ok (.getfield 262, 3) := by decide +kernel
theorem dX9_countVote_30 : decode cX9_countVote 30 = .ok (.invokevirtual 308, 3) := by decide +kernel
theorem dX9_countVote_33 : decode cX9_countVote 33 = .ok (.aload_n 0, 1) := by decide +kernel
theorem dX9_countVote_34 : decode cX9_countVote 34 = .ok (.getfield 56, 3) := by decide +kernel
theorem dX9_countVote_37 : decode cX9_countVote 37 = .ok (.aload_n 0, 1) := by decide +kernel
theorem dX9_countVote_38 : decode cX9_countVote 38 = .ok (.getfield 25, 3) := by decide +kernel
theorem dX9_countVote_41 : decode cX9_countVote 41 = .ok (.aload_n 0, 1) := by decide +kernel
theorem dX9_countVote_42 : decode cX9_countVote 42 = .ok (.getfield 31, 3) := by decide +kernel
theorem dX9_countVote_45 : decode cX9_countVote 45 = .ok (.iload_n 1, 1) := by decide +kernel
theorem dX9_countVote_46 : decode cX9_countVote 46 = .ok (.aaload, 1) := by decide +kernel
theorem dX9_countVote_47 : decode cX9_countVote 47 = .ok (.getfield 268, 3) := by decide +kernel
theorem dX9_countVote_50 : decode cX9_countVote 50 = .ok (.aaload, 1) := by decide +kernel
theorem dX9_countVote_51 : decode cX9_countVote 51 = .ok (.invokevirtual 309, 3) := by decide +kernel
theorem dX9_countVote_54 : decode cX9_countVote 54 = .ok (.aload_n 0, 1) := by decide +kernel
theorem dX9_countVote_55 : decode cX9_countVote 55 = .ok (.getfield 56, 3) := by decide +kernel
theorem dX9_countVote_58 : decode cX9_countVote 58 = .ok (.areturn, 1) := by decide +kernel
theorem dX9_mend_0 : decode cX9_mend 0 = .ok (.iload_n 1, 1) := by decide +kernel
theorem dX9_mend_1 : decode cX9_mend 1 = .ok (.iconst 0, 1) := by decide +kernel
theorem dX9_mend_2 : decode cX9_mend 2 = .ok (.aload_n 0, 1) := by decide +kernel
theorem dX9_mend_3 : decode cX9_mend 3 = .ok (.getfield 139, 3) := by decide +kernel
theorem dX9_mend_6 : decode cX9_mend 6 = .ok (.iconst 1, 1) := by decide +kernel
theorem dX9_mend_7 : decode cX9_mend 7 = .ok (.isub, 1) := by decide +kernel
theorem dX9_mend_8 : decode cX9_mend 8 = .ok (.invokestatic 69, 3) := by decide +kernel
theorem dX9_mend_11 : decode cX9_mend 11 = .ok (.ifCond .ne 13, 3) := by decide +kernel
theorem dX9_mend_14 : decode cX9_mend 14 = .ok (.new 73, 3) := by decide +kernel
theorem dX9_mend_17 : decode cX9_mend 17 = .ok (.dup, 1) := by decide +kernel
theorem dX9_mend_18 : decode cX9_mend 18 = .ok (.ldc 148, 2) := by decide +kernel
theorem dX9_mend_20 : decode cX9_mend 20 = .ok (.invokespecial 77, 3) := by decide +kernel
theorem dX9_mend_23 : decode cX9_mend 23 = .ok (.athrow, 1) := by decide +kernel
theorem dX9_mend_24 : decode cX9_mend 24 = .ok (.aload_n 0, 1) := by decide +kernel
theorem dX9_mend_25 : decode cX9_mend 25 = .ok (.getfield 19, 3) := by decide +kernel
theorem dX9_mend_28 : decode cX9_mend 28 = .ok (.invokevirtual 134, 3) := by decide +kernel
theorem dX9_mend_31 : decode cX9_mend 31 = .ok (.iconst (-1), 1) := by decide +kernel
theorem dX9_mend_32 : decode cX9_mend 32 = .ok (.if_icmp .eq 13, 3) := by decide +kernel
theorem dX9_mend_35 : decode cX9_mend 35 = .ok (.new 80, 3) := by decide +kernel
theorem dX9_mend_38 : decode cX9_mend 38 = .ok (.dup, 1) := by decide +kernel
theorem dX9_mend_39 : decode cX9_mend 39 = .ok (.ldc 137, 2) := by decide +kernel
theorem dX9_mend_41 : decode cX9_mend 41 = .ok (.invokespecial 84, 3) := by decide +kernel
theorem dX9_mend_44 : decode cX9_mend 44 = .ok (.athrow, 1) := by decide +kernel
theorem dX9_mend_45 : decode cX9_mend 45 = .ok (.iconst 0, 1) := by decide +kernel
theorem dX9_mend_46 : decode cX9_mend 46 = .ok (.istore_n 2, 1) := by decide +kernel
theorem dX9_mend_47 : decode cX9_mend 47 = .ok (.iload_n 2, 1) := by decide +kernel
theorem dX9_mend_48 : decode cX9_mend 48 = .ok (.aload_n 0, 1) := by decide +kernel
theorem dX9_mend_49 : decode cX9_mend 49 = .ok (.getfield 150, 3) := by decide +kernel
theorem dX9_mend_52 : decode cX9_mend 52 = .ok (.if_icmp .ge 26, 3) := by decide +kernel
theorem dX9_mend_55 : decode cX9_mend 55 = .ok (.aload_n 0, 1) := by decide +kernel
theorem dX9_mend_56 : decode cX9_mend 56 = .ok (.getfield 31, 3) := by decide +kernel
theorem dX9_mend_59 : decode cX9_mend 59 = .ok (.iload_n 2, 1) := by decide +kernel
theorem dX9_mend_60 : decode cX9_mend 60 = .ok (.aaload, 1) := by decide +kernel
theorem dX9_mend_61 : decode cX9_mend 61 = .ok (.aload_n 0, 1) := by decide +kernel
theorem dX9_mend_62 : decode cX9_mend 62 = .ok (.iload_n 2, 1) := by decide +kernel
theorem dX9_mend_63 : decode cX9_mend 63 = .ok (.invokevirtual 153, 3) := by decide +kernel
theorem dX9_mend_66 : decode cX9_mend 66 = .ok (.getfield 157, 3) := by decide +kernel
theorem dX9_mend_69 : decode cX9_mend 69 = .ok (.putfield 160, 3) := by decide +kernel
theorem dX9_mend_72 : decode cX9_mend 72 = .ok (.iinc 2 1, 3) := by decide +kernel
theorem dX9_mend_75 : decode cX9_mend 75 = .ok (.goto (-28), 3) := by decide +kernel
theorem dX9_mend_78 : decode cX9_mend 78 = .ok (.aload_n 0, 1) := by decide +kernel
theorem dX9_mend_79 : decode cX9_mend 79 = .ok (.getfield 25, 3) := by decide +kernel
theorem dX9_mend_82 : decode cX9_mend 82 = .ok (.iload_n 1, 1) := by decide +kernel
theorem dX9_mend_83 : decode cX9_mend 83 = .ok (.aaload, 1) := by decide +kernel
theorem dX9_mend_84 : decode cX9_mend 84 = .ok (.aload_n 0, 1) := by decide +kernel
theorem dX9_mend_85 : decode cX9_mend 85 = .ok (.getfield 19, 3) := by decide +kernel
theorem dX9_mend_88 : decode cX9_mend 88 = .ok (.invokevirtual 144, 3) := by decide +kernel
theorem dX9_mend_91 : decode cX9_mend 91 = .ok (.iconst 0, 1) := by decide +kernel
theorem dX9_mend_92 : decode cX9_mend 92 = .ok (.istore_n 2, 1) := by decide +kernel
theorem dX9_mend_93 : decode cX9_mend 93 = .ok (.iconst 0, 1) := by decide +kernel
theorem dX9_mend_94 : decode cX9_mend 94 = .ok (.istore_n 3, 1) := by decide +kernel
theorem dX9_mend_95 : decode cX9_mend 95 = .ok (.iload_n 3, 1) := by decide +kernel
theorem dX9_mend_96 : decode cX9_mend 96 = .ok (.aload_n 0, 1) := by decide +kernel
theorem dX9_mend_97 : decode cX9_mend 97 = .ok (.getfield 150, 3) := by decide +kernel
theorem dX9_mend_100 : decode cX9_mend 100 = .ok (.if_icmp .ge 32, 3) := by decide +kernel
theorem dX9_mend_103 : decode cX9_mend 103 = .ok (.aload_n 0, 1) := by decide +kernel
theorem dX9_mend_104 : decode cX9_mend 104 = .ok (.iload_n 3, 1) := by decide +kernel
theorem dX9_mend_105 : decode cX9_mend 105 = .ok (.invokevirtual 153, 3) := by decide +kernel
theorem dX9_mend_108 : decode cX9_mend 108 = .ok (.getfield 157, 3) := by decide +kernel
theorem dX9_mend_111 : decode cX9_mend 111 = .ok (.aload_n 0, 1) := by decide +kernel
theorem dX9_mend_112 : decode cX9_mend 112 = .ok (.getfield 31, 3) := by decide +kernel
theorem dX9_mend_115 : decode cX9_mend 115 = .ok (.iload_n 3, 1) := by decide +kernel
theorem dX9_mend_116 : decode cX9_mend 116 = .ok (.aaload, 1) := by decide +kernel
theorem dX9_mend_117 : decode cX9_mend 117 = .ok (.getfield 160, 3) := by decide +kernel
theorem dX9_mend_120 : decode cX9_mend 120 = .ok (.if_icmp .eq 6, 3) := by decide +kernel
theorem dX9_mend_123 : decode cX9_mend 123 = .ok (.iinc 2 1, 3) := by decide +kernel
theorem dX9_mend_126 : decode cX9_mend 126 = .ok (.iinc 3 1, 3) := by decide +kernel
theorem dX9_mend_129 : decode cX9_mend 129 = .ok (.goto (-34), 3) := by decide +kernel
theorem dX9_mend_132 : decode cX9_mend 132 = .ok (.iload_n 2, 1) := by decide +kernel
theorem dX9_mend_133 : decode cX9_mend 133 = .ok (.ireturn, 1) := by decide +kernel
theorem dX9_commands_0 : decode cX9_commands 0 = .ok (.iload_n 1, 1) := by decide +kernel
theorem dX9_commands_1 : decode cX9_commands 1 = .ok (.iconst 0, 1) := by decide +kernel
theorem dX9_commands_2 : decode cX9_commands 2 = .ok (.aload_n 0, 1) := by decide +kernel
theorem dX9_commands_3 : decode cX9_commands 3 = .ok (.getfield 139, 3) := by decide +kernel
theorem dX9_commands_6 : decode cX9_commands 6 = .ok (.iconst 1, 1) := by decide +kernel
theorem dX9_commands_7 : decode cX9_commands 7 = .ok (.isub, 1) := by decide +kernel
theorem dX9_commands_8 : decode cX9_commands 8 = .ok (.invokestatic 69, 3) := by decide +kernel
theorem dX9_commands_11 : decode cX9_commands 11 = .ok (.ifCond .ne 13, 3) := by decide +kernel
theorem dX9_commands_14 : decode cX9_commands 14 = .ok (.new 73, 3) := by decide +kernel
theorem dX9_commands_17 : decode cX9_commands 17 = .ok (.dup, 1) := by decide +kernel
theorem dX9_commands_18 : decode cX9_commands 18 = .ok (.ldc 148, 2) := by decide +kernel
theorem dX9_commands_20 : decode cX9_commands 20 = .ok (.invokespecial 77, 3) := by decide +kernel
theorem dX9_commands_23 : decode cX9_commands 23 = .ok (.athrow, 1) := by decide +kernel
theorem dX9_commands_24 : decode cX9_commands 24 = .ok (.aload_n 0, 1) := by decide +kernel
theorem dX9_commands_25 : decode cX9_commands 25 = .ok (.getfield 25, 3) := by decide +kernel
theorem dX9_commands_28 : decode cX9_commands 28 = .ok (.iload_n 1, 1) := by decide +kernel
theorem dX9_commands_29 : decode cX9_commands 29 = .ok (.aaload, 1) := by decide +kernel
theorem dX9_commands_30 : decode cX9_commands 30 = .ok (.getfield 163, 3) := by decide +kernel
theorem dX9_commands_33 : decode cX9_commands 33 = .ok (.ireturn, 1) := by decide +kernel
theorem dX8_begin_0 : decode cX8_begin 0 = .ok (.aload_n 0, 1) := by decide +kernel
theorem dX8_begin_1 : decode cX8_begin 1 = .ok (.iload_n 1, 1) := by decide +kernel
theorem dX8_begin_2 : decode cX8_begin 2 = .ok (.putfield 15, 3) := by decide +kernel
theorem dX8_begin_5 : decode cX8_begin 5 = .ok (.aload_n 0, 1) := by decide +kernel
theorem dX8_begin_6 : decode cX8_begin 6 = .ok (.iload_n 2, 1) := by decide +kernel
theorem dX8_begin_7 : decode cX8_begin 7 = .ok (.putfield 18, 3) := by decide +kernel
theorem dX8_begin_10 : decode cX8_begin 10 = .ok (.aload_n 0, 1) := by decide +kernel
theorem dX8_begin_11 : decode cX8_begin 11 = .ok (.iload_n 3, 1) := by decide +kernel
theorem dX8_begin_12 : decode cX8_begin 12 = .ok (.putfield 21, 3) := by decide +kernel
theorem dX8_begin_15 : decode cX8_begin 15 = .ok (.aload_n 0, 1) := by decide +kernel
theorem dX8_begin_16 : decode cX8_begin 16 = .ok (.iload 4, 2) := by decide +kernel
theorem dX8_begin_18 : decode cX8_begin 18 = .ok (.putfield 24, 3) := by decide +kernel
theorem dX8_begin_21 : decode cX8_begin 21 = .ok (.return_, 1) := by decide +kernel
theorem dX9_open_0 : decode cX9_open 0 = .ok (.iload_n 1, 1) := by decide +kernel
theorem dX9_open_1 : decode cX9_open 1 = .ok (.iconst 0, 1) := by decide +kernel
theorem dX9_open_2 : decode cX9_open 2 = .ok (.iconst 2, 1) := by decide +kernel
theorem dX9_open_3 : decode cX9_open 3 = .ok (.invokestatic 69, 3) := by decide +kernel
theorem dX9_open_6 : decode cX9_open 6 = .ok (.ifCond .eq 18, 3) := by decide +kernel
theorem dX9_open_9 : decode cX9_open 9 = .ok (.iload 4, 2) := by decide +kernel
theorem dX9_open_11 : decode cX9_open 11 = .ok (.iconst 0, 1) := by decide +kernel
theorem dX9_open_12 : decode cX9_open 12 = .ok (.aload_n 0, 1) := by decide +kernel
theorem dX9_open_13 : decode cX9_open 13 = .ok (.getfield 139, 3) := by decide +kernel
theorem dX9_open_16 : decode cX9_open 16 = .ok (.iconst 1, 1) := by decide +kernel
theorem dX9_open_17 : decode cX9_open 17 = .ok (.isub, 1) := by decide +kernel
theorem dX9_open_18 : decode cX9_open 18 = .ok (.invokestatic 69, 3) := by decide +kernel
theorem dX9_open_21 : decode cX9_open 21 = .ok (.ifCond .ne 13, 3) := by decide +kernel
theorem dX9_open_24 : decode cX9_open 24 = .ok (.new 73, 3) := by decide +kernel
theorem dX9_open_27 : decode cX9_open 27 = .ok (.dup, 1) := by decide +kernel
theorem dX9_open_28 : decode cX9_open 28 = .ok (.ldc 166, 2) := by decide +kernel
theorem dX9_open_30 : decode cX9_open 30 = .ok (.invokespecial 77, 3) := by decide +kernel
theorem dX9_open_33 : decode cX9_open 33 = .ok (.athrow, 1) := by decide +kernel
theorem dX9_open_34 : decode cX9_open 34 = .ok (.iload_n 2, 1) := by decide +kernel
theorem dX9_open_35 : decode cX9_open 35 = .ok (.iconst 2, 1) := by decide +kernel
theorem dX9_open_36 : decode cX9_open 36 = .ok (.bipush 6, 2) := by decide +kernel
theorem dX9_open_38 : decode cX9_open 38 = .ok (.invokestatic 69, 3) := by decide +kernel
theorem dX9_open_41 : decode cX9_open 41 = .ok (.ifCond .eq 14, 3) := by decide +kernel
theorem dX9_open_44 : decode cX9_open 44 = .ok (.iload_n 3, 1) := by decide +kernel
theorem dX9_open_45 : decode cX9_open 45 = .ok (.iconst 1, 1) := by decide +kernel
theorem dX9_open_46 : decode cX9_open 46 = .ok (.iload_n 2, 1) := by decide +kernel
theorem dX9_open_47 : decode cX9_open 47 = .ok (.iconst 1, 1) := by decide +kernel
theorem dX9_open_48 : decode cX9_open 48 = .ok (.isub, 1) := by decide +kernel
theorem dX9_open_49 : decode cX9_open 49 = .ok (.invokestatic 69, 3) := by decide +kernel
theorem dX9_open_52 : decode cX9_open 52 = .ok (.ifCond .ne 13, 3) := by decide +kernel
theorem dX9_open_55 : decode cX9_open 55 = .ok (.new 80, 3) := by decide +kernel
theorem dX9_open_58 : decode cX9_open 58 = .ok (.dup, 1) := by decide +kernel
theorem dX9_open_59 : decode cX9_open 59 = .ok (.ldc 168, 2) := by decide +kernel
theorem dX9_open_61 : decode cX9_open 61 = .ok (.invokespecial 84, 3) := by decide +kernel
theorem dX9_open_64 : decode cX9_open 64 = .ok (.athrow, 1) := by decide +kernel
theorem dX9_open_65 : decode cX9_open 65 = .ok (.aload_n 0, 1) := by decide +kernel
theorem dX9_open_66 : decode cX9_open 66 = .ok (.getfield 150, 3) := by decide +kernel
theorem dX9_open_69 : decode cX9_open 69 = .ok (.bipush 8, 2) := by decide +kernel
theorem dX9_open_71 : decode cX9_open 71 = .ok (.if_icmp .lt 13, 3) := by decide +kernel
theorem dX9_open_74 : decode cX9_open 74 = .ok (.new 89, 3) := by decide +kernel
theorem dX9_open_77 : decode cX9_open 77 = .ok (.dup, 1) := by decide +kernel
theorem dX9_open_78 : decode cX9_open 78 = .ok (.ldc 170, 2) := by decide +kernel
theorem dX9_open_80 : decode cX9_open 80 = .ok (.invokespecial 93, 3) := by decide +kernel
theorem dX9_open_83 : decode cX9_open 83 = .ok (.athrow, 1) := by decide +kernel
theorem dX9_open_84 : decode cX9_open 84 = .ok (.aload_n 0, 1) := by decide +kernel
theorem dX9_open_85 : decode cX9_open 85 = .ok (.getfield 31, 3) := by decide +kernel
theorem dX9_open_88 : decode cX9_open 88 = .ok (.aload_n 0, 1) := by decide +kernel
theorem dX9_open_89 : decode cX9_open 89 = .ok (.getfield 150, 3) := by decide +kernel
theorem dX9_open_92 : decode cX9_open 92 = .ok (.aaload, 1) := by decide +kernel
theorem dX9_open_93 : decode cX9_open 93 = .ok (.iload_n 1, 1) := by decide +kernel
theorem dX9_open_94 : decode cX9_open 94 = .ok (.iload_n 2, 1) := by decide +kernel
theorem dX9_open_95 : decode cX9_open 95 = .ok (.iload_n 3, 1) := by decide +kernel
theorem dX9_open_96 : decode cX9_open 96 = .ok (.iload 4, 2) := by decide +kernel
theorem dX9_open_98 : decode cX9_open 98 = .ok (.invokevirtual 172, 3) := by decide +kernel
theorem dX9_open_101 : decode cX9_open 101 = .ok (.aload_n 0, 1) := by decide +kernel
theorem dX9_open_102 : decode cX9_open 102 = .ok (.dup, 1) := by decide +kernel
theorem dX9_open_103 : decode cX9_open 103 = .ok (.getfield 150, 3) := by decide +kernel
theorem dX9_open_106 : decode cX9_open 106 = .ok (.iconst 1, 1) := by decide +kernel
theorem dX9_open_107 : decode cX9_open 107 = .ok (.iadd, 1) := by decide +kernel
theorem dX9_open_108 : decode cX9_open 108 = .ok (.putfield 150, 3) := by decide +kernel
theorem dX9_open_111 : decode cX9_open 111 = .ok (.aload_n 0, 1) := by decide +kernel
theorem dX9_open_112 : decode cX9_open 112 = .ok (.getfield 150, 3) := by decide +kernel
theorem dX9_open_115 : decode cX9_open 115 = .ok (.iconst 1, 1) := by decide +kernel
theorem dX9_open_116 : decode cX9_open 116 = .ok (.isub, 1) := by decide +kernel
theorem dX9_open_117 : decode cX9_open 117 = .ok (.ireturn, 1) := by decide +kernel
theorem dX9_needVote_0 : decode cX9_needVote 0 = .ok (.iload_n 1, 1) := by decide +kernel
theorem dX9_needVote_1 : decode cX9_needVote 1 = .ok (.iconst 0, 1) := by decide +kernel
theorem dX9_needVote_2 : decode cX9_needVote 2 = .ok (.aload_n 0, 1) := by decide +kernel
theorem dX9_needVote_3 : decode cX9_needVote 3 = .ok (.getfield 150, 3) := by decide +kernel
theorem dX9_needVote_6 : decode cX9_needVote 6 = .ok (.iconst 1, 1) := by decide +kernel
theorem dX9_needVote_7 : decode cX9_needVote 7 = .ok (.isub, 1) := by decide +kernel
theorem dX9_needVote_8 : decode cX9_needVote 8 = .ok (.invokestatic 69, 3) := by decide +kernel
theorem dX9_needVote_11 : decode cX9_needVote 11 = .ok (.ifCond .ne 14, 3) := by decide +kernel
theorem dX9_needVote_14 : decode cX9_needVote 14 = .ok (.new 73, 3) := by decide +kernel
theorem dX9_needVote_17 : decode cX9_needVote 17 = .ok (.dup, 1) := by decide +kernel
theorem dX9_needVote_18 : decode cX9_needVote 18 = .ok (.ldc_w 304, 3) := by decide +kernel
theorem dX9_needVote_21 : decode cX9_needVote 21 = .ok (.invokespecial 77, 3) := by decide +kernel
theorem dX9_needVote_24 : decode cX9_needVote 24 = .ok (.athrow, 1) := by decide +kernel
theorem dX9_needVote_25 : decode cX9_needVote 25 = .ok (.return_, 1) := by decide +kernel
theorem dX9_close_0 : decode cX9_close 0 = .ok (.aload_n 0, 1) := by decide +kernel
theorem dX9_close_1 : decode cX9_close 1 = .ok (.iload_n 1, 1) := by decide +kernel
theorem dX9_close_2 : decode cX9_close 2 = .ok (.invokevirtual 176, 3) := by decide +kernel
theorem dX9_close_5 : decode cX9_close 5 = .ok (.aload_n 0, 1) := by decide +kernel
theorem dX9_close_6 : decode cX9_close 6 = .ok (.getfield 31, 3) := by decide +kernel
theorem dX9_close_9 : decode cX9_close 9 = .ok (.iload_n 1, 1) := by decide +kernel
theorem dX9_close_10 : decode cX9_close 10 = .ok (.aaload, 1) := by decide +kernel
theorem dX9_close_11 : decode cX9_close 11 = .ok (.getfield 180, 3) := by decide +kernel
theorem dX9_close_14 : decode cX9_close 14 = .ok (.ifCond .eq 13, 3) := by decide +kernel
theorem dX9_close_17 : decode cX9_close 17 = .ok (.new 89, 3) := by decide +kernel
theorem dX9_close_20 : decode cX9_close 20 = .ok (.dup, 1) := by decide +kernel
theorem dX9_close_21 : decode cX9_close 21 = .ok (.ldc 184, 2) := by decide +kernel
theorem dX9_close_23 : decode cX9_close 23 = .ok (.invokespecial 93, 3) := by decide +kernel
theorem dX9_close_26 : decode cX9_close 26 = .ok (.athrow, 1) := by decide +kernel
theorem dX9_close_27 : decode cX9_close 27 = .ok (.aload_n 0, 1) := by decide +kernel
theorem dX9_close_28 : decode cX9_close 28 = .ok (.getfield 31, 3) := by decide +kernel
theorem dX9_close_31 : decode cX9_close 31 = .ok (.iload_n 1, 1) := by decide +kernel
theorem dX9_close_32 : decode cX9_close 32 = .ok (.aaload, 1) := by decide +kernel
theorem dX9_close_33 : decode cX9_close 33 = .ok (.iconst 1, 1) := by decide +kernel
theorem dX9_close_34 : decode cX9_close 34 = .ok (.putfield 180, 3) := by decide +kernel
theorem dX9_close_37 : decode cX9_close 37 = .ok (.aload_n 0, 1) := by decide +kernel
theorem dX9_close_38 : decode cX9_close 38 = .ok (.getfield 47, 3) := by decide +kernel
theorem dX9_close_41 : decode cX9_close 41 = .ok (.iload_n 1, 1) := by decide +kernel
theorem dX9_close_42 : decode cX9_close 42 = .ok (.invokevirtual 186, 3) := by decide +kernel
theorem dX9_close_45 : decode cX9_close 45 = .ok (.aload_n 0, 1) := by decide +kernel
theorem dX9_close_46 : decode cX9_close 46 = .ok (.getfield 47, 3) := by decide +kernel
theorem dX9_close_49 : decode cX9_close 49 = .ok (.getfield 189, 3) := by decide +kernel
theorem dX9_close_52 : decode cX9_close 52 = .ok (.ireturn, 1) := by decide +kernel
theorem dX6_has_0 : decode cX6_has 0 = .ok (.iconst 0, 1) := by decide +kernel
theorem dX6_has_1 : decode cX6_has 1 = .ok (.istore_n 2, 1) := by decide +kernel
theorem dX6_has_2 : decode cX6_has 2 = .ok (.iload_n 2, 1) := by decide +kernel
theorem dX6_has_3 : decode cX6_has 3 = .ok (.aload_n 0, 1) := by decide +kernel
theorem dX6_has_4 : decode cX6_has 4 = .ok (.getfield 15, 3) := by decide +kernel
theorem dX6_has_7 : decode cX6_has 7 = .ok (.if_icmp .ge 21, 3) := by decide +kernel
theorem dX6_has_10 : decode cX6_has 10 = .ok (.aload_n 0, 1) := by decide +kernel
theorem dX6_has_11 : decode cX6_has 11 = .ok (.getfield 9, 3) := by decide +kernel
theorem dX6_has_14 : decode cX6_has 14 = .ok (.iload_n 2, 1) := by decide +kernel
theorem dX6_has_15 : decode cX6_has 15 = .ok (.iaload, 1) := by decide +kernel
theorem dX6_has_16 : decode cX6_has 16 = .ok (.iload_n 1, 1) := by decide +kernel
theorem dX6_has_17 : decode cX6_has 17 = .ok (.if_icmp .ne 5, 3) := by decide +kernel
theorem dX6_has_20 : decode cX6_has 20 = .ok (.iconst 1, 1) := by decide +kernel
theorem dX6_has_21 : decode cX6_has 21 = .ok (.ireturn, 1) := by decide +kernel
theorem dX6_has_22 : decode cX6_has 22 = .ok (.iinc 2 1, 3) := by decide +kernel
theorem dX6_has_25 : decode cX6_has 25 = .ok (.goto (-23), 3) := by decide +kernel
theorem dX6_has_28 : decode cX6_has 28 = .ok (.iconst 0, 1) := by decide +kernel
theorem dX6_has_29 : decode cX6_has 29 = .ok (.ireturn, 1) := by decide +kernel
theorem dX6_add_0 : decode cX6_add 0 = .ok (.aload_n 0, 1) := by decide +kernel
theorem dX6_add_1 : decode cX6_add 1 = .ok (.getfield 15, 3) := by decide +kernel
theorem dX6_add_4 : decode cX6_add 4 = .ok (.bipush 6, 2) := by decide +kernel
theorem dX6_add_6 : decode cX6_add 6 = .ok (.if_icmp .ge 23, 3) := by decide +kernel
theorem dX6_add_9 : decode cX6_add 9 = .ok (.aload_n 0, 1) := by decide +kernel
theorem dX6_add_10 : decode cX6_add 10 = .ok (.getfield 9, 3) := by decide +kernel
theorem dX6_add_13 : decode cX6_add 13 = .ok (.aload_n 0, 1) := by decide +kernel
theorem dX6_add_14 : decode cX6_add 14 = .ok (.getfield 15, 3) := by decide +kernel
theorem dX6_add_17 : decode cX6_add 17 = .ok (.iload_n 1, 1) := by decide +kernel
theorem dX6_add_18 : decode cX6_add 18 = .ok (.iastore, 1) := by decide +kernel
theorem dX6_add_19 : decode cX6_add 19 = .ok (.aload_n 0, 1) := by decide +kernel
theorem dX6_add_20 : decode cX6_add 20 = .ok (.dup, 1) := by decide +kernel
theorem dX6_add_21 : decode cX6_add 21 = .ok (.getfield 15, 3) := by decide +kernel
theorem dX6_add_24 : decode cX6_add 24 = .ok (.iconst 1, 1) := by decide +kernel
theorem dX6_add_25 : decode cX6_add 25 = .ok (.iadd, 1) := by decide +kernel
theorem dX6_add_26 : decode cX6_add 26 = .ok (.putfield 15, 3) := by decide +kernel
theorem dX6_add_29 : decode cX6_add 29 = .ok (.aload_n 0, 1) := by decide +kernel
theorem dX6_add_30 : decode cX6_add 30 = .ok (.getfield 15, 3) := by decide +kernel
theorem dX6_add_33 : decode cX6_add 33 = .ok (.ireturn, 1) := by decide +kernel
theorem dX9_mark_0 : decode cX9_mark 0 = .ok (.iload_n 1, 1) := by decide +kernel
theorem dX9_mark_1 : decode cX9_mark 1 = .ok (.iconst 0, 1) := by decide +kernel
theorem dX9_mark_2 : decode cX9_mark 2 = .ok (.iconst 5, 1) := by decide +kernel
theorem dX9_mark_3 : decode cX9_mark 3 = .ok (.invokestatic 69, 3) := by decide +kernel
theorem dX9_mark_6 : decode cX9_mark 6 = .ok (.ifCond .ne 13, 3) := by decide +kernel
theorem dX9_mark_9 : decode cX9_mark 9 = .ok (.new 73, 3) := by decide +kernel
theorem dX9_mark_12 : decode cX9_mark 12 = .ok (.dup, 1) := by decide +kernel
theorem dX9_mark_13 : decode cX9_mark 13 = .ok (.ldc 192, 2) := by decide +kernel
theorem dX9_mark_15 : decode cX9_mark 15 = .ok (.invokespecial 77, 3) := by decide +kernel
theorem dX9_mark_18 : decode cX9_mark 18 = .ok (.athrow, 1) := by decide +kernel
theorem dX9_mark_19 : decode cX9_mark 19 = .ok (.aload_n 0, 1) := by decide +kernel
theorem dX9_mark_20 : decode cX9_mark 20 = .ok (.getfield 38, 3) := by decide +kernel
theorem dX9_mark_23 : decode cX9_mark 23 = .ok (.iload_n 1, 1) := by decide +kernel
theorem dX9_mark_24 : decode cX9_mark 24 = .ok (.invokevirtual 194, 3) := by decide +kernel
theorem dX9_mark_27 : decode cX9_mark 27 = .ok (.ifCond .eq 13, 3) := by decide +kernel
theorem dX9_mark_30 : decode cX9_mark 30 = .ok (.new 89, 3) := by decide +kernel
theorem dX9_mark_33 : decode cX9_mark 33 = .ok (.dup, 1) := by decide +kernel
theorem dX9_mark_34 : decode cX9_mark 34 = .ok (.ldc 198, 2) := by decide +kernel
theorem dX9_mark_36 : decode cX9_mark 36 = .ok (.invokespecial 93, 3) := by decide +kernel
theorem dX9_mark_39 : decode cX9_mark 39 = .ok (.athrow, 1) := by decide +kernel
theorem dX9_mark_40 : decode cX9_mark 40 = .ok (.aload_n 0, 1) := by decide +kernel
theorem dX9_mark_41 : decode cX9_mark 41 = .ok (.getfield 38, 3) := by decide +kernel
theorem dX9_mark_44 : decode cX9_mark 44 = .ok (.iload_n 1, 1) := by decide +kernel
theorem dX9_mark_45 : decode cX9_mark 45 = .ok (.invokevirtual 200, 3) := by decide +kernel
theorem dX9_mark_48 : decode cX9_mark 48 = .ok (.ireturn, 1) := by decide +kernel
theorem dX6_highest_0 : decode cX6_highest 0 = .ok (.iconst (-1), 1) := by decide +kernel
theorem dX6_highest_1 : decode cX6_highest 1 = .ok (.istore_n 1, 1) := by decide +kernel
theorem dX6_highest_2 : decode cX6_highest 2 = .ok (.iconst 0, 1) := by decide +kernel
theorem dX6_highest_3 : decode cX6_highest 3 = .ok (.istore_n 2, 1) := by decide +kernel
theorem dX6_highest_4 : decode cX6_highest 4 = .ok (.iload_n 2, 1) := by decide +kernel
theorem dX6_highest_5 : decode cX6_highest 5 = .ok (.aload_n 0, 1) := by decide +kernel
theorem dX6_highest_6 : decode cX6_highest 6 = .ok (.getfield 15, 3) := by decide +kernel
theorem dX6_highest_9 : decode cX6_highest 9 = .ok (.if_icmp .ge 20, 3) := by decide +kernel
theorem dX6_highest_12 : decode cX6_highest 12 = .ok (.iload_n 1, 1) := by decide +kernel
theorem dX6_highest_13 : decode cX6_highest 13 = .ok (.aload_n 0, 1) := by decide +kernel
theorem dX6_highest_14 : decode cX6_highest 14 = .ok (.getfield 9, 3) := by decide +kernel
theorem dX6_highest_17 : decode cX6_highest 17 = .ok (.iload_n 2, 1) := by decide +kernel
theorem dX6_highest_18 : decode cX6_highest 18 = .ok (.iaload, 1) := by decide +kernel
theorem dX6_highest_19 : decode cX6_highest 19 = .ok (.invokestatic 19, 3) := by decide +kernel
theorem dX6_highest_22 : decode cX6_highest 22 = .ok (.istore_n 1, 1) := by decide +kernel
theorem dX6_highest_23 : decode cX6_highest 23 = .ok (.iinc 2 1, 3) := by decide +kernel
theorem dX6_highest_26 : decode cX6_highest 26 = .ok (.goto (-22), 3) := by decide +kernel
theorem dX6_highest_29 : decode cX6_highest 29 = .ok (.iload_n 1, 1) := by decide +kernel
theorem dX6_highest_30 : decode cX6_highest 30 = .ok (.ireturn, 1) := by decide +kernel
theorem dX0_add_0 : decode cX0_add 0 = .ok (.aload_n 0, 1) := by decide +kernel
theorem dX0_add_1 : decode cX0_add 1 = .ok (.getfield 41, 3) := by decide +kernel
theorem dX0_add_4 : decode cX0_add 4 = .ok (.bipush 100, 2) := by decide +kernel
theorem dX0_add_6 : decode cX0_add 6 = .ok (.if_icmp .ge 110, 3) := by decide +kernel
theorem dX0_add_9 : decode cX0_add 9 = .ok (.aload_n 0, 1) := by decide +kernel
theorem dX0_add_10 : decode cX0_add 10 = .ok (.getfield 9, 3) := by decide +kernel
theorem dX0_add_13 : decode cX0_add 13 = .ok (.aload_n 0, 1) := by decide +kernel
theorem dX0_add_14 : decode cX0_add 14 = .ok (.getfield 41, 3) := by decide +kernel
theorem dX0_add_17 : decode cX0_add 17 = .ok (.iload_n 1, 1) := by decide +kernel
theorem dX0_add_18 : decode cX0_add 18 = .ok (.iastore, 1) := by decide +kernel
theorem dX0_add_19 : decode cX0_add 19 = .ok (.aload_n 0, 1) := by decide +kernel
theorem dX0_add_20 : decode cX0_add 20 = .ok (.getfield 15, 3) := by decide +kernel
theorem dX0_add_23 : decode cX0_add 23 = .ok (.aload_n 0, 1) := by decide +kernel
theorem dX0_add_24 : decode cX0_add 24 = .ok (.getfield 41, 3) := by decide +kernel
theorem dX0_add_27 : decode cX0_add 27 = .ok (.iload_n 2, 1) := by decide +kernel
theorem dX0_add_28 : decode cX0_add 28 = .ok (.iastore, 1) := by decide +kernel
theorem dX0_add_29 : decode cX0_add 29 = .ok (.aload_n 0, 1) := by decide +kernel
theorem dX0_add_30 : decode cX0_add 30 = .ok (.getfield 18, 3) := by decide +kernel
theorem dX0_add_33 : decode cX0_add 33 = .ok (.aload_n 0, 1) := by decide +kernel
theorem dX0_add_34 : decode cX0_add 34 = .ok (.getfield 41, 3) := by decide +kernel
theorem dX0_add_37 : decode cX0_add 37 = .ok (.iload_n 3, 1) := by decide +kernel
theorem dX0_add_38 : decode cX0_add 38 = .ok (.iastore, 1) := by decide +kernel
theorem dX0_add_39 : decode cX0_add 39 = .ok (.aload_n 0, 1) := by decide +kernel
theorem dX0_add_40 : decode cX0_add 40 = .ok (.getfield 21, 3) := by decide +kernel
theorem dX0_add_43 : decode cX0_add 43 = .ok (.aload_n 0, 1) := by decide +kernel
theorem dX0_add_44 : decode cX0_add 44 = .ok (.getfield 41, 3) := by decide +kernel
theorem dX0_add_47 : decode cX0_add 47 = .ok (.iload 4, 2) := by decide +kernel
theorem dX0_add_49 : decode cX0_add 49 = .ok (.iastore, 1) := by decide +kernel
theorem dX0_add_50 : decode cX0_add 50 = .ok (.aload_n 0, 1) := by decide +kernel
theorem dX0_add_51 : decode cX0_add 51 = .ok (.getfield 24, 3) := by decide +kernel
theorem dX0_add_54 : decode cX0_add 54 = .ok (.aload_n 0, 1) := by decide +kernel
theorem dX0_add_55 : decode cX0_add 55 = .ok (.getfield 41, 3) := by decide +kernel
theorem dX0_add_58 : decode cX0_add 58 = .ok (.aload 5, 2) := by decide +kernel
theorem dX0_add_60 : decode cX0_add 60 = .ok (.getfield 45, 3) := by decide +kernel
theorem dX0_add_63 : decode cX0_add 63 = .ok (.iastore, 1) := by decide +kernel
theorem dX0_add_64 : decode cX0_add 64 = .ok (.iconst 0, 1) := by decide +kernel
theorem dX0_add_65 : decode cX0_add 65 = .ok (.istore 6, 2) := by decide +kernel
theorem dX0_add_67 : decode cX0_add 67 = .ok (.iload 6, 2) := by decide +kernel
theorem dX0_add_69 : decode cX0_add 69 = .ok (.aload 5, 2) := by decide +kernel
theorem dX0_add_71 : decode cX0_add 71 = .ok (.getfield 45, 3) := by decide +kernel
theorem dX0_add_74 : decode cX0_add 74 = .ok (.if_icmp .ge 32, 3) := by decide +kernel
theorem dX0_add_77 : decode cX0_add 77 = .ok (.aload_n 0, 1) := by decide +kernel
theorem dX0_add_78 : decode cX0_add 78 = .ok (.getfield 27, 3) := by decide +kernel
theorem dX0_add_81 : decode cX0_add 81 = .ok (.aload_n 0, 1) := by decide +kernel
theorem dX0_add_82 : decode cX0_add 82 = .ok (.getfield 41, 3) := by decide +kernel
theorem dX0_add_85 : decode cX0_add 85 = .ok (.bipush 6, 2) := by decide +kernel
theorem dX0_add_87 : decode cX0_add 87 = .ok (.imul, 1) := by decide +kernel
theorem dX0_add_88 : decode cX0_add 88 = .ok (.iload 6, 2) := by decide +kernel
theorem dX0_add_90 : decode cX0_add 90 = .ok (.iadd, 1) := by decide +kernel
theorem dX0_add_91 : decode cX0_add 91 = .ok (.aload 5, 2) := by decide +kernel
theorem dX0_add_93 : decode cX0_add 93 = .ok (.getfield 48, 3) := by decide +kernel
theorem dX0_add_96 : decode cX0_add 96 = .ok (.iload 6, 2) := by decide +kernel
theorem dX0_add_98 : decode cX0_add 98 = .ok (.iaload, 1) := by decide +kernel
theorem dX0_add_99 : decode cX0_add 99 = .ok (.iastore, 1) := by decide +kernel
theorem dX0_add_100 : decode cX0_add 100 = .ok (.iinc 6 1, 3) := by decide +kernel
theorem dX0_add_103 : decode cX0_add 103 = .ok (.goto (-36), 3) := by decide +kernel
theorem dX0_add_106 : decode cX0_add 106 = .ok (.aload_n 0, 1) := by decide +kernel
theorem dX0_add_107 : decode cX0_add 107 = .ok (.dup, 1) := by decide +kernel
theorem dX0_add_108 : decode cX0_add 108 = .ok (.getfield 41, 3) := by decide +kernel
theorem dX0_add_111 : decode cX0_add 111 = .ok (.iconst 1, 1) := by decide +kernel
theorem dX0_add_112 : decode cX0_add 112 = .ok (.iadd, 1) := by decide +kernel
theorem dX0_add_113 : decode cX0_add 113 = .ok (.putfield 41, 3) := by decide +kernel
theorem dX0_add_116 : decode cX0_add 116 = .ok (.aload_n 0, 1) := by decide +kernel
theorem dX0_add_117 : decode cX0_add 117 = .ok (.getfield 41, 3) := by decide +kernel
theorem dX0_add_120 : decode cX0_add 120 = .ok (.iconst 1, 1) := by decide +kernel
theorem dX0_add_121 : decode cX0_add 121 = .ok (.isub, 1) := by decide +kernel
theorem dX0_add_122 : decode cX0_add 122 = .ok (.ireturn, 1) := by decide +kernel
theorem dX9_cast_0 : decode cX9_cast 0 = .ok (.aload_n 0, 1) := by decide +kernel
theorem dX9_cast_1 : decode cX9_cast 1 = .ok (.iload_n 1, 1) := by decide +kernel
theorem dX9_cast_2 : decode cX9_cast 2 = .ok (.invokevirtual 176, 3) := by decide +kernel
theorem dX9_cast_5 : decode cX9_cast 5 = .ok (.iload_n 2, 1) := by decide +kernel
theorem dX9_cast_6 : decode cX9_cast 6 = .ok (.iconst 0, 1) := by decide +kernel
theorem dX9_cast_7 : decode cX9_cast 7 = .ok (.bipush 19, 2) := by decide +kernel
theorem dX9_cast_9 : decode cX9_cast 9 = .ok (.invokestatic 69, 3) := by decide +kernel
theorem dX9_cast_12 : decode cX9_cast 12 = .ok (.ifCond .ne 13, 3) := by decide +kernel
theorem dX9_cast_15 : decode cX9_cast 15 = .ok (.new 73, 3) := by decide +kernel
theorem dX9_cast_18 : decode cX9_cast 18 = .ok (.dup, 1) := by decide +kernel
theorem dX9_cast_19 : decode cX9_cast 19 = .ok (.ldc 203, 2) := by decide +kernel
theorem dX9_cast_21 : decode cX9_cast 21 = .ok (.invokespecial 77, 3) := by decide +kernel
theorem dX9_cast_24 : decode cX9_cast 24 = .ok (.athrow, 1) := by decide +kernel
theorem dX9_cast_25 : decode cX9_cast 25 = .ok (.aload_n 0, 1) := by decide +kernel
theorem dX9_cast_26 : decode cX9_cast 26 = .ok (.getfield 31, 3) := by decide +kernel
theorem dX9_cast_29 : decode cX9_cast 29 = .ok (.iload_n 1, 1) := by decide +kernel
theorem dX9_cast_30 : decode cX9_cast 30 = .ok (.aaload, 1) := by decide +kernel
theorem dX9_cast_31 : decode cX9_cast 31 = .ok (.getfield 180, 3) := by decide +kernel
theorem dX9_cast_34 : decode cX9_cast 34 = .ok (.ifCond .ne 44, 3) := by decide +kernel
theorem dX9_cast_37 : decode cX9_cast 37 = .ok (.aload_n 0, 1) := by decide +kernel
theorem dX9_cast_38 : decode cX9_cast 38 = .ok (.getfield 38, 3) := by decide +kernel
theorem dX9_cast_41 : decode cX9_cast 41 = .ok (.getfield 205, 3) := by decide +kernel
theorem dX9_cast_44 : decode cX9_cast 44 = .ok (.ifCond .eq 34, 3) := by decide +kernel
theorem dX9_cast_47 : decode cX9_cast 47 = .ok (.aload_n 0, 1) := by decide +kernel
theorem dX9_cast_48 : decode cX9_cast 48 = .ok (.getfield 38, 3) := by decide +kernel
theorem dX9_cast_51 : decode cX9_cast 51 = .ok (.invokevirtual 206, 3) := by decide +kernel
theorem dX9_cast_54 : decode cX9_cast 54 = .ok (.aload_n 0, 1) := by decide +kernel
theorem dX9_cast_55 : decode cX9_cast 55 = .ok (.getfield 31, 3) := by decide +kernel
theorem dX9_cast_58 : decode cX9_cast 58 = .ok (.iload_n 1, 1) := by decide +kernel
theorem dX9_cast_59 : decode cX9_cast 59 = .ok (.aaload, 1) := by decide +kernel
theorem dX9_cast_60 : decode cX9_cast 60 = .ok (.getfield 209, 3) := by decide +kernel
theorem dX9_cast_63 : decode cX9_cast 63 = .ok (.if_icmp .ge 15, 3) := by decide +kernel
theorem dX9_cast_66 : decode cX9_cast 66 = .ok (.aload_n 0, 1) := by decide +kernel
theorem dX9_cast_67 : decode cX9_cast 67 = .ok (.getfield 47, 3) := by decide +kernel
theorem dX9_cast_70 : decode cX9_cast 70 = .ok (.getfield 212, 3) := by decide +kernel
theorem dX9_cast_73 : decode cX9_cast 73 = .ok (.bipush 100, 2) := by decide +kernel
theorem dX9_cast_75 : decode cX9_cast 75 = .ok (.if_icmp .lt 13, 3) := by decide +kernel
theorem dX9_cast_78 : decode cX9_cast 78 = .ok (.new 89, 3) := by decide +kernel
theorem dX9_cast_81 : decode cX9_cast 81 = .ok (.dup, 1) := by decide +kernel
theorem dX9_cast_82 : decode cX9_cast 82 = .ok (.ldc 213, 2) := by decide +kernel
theorem dX9_cast_84 : decode cX9_cast 84 = .ok (.invokespecial 93, 3) := by decide +kernel
theorem dX9_cast_87 : decode cX9_cast 87 = .ok (.athrow, 1) := by decide +kernel
theorem dX9_cast_88 : decode cX9_cast 88 = .ok (.aload_n 0, 1) := by decide +kernel
theorem dX9_cast_89 : decode cX9_cast 89 = .ok (.getfield 47, 3) := by decide +kernel
theorem dX9_cast_92 : decode cX9_cast 92 = .ok (.iload_n 1, 1) := by decide +kernel
theorem dX9_cast_93 : decode cX9_cast 93 = .ok (.aload_n 0, 1) := by decide +kernel
theorem dX9_cast_94 : decode cX9_cast 94 = .ok (.getfield 31, 3) := by decide +kernel
theorem dX9_cast_97 : decode cX9_cast 97 = .ok (.iload_n 1, 1) := by decide +kernel
theorem dX9_cast_98 : decode cX9_cast 98 = .ok (.aaload, 1) := by decide +kernel
theorem dX9_cast_99 : decode cX9_cast 99 = .ok (.getfield 215, 3) := by decide +kernel
theorem dX9_cast_102 : decode cX9_cast 102 = .ok (.iload_n 2, 1) := by decide +kernel
theorem dX9_cast_103 : decode cX9_cast 103 = .ok (.aload_n 0, 1) := by decide +kernel
theorem dX9_cast_104 : decode cX9_cast 104 = .ok (.getfield 117, 3) := by decide +kernel
theorem dX9_cast_107 : decode cX9_cast 107 = .ok (.aload_n 0, 1) := by decide +kernel
theorem dX9_cast_108 : decode cX9_cast 108 = .ok (.getfield 38, 3) := by decide +kernel
theorem dX9_cast_111 : decode cX9_cast 111 = .ok (.invokevirtual 218, 3) := by decide +kernel
theorem dX9_cast_114 : decode cX9_cast 114 = .ok (.istore_n 3, 1) := by decide +kernel
theorem dX9_cast_115 : decode cX9_cast 115 = .ok (.aload_n 0, 1) := by decide +kernel
theorem dX9_cast_116 : decode cX9_cast 116 = .ok (.getfield 38, 3) := by decide +kernel
theorem dX9_cast_119 : decode cX9_cast 119 = .ok (.iconst 0, 1) := by decide +kernel
theorem dX9_cast_120 : decode cX9_cast 120 = .ok (.putfield 205, 3) := by decide +kernel
theorem dX9_cast_123 : decode cX9_cast 123 = .ok (.iload_n 3, 1) := by decide +kernel
theorem dX9_cast_124 : decode cX9_cast 124 = .ok (.ireturn, 1) := by decide +kernel
theorem dX9_needBallot_0 : decode cX9_needBallot 0 = .ok (.iload_n 1, 1) := by decide +kernel
theorem dX9_needBallot_1 : decode cX9_needBallot 1 = .ok (.iconst 0, 1) := by decide +kernel
theorem dX9_needBallot_2 : decode cX9_needBallot 2 = .ok (.aload_n 0, 1) := by decide +kernel
theorem dX9_needBallot_3 : decode cX9_needBallot 3 = .ok (.getfield 47, 3) := by decide +kernel
theorem dX9_needBallot_6 : decode cX9_needBallot 6 = .ok (.getfield 212, 3) := by decide +kernel
theorem dX9_needBallot_9 : decode cX9_needBallot 9 = .ok (.iconst 1, 1) := by decide +kernel
theorem dX9_needBallot_10 : decode cX9_needBallot 10 = .ok (.isub, 1) := by decide +kernel
theorem dX9_needBallot_11 : decode cX9_needBallot 11 = .ok (.invokestatic 69, 3) := by decide +kernel
theorem dX9_needBallot_14 : decode cX9_needBallot 14 = .ok (.ifCond .ne 14, 3) := by decide +kernel
theorem dX9_needBallot_17 : decode cX9_needBallot 17 = .ok (.new 73, 3) := by decide +kernel
theorem dX9_needBallot_20 : decode cX9_needBallot 20 = .ok (.dup, 1) := by decide +kernel
theorem dX9_needBallot_21 : decode cX9_needBallot 21 = .ok (.ldc_w 306, 3) := by decide +kernel
theorem dX9_needBallot_24 : decode cX9_needBallot 24 = .ok (.invokespecial 77, 3) := by decide +kernel
theorem dX9_needBallot_27 : decode cX9_needBallot 27 = .ok (.athrow, 1) := by decide +kernel
theorem dX9_needBallot_28 : decode cX9_needBallot 28 = .ok (.return_, 1) := by decide +kernel
theorem dX9_why_0 : decode cX9_why 0 = .ok (.aload_n 0, 1) := by decide +kernel
theorem dX9_why_1 : decode cX9_why 1 = .ok (.iload_n 1, 1) := by decide +kernel
theorem dX9_why_2 : decode cX9_why 2 = .ok (.invokevirtual 221, 3) := by decide +kernel
theorem dX9_why_5 : decode cX9_why 5 = .ok (.aload_n 0, 1) := by decide +kernel
theorem dX9_why_6 : decode cX9_why 6 = .ok (.getfield 47, 3) := by decide +kernel
theorem dX9_why_9 : decode cX9_why 9 = .ok (.iload_n 1, 1) := by decide +kernel
theorem dX9_why_10 : decode cX9_why 10 = .ok (.invokevirtual 224, 3) := by decide +kernel
theorem dX9_why_13 : decode cX9_why 13 = .ok (.ireturn, 1) := by decide +kernel
theorem dX9_read_0 : decode cX9_read 0 = .ok (.aload_n 0, 1) := by decide +kernel
theorem dX9_read_1 : decode cX9_read 1 = .ok (.iload_n 1, 1) := by decide +kernel
theorem dX9_read_2 : decode cX9_read 2 = .ok (.invokevirtual 221, 3) := by decide +kernel
theorem dX9_read_5 : decode cX9_read 5 = .ok (.iload_n 2, 1) := by decide +kernel
theorem dX9_read_6 : decode cX9_read 6 = .ok (.iconst 0, 1) := by decide +kernel
theorem dX9_read_7 : decode cX9_read 7 = .ok (.iconst 5, 1) := by decide +kernel
theorem dX9_read_8 : decode cX9_read 8 = .ok (.invokestatic 69, 3) := by decide +kernel
theorem dX9_read_11 : decode cX9_read 11 = .ok (.ifCond .ne 13, 3) := by decide +kernel
theorem dX9_read_14 : decode cX9_read 14 = .ok (.new 73, 3) := by decide +kernel
theorem dX9_read_17 : decode cX9_read 17 = .ok (.dup, 1) := by decide +kernel
theorem dX9_read_18 : decode cX9_read 18 = .ok (.ldc 227, 2) := by decide +kernel
theorem dX9_read_20 : decode cX9_read 20 = .ok (.invokespecial 77, 3) := by decide +kernel
theorem dX9_read_23 : decode cX9_read 23 = .ok (.athrow, 1) := by decide +kernel
theorem dX9_read_24 : decode cX9_read 24 = .ok (.aload_n 0, 1) := by decide +kernel
theorem dX9_read_25 : decode cX9_read 25 = .ok (.getfield 47, 3) := by decide +kernel
theorem dX9_read_28 : decode cX9_read 28 = .ok (.iload_n 1, 1) := by decide +kernel
theorem dX9_read_29 : decode cX9_read 29 = .ok (.iload_n 2, 1) := by decide +kernel
theorem dX9_read_30 : decode cX9_read 30 = .ok (.invokevirtual 229, 3) := by decide +kernel
theorem dX9_read_33 : decode cX9_read 33 = .ok (.ireturn, 1) := by decide +kernel
theorem dX9_misread_0 : decode cX9_misread 0 = .ok (.aload_n 0, 1) := by decide +kernel
theorem dX9_misread_1 : decode cX9_misread 1 = .ok (.iload_n 1, 1) := by decide +kernel
theorem dX9_misread_2 : decode cX9_misread 2 = .ok (.invokevirtual 221, 3) := by decide +kernel
theorem dX9_misread_5 : decode cX9_misread 5 = .ok (.aload_n 0, 1) := by decide +kernel
theorem dX9_misread_6 : decode cX9_misread 6 = .ok (.getfield 47, 3) := by decide +kernel
theorem dX9_misread_9 : decode cX9_misread 9 = .ok (.getfield 233, 3) := by decide +kernel
theorem dX9_misread_12 : decode cX9_misread 12 = .ok (.iload_n 1, 1) := by decide +kernel
theorem dX9_misread_13 : decode cX9_misread 13 = .ok (.baload, 1) := by decide +kernel
theorem dX9_misread_14 : decode cX9_misread 14 = .ok (.ifCond .ne 16, 3) := by decide +kernel
theorem dX9_misread_17 : decode cX9_misread 17 = .ok (.aload_n 0, 1) := by decide +kernel
theorem dX9_misread_18 : decode cX9_misread 18 = .ok (.getfield 47, 3) := by decide +kernel
theorem dX9_misread_21 : decode cX9_misread 21 = .ok (.getfield 236, 3) := by decide +kernel
theorem dX9_misread_24 : decode cX9_misread 24 = .ok (.iload_n 1, 1) := by decide +kernel
theorem dX9_misread_25 : decode cX9_misread 25 = .ok (.iaload, 1) := by decide +kernel
theorem dX9_misread_26 : decode cX9_misread 26 = .ok (.iconst 2, 1) := by decide +kernel
theorem dX9_misread_27 : decode cX9_misread 27 = .ok (.if_icmp .ge 13, 3) := by decide +kernel
theorem dX9_misread_30 : decode cX9_misread 30 = .ok (.new 89, 3) := by decide +kernel
theorem dX9_misread_33 : decode cX9_misread 33 = .ok (.dup, 1) := by decide +kernel
theorem dX9_misread_34 : decode cX9_misread 34 = .ok (.ldc 240, 2) := by decide +kernel
theorem dX9_misread_36 : decode cX9_misread 36 = .ok (.invokespecial 93, 3) := by decide +kernel
theorem dX9_misread_39 : decode cX9_misread 39 = .ok (.athrow, 1) := by decide +kernel
theorem dX9_misread_40 : decode cX9_misread 40 = .ok (.aload_n 0, 1) := by decide +kernel
theorem dX9_misread_41 : decode cX9_misread 41 = .ok (.getfield 47, 3) := by decide +kernel
theorem dX9_misread_44 : decode cX9_misread 44 = .ok (.getfield 233, 3) := by decide +kernel
theorem dX9_misread_47 : decode cX9_misread 47 = .ok (.iload_n 1, 1) := by decide +kernel
theorem dX9_misread_48 : decode cX9_misread 48 = .ok (.iconst 1, 1) := by decide +kernel
theorem dX9_misread_49 : decode cX9_misread 49 = .ok (.bastore, 1) := by decide +kernel
theorem dX9_misread_50 : decode cX9_misread 50 = .ok (.return_, 1) := by decide +kernel
theorem dX0_putRight_0 : decode cX0_putRight 0 = .ok (.aload_n 0, 1) := by decide +kernel
theorem dX0_putRight_1 : decode cX0_putRight 1 = .ok (.getfield 30, 3) := by decide +kernel
theorem dX0_putRight_4 : decode cX0_putRight 4 = .ok (.iload_n 1, 1) := by decide +kernel
theorem dX0_putRight_5 : decode cX0_putRight 5 = .ok (.baload, 1) := by decide +kernel
theorem dX0_putRight_6 : decode cX0_putRight 6 = .ok (.istore_n 2, 1) := by decide +kernel
theorem dX0_putRight_7 : decode cX0_putRight 7 = .ok (.aload_n 0, 1) := by decide +kernel
theorem dX0_putRight_8 : decode cX0_putRight 8 = .ok (.getfield 30, 3) := by decide +kernel
theorem dX0_putRight_11 : decode cX0_putRight 11 = .ok (.iload_n 1, 1) := by decide +kernel
theorem dX0_putRight_12 : decode cX0_putRight 12 = .ok (.iconst 0, 1) := by decide +kernel
theorem dX0_putRight_13 : decode cX0_putRight 13 = .ok (.bastore, 1) := by decide +kernel
theorem dX0_putRight_14 : decode cX0_putRight 14 = .ok (.iload_n 2, 1) := by decide +kernel
theorem dX0_putRight_15 : decode cX0_putRight 15 = .ok (.ireturn, 1) := by decide +kernel
theorem dX9_sample_0 : decode cX9_sample 0 = .ok (.aload_n 0, 1) := by decide +kernel
theorem dX9_sample_1 : decode cX9_sample 1 = .ok (.iload_n 1, 1) := by decide +kernel
theorem dX9_sample_2 : decode cX9_sample 2 = .ok (.invokevirtual 176, 3) := by decide +kernel
theorem dX9_sample_5 : decode cX9_sample 5 = .ok (.iload_n 2, 1) := by decide +kernel
theorem dX9_sample_6 : decode cX9_sample 6 = .ok (.iconst 0, 1) := by decide +kernel
theorem dX9_sample_7 : decode cX9_sample 7 = .ok (.sipush 9999, 3) := by decide +kernel
theorem dX9_sample_10 : decode cX9_sample 10 = .ok (.invokestatic 69, 3) := by decide +kernel
theorem dX9_sample_13 : decode cX9_sample 13 = .ok (.ifCond .eq 13, 3) := by decide +kernel
theorem dX9_sample_16 : decode cX9_sample 16 = .ok (.iload_n 3, 1) := by decide +kernel
theorem dX9_sample_17 : decode cX9_sample 17 = .ok (.iconst 1, 1) := by decide +kernel
theorem dX9_sample_18 : decode cX9_sample 18 = .ok (.bipush 20, 2) := by decide +kernel
theorem dX9_sample_20 : decode cX9_sample 20 = .ok (.invokestatic 69, 3) := by decide +kernel
theorem dX9_sample_23 : decode cX9_sample 23 = .ok (.ifCond .ne 13, 3) := by decide +kernel
theorem dX9_sample_26 : decode cX9_sample 26 = .ok (.new 80, 3) := by decide +kernel
theorem dX9_sample_29 : decode cX9_sample 29 = .ok (.dup, 1) := by decide +kernel
theorem dX9_sample_30 : decode cX9_sample 30 = .ok (.ldc 242, 2) := by decide +kernel
theorem dX9_sample_32 : decode cX9_sample 32 = .ok (.invokespecial 84, 3) := by decide +kernel
theorem dX9_sample_35 : decode cX9_sample 35 = .ok (.athrow, 1) := by decide +kernel
theorem dX9_sample_36 : decode cX9_sample 36 = .ok (.aload_n 0, 1) := by decide +kernel
theorem dX9_sample_37 : decode cX9_sample 37 = .ok (.getfield 47, 3) := by decide +kernel
theorem dX9_sample_40 : decode cX9_sample 40 = .ok (.iload_n 1, 1) := by decide +kernel
theorem dX9_sample_41 : decode cX9_sample 41 = .ok (.invokevirtual 186, 3) := by decide +kernel
theorem dX9_sample_44 : decode cX9_sample 44 = .ok (.aload_n 0, 1) := by decide +kernel
theorem dX9_sample_45 : decode cX9_sample 45 = .ok (.getfield 47, 3) := by decide +kernel
theorem dX9_sample_48 : decode cX9_sample 48 = .ok (.getfield 189, 3) := by decide +kernel
theorem dX9_sample_51 : decode cX9_sample 51 = .ok (.ifCond .gt 13, 3) := by decide +kernel
theorem dX9_sample_54 : decode cX9_sample 54 = .ok (.new 89, 3) := by decide +kernel
theorem dX9_sample_57 : decode cX9_sample 57 = .ok (.dup, 1) := by decide +kernel
theorem dX9_sample_58 : decode cX9_sample 58 = .ok (.ldc 244, 2) := by decide +kernel
theorem dX9_sample_60 : decode cX9_sample 60 = .ok (.invokespecial 93, 3) := by decide +kernel
theorem dX9_sample_63 : decode cX9_sample 63 = .ok (.athrow, 1) := by decide +kernel
theorem dX9_sample_64 : decode cX9_sample 64 = .ok (.iload_n 2, 1) := by decide +kernel
theorem dX9_sample_65 : decode cX9_sample 65 = .ok (.istore 4, 2) := by decide +kernel
theorem dX9_sample_67 : decode cX9_sample 67 = .ok (.iconst 0, 1) := by decide +kernel
theorem dX9_sample_68 : decode cX9_sample 68 = .ok (.istore 5, 2) := by decide +kernel
theorem dX9_sample_70 : decode cX9_sample 70 = .ok (.iconst 0, 1) := by decide +kernel
theorem dX9_sample_71 : decode cX9_sample 71 = .ok (.istore 6, 2) := by decide +kernel
theorem dX9_sample_73 : decode cX9_sample 73 = .ok (.iload 6, 2) := by decide +kernel
theorem dX9_sample_75 : decode cX9_sample 75 = .ok (.iload_n 3, 1) := by decide +kernel
theorem dX9_sample_76 : decode cX9_sample 76 = .ok (.if_icmp .ge 55, 3) := by decide +kernel
theorem dX9_sample_79 : decode cX9_sample 79 = .ok (.sipush 1103, 3) := by decide +kernel
theorem dX9_sample_82 : decode cX9_sample 82 = .ok (.iload 4, 2) := by decide +kernel
theorem dX9_sample_84 : decode cX9_sample 84 = .ok (.imul, 1) := by decide +kernel
theorem dX9_sample_85 : decode cX9_sample 85 = .ok (.sipush 12345, 3) := by decide +kernel
theorem dX9_sample_88 : decode cX9_sample 88 = .ok (.iadd, 1) := by decide +kernel
theorem dX9_sample_89 : decode cX9_sample 89 = .ok (.ldc 246, 2) := by decide +kernel
theorem dX9_sample_91 : decode cX9_sample 91 = .ok (.irem, 1) := by decide +kernel
theorem dX9_sample_92 : decode cX9_sample 92 = .ok (.istore 4, 2) := by decide +kernel
theorem dX9_sample_94 : decode cX9_sample 94 = .ok (.aload_n 0, 1) := by decide +kernel
theorem dX9_sample_95 : decode cX9_sample 95 = .ok (.getfield 47, 3) := by decide +kernel
theorem dX9_sample_98 : decode cX9_sample 98 = .ok (.aload_n 0, 1) := by decide +kernel
theorem dX9_sample_99 : decode cX9_sample 99 = .ok (.getfield 47, 3) := by decide +kernel
theorem dX9_sample_102 : decode cX9_sample 102 = .ok (.getfield 247, 3) := by decide +kernel
theorem dX9_sample_105 : decode cX9_sample 105 = .ok (.iload 4, 2) := by decide +kernel
theorem dX9_sample_107 : decode cX9_sample 107 = .ok (.aload_n 0, 1) := by decide +kernel
theorem dX9_sample_108 : decode cX9_sample 108 = .ok (.getfield 47, 3) := by decide +kernel
theorem dX9_sample_111 : decode cX9_sample 111 = .ok (.getfield 189, 3) := by decide +kernel
theorem dX9_sample_114 : decode cX9_sample 114 = .ok (.irem, 1) := by decide +kernel
theorem dX9_sample_115 : decode cX9_sample 115 = .ok (.iaload, 1) := by decide +kernel
theorem dX9_sample_116 : decode cX9_sample 116 = .ok (.invokevirtual 250, 3) := by decide +kernel
theorem dX9_sample_119 : decode cX9_sample 119 = .ok (.ifCond .eq 6, 3) := by decide +kernel
theorem dX9_sample_122 : decode cX9_sample 122 = .ok (.iinc 5 1, 3) := by decide +kernel
theorem dX9_sample_125 : decode cX9_sample 125 = .ok (.iinc 6 1, 3) := by decide +kernel
theorem dX9_sample_128 : decode cX9_sample 128 = .ok (.goto (-55), 3) := by decide +kernel
theorem dX9_sample_131 : decode cX9_sample 131 = .ok (.aload_n 0, 1) := by decide +kernel
theorem dX9_sample_132 : decode cX9_sample 132 = .ok (.getfield 31, 3) := by decide +kernel
theorem dX9_sample_135 : decode cX9_sample 135 = .ok (.iload_n 1, 1) := by decide +kernel
theorem dX9_sample_136 : decode cX9_sample 136 = .ok (.aaload, 1) := by decide +kernel
theorem dX9_sample_137 : decode cX9_sample 137 = .ok (.dup, 1) := by decide +kernel
theorem dX9_sample_138 : decode cX9_sample 138 = .ok (.getfield 253, 3) := by decide +kernel
theorem dX9_sample_141 : decode cX9_sample 141 = .ok (.iload_n 3, 1) := by decide +kernel
theorem dX9_sample_142 : decode cX9_sample 142 = .ok (.iadd, 1) := by decide +kernel
theorem dX9_sample_143 : decode cX9_sample 143 = .ok (.putfield 253, 3) := by decide +kernel
theorem dX9_sample_146 : decode cX9_sample 146 = .ok (.aload_n 0, 1) := by decide +kernel
theorem dX9_sample_147 : decode cX9_sample 147 = .ok (.getfield 31, 3) := by decide +kernel
theorem dX9_sample_150 : decode cX9_sample 150 = .ok (.iload_n 1, 1) := by decide +kernel
theorem dX9_sample_151 : decode cX9_sample 151 = .ok (.aaload, 1) := by decide +kernel
theorem dX9_sample_152 : decode cX9_sample 152 = .ok (.dup, 1) := by decide +kernel
theorem dX9_sample_153 : decode cX9_sample 153 = .ok (.getfield 256, 3) := by decide +kernel
theorem dX9_sample_156 : decode cX9_sample 156 = .ok (.iload 5, 2) := by decide +kernel
theorem dX9_sample_158 : decode cX9_sample 158 = .ok (.iadd, 1) := by decide +kernel
theorem dX9_sample_159 : decode cX9_sample 159 = .ok (.putfield 256, 3) := by decide +kernel
theorem dX9_sample_162 : decode cX9_sample 162 = .ok (.iload 5, 2) := by decide +kernel
theorem dX9_sample_164 : decode cX9_sample 164 = .ok (.ireturn, 1) := by decide +kernel
theorem dX9_recount_0 : decode cX9_recount 0 = .ok (.aload_n 0, 1) := by decide +kernel
theorem dX9_recount_1 : decode cX9_recount 1 = .ok (.iload_n 1, 1) := by decide +kernel
theorem dX9_recount_2 : decode cX9_recount 2 = .ok (.invokevirtual 176, 3) := by decide +kernel
theorem dX9_recount_5 : decode cX9_recount 5 = .ok (.iconst 0, 1) := by decide +kernel
theorem dX9_recount_6 : decode cX9_recount 6 = .ok (.istore_n 2, 1) := by decide +kernel
theorem dX9_recount_7 : decode cX9_recount 7 = .ok (.iconst 0, 1) := by decide +kernel
theorem dX9_recount_8 : decode cX9_recount 8 = .ok (.istore_n 3, 1) := by decide +kernel
theorem dX9_recount_9 : decode cX9_recount 9 = .ok (.iload_n 3, 1) := by decide +kernel
theorem dX9_recount_10 : decode cX9_recount 10 = .ok (.aload_n 0, 1) := by decide +kernel
theorem dX9_recount_11 : decode cX9_recount 11 = .ok (.getfield 47, 3) := by decide +kernel
theorem dX9_recount_14 : decode cX9_recount 14 = .ok (.getfield 212, 3) := by decide +kernel
theorem dX9_recount_17 : decode cX9_recount 17 = .ok (.if_icmp .ge 36, 3) := by decide +kernel
theorem dX9_recount_20 : decode cX9_recount 20 = .ok (.aload_n 0, 1) := by decide +kernel
theorem dX9_recount_21 : decode cX9_recount 21 = .ok (.getfield 47, 3) := by decide +kernel
theorem dX9_recount_24 : decode cX9_recount 24 = .ok (.getfield 259, 3) := by decide +kernel
theorem dX9_recount_27 : decode cX9_recount 27 = .ok (.iload_n 3, 1) := by decide +kernel
theorem dX9_recount_28 : decode cX9_recount 28 = .ok (.iaload, 1) := by decide +kernel
theorem dX9_recount_29 : decode cX9_recount 29 = .ok (.iload_n 1, 1) := by decide +kernel
theorem dX9_recount_30 : decode cX9_recount 30 = .ok (.if_icmp .ne 17, 3) := by decide +kernel
theorem dX9_recount_33 : decode cX9_recount 33 = .ok (.aload_n 0, 1) := by decide +kernel
theorem dX9_recount_34 : decode cX9_recount 34 = .ok (.getfield 47, 3) := by decide +kernel
theorem dX9_recount_37 : decode cX9_recount 37 = .ok (.iload_n 3, 1) := by decide +kernel
theorem dX9_recount_38 : decode cX9_recount 38 = .ok (.invokevirtual 250, 3) := by decide +kernel
theorem dX9_recount_41 : decode cX9_recount 41 = .ok (.ifCond .eq 6, 3) := by decide +kernel
theorem dX9_recount_44 : decode cX9_recount 44 = .ok (.iinc 2 1, 3) := by decide +kernel
theorem dX9_recount_47 : decode cX9_recount 47 = .ok (.iinc 3 1, 3) := by decide +kernel
theorem dX9_recount_50 : decode cX9_recount 50 = .ok (.goto (-41), 3) := by decide +kernel
theorem dX9_recount_53 : decode cX9_recount 53 = .ok (.iload_n 2, 1) := by decide +kernel
theorem dX9_recount_54 : decode cX9_recount 54 = .ok (.ireturn, 1) := by decide +kernel
theorem dX9_doubt_0 : decode cX9_doubt 0 = .ok (.aload_n 0, 1) := by decide +kernel
theorem dX9_doubt_1 : decode cX9_doubt 1 = .ok (.iload_n 1, 1) := by decide +kernel
theorem dX9_doubt_2 : decode cX9_doubt 2 = .ok (.invokevirtual 176, 3) := by decide +kernel
theorem dX9_doubt_5 : decode cX9_doubt 5 = .ok (.aload_n 0, 1) := by decide +kernel
theorem dX9_doubt_6 : decode cX9_doubt 6 = .ok (.getfield 31, 3) := by decide +kernel
theorem dX9_doubt_9 : decode cX9_doubt 9 = .ok (.iload_n 1, 1) := by decide +kernel
theorem dX9_doubt_10 : decode cX9_doubt 10 = .ok (.aaload, 1) := by decide +kernel
theorem dX9_doubt_11 : decode cX9_doubt 11 = .ok (.getfield 253, 3) := by decide +kernel
theorem dX9_doubt_14 : decode cX9_doubt 14 = .ok (.ifCond .gt 7, 3) := by decide +kernel
theorem dX9_doubt_17 : decode cX9_doubt 17 = .ok (.iconst 0, 1) := by decide +kernel
theorem dX9_doubt_18 : decode cX9_doubt 18 = .ok (.goto 25, 3) := by decide +kernel
theorem dX9_doubt_21 : decode cX9_doubt 21 = .ok (.bipush 100, 2) := by decide +kernel
theorem dX9_doubt_23 : decode cX9_doubt 23 = .ok (.aload_n 0, 1) := by decide +kernel
theorem dX9_doubt_24 : decode cX9_doubt 24 = .ok (.getfield 31, 3) := by decide +kernel
theorem dX9_doubt_27 : decode cX9_doubt 27 = .ok (.iload_n 1, 1) := by decide +kernel
theorem dX9_doubt_28 : decode cX9_doubt 28 = .ok (.aaload, 1) := by decide +kernel
theorem dX9_doubt_29 : decode cX9_doubt 29 = .ok (.getfield 256, 3) := by decide +kernel
theorem dX9_doubt_32 : decode cX9_doubt 32 = .ok (.imul, 1) := by decide +kernel
theorem dX9_doubt_33 : decode cX9_doubt 33 = .ok (.aload_n 0, 1) := by decide +kernel
theorem dX9_doubt_34 : decode cX9_doubt 34 = .ok (.getfield 31, 3) := by decide +kernel
theorem dX9_doubt_37 : decode cX9_doubt 37 = .ok (.iload_n 1, 1) := by decide +kernel
theorem dX9_doubt_38 : decode cX9_doubt 38 = .ok (.aaload, 1) := by decide +kernel
theorem dX9_doubt_39 : decode cX9_doubt 39 = .ok (.getfield 253, 3) := by decide +kernel
theorem dX9_doubt_42 : decode cX9_doubt 42 = .ok (.idiv, 1) := by decide +kernel
theorem dX9_doubt_43 : decode cX9_doubt 43 = .ok (.ireturn, 1) := by decide +kernel
theorem dX9_winners_0 : decode cX9_winners 0 = .ok (.aload_n 0, 1) := by decide +kernel
theorem dX9_winners_1 : decode cX9_winners 1 = .ok (.iload_n 1, 1) := by decide +kernel
theorem dX9_winners_2 : decode cX9_winners 2 = .ok (.invokevirtual 176, 3) := by decide +kernel
theorem dX9_winners_5 : decode cX9_winners 5 = .ok (.aload_n 0, 1) := by decide +kernel
theorem dX9_winners_6 : decode cX9_winners 6 = .ok (.iload_n 1, 1) := by decide +kernel
theorem dX9_winners_7 : decode cX9_winners 7 = .ok (.invokevirtual 153, 3) := by decide +kernel
theorem dX9_winners_10 : decode cX9_winners 10 = .ok (.getfield 157, 3) := by decide +kernel
theorem dX9_winners_13 : decode cX9_winners 13 = .ok (.ireturn, 1) := by decide +kernel
theorem dX2_givenBy_0 : decode cX2_givenBy 0 = .ok (.iconst 0, 1) := by decide +kernel
theorem dX2_givenBy_1 : decode cX2_givenBy 1 = .ok (.istore 4, 2) := by decide +kernel
theorem dX2_givenBy_3 : decode cX2_givenBy 3 = .ok (.iconst 0, 1) := by decide +kernel
theorem dX2_givenBy_4 : decode cX2_givenBy 4 = .ok (.istore 5, 2) := by decide +kernel
theorem dX2_givenBy_6 : decode cX2_givenBy 6 = .ok (.iload 5, 2) := by decide +kernel
theorem dX2_givenBy_8 : decode cX2_givenBy 8 = .ok (.aload_n 0, 1) := by decide +kernel
theorem dX2_givenBy_9 : decode cX2_givenBy 9 = .ok (.getfield 49, 3) := by decide +kernel
theorem dX2_givenBy_12 : decode cX2_givenBy 12 = .ok (.getfield 65, 3) := by decide +kernel
theorem dX2_givenBy_15 : decode cX2_givenBy 15 = .ok (.iload_n 1, 1) := by decide +kernel
theorem dX2_givenBy_16 : decode cX2_givenBy 16 = .ok (.iaload, 1) := by decide +kernel
theorem dX2_givenBy_17 : decode cX2_givenBy 17 = .ok (.if_icmp .ge 100, 3) := by decide +kernel
theorem dX2_givenBy_20 : decode cX2_givenBy 20 = .ok (.aload_n 0, 1) := by decide +kernel
theorem dX2_givenBy_21 : decode cX2_givenBy 21 = .ok (.getfield 49, 3) := by decide +kernel
theorem dX2_givenBy_24 : decode cX2_givenBy 24 = .ok (.iload_n 1, 1) := by decide +kernel
theorem dX2_givenBy_25 : decode cX2_givenBy 25 = .ok (.iload 5, 2) := by decide +kernel
theorem dX2_givenBy_27 : decode cX2_givenBy 27 = .ok (.invokevirtual 68, 3) := by decide +kernel
theorem dX2_givenBy_30 : decode cX2_givenBy 30 = .ok (.istore 6, 2) := by decide +kernel
theorem dX2_givenBy_32 : decode cX2_givenBy 32 = .ok (.iload 6, 2) := by decide +kernel
theorem dX2_givenBy_34 : decode cX2_givenBy 34 = .ok (.iload_n 3, 1) := by decide +kernel
theorem dX2_givenBy_35 : decode cX2_givenBy 35 = .ok (.if_icmp .eq 30, 3) := by decide +kernel
theorem dX2_givenBy_38 : decode cX2_givenBy 38 = .ok (.iload 4, 2) := by decide +kernel
theorem dX2_givenBy_40 : decode cX2_givenBy 40 = .ok (.aload_n 0, 1) := by decide +kernel
theorem dX2_givenBy_41 : decode cX2_givenBy 41 = .ok (.getfield 15, 3) := by decide +kernel
theorem dX2_givenBy_44 : decode cX2_givenBy 44 = .ok (.iload_n 2, 1) := by decide +kernel
theorem dX2_givenBy_45 : decode cX2_givenBy 45 = .ok (.iaload, 1) := by decide +kernel
theorem dX2_givenBy_46 : decode cX2_givenBy 46 = .ok (.iload 6, 2) := by decide +kernel
theorem dX2_givenBy_48 : decode cX2_givenBy 48 = .ok (.invokestatic 72, 3) := by decide +kernel
theorem dX2_givenBy_51 : decode cX2_givenBy 51 = .ok (.ifCond .eq 7, 3) := by decide +kernel
theorem dX2_givenBy_54 : decode cX2_givenBy 54 = .ok (.iconst 1, 1) := by decide +kernel
theorem dX2_givenBy_55 : decode cX2_givenBy 55 = .ok (.goto 4, 3) := by decide +kernel
theorem dX2_givenBy_58 : decode cX2_givenBy 58 = .ok (.iconst 0, 1) := by decide +kernel
theorem dX2_givenBy_59 : decode cX2_givenBy 59 = .ok (.iadd, 1) := by decide +kernel
theorem dX2_givenBy_60 : decode cX2_givenBy 60 = .ok (.istore 4, 2) := by decide +kernel
theorem dX2_givenBy_62 : decode cX2_givenBy 62 = .ok (.goto 49, 3) := by decide +kernel
theorem dX2_givenBy_65 : decode cX2_givenBy 65 = .ok (.aload_n 0, 1) := by decide +kernel
theorem dX2_givenBy_66 : decode cX2_givenBy 66 = .ok (.getfield 9, 3) := by decide +kernel
theorem dX2_givenBy_69 : decode cX2_givenBy 69 = .ok (.iload_n 2, 1) := by decide +kernel
theorem dX2_givenBy_70 : decode cX2_givenBy 70 = .ok (.caload, 1) := by decide +kernel
theorem dX2_givenBy_71 : decode cX2_givenBy 71 = .ok (.bipush 98, 2) := by decide +kernel
theorem dX2_givenBy_73 : decode cX2_givenBy 73 = .ok (.if_icmp .ne 16, 3) := by decide +kernel
theorem dX2_givenBy_76 : decode cX2_givenBy 76 = .ok (.aload_n 0, 1) := by decide +kernel
theorem dX2_givenBy_77 : decode cX2_givenBy 77 = .ok (.getfield 15, 3) := by decide +kernel
theorem dX2_givenBy_80 : decode cX2_givenBy 80 = .ok (.iload_n 2, 1) := by decide +kernel
theorem dX2_givenBy_81 : decode cX2_givenBy 81 = .ok (.iaload, 1) := by decide +kernel
theorem dX2_givenBy_82 : decode cX2_givenBy 82 = .ok (.invokestatic 76, 3) := by decide +kernel
theorem dX2_givenBy_85 : decode cX2_givenBy 85 = .ok (.iload 4, 2) := by decide +kernel
theorem dX2_givenBy_87 : decode cX2_givenBy 87 = .ok (.isub, 1) := by decide +kernel
theorem dX2_givenBy_88 : decode cX2_givenBy 88 = .ok (.ireturn, 1) := by decide +kernel
theorem dX2_givenBy_89 : decode cX2_givenBy 89 = .ok (.aload_n 0, 1) := by decide +kernel
theorem dX2_givenBy_90 : decode cX2_givenBy 90 = .ok (.getfield 9, 3) := by decide +kernel
theorem dX2_givenBy_93 : decode cX2_givenBy 93 = .ok (.iload_n 2, 1) := by decide +kernel
theorem dX2_givenBy_94 : decode cX2_givenBy 94 = .ok (.caload, 1) := by decide +kernel
theorem dX2_givenBy_95 : decode cX2_givenBy 95 = .ok (.bipush 97, 2) := by decide +kernel
theorem dX2_givenBy_97 : decode cX2_givenBy 97 = .ok (.if_icmp .eq 8, 3) := by decide +kernel
theorem dX2_givenBy_100 : decode cX2_givenBy 100 = .ok (.iload 4, 2) := by decide +kernel
theorem dX2_givenBy_102 : decode cX2_givenBy 102 = .ok (.ifCond .ne 7, 3) := by decide +kernel
theorem dX2_givenBy_105 : decode cX2_givenBy 105 = .ok (.iconst 1, 1) := by decide +kernel
theorem dX2_givenBy_106 : decode cX2_givenBy 106 = .ok (.goto 4, 3) := by decide +kernel
theorem dX2_givenBy_109 : decode cX2_givenBy 109 = .ok (.iconst 0, 1) := by decide +kernel
theorem dX2_givenBy_110 : decode cX2_givenBy 110 = .ok (.ireturn, 1) := by decide +kernel
theorem dX2_givenBy_111 : decode cX2_givenBy 111 = .ok (.iinc 5 1, 3) := by decide +kernel
theorem dX2_givenBy_114 : decode cX2_givenBy 114 = .ok (.goto (-108), 3) := by decide +kernel
theorem dX2_givenBy_117 : decode cX2_givenBy 117 = .ok (.iconst 0, 1) := by decide +kernel
theorem dX2_givenBy_118 : decode cX2_givenBy 118 = .ok (.ireturn, 1) := by decide +kernel
theorem dX2_votesIn_0 : decode cX2_votesIn 0 = .ok (.iload_n 1, 1) := by decide +kernel
theorem dX2_votesIn_1 : decode cX2_votesIn 1 = .ok (.ifCond .ge 5, 3) := by decide +kernel
theorem dX2_votesIn_4 : decode cX2_votesIn 4 = .ok (.iconst 0, 1) := by decide +kernel
theorem dX2_votesIn_5 : decode cX2_votesIn 5 = .ok (.ireturn, 1) := by decide +kernel
theorem dX2_votesIn_6 : decode cX2_votesIn 6 = .ok (.iconst 0, 1) := by decide +kernel
theorem dX2_votesIn_7 : decode cX2_votesIn 7 = .ok (.istore_n 3, 1) := by decide +kernel
theorem dX2_votesIn_8 : decode cX2_votesIn 8 = .ok (.iconst 0, 1) := by decide +kernel
theorem dX2_votesIn_9 : decode cX2_votesIn 9 = .ok (.istore 4, 2) := by decide +kernel
theorem dX2_votesIn_11 : decode cX2_votesIn 11 = .ok (.iload 4, 2) := by decide +kernel
theorem dX2_votesIn_13 : decode cX2_votesIn 13 = .ok (.aload_n 0, 1) := by decide +kernel
theorem dX2_votesIn_14 : decode cX2_votesIn 14 = .ok (.getfield 49, 3) := by decide +kernel
theorem dX2_votesIn_17 : decode cX2_votesIn 17 = .ok (.getfield 53, 3) := by decide +kernel
theorem dX2_votesIn_20 : decode cX2_votesIn 20 = .ok (.if_icmp .ge 28, 3) := by decide +kernel
theorem dX2_votesIn_23 : decode cX2_votesIn 23 = .ok (.iload_n 3, 1) := by decide +kernel
theorem dX2_votesIn_24 : decode cX2_votesIn 24 = .ok (.aload_n 0, 1) := by decide +kernel
theorem dX2_votesIn_25 : decode cX2_votesIn 25 = .ok (.aload_n 0, 1) := by decide +kernel
theorem dX2_votesIn_26 : decode cX2_votesIn 26 = .ok (.getfield 49, 3) := by decide +kernel
theorem dX2_votesIn_29 : decode cX2_votesIn 29 = .ok (.getfield 58, 3) := by decide +kernel
theorem dX2_votesIn_32 : decode cX2_votesIn 32 = .ok (.iload 4, 2) := by decide +kernel
theorem dX2_votesIn_34 : decode cX2_votesIn 34 = .ok (.iaload, 1) := by decide +kernel
theorem dX2_votesIn_35 : decode cX2_votesIn 35 = .ok (.iload_n 1, 1) := by decide +kernel
theorem dX2_votesIn_36 : decode cX2_votesIn 36 = .ok (.iload_n 2, 1) := by decide +kernel
theorem dX2_votesIn_37 : decode cX2_votesIn 37 = .ok (.invokevirtual 61, 3) := by decide +kernel
theorem dX2_votesIn_40 : decode cX2_votesIn 40 = .ok (.iadd, 1) := by decide +kernel
theorem dX2_votesIn_41 : decode cX2_votesIn 41 = .ok (.istore_n 3, 1) := by decide +kernel
theorem dX2_votesIn_42 : decode cX2_votesIn 42 = .ok (.iinc 4 1, 3) := by decide +kernel
theorem dX2_votesIn_45 : decode cX2_votesIn 45 = .ok (.goto (-34), 3) := by decide +kernel
theorem dX2_votesIn_48 : decode cX2_votesIn 48 = .ok (.iload_n 3, 1) := by decide +kernel
theorem dX2_votesIn_49 : decode cX2_votesIn 49 = .ok (.ireturn, 1) := by decide +kernel
theorem dX2_gaveSomething_0 : decode cX2_gaveSomething 0 = .ok (.iconst 0, 1) := by decide +kernel
theorem dX2_gaveSomething_1 : decode cX2_gaveSomething 1 = .ok (.istore_n 3, 1) := by decide +kernel
theorem dX2_gaveSomething_2 : decode cX2_gaveSomething 2 = .ok (.iload_n 3, 1) := by decide +kernel
theorem dX2_gaveSomething_3 : decode cX2_gaveSomething 3 = .ok (.aload_n 0, 1) := by decide +kernel
theorem dX2_gaveSomething_4 : decode cX2_gaveSomething 4 = .ok (.getfield 49, 3) := by decide +kernel
theorem dX2_gaveSomething_7 : decode cX2_gaveSomething 7 = .ok (.getfield 65, 3) := by decide +kernel
theorem dX2_gaveSomething_10 : decode cX2_gaveSomething 10 = .ok (.iload_n 1, 1) := by decide +kernel
theorem dX2_gaveSomething_11 : decode cX2_gaveSomething 11 = .ok (.iaload, 1) := by decide +kernel
theorem dX2_gaveSomething_12 : decode cX2_gaveSomething 12 = .ok (.if_icmp .ge 32, 3) := by decide +kernel
theorem dX2_gaveSomething_15 : decode cX2_gaveSomething 15 = .ok (.aload_n 0, 1) := by decide +kernel
theorem dX2_gaveSomething_16 : decode cX2_gaveSomething 16 = .ok (.getfield 15, 3) := by decide +kernel
theorem dX2_gaveSomething_19 : decode cX2_gaveSomething 19 = .ok (.iload_n 2, 1) := by decide +kernel
theorem dX2_gaveSomething_20 : decode cX2_gaveSomething 20 = .ok (.iaload, 1) := by decide +kernel
theorem dX2_gaveSomething_21 : decode cX2_gaveSomething 21 = .ok (.aload_n 0, 1) := by decide +kernel
theorem dX2_gaveSomething_22 : decode cX2_gaveSomething 22 = .ok (.getfield 49, 3) := by decide +kernel
theorem dX2_gaveSomething_25 : decode cX2_gaveSomething 25 = .ok (.iload_n 1, 1) := by decide +kernel
theorem dX2_gaveSomething_26 : decode cX2_gaveSomething 26 = .ok (.iload_n 3, 1) := by decide +kernel
theorem dX2_gaveSomething_27 : decode cX2_gaveSomething 27 = .ok (.invokevirtual 68, 3) := by decide +kernel
theorem dX2_gaveSomething_30 : decode cX2_gaveSomething 30 = .ok (.invokestatic 72, 3) := by decide +kernel
theorem dX2_gaveSomething_33 : decode cX2_gaveSomething 33 = .ok (.ifCond .eq 5, 3) := by decide +kernel
theorem dX2_gaveSomething_36 : decode cX2_gaveSomething 36 = .ok (.iconst 1, 1) := by decide +kernel
theorem dX2_gaveSomething_37 : decode cX2_gaveSomething 37 = .ok (.ireturn, 1) := by decide +kernel
theorem dX2_gaveSomething_38 : decode cX2_gaveSomething 38 = .ok (.iinc 3 1, 3) := by decide +kernel
theorem dX2_gaveSomething_41 : decode cX2_gaveSomething 41 = .ok (.goto (-39), 3) := by decide +kernel
theorem dX2_gaveSomething_44 : decode cX2_gaveSomething 44 = .ok (.iconst 0, 1) := by decide +kernel
theorem dX2_gaveSomething_45 : decode cX2_gaveSomething 45 = .ok (.ireturn, 1) := by decide +kernel
theorem dX2_weightOf_0 : decode cX2_weightOf 0 = .ok (.iload_n 1, 1) := by decide +kernel
theorem dX2_weightOf_1 : decode cX2_weightOf 1 = .ok (.ifCond .ge 5, 3) := by decide +kernel
theorem dX2_weightOf_4 : decode cX2_weightOf 4 = .ok (.iconst 0, 1) := by decide +kernel
theorem dX2_weightOf_5 : decode cX2_weightOf 5 = .ok (.ireturn, 1) := by decide +kernel
theorem dX2_weightOf_6 : decode cX2_weightOf 6 = .ok (.iconst 0, 1) := by decide +kernel
theorem dX2_weightOf_7 : decode cX2_weightOf 7 = .ok (.istore_n 2, 1) := by decide +kernel
theorem dX2_weightOf_8 : decode cX2_weightOf 8 = .ok (.iconst 0, 1) := by decide +kernel
theorem dX2_weightOf_9 : decode cX2_weightOf 9 = .ok (.istore_n 3, 1) := by decide +kernel
theorem dX2_weightOf_10 : decode cX2_weightOf 10 = .ok (.iload_n 3, 1) := by decide +kernel
theorem dX2_weightOf_11 : decode cX2_weightOf 11 = .ok (.aload_n 0, 1) := by decide +kernel
theorem dX2_weightOf_12 : decode cX2_weightOf 12 = .ok (.getfield 49, 3) := by decide +kernel
theorem dX2_weightOf_15 : decode cX2_weightOf 15 = .ok (.getfield 53, 3) := by decide +kernel
theorem dX2_weightOf_18 : decode cX2_weightOf 18 = .ok (.if_icmp .ge 29, 3) := by decide +kernel
theorem dX2_weightOf_21 : decode cX2_weightOf 21 = .ok (.aload_n 0, 1) := by decide +kernel
theorem dX2_weightOf_22 : decode cX2_weightOf 22 = .ok (.aload_n 0, 1) := by decide +kernel
theorem dX2_weightOf_23 : decode cX2_weightOf 23 = .ok (.getfield 49, 3) := by decide +kernel
theorem dX2_weightOf_26 : decode cX2_weightOf 26 = .ok (.getfield 58, 3) := by decide +kernel
theorem dX2_weightOf_29 : decode cX2_weightOf 29 = .ok (.iload_n 3, 1) := by decide +kernel
theorem dX2_weightOf_30 : decode cX2_weightOf 30 = .ok (.iaload, 1) := by decide +kernel
theorem dX2_weightOf_31 : decode cX2_weightOf 31 = .ok (.iload_n 1, 1) := by decide +kernel
theorem dX2_weightOf_32 : decode cX2_weightOf 32 = .ok (.invokevirtual 82, 3) := by decide +kernel
theorem dX2_weightOf_35 : decode cX2_weightOf 35 = .ok (.ifCond .eq 6, 3) := by decide +kernel
theorem dX2_weightOf_38 : decode cX2_weightOf 38 = .ok (.iinc 2 1, 3) := by decide +kernel
theorem dX2_weightOf_41 : decode cX2_weightOf 41 = .ok (.iinc 3 1, 3) := by decide +kernel
theorem dX2_weightOf_44 : decode cX2_weightOf 44 = .ok (.goto (-34), 3) := by decide +kernel
theorem dX2_weightOf_47 : decode cX2_weightOf 47 = .ok (.iload_n 2, 1) := by decide +kernel
theorem dX2_weightOf_48 : decode cX2_weightOf 48 = .ok (.ireturn, 1) := by decide +kernel
theorem dX2_makeTally_0 : decode cX2_makeTally 0 = .ok (.aload_n 0, 1) := by decide +kernel
theorem dX2_makeTally_1 : decode cX2_makeTally 1 = .ok (.getfield 46, 3) := by decide +kernel
theorem dX2_makeTally_4 : decode cX2_makeTally 4 = .ok (.sipush 156, 3) := by decide +kernel
theorem dX2_makeTally_7 : decode cX2_makeTally 7 = .ok (.if_icmp .ge 36, 3) := by decide +kernel
theorem dX2_makeTally_10 : decode cX2_makeTally 10 = .ok (.aload_n 0, 1) := by decide +kernel
theorem dX2_makeTally_11 : decode cX2_makeTally 11 = .ok (.getfield 9, 3) := by decide +kernel
theorem dX2_makeTally_14 : decode cX2_makeTally 14 = .ok (.aload_n 0, 1) := by decide +kernel
theorem dX2_makeTally_15 : decode cX2_makeTally 15 = .ok (.getfield 46, 3) := by decide +kernel
theorem dX2_makeTally_18 : decode cX2_makeTally 18 = .ok (.iload_n 1, 1) := by decide +kernel
theorem dX2_makeTally_19 : decode cX2_makeTally 19 = .ok (.castore, 1) := by decide +kernel
theorem dX2_makeTally_20 : decode cX2_makeTally 20 = .ok (.aload_n 0, 1) := by decide +kernel
theorem dX2_makeTally_21 : decode cX2_makeTally 21 = .ok (.getfield 15, 3) := by decide +kernel
theorem dX2_makeTally_24 : decode cX2_makeTally 24 = .ok (.aload_n 0, 1) := by decide +kernel
theorem dX2_makeTally_25 : decode cX2_makeTally 25 = .ok (.getfield 46, 3) := by decide +kernel
theorem dX2_makeTally_28 : decode cX2_makeTally 28 = .ok (.aload_n 0, 1) := by decide +kernel
theorem dX2_makeTally_29 : decode cX2_makeTally 29 = .ok (.getfield 39, 3) := by decide +kernel
theorem dX2_makeTally_32 : decode cX2_makeTally 32 = .ok (.iastore, 1) := by decide +kernel
theorem dX2_makeTally_33 : decode cX2_makeTally 33 = .ok (.aload_n 0, 1) := by decide +kernel
theorem dX2_makeTally_34 : decode cX2_makeTally 34 = .ok (.dup, 1) := by decide +kernel
theorem dX2_makeTally_35 : decode cX2_makeTally 35 = .ok (.getfield 46, 3) := by decide +kernel
theorem dX2_makeTally_38 : decode cX2_makeTally 38 = .ok (.iconst 1, 1) := by decide +kernel
theorem dX2_makeTally_39 : decode cX2_makeTally 39 = .ok (.iadd, 1) := by decide +kernel
theorem dX2_makeTally_40 : decode cX2_makeTally 40 = .ok (.putfield 46, 3) := by decide +kernel
theorem dX2_makeTally_43 : decode cX2_makeTally 43 = .ok (.return_, 1) := by decide +kernel
theorem dX2_doRow_0 : decode cX2_doRow 0 = .ok (.iload_n 3, 1) := by decide +kernel
theorem dX2_doRow_1 : decode cX2_doRow 1 = .ok (.bipush 24, 2) := by decide +kernel
theorem dX2_doRow_3 : decode cX2_doRow 3 = .ok (.if_icmp .le 8, 3) := by decide +kernel
theorem dX2_doRow_6 : decode cX2_doRow 6 = .ok (.aload_n 1, 1) := by decide +kernel
theorem dX2_doRow_7 : decode cX2_doRow 7 = .ok (.getfield 19, 3) := by decide +kernel
theorem dX2_doRow_10 : decode cX2_doRow 10 = .ok (.ireturn, 1) := by decide +kernel
theorem dX2_doRow_11 : decode cX2_doRow 11 = .ok (.iload_n 2, 1) := by decide +kernel
theorem dX2_doRow_12 : decode cX2_doRow 12 = .ok (.istore 4, 2) := by decide +kernel
theorem dX2_doRow_14 : decode cX2_doRow 14 = .ok (.iconst 0, 1) := by decide +kernel
theorem dX2_doRow_15 : decode cX2_doRow 15 = .ok (.istore 5, 2) := by decide +kernel
theorem dX2_doRow_17 : decode cX2_doRow 17 = .ok (.iload 5, 2) := by decide +kernel
theorem dX2_doRow_19 : decode cX2_doRow 19 = .ok (.bipush 24, 2) := by decide +kernel
theorem dX2_doRow_21 : decode cX2_doRow 21 = .ok (.if_icmp .ge 170, 3) := by decide +kernel
theorem dX2_doRow_24 : decode cX2_doRow 24 = .ok (.iload 4, 2) := by decide +kernel
theorem dX2_doRow_26 : decode cX2_doRow 26 = .ok (.aload_n 1, 1) := by decide +kernel
theorem dX2_doRow_27 : decode cX2_doRow 27 = .ok (.getfield 19, 3) := by decide +kernel
theorem dX2_doRow_30 : decode cX2_doRow 30 = .ok (.if_icmp .ge 161, 3) := by decide +kernel
theorem dX2_doRow_33 : decode cX2_doRow 33 = .ok (.aload_n 0, 1) := by decide +kernel
theorem dX2_doRow_34 : decode cX2_doRow 34 = .ok (.getfield 25, 3) := by decide +kernel
theorem dX2_doRow_37 : decode cX2_doRow 37 = .ok (.ifCond .le 154, 3) := by decide +kernel
theorem dX2_doRow_40 : decode cX2_doRow 40 = .ok (.aload_n 1, 1) := by decide +kernel
theorem dX2_doRow_41 : decode cX2_doRow 41 = .ok (.getfield 28, 3) := by decide +kernel
theorem dX2_doRow_44 : decode cX2_doRow 44 = .ok (.iload 4, 2) := by decide +kernel
theorem dX2_doRow_46 : decode cX2_doRow 46 = .ok (.caload, 1) := by decide +kernel
theorem dX2_doRow_47 : decode cX2_doRow 47 = .ok (.istore 6, 2) := by decide +kernel
theorem dX2_doRow_49 : decode cX2_doRow 49 = .ok (.iload 6, 2) := by decide +kernel
theorem dX2_doRow_51 : decode cX2_doRow 51 = .ok (.bipush 41, 2) := by decide +kernel
theorem dX2_doRow_53 : decode cX2_doRow 53 = .ok (.if_icmp .ne 6, 3) := by decide +kernel
theorem dX2_doRow_56 : decode cX2_doRow 56 = .ok (.iload 4, 2) := by decide +kernel
theorem dX2_doRow_58 : decode cX2_doRow 58 = .ok (.ireturn, 1) := by decide +kernel
theorem dX2_doRow_59 : decode cX2_doRow 59 = .ok (.iinc 4 1, 3) := by decide +kernel
theorem dX2_doRow_62 : decode cX2_doRow 62 = .ok (.iload 6, 2) := by decide +kernel
theorem dX2_doRow_64 : decode cX2_doRow 64 = .ok (.bipush 40, 2) := by decide +kernel
theorem dX2_doRow_66 : decode cX2_doRow 66 = .ok (.if_icmp .eq 66, 3) := by decide +kernel
theorem dX2_doRow_69 : decode cX2_doRow 69 = .ok (.iconst 0, 1) := by decide +kernel
theorem dX2_doRow_70 : decode cX2_doRow 70 = .ok (.istore 7, 2) := by decide +kernel
theorem dX2_doRow_72 : decode cX2_doRow 72 = .ok (.iload 4, 2) := by decide +kernel
theorem dX2_doRow_74 : decode cX2_doRow 74 = .ok (.aload_n 1, 1) := by decide +kernel
theorem dX2_doRow_75 : decode cX2_doRow 75 = .ok (.getfield 19, 3) := by decide +kernel
theorem dX2_doRow_78 : decode cX2_doRow 78 = .ok (.if_icmp .ge 40, 3) := by decide +kernel
theorem dX2_doRow_81 : decode cX2_doRow 81 = .ok (.aload_n 1, 1) := by decide +kernel
theorem dX2_doRow_82 : decode cX2_doRow 82 = .ok (.getfield 28, 3) := by decide +kernel
theorem dX2_doRow_85 : decode cX2_doRow 85 = .ok (.iload 4, 2) := by decide +kernel
theorem dX2_doRow_87 : decode cX2_doRow 87 = .ok (.caload, 1) := by decide +kernel
theorem dX2_doRow_88 : decode cX2_doRow 88 = .ok (.invokestatic 31, 3) := by decide +kernel
theorem dX2_doRow_91 : decode cX2_doRow 91 = .ok (.ifCond .eq 27, 3) := by decide +kernel
theorem dX2_doRow_94 : decode cX2_doRow 94 = .ok (.bipush 10, 2) := by decide +kernel
theorem dX2_doRow_96 : decode cX2_doRow 96 = .ok (.iload 7, 2) := by decide +kernel
theorem dX2_doRow_98 : decode cX2_doRow 98 = .ok (.imul, 1) := by decide +kernel
theorem dX2_doRow_99 : decode cX2_doRow 99 = .ok (.aload_n 1, 1) := by decide +kernel
theorem dX2_doRow_100 : decode cX2_doRow 100 = .ok (.getfield 28, 3) := by decide +kernel
theorem dX2_doRow_103 : decode cX2_doRow 103 = .ok (.iload 4, 2) := by decide +kernel
theorem dX2_doRow_105 : decode cX2_doRow 105 = .ok (.caload, 1) := by decide +kernel
theorem dX2_doRow_106 : decode cX2_doRow 106 = .ok (.bipush 48, 2) := by decide +kernel
theorem dX2_doRow_108 : decode cX2_doRow 108 = .ok (.isub, 1) := by decide +kernel
theorem dX2_doRow_109 : decode cX2_doRow 109 = .ok (.iadd, 1) := by decide +kernel
theorem dX2_doRow_110 : decode cX2_doRow 110 = .ok (.istore 7, 2) := by decide +kernel
theorem dX2_doRow_112 : decode cX2_doRow 112 = .ok (.iinc 4 1, 3) := by decide +kernel
theorem dX2_doRow_115 : decode cX2_doRow 115 = .ok (.goto (-43), 3) := by decide +kernel
theorem dX2_doRow_118 : decode cX2_doRow 118 = .ok (.iinc 4 1, 3) := by decide +kernel
theorem dX2_doRow_121 : decode cX2_doRow 121 = .ok (.aload_n 0, 1) := by decide +kernel
theorem dX2_doRow_122 : decode cX2_doRow 122 = .ok (.iload 6, 2) := by decide +kernel
theorem dX2_doRow_124 : decode cX2_doRow 124 = .ok (.iload 7, 2) := by decide +kernel
theorem dX2_doRow_126 : decode cX2_doRow 126 = .ok (.invokevirtual 35, 3) := by decide +kernel
theorem dX2_doRow_129 : decode cX2_doRow 129 = .ok (.goto 56, 3) := by decide +kernel
theorem dX2_doRow_132 : decode cX2_doRow 132 = .ok (.iload 4, 2) := by decide +kernel
theorem dX2_doRow_134 : decode cX2_doRow 134 = .ok (.istore 7, 2) := by decide +kernel
theorem dX2_doRow_136 : decode cX2_doRow 136 = .ok (.iconst (-1), 1) := by decide +kernel
theorem dX2_doRow_137 : decode cX2_doRow 137 = .ok (.istore 8, 2) := by decide +kernel
theorem dX2_doRow_139 : decode cX2_doRow 139 = .ok (.iconst 0, 1) := by decide +kernel
theorem dX2_doRow_140 : decode cX2_doRow 140 = .ok (.istore 9, 2) := by decide +kernel
theorem dX2_doRow_142 : decode cX2_doRow 142 = .ok (.iload 9, 2) := by decide +kernel
theorem dX2_doRow_144 : decode cX2_doRow 144 = .ok (.bipush 6, 2) := by decide +kernel
theorem dX2_doRow_146 : decode cX2_doRow 146 = .ok (.if_icmp .gt 36, 3) := by decide +kernel
theorem dX2_doRow_149 : decode cX2_doRow 149 = .ok (.iload 8, 2) := by decide +kernel
theorem dX2_doRow_151 : decode cX2_doRow 151 = .ok (.aload_n 0, 1) := by decide +kernel
theorem dX2_doRow_152 : decode cX2_doRow 152 = .ok (.getfield 39, 3) := by decide +kernel
theorem dX2_doRow_155 : decode cX2_doRow 155 = .ok (.if_icmp .eq 27, 3) := by decide +kernel
theorem dX2_doRow_158 : decode cX2_doRow 158 = .ok (.aload_n 0, 1) := by decide +kernel
theorem dX2_doRow_159 : decode cX2_doRow 159 = .ok (.getfield 39, 3) := by decide +kernel
theorem dX2_doRow_162 : decode cX2_doRow 162 = .ok (.istore 8, 2) := by decide +kernel
theorem dX2_doRow_164 : decode cX2_doRow 164 = .ok (.aload_n 0, 1) := by decide +kernel
theorem dX2_doRow_165 : decode cX2_doRow 165 = .ok (.aload_n 1, 1) := by decide +kernel
theorem dX2_doRow_166 : decode cX2_doRow 166 = .ok (.iload 7, 2) := by decide +kernel
theorem dX2_doRow_168 : decode cX2_doRow 168 = .ok (.iload_n 3, 1) := by decide +kernel
theorem dX2_doRow_169 : decode cX2_doRow 169 = .ok (.iconst 1, 1) := by decide +kernel
theorem dX2_doRow_170 : decode cX2_doRow 170 = .ok (.iadd, 1) := by decide +kernel
theorem dX2_doRow_171 : decode cX2_doRow 171 = .ok (.invokevirtual 42, 3) := by decide +kernel
theorem dX2_doRow_174 : decode cX2_doRow 174 = .ok (.istore 4, 2) := by decide +kernel
theorem dX2_doRow_176 : decode cX2_doRow 176 = .ok (.iinc 9 1, 3) := by decide +kernel
theorem dX2_doRow_179 : decode cX2_doRow 179 = .ok (.goto (-37), 3) := by decide +kernel
theorem dX2_doRow_182 : decode cX2_doRow 182 = .ok (.iinc 4 1, 3) := by decide +kernel
theorem dX2_doRow_185 : decode cX2_doRow 185 = .ok (.iinc 5 1, 3) := by decide +kernel
theorem dX2_doRow_188 : decode cX2_doRow 188 = .ok (.goto (-171), 3) := by decide +kernel
theorem dX2_doRow_191 : decode cX2_doRow 191 = .ok (.iload 4, 2) := by decide +kernel
theorem dX2_doRow_193 : decode cX2_doRow 193 = .ok (.ireturn, 1) := by decide +kernel
theorem dX9_winnersByHand_0 : decode cX9_winnersByHand 0 = .ok (.aload_n 0, 1) := by decide +kernel
theorem dX9_winnersByHand_1 : decode cX9_winnersByHand 1 = .ok (.iload_n 1, 1) := by decide +kernel
theorem dX9_winnersByHand_2 : decode cX9_winnersByHand 2 = .ok (.invokevirtual 176, 3) := by decide +kernel
theorem dX9_winnersByHand_5 : decode cX9_winnersByHand 5 = .ok (.aload_n 0, 1) := by decide +kernel
theorem dX9_winnersByHand_6 : decode cX9_winnersByHand 6 = .ok (.getfield 47, 3) := by decide +kernel
theorem dX9_winnersByHand_9 : decode cX9_winnersByHand 9 = .ok (.iload_n 1, 1) := by decide +kernel
theorem dX9_winnersByHand_10 : decode cX9_winnersByHand 10 = .ok (.invokevirtual 186, 3) := by decide +kernel
theorem dX9_winnersByHand_13 : decode cX9_winnersByHand 13 = .ok (.aload_n 0, 1) := by decide +kernel
theorem dX9_winnersByHand_14 : decode cX9_winnersByHand 14 = .ok (.getfield 63, 3) := by decide +kernel
theorem dX9_winnersByHand_17 : decode cX9_winnersByHand 17 = .ok (.aload_n 0, 1) := by decide +kernel
theorem dX9_winnersByHand_18 : decode cX9_winnersByHand 18 = .ok (.getfield 31, 3) := by decide +kernel
theorem dX9_winnersByHand_21 : decode cX9_winnersByHand 21 = .ok (.iload_n 1, 1) := by decide +kernel
theorem dX9_winnersByHand_22 : decode cX9_winnersByHand 22 = .ok (.aaload, 1) := by decide +kernel
theorem dX9_winnersByHand_23 : decode cX9_winnersByHand 23 = .ok (.getfield 209, 3) := by decide +kernel
theorem dX9_winnersByHand_26 : decode cX9_winnersByHand 26 = .ok (.aload_n 0, 1) := by decide +kernel
theorem dX9_winnersByHand_27 : decode cX9_winnersByHand 27 = .ok (.getfield 31, 3) := by decide +kernel
theorem dX9_winnersByHand_30 : decode cX9_winnersByHand 30 = .ok (.iload_n 1, 1) := by decide +kernel
theorem dX9_winnersByHand_31 : decode cX9_winnersByHand 31 = .ok (.aaload, 1) := by decide +kernel
theorem dX9_winnersByHand_32 : decode cX9_winnersByHand 32 = .ok (.getfield 262, 3) := by decide +kernel
theorem dX9_winnersByHand_35 : decode cX9_winnersByHand 35 = .ok (.invokevirtual 265, 3) := by decide +kernel
theorem dX9_winnersByHand_38 : decode cX9_winnersByHand 38 = .ok (.aload_n 0, 1) := by decide +kernel
theorem dX9_winnersByHand_39 : decode cX9_winnersByHand 39 = .ok (.getfield 63, 3) := by decide +kernel
theorem dX9_winnersByHand_42 : decode cX9_winnersByHand 42 = .ok (.aload_n 0, 1) := by decide +kernel
theorem dX9_winnersByHand_43 : decode cX9_winnersByHand 43 = .ok (.getfield 25, 3) := by decide +kernel
theorem dX9_winnersByHand_46 : decode cX9_winnersByHand 46 = .ok (.aload_n 0, 1) := by decide +kernel
theorem dX9_winnersByHand_47 : decode cX9_winnersByHand 47 = .ok (.getfield 31, 3) := by decide +kernel
theorem dX9_winnersByHand_50 : decode cX9_winnersByHand 50 = .ok (.iload_n 1, 1) := by decide +kernel
theorem dX9_winnersByHand_51 : decode cX9_winnersByHand 51 = .ok (.aaload, 1) := by decide +kernel
theorem dX9_winnersByHand_52 : decode cX9_winnersByHand 52 = .ok (.getfield 268, 3) := by decide +kernel
theorem dX9_winnersByHand_55 : decode cX9_winnersByHand 55 = .ok (.aaload, 1) := by decide +kernel
theorem dX9_winnersByHand_56 : decode cX9_winnersByHand 56 = .ok (.iconst 0, 1) := by decide +kernel
theorem dX9_winnersByHand_57 : decode cX9_winnersByHand 57 = .ok (.iconst 0, 1) := by decide +kernel
theorem dX9_winnersByHand_58 : decode cX9_winnersByHand 58 = .ok (.invokevirtual 271, 3) := by decide +kernel
theorem dX9_winnersByHand_61 : decode cX9_winnersByHand 61 = .ok (.pop, 1) := by decide +kernel
theorem dX9_winnersByHand_62 : decode cX9_winnersByHand 62 = .ok (.aload_n 0, 1) := by decide +kernel
theorem dX9_winnersByHand_63 : decode cX9_winnersByHand 63 = .ok (.getfield 63, 3) := by decide +kernel
theorem dX9_winnersByHand_66 : decode cX9_winnersByHand 66 = .ok (.getfield 275, 3) := by decide +kernel
theorem dX9_winnersByHand_69 : decode cX9_winnersByHand 69 = .ok (.ireturn, 1) := by decide +kernel
theorem dX9_tallies_0 : decode cX9_tallies 0 = .ok (.aload_n 0, 1) := by decide +kernel
theorem dX9_tallies_1 : decode cX9_tallies 1 = .ok (.iload_n 1, 1) := by decide +kernel
theorem dX9_tallies_2 : decode cX9_tallies 2 = .ok (.invokevirtual 176, 3) := by decide +kernel
theorem dX9_tallies_5 : decode cX9_tallies 5 = .ok (.aload_n 0, 1) := by decide +kernel
theorem dX9_tallies_6 : decode cX9_tallies 6 = .ok (.iload_n 1, 1) := by decide +kernel
theorem dX9_tallies_7 : decode cX9_tallies 7 = .ok (.invokevirtual 153, 3) := by decide +kernel
theorem dX9_tallies_10 : decode cX9_tallies 10 = .ok (.getfield 276, 3) := by decide +kernel
theorem dX9_tallies_13 : decode cX9_tallies 13 = .ok (.ireturn, 1) := by decide +kernel
theorem dX3_stoodIn_0 : decode cX3_stoodIn 0 = .ok (.iload_n 1, 1) := by decide +kernel
theorem dX3_stoodIn_1 : decode cX3_stoodIn 1 = .ok (.iconst 0, 1) := by decide +kernel
theorem dX3_stoodIn_2 : decode cX3_stoodIn 2 = .ok (.aload_n 0, 1) := by decide +kernel
theorem dX3_stoodIn_3 : decode cX3_stoodIn 3 = .ok (.getfield 55, 3) := by decide +kernel
theorem dX3_stoodIn_6 : decode cX3_stoodIn 6 = .ok (.iconst 1, 1) := by decide +kernel
theorem dX3_stoodIn_7 : decode cX3_stoodIn 7 = .ok (.isub, 1) := by decide +kernel
theorem dX3_stoodIn_8 : decode cX3_stoodIn 8 = .ok (.invokestatic 51, 3) := by decide +kernel
theorem dX3_stoodIn_11 : decode cX3_stoodIn 11 = .ok (.ifCond .eq 20, 3) := by decide +kernel
theorem dX3_stoodIn_14 : decode cX3_stoodIn 14 = .ok (.aload_n 0, 1) := by decide +kernel
theorem dX3_stoodIn_15 : decode cX3_stoodIn 15 = .ok (.getfield 15, 3) := by decide +kernel
theorem dX3_stoodIn_18 : decode cX3_stoodIn 18 = .ok (.iload_n 1, 1) := by decide +kernel
theorem dX3_stoodIn_19 : decode cX3_stoodIn 19 = .ok (.iaload, 1) := by decide +kernel
theorem dX3_stoodIn_20 : decode cX3_stoodIn 20 = .ok (.iload_n 2, 1) := by decide +kernel
theorem dX3_stoodIn_21 : decode cX3_stoodIn 21 = .ok (.invokestatic 86, 3) := by decide +kernel
theorem dX3_stoodIn_24 : decode cX3_stoodIn 24 = .ok (.ifCond .eq 7, 3) := by decide +kernel
theorem dX3_stoodIn_27 : decode cX3_stoodIn 27 = .ok (.iconst 1, 1) := by decide +kernel
theorem dX3_stoodIn_28 : decode cX3_stoodIn 28 = .ok (.goto 4, 3) := by decide +kernel
theorem dX3_stoodIn_31 : decode cX3_stoodIn 31 = .ok (.iconst 0, 1) := by decide +kernel
theorem dX3_stoodIn_32 : decode cX3_stoodIn 32 = .ok (.ireturn, 1) := by decide +kernel
theorem dX9_votes_0 : decode cX9_votes 0 = .ok (.aload_n 0, 1) := by decide +kernel
theorem dX9_votes_1 : decode cX9_votes 1 = .ok (.iload_n 1, 1) := by decide +kernel
theorem dX9_votes_2 : decode cX9_votes 2 = .ok (.invokevirtual 176, 3) := by decide +kernel
theorem dX9_votes_5 : decode cX9_votes 5 = .ok (.iload_n 3, 1) := by decide +kernel
theorem dX9_votes_6 : decode cX9_votes 6 = .ok (.iconst 0, 1) := by decide +kernel
theorem dX9_votes_7 : decode cX9_votes 7 = .ok (.aload_n 0, 1) := by decide +kernel
theorem dX9_votes_8 : decode cX9_votes 8 = .ok (.getfield 31, 3) := by decide +kernel
theorem dX9_votes_11 : decode cX9_votes 11 = .ok (.iload_n 1, 1) := by decide +kernel
theorem dX9_votes_12 : decode cX9_votes 12 = .ok (.aaload, 1) := by decide +kernel
theorem dX9_votes_13 : decode cX9_votes 13 = .ok (.getfield 209, 3) := by decide +kernel
theorem dX9_votes_16 : decode cX9_votes 16 = .ok (.iconst 1, 1) := by decide +kernel
theorem dX9_votes_17 : decode cX9_votes 17 = .ok (.isub, 1) := by decide +kernel
theorem dX9_votes_18 : decode cX9_votes 18 = .ok (.invokestatic 69, 3) := by decide +kernel
theorem dX9_votes_21 : decode cX9_votes 21 = .ok (.ifCond .eq 21, 3) := by decide +kernel
theorem dX9_votes_24 : decode cX9_votes 24 = .ok (.iload_n 2, 1) := by decide +kernel
theorem dX9_votes_25 : decode cX9_votes 25 = .ok (.iconst 0, 1) := by decide +kernel
theorem dX9_votes_26 : decode cX9_votes 26 = .ok (.aload_n 0, 1) := by decide +kernel
theorem dX9_votes_27 : decode cX9_votes 27 = .ok (.iload_n 1, 1) := by decide +kernel
theorem dX9_votes_28 : decode cX9_votes 28 = .ok (.invokevirtual 153, 3) := by decide +kernel
theorem dX9_votes_31 : decode cX9_votes 31 = .ok (.getfield 276, 3) := by decide +kernel
theorem dX9_votes_34 : decode cX9_votes 34 = .ok (.iconst 1, 1) := by decide +kernel
theorem dX9_votes_35 : decode cX9_votes 35 = .ok (.isub, 1) := by decide +kernel
theorem dX9_votes_36 : decode cX9_votes 36 = .ok (.invokestatic 69, 3) := by decide +kernel
theorem dX9_votes_39 : decode cX9_votes 39 = .ok (.ifCond .ne 14, 3) := by decide +kernel
theorem dX9_votes_42 : decode cX9_votes 42 = .ok (.new 73, 3) := by decide +kernel
theorem dX9_votes_45 : decode cX9_votes 45 = .ok (.dup, 1) := by decide +kernel
theorem dX9_votes_46 : decode cX9_votes 46 = .ok (.ldc_w 279, 3) := by decide +kernel
theorem dX9_votes_49 : decode cX9_votes 49 = .ok (.invokespecial 77, 3) := by decide +kernel
theorem dX9_votes_52 : decode cX9_votes 52 = .ok (.athrow, 1) := by decide +kernel
theorem dX9_votes_53 : decode cX9_votes 53 = .ok (.aload_n 0, 1) := by decide +kernel
theorem dX9_votes_54 : decode cX9_votes 54 = .ok (.getfield 56, 3) := by decide +kernel
theorem dX9_votes_57 : decode cX9_votes 57 = .ok (.iload_n 2, 1) := by decide +kernel
theorem dX9_votes_58 : decode cX9_votes 58 = .ok (.iload_n 3, 1) := by decide +kernel
theorem dX9_votes_59 : decode cX9_votes 59 = .ok (.invokevirtual 281, 3) := by decide +kernel
theorem dX9_votes_62 : decode cX9_votes 62 = .ok (.ifCond .eq 15, 3) := by decide +kernel
theorem dX9_votes_65 : decode cX9_votes 65 = .ok (.aload_n 0, 1) := by decide +kernel
theorem dX9_votes_66 : decode cX9_votes 66 = .ok (.getfield 56, 3) := by decide +kernel
theorem dX9_votes_69 : decode cX9_votes 69 = .ok (.iload_n 2, 1) := by decide +kernel
theorem dX9_votes_70 : decode cX9_votes 70 = .ok (.iload_n 3, 1) := by decide +kernel
theorem dX9_votes_71 : decode cX9_votes 71 = .ok (.invokevirtual 285, 3) := by decide +kernel
theorem dX9_votes_74 : decode cX9_votes 74 = .ok (.goto 4, 3) := by decide +kernel
theorem dX9_votes_77 : decode cX9_votes 77 = .ok (.iconst (-1), 1) := by decide +kernel
theorem dX9_votes_78 : decode cX9_votes 78 = .ok (.ireturn, 1) := by decide +kernel
theorem dX9_ties_0 : decode cX9_ties 0 = .ok (.aload_n 0, 1) := by decide +kernel
theorem dX9_ties_1 : decode cX9_ties 1 = .ok (.iload_n 1, 1) := by decide +kernel
theorem dX9_ties_2 : decode cX9_ties 2 = .ok (.invokevirtual 176, 3) := by decide +kernel
theorem dX9_ties_5 : decode cX9_ties 5 = .ok (.aload_n 0, 1) := by decide +kernel
theorem dX9_ties_6 : decode cX9_ties 6 = .ok (.iload_n 1, 1) := by decide +kernel
theorem dX9_ties_7 : decode cX9_ties 7 = .ok (.invokevirtual 153, 3) := by decide +kernel
theorem dX9_ties_10 : decode cX9_ties 10 = .ok (.getfield 288, 3) := by decide +kernel
theorem dX9_ties_13 : decode cX9_ties 13 = .ok (.ireturn, 1) := by decide +kernel
theorem dX9_tied_0 : decode cX9_tied 0 = .ok (.aload_n 0, 1) := by decide +kernel
theorem dX9_tied_1 : decode cX9_tied 1 = .ok (.iload_n 1, 1) := by decide +kernel
theorem dX9_tied_2 : decode cX9_tied 2 = .ok (.invokevirtual 176, 3) := by decide +kernel
theorem dX9_tied_5 : decode cX9_tied 5 = .ok (.iload_n 2, 1) := by decide +kernel
theorem dX9_tied_6 : decode cX9_tied 6 = .ok (.iconst 0, 1) := by decide +kernel
theorem dX9_tied_7 : decode cX9_tied 7 = .ok (.aload_n 0, 1) := by decide +kernel
theorem dX9_tied_8 : decode cX9_tied 8 = .ok (.iload_n 1, 1) := by decide +kernel
theorem dX9_tied_9 : decode cX9_tied 9 = .ok (.invokevirtual 153, 3) := by decide +kernel
theorem dX9_tied_12 : decode cX9_tied 12 = .ok (.getfield 288, 3) := by decide +kernel
theorem dX9_tied_15 : decode cX9_tied 15 = .ok (.iconst 1, 1) := by decide +kernel
theorem dX9_tied_16 : decode cX9_tied 16 = .ok (.isub, 1) := by decide +kernel
theorem dX9_tied_17 : decode cX9_tied 17 = .ok (.invokestatic 69, 3) := by decide +kernel
theorem dX9_tied_20 : decode cX9_tied 20 = .ok (.ifCond .ne 14, 3) := by decide +kernel
theorem dX9_tied_23 : decode cX9_tied 23 = .ok (.new 73, 3) := by decide +kernel
theorem dX9_tied_26 : decode cX9_tied 26 = .ok (.dup, 1) := by decide +kernel
theorem dX9_tied_27 : decode cX9_tied 27 = .ok (.ldc_w 291, 3) := by decide +kernel
theorem dX9_tied_30 : decode cX9_tied 30 = .ok (.invokespecial 77, 3) := by decide +kernel
theorem dX9_tied_33 : decode cX9_tied 33 = .ok (.athrow, 1) := by decide +kernel
theorem dX9_tied_34 : decode cX9_tied 34 = .ok (.aload_n 0, 1) := by decide +kernel
theorem dX9_tied_35 : decode cX9_tied 35 = .ok (.getfield 56, 3) := by decide +kernel
theorem dX9_tied_38 : decode cX9_tied 38 = .ok (.getfield 293, 3) := by decide +kernel
theorem dX9_tied_41 : decode cX9_tied 41 = .ok (.iload_n 2, 1) := by decide +kernel
theorem dX9_tied_42 : decode cX9_tied 42 = .ok (.iaload, 1) := by decide +kernel
theorem dX9_tied_43 : decode cX9_tied 43 = .ok (.ireturn, 1) := by decide +kernel
theorem dX9_certify_0 : decode cX9_certify 0 = .ok (.aload_n 0, 1) := by decide +kernel
theorem dX9_certify_1 : decode cX9_certify 1 = .ok (.iload_n 1, 1) := by decide +kernel
theorem dX9_certify_2 : decode cX9_certify 2 = .ok (.invokevirtual 176, 3) := by decide +kernel
theorem dX9_certify_5 : decode cX9_certify 5 = .ok (.aload_n 0, 1) := by decide +kernel
theorem dX9_certify_6 : decode cX9_certify 6 = .ok (.getfield 31, 3) := by decide +kernel
theorem dX9_certify_9 : decode cX9_certify 9 = .ok (.iload_n 1, 1) := by decide +kernel
theorem dX9_certify_10 : decode cX9_certify 10 = .ok (.aaload, 1) := by decide +kernel
theorem dX9_certify_11 : decode cX9_certify 11 = .ok (.getfield 180, 3) := by decide +kernel
theorem dX9_certify_14 : decode cX9_certify 14 = .ok (.ifCond .ne 14, 3) := by decide +kernel
theorem dX9_certify_17 : decode cX9_certify 17 = .ok (.new 89, 3) := by decide +kernel
theorem dX9_certify_20 : decode cX9_certify 20 = .ok (.dup, 1) := by decide +kernel
theorem dX9_certify_21 : decode cX9_certify 21 = .ok (.ldc_w 296, 3) := by decide +kernel
theorem dX9_certify_24 : decode cX9_certify 24 = .ok (.invokespecial 93, 3) := by decide +kernel
theorem dX9_certify_27 : decode cX9_certify 27 = .ok (.athrow, 1) := by decide +kernel
theorem dX9_certify_28 : decode cX9_certify 28 = .ok (.aload_n 0, 1) := by decide +kernel
theorem dX9_certify_29 : decode cX9_certify 29 = .ok (.getfield 31, 3) := by decide +kernel
theorem dX9_certify_32 : decode cX9_certify 32 = .ok (.iload_n 1, 1) := by decide +kernel
theorem dX9_certify_33 : decode cX9_certify 33 = .ok (.aaload, 1) := by decide +kernel
theorem dX9_certify_34 : decode cX9_certify 34 = .ok (.aload_n 0, 1) := by decide +kernel
theorem dX9_certify_35 : decode cX9_certify 35 = .ok (.iload_n 1, 1) := by decide +kernel
theorem dX9_certify_36 : decode cX9_certify 36 = .ok (.invokevirtual 153, 3) := by decide +kernel
theorem dX9_certify_39 : decode cX9_certify 39 = .ok (.getfield 157, 3) := by decide +kernel
theorem dX9_certify_42 : decode cX9_certify 42 = .ok (.putfield 298, 3) := by decide +kernel
theorem dX9_certify_45 : decode cX9_certify 45 = .ok (.aload_n 0, 1) := by decide +kernel
theorem dX9_certify_46 : decode cX9_certify 46 = .ok (.getfield 31, 3) := by decide +kernel
theorem dX9_certify_49 : decode cX9_certify 49 = .ok (.iload_n 1, 1) := by decide +kernel
theorem dX9_certify_50 : decode cX9_certify 50 = .ok (.aaload, 1) := by decide +kernel
theorem dX9_certify_51 : decode cX9_certify 51 = .ok (.getfield 298, 3) := by decide +kernel
theorem dX9_certify_54 : decode cX9_certify 54 = .ok (.ireturn, 1) := by decide +kernel
theorem dX9_certified_0 : decode cX9_certified 0 = .ok (.aload_n 0, 1) := by decide +kernel
theorem dX9_certified_1 : decode cX9_certified 1 = .ok (.iload_n 1, 1) := by decide +kernel
theorem dX9_certified_2 : decode cX9_certified 2 = .ok (.invokevirtual 176, 3) := by decide +kernel
theorem dX9_certified_5 : decode cX9_certified 5 = .ok (.aload_n 0, 1) := by decide +kernel
theorem dX9_certified_6 : decode cX9_certified 6 = .ok (.getfield 31, 3) := by decide +kernel
theorem dX9_certified_9 : decode cX9_certified 9 = .ok (.iload_n 1, 1) := by decide +kernel
theorem dX9_certified_10 : decode cX9_certified 10 = .ok (.aaload, 1) := by decide +kernel
theorem dX9_certified_11 : decode cX9_certified 11 = .ok (.getfield 298, 3) := by decide +kernel
theorem dX9_certified_14 : decode cX9_certified 14 = .ok (.ireturn, 1) := by decide +kernel
theorem dX9_stale_0 : decode cX9_stale 0 = .ok (.iconst 0, 1) := by decide +kernel
theorem dX9_stale_1 : decode cX9_stale 1 = .ok (.istore_n 1, 1) := by decide +kernel
theorem dX9_stale_2 : decode cX9_stale 2 = .ok (.iconst 0, 1) := by decide +kernel
theorem dX9_stale_3 : decode cX9_stale 3 = .ok (.istore_n 2, 1) := by decide +kernel
theorem dX9_stale_4 : decode cX9_stale 4 = .ok (.iload_n 2, 1) := by decide +kernel
theorem dX9_stale_5 : decode cX9_stale 5 = .ok (.aload_n 0, 1) := by decide +kernel
theorem dX9_stale_6 : decode cX9_stale 6 = .ok (.getfield 150, 3) := by decide +kernel
theorem dX9_stale_9 : decode cX9_stale 9 = .ok (.if_icmp .ge 39, 3) := by decide +kernel
theorem dX9_stale_12 : decode cX9_stale 12 = .ok (.aload_n 0, 1) := by decide +kernel
theorem dX9_stale_13 : decode cX9_stale 13 = .ok (.getfield 31, 3) := by decide +kernel
theorem dX9_stale_16 : decode cX9_stale 16 = .ok (.iload_n 2, 1) := by decide +kernel
theorem dX9_stale_17 : decode cX9_stale 17 = .ok (.aaload, 1) := by decide +kernel
theorem dX9_stale_18 : decode cX9_stale 18 = .ok (.getfield 298, 3) := by decide +kernel
theorem dX9_stale_21 : decode cX9_stale 21 = .ok (.istore_n 3, 1) := by decide +kernel
theorem dX9_stale_22 : decode cX9_stale 22 = .ok (.iload_n 3, 1) := by decide +kernel
theorem dX9_stale_23 : decode cX9_stale 23 = .ok (.iconst (-1), 1) := by decide +kernel
theorem dX9_stale_24 : decode cX9_stale 24 = .ok (.if_icmp .eq 18, 3) := by decide +kernel
theorem dX9_stale_27 : decode cX9_stale 27 = .ok (.iload_n 3, 1) := by decide +kernel
theorem dX9_stale_28 : decode cX9_stale 28 = .ok (.aload_n 0, 1) := by decide +kernel
theorem dX9_stale_29 : decode cX9_stale 29 = .ok (.iload_n 2, 1) := by decide +kernel
theorem dX9_stale_30 : decode cX9_stale 30 = .ok (.invokevirtual 153, 3) := by decide +kernel
theorem dX9_stale_33 : decode cX9_stale 33 = .ok (.getfield 157, 3) := by decide +kernel
theorem dX9_stale_36 : decode cX9_stale 36 = .ok (.if_icmp .eq 6, 3) := by decide +kernel
theorem dX9_stale_39 : decode cX9_stale 39 = .ok (.iinc 1 1, 3) := by decide +kernel
theorem dX9_stale_42 : decode cX9_stale 42 = .ok (.iinc 2 1, 3) := by decide +kernel
theorem dX9_stale_45 : decode cX9_stale 45 = .ok (.goto (-41), 3) := by decide +kernel
theorem dX9_stale_48 : decode cX9_stale 48 = .ok (.iload_n 1, 1) := by decide +kernel
theorem dX9_stale_49 : decode cX9_stale 49 = .ok (.ireturn, 1) := by decide +kernel
end
section
/-! CORE: a world is a list of kinds of cells; what the cells hold is a function. All ints (booleans, chars) of the cells are w i k: cell i, place k. -/
abbrev Wt : Type := Nat → Nat → Int32
/-- a cell's kind: an array (its type's place, its length); an object (its class's place, its fields: none an int, some j a reference to the cell j); an array of references (its type's place, its length, the first cell) -/
abbrev Kd : Type := (Nat × Nat) ⊕ ((Nat × List (Option Nat)) ⊕ (Nat × Nat × Nat))
def kfs (q : Nat → Nat) (f : Nat → Int32) (l : List (Option Nat)) : List Value := l.mapIdx (fun j r => match r with | none => Value.int (f j) | some i => Value.ref (q i))
def kc (dA : Nat → ClassId) (q : Nat → Nat) (f : Nat → Int32) (k : Kd) : va_E := match k with
  | .inl a => .inl (dA a.1, a.2, .inl f)
  | .inr (.inl o) => .inr (o.1, kfs q f o.2)
  | .inr (.inr a) => .inl (dA a.1, a.2.1, .inr (.inr (.inr (.inr (fun j => some (q (a.2.2 + j)))))))
def wld (K : List Kd) (dA : Nat → ClassId) (q : Nat → Nat) (w : Wt) : va_W := K.mapIdx (fun i k => (q i, kc dA q (w i) k))
def upd2 (w : Wt) (i k : Nat) (v : Int32) : Wt := fun a => if a = i then upd (w i) k v else w a
theorem upd2_s {w : Wt} {i k : Nat} {v : Int32} : upd2 w i k v i = upd (w i) k v := if_pos rfl
theorem upd2_n {w : Wt} {i k a : Nat} {v : Int32} (h : a ≠ i) : upd2 w i k v a = w a := if_neg h
theorem wld_at {K : List Kd} {dA : Nat → ClassId} {q : Nat → Nat} {w : Wt} {i : Nat} {k : Kd} (h : K[i]? = some k) : (wld K dA q w)[i]? = some (q i, kc dA q (w i) k) := by
  unfold wld
  rw [List.getElem?_mapIdx, h]
  rfl
theorem wld_len {K : List Kd} {dA : Nat → ClassId} {q : Nat → Nat} {w : Wt} : (wld K dA q w).length = K.length := by unfold wld; exact List.length_mapIdx
theorem wld_in {K : List Kd} {dA : Nat → ClassId} {q : Nat → Nat} {w : Wt} {i : Nat} {z : Nat × va_E} (h : (wld K dA q w)[i]? = some z) : i < K.length ∧ z.1 = q i := by
  have hl : i < (wld K dA q w).length := (List.getElem?_eq_some_iff.mp h).1
  rw [wld_len] at hl
  have h2 := wld_at (dA := dA) (q := q) (w := w) (List.getElem?_eq_getElem hl)
  rw [h2] at h
  exact ⟨hl, by rw [← Option.some.inj h]⟩
theorem wld_set {K : List Kd} {dA : Nat → ClassId} {q : Nat → Nat} {w : Wt} {i k : Nat} {v : Int32} {z : Kd} {y : va_E} (h : K[i]? = some z) (hy : y = kc dA q (upd (w i) k v) z) : (wld K dA q w).set i (q i, y) = wld K dA q (upd2 w i k v) := by
  subst hy
  apply List.ext_getElem?
  intro j
  by_cases e : j = i
  · subst e
    have hl : j < (wld K dA q w).length := by rw [wld_len]; exact (List.getElem?_eq_some_iff.mp h).1
    rw [List.getElem?_set_self hl, wld_at h, upd2_s]
  · rw [List.getElem?_set_ne (fun z => e z.symm)]
    unfold wld
    rw [List.getElem?_mapIdx, List.getElem?_mapIdx, upd2_n e]
theorem kfs_at {q : Nat → Nat} {f : Nat → Int32} {l : List (Option Nat)} {k : Nat} (h : l[k]? = some none) : (kfs q f l)[k]? = some (.int (f k)) := by
  unfold kfs
  rw [List.getElem?_mapIdx, h]
  rfl
theorem kfs_ref {q : Nat → Nat} {f : Nat → Int32} {l : List (Option Nat)} {k j : Nat} (h : l[k]? = some (some j)) : (kfs q f l)[k]? = some (.ref (q j)) := by
  unfold kfs
  rw [List.getElem?_mapIdx, h]
  rfl
theorem kfs_set {q : Nat → Nat} {f : Nat → Int32} {l : List (Option Nat)} {k : Nat} {v : Int32} (h : l[k]? = some none) : (kfs q f l).set k (.int v) = kfs q (upd f k v) l := by
  apply List.ext_getElem?
  intro j
  have hl : k < l.length := (List.getElem?_eq_some_iff.mp h).1
  by_cases e : j = k
  · subst e
    rw [List.getElem?_set_self (by unfold kfs; rw [List.length_mapIdx]; exact hl), kfs_at h, pk_us]
  · rw [List.getElem?_set_ne (fun z => e z.symm)]
    unfold kfs
    rw [List.getElem?_mapIdx, List.getElem?_mapIdx]
    cases l[j]? with
    | none => rfl
    | some r =>
      cases r with
      | none => show some (Value.int (f j)) = some (Value.int (upd f k v j)); rw [pk_un e]
      | some i => rfl
/-- the array classes -/
def tysW (dA : Nat → ClassId) : List (ClassId × FieldType) := [(dA 0, .int), (dA 1, .boolean), (dA 2, .char), (dA 3, .object RX5), (dA 4, .object RX8)]
abbrev injK (K : List Kd) (q : Nat → Nat) : Prop := ∀ i j, i < K.length → j < K.length → q i = q j → i = j
def Aq (K : List Kd) (q : Nat → Nat) (sz : Nat) : Nat → Prop := fun a => (∃ i, i < K.length ∧ a = q i) ∨ sz ≤ a
theorem wld_D {K : List Kd} {dA : Nat → ClassId} {q : Nat → Nat} {w : Wt} {A : Nat → Prop} (hq : injK K q) (hA : ∀ i, i < K.length → A (q i)) : va_D A (wld K dA q w) := by
  refine ⟨fun i j p r hi hj e => ?_, fun k r hk => ?_⟩
  · obtain ⟨a1, b1⟩ := wld_in hi
    obtain ⟨a2, b2⟩ := wld_in hj
    exact hq i j a1 a2 (by rw [← b1, ← b2]; exact e)
  · obtain ⟨a1, b1⟩ := wld_in hk
    rw [b1]
    exact hA k a1
/-- what a method takes of the heap beside its world: kept by what doesn't write there -/
abbrev Ev : Type := (Nat → Prop) → State → Heap → Prop
def evOk (EV : Ev) : Prop := (∀ (A : Nat → Prop) (s U : State) (H : Heap), s.WarmedH U.vm → EV A s H → EV A U H) ∧ (∀ (A : Nat → Prop) (U : State) (H H1 : Heap), EV A U H → (∀ a : Nat, a < H.size → ¬ A a → H1[a]? = H[a]?) → EV A U H1) ∧ ∀ (A B : Nat → Prop) (U : State) (H : Heap), EV A U H → (∀ a, B a → A a) → EV B U H
/-- the walk's state: the world in the heap, and nothing else changed -/
def Sta (K : List Kd) (D : va_G) (dA : Nat → ClassId) (q : Nat → Nat) (A : Nat → Prop) (H0 : Heap) (w : Wt) (H : Heap) (locs : List Loc) : Prop := va_P D vwCl (wld K dA q w) H ∧ va_S A H0 H locs
/-- what holds all through a method -/
def Cx (EV : Ev) (K : List Kd) (D : va_G) (dA : Nat → ClassId) (q : Nat → Nat) (A : Nat → Prop) (s : State) (m : MethodId) (args : Array Value) (own : String) : Prop :=
  s.vm.findClass own = some m.cls ∧ (∀ w ∈ wall, w.before args s = true) ∧ va_K D vwCl (tysW dA) s ∧ injK K q ∧ (∀ i, i < K.length → A (q i)) ∧ (∀ a, s.heap.size ≤ a → A a) ∧ EV A s s.heap
/-- a method's start -/
def Pr (EV : Ev) (K : List Kd) (D : va_G) (dA : Nat → ClassId) (q : Nat → Nat) (sz : Nat) (w : Wt) : State → Prop := fun U => U.heap.size = sz ∧ va_P D vwCl (wld K dA q w) U.heap ∧ va_K D vwCl (tysW dA) U ∧ injK K q ∧ EV (Aq K q sz) U U.heap
theorem Pr.blind {EV : Ev} {K : List Kd} {D : va_G} {dA : Nat → ClassId} {q : Nat → Nat} {sz : Nat} {w : Wt} {av : List Value} (ev : evOk EV) : FrameBlind (va_Pc av (Pr EV K D dA q sz w)) := by
  intro a U g mk h
  obtain ⟨h0, h1, h2, h3, h4, h5⟩ := h
  exact ⟨h0, h1, h2, va_K.moved (u := U) (U := U.calling g mk a) (Vm.Alike.refl U.vm) h3, h4, ev.1 _ U (U.calling g mk a) _ (State.WarmedH.refl U) h5⟩
section CORE
variable {p : Program} {l : Launch} {e : Env} {R : Room} {s : State} {m : MethodId} {args : Array Value} {below : List Frame} {meth : Method} {c : Code} {H : Heap} {locs : List Loc} {cells slots : Nat} {Q : State → Prop}
variable {EV : Ev} {K : List Kd} {D : va_G} {dA : Nat → ClassId} {q : Nat → Nat} {A : Nat → Prop} {own : String} {w : Wt}
variable {cc : ByteArray} {pc : Nat} {ls : Array Slot} {rest : List Value}
theorem Cx.start {sz : Nat} (hown : s.vm.findClass own = some m.cls) (hts : ∀ x ∈ wall, x.before args s = true) (h : Pr EV K D dA q sz w s) : Cx EV K D dA q (Aq K q s.heap.size) s m args own ∧ Sta K D dA q (Aq K q s.heap.size) s.heap w s.heap [] := by
  obtain ⟨rfl, h2, h3, h4, h5⟩ := h
  exact ⟨⟨hown, hts, h3, h4, fun i hi => Or.inl ⟨i, hi, rfl⟩, fun a ha => Or.inr ha, h5⟩, h2, va_S.rf⟩
theorem Cx.pre {av : List Value} (ev : evOk EV) (C : Cx EV K D dA q A s m args own) (S : Sta K D dA q A s.heap w H locs) {U : State} (hU : U.heap = H) (hW : s.WarmedH U.vm) : va_Pc av (Pr EV K D dA q H.size w) av.toArray U := by
  obtain ⟨-, -, hK, hq, hA, hB, hE⟩ := C
  have h1 : EV A s H := ev.2.1 A s s.heap H hE S.2.2.1
  have h2 : ∀ a, Aq K q H.size a → A a := fun a h => h.elim (fun ⟨i, hi, e⟩ => by rw [e]; exact hA i hi) (fun h => hB a (Nat.le_trans S.2.1 h))
  exact ⟨rfl, by rw [hU], by rw [hU]; exact S.1, va_K.moved hW.alike hK, hq, by rw [hU]; exact ev.1 _ s U H hW (ev.2.2 A _ s H h1 h2)⟩
theorem Cx.sub (C : Cx EV K D dA q A s m args own) (S : Sta K D dA q A s.heap w H locs) : ∀ a, Aq K q H.size a → A a :=
  fun a h => h.elim (fun ⟨i, hi, e⟩ => by rw [e]; exact C.2.2.2.2.1 i hi) (fun h => C.2.2.2.2.2.1 a (Nat.le_trans S.2.1 h))
/-- getfield of an int -/
theorem r_get {ci k index : Nat} {fs : List (Option Nat)} {Cn ref : String} {T : u_T} {N : Nat} (hc : vwCl[ci]? = some (Cn, T, N)) (hk : k < N) (hin : ∀ x ∈ u_ws Cn T N, x ∈ wall) (hlink : Cond.fieldLink own index ref (T k).2.1 (T k).2.2.1 ∈ wall) (hsame : ref = (T k).1 ∨ Cond.sameField ref (T k).1 (T k).2.1 (T k).2.2.1 ∈ wall)
    (hx : p.tables.exec = Jvm.exec) (hb : c.code = cc) (C : Cx EV K D dA q A s m args own) (S : Sta K D dA q A s.heap w H locs) {i : Nat} (hi : K[i]? = some (.inr (.inl (ci, fs)))) (hf : fs[k]? = some none) (hdg : decode cc pc = .ok (.getfield index, 3))
    (kk : W p l e R s m args below meth c H locs cells slots Q (F0 m (pc + 3) ls (.int (w i k) :: rest))) : W p l e R s m args below meth c H locs cells slots Q (F0 m pc ls (.ref (q i) :: rest)) :=
  va_get (ref := ref) hx hb C.2.1 hin C.1 C.2.2.1 S.1 i (wld_at hi) hc k hk (C.2.1 _ hlink) (fun x h => hsame.elim (fun e => by rw [e]; exact h) (fun h2 => u_same (C.2.1 _ h2) x h)) (kfs_at hf) hdg kk
/-- getfield of a reference -/
theorem r_getR {ci k index j : Nat} {fs : List (Option Nat)} {Cn ref : String} {T : u_T} {N : Nat} (hc : vwCl[ci]? = some (Cn, T, N)) (hk : k < N) (hin : ∀ x ∈ u_ws Cn T N, x ∈ wall) (hlink : Cond.fieldLink own index ref (T k).2.1 (T k).2.2.1 ∈ wall) (hsame : ref = (T k).1 ∨ Cond.sameField ref (T k).1 (T k).2.1 (T k).2.2.1 ∈ wall)
    (hx : p.tables.exec = Jvm.exec) (hb : c.code = cc) (C : Cx EV K D dA q A s m args own) (S : Sta K D dA q A s.heap w H locs) {i : Nat} (hi : K[i]? = some (.inr (.inl (ci, fs)))) (hf : fs[k]? = some (some j)) (hdg : decode cc pc = .ok (.getfield index, 3))
    (kk : W p l e R s m args below meth c H locs cells slots Q (F0 m (pc + 3) ls (.ref (q j) :: rest))) : W p l e R s m args below meth c H locs cells slots Q (F0 m pc ls (.ref (q i) :: rest)) :=
  va_get (ref := ref) hx hb C.2.1 hin C.1 C.2.2.1 S.1 i (wld_at hi) hc k hk (C.2.1 _ hlink) (fun x h => hsame.elim (fun e => by rw [e]; exact h) (fun h2 => u_same (C.2.1 _ h2) x h)) (kfs_ref hf) hdg kk
/-- putfield of an int -/
theorem r_put {ci k index : Nat} {fs : List (Option Nat)} {Cn ref : String} {T : u_T} {N : Nat} (hc : vwCl[ci]? = some (Cn, T, N)) (hk : k < N) (hin : ∀ x ∈ u_ws Cn T N, x ∈ wall) (ty0 : Nat → FieldType) (hty : ∀ k, k < N → parseFieldDescriptor (T k).2.2.1 = some (ty0 k)) (hnm : ∀ a, a < N → ∀ b, b < N → a ≠ b → (T a).2.1 ≠ (T b).2.1) (hlink : Cond.fieldLink own index ref (T k).2.1 (T k).2.2.1 ∈ wall) (hsame : ref = (T k).1 ∨ Cond.sameField ref (T k).1 (T k).2.1 (T k).2.2.1 ∈ wall) (hfin : (T k).2.2.2 = false) {ty : FieldType} (hd : parseFieldDescriptor (T k).2.2.1 = some ty)
    (hx : p.tables.exec = Jvm.exec) (hb : c.code = cc) (C : Cx EV K D dA q A s m args own) (S : Sta K D dA q A s.heap w H locs) {i : Nat} (hi : K[i]? = some (.inr (.inl (ci, fs)))) (hf : fs[k]? = some none) {v : Int32} (hn : narrow ty (.int v) = .int v ∧ fits ty (.int v) = true) (hdg : decode cc pc = .ok (.putfield index, 3))
    (kk : ∀ w1 : Wt, w1 = upd2 w i k v → ∀ (H1 : Heap) (locs1 : List Loc), Sta K D dA q A s.heap w1 H1 locs1 → W p l e R s m args below meth c H1 locs1 cells slots Q (F0 m (pc + 3) ls rest)) : W p l e R s m args below meth c H locs cells slots Q (F0 m pc ls (.int v :: .ref (q i) :: rest)) := by
  have hlf : k < fs.length := (List.getElem?_eq_some_iff.mp hf).1
  refine va_put (ref := ref) hx hb C.2.1 hin ty0 hty hnm C.1 C.2.2.1 S.1 (wld_D C.2.2.2.1 C.2.2.2.2.1) S.2 i (wld_at hi) hc k hk (C.2.1 _ hlink) (fun x h => hsame.elim (fun e => by rw [e]; exact h) (fun h2 => u_same (C.2.1 _ h2) x h)) hfin hd hn.1 hn.2 (by unfold kfs; rw [List.length_mapIdx]; exact hlf) hdg (fun H1 locs1 hP _ hS => ?_)
  refine kk _ rfl H1 locs1 ⟨?_, hS⟩
  rw [wld_set hi (show _ = kc dA q (upd (w i) k v) (.inr (.inl (ci, fs))) from by show Sum.inr (ci, (kfs q (w i) fs).set k (.int v)) = _; rw [kfs_set hf]; rfl)] at hP
  exact hP
theorem r_iald {n : Nat} (hx : p.tables.exec = Jvm.exec) (hb : c.code = cc) (C : Cx EV K D dA q A s m args own) (S : Sta K D dA q A s.heap w H locs) {i : Nat} (hi : K[i]? = some (.inl (0, n))) {x : Int32} (hin : vp_in x n) (hdg : decode cc pc = .ok (.iaload, 1))
    (kk : W p l e R s m args below meth c H locs cells slots Q (F0 m (pc + 1) ls (.int (w i x.toNatClampNeg) :: rest))) : W p l e R s m args below meth c H locs cells slots Q (F0 m pc ls (.int x :: .ref (q i) :: rest)) :=
  va_iald hx hb C.2.2.1 S.1 i 0 (wld_at hi) rfl hin hdg kk
theorem r_zald {n : Nat} (hx : p.tables.exec = Jvm.exec) (hb : c.code = cc) (C : Cx EV K D dA q A s m args own) (S : Sta K D dA q A s.heap w H locs) {i : Nat} (hi : K[i]? = some (.inl (1, n))) {x : Int32} (hin : vp_in x n) (hdg : decode cc pc = .ok (.baload, 1))
    (kk : W p l e R s m args below meth c H locs cells slots Q (F0 m (pc + 1) ls (.int (w i x.toNatClampNeg) :: rest))) : W p l e R s m args below meth c H locs cells slots Q (F0 m pc ls (.int x :: .ref (q i) :: rest)) :=
  va_zald hx hb C.2.2.1 S.1 i 1 (wld_at hi) rfl hin hdg kk
theorem r_cald {n : Nat} (hx : p.tables.exec = Jvm.exec) (hb : c.code = cc) (C : Cx EV K D dA q A s m args own) (S : Sta K D dA q A s.heap w H locs) {i : Nat} (hi : K[i]? = some (.inl (2, n))) {x : Int32} (hin : vp_in x n) (hdg : decode cc pc = .ok (.caload, 1))
    (kk : W p l e R s m args below meth c H locs cells slots Q (F0 m (pc + 1) ls (.int (w i x.toNatClampNeg) :: rest))) : W p l e R s m args below meth c H locs cells slots Q (F0 m pc ls (.int x :: .ref (q i) :: rest)) :=
  va_cald hx hb C.2.2.1 S.1 i 2 (wld_at hi) rfl hin hdg kk
theorem r_aald {n b t : Nat} {Cn : String} (ht : (tysW dA)[t]? = some (dA t, .object Cn)) (hx : p.tables.exec = Jvm.exec) (hb : c.code = cc) (C : Cx EV K D dA q A s m args own) (S : Sta K D dA q A s.heap w H locs) {i : Nat} (hi : K[i]? = some (.inr (.inr (t, n, b)))) {x : Int32} (hin : vp_in x n) (hdg : decode cc pc = .ok (.aaload, 1))
    (kk : W p l e R s m args below meth c H locs cells slots Q (F0 m (pc + 1) ls (.ref (q (b + x.toNatClampNeg)) :: rest))) : W p l e R s m args below meth c H locs cells slots Q (F0 m pc ls (.int x :: .ref (q i) :: rest)) :=
  va_aldq hx hb C.2.2.1 S.1 i t (wld_at hi) ht hin hdg kk
theorem r_iast {n : Nat} (hx : p.tables.exec = Jvm.exec) (hb : c.code = cc) (C : Cx EV K D dA q A s m args own) (S : Sta K D dA q A s.heap w H locs) {i : Nat} (hi : K[i]? = some (.inl (0, n))) {x v : Int32} (hin : vp_in x n) (hdg : decode cc pc = .ok (.iastore, 1))
    (kk : ∀ w1 : Wt, w1 = upd2 w i x.toNatClampNeg v → ∀ (H1 : Heap) (locs1 : List Loc), Sta K D dA q A s.heap w1 H1 locs1 → W p l e R s m args below meth c H1 locs1 cells slots Q (F0 m (pc + 1) ls rest)) : W p l e R s m args below meth c H locs cells slots Q (F0 m pc ls (.int v :: .int x :: .ref (q i) :: rest)) := by
  refine va_iast hx hb C.2.2.1 S.1 (wld_D C.2.2.2.1 C.2.2.2.2.1) S.2 i 0 (wld_at hi) rfl hin hdg (fun H1 locs1 hP _ hS => ?_)
  have e9 := wld_set (dA := dA) (q := q) (w := w) (k := x.toNatClampNeg) (v := v) (y := .inl (dA 0, n, .inl (upd (w i) x.toNatClampNeg v))) hi rfl
  exact kk _ rfl H1 locs1 ⟨by rw [← e9]; exact hP, hS⟩
theorem r_zast {n : Nat} (hx : p.tables.exec = Jvm.exec) (hb : c.code = cc) (C : Cx EV K D dA q A s m args own) (S : Sta K D dA q A s.heap w H locs) {i : Nat} (hi : K[i]? = some (.inl (1, n))) {x v : Int32} (hin : vp_in x n) (hdg : decode cc pc = .ok (.bastore, 1))
    (kk : ∀ w1 : Wt, w1 = upd2 w i x.toNatClampNeg (vp_nar .boolean v) → ∀ (H1 : Heap) (locs1 : List Loc), Sta K D dA q A s.heap w1 H1 locs1 → W p l e R s m args below meth c H1 locs1 cells slots Q (F0 m (pc + 1) ls rest)) : W p l e R s m args below meth c H locs cells slots Q (F0 m pc ls (.int v :: .int x :: .ref (q i) :: rest)) := by
  refine va_zast hx hb C.2.2.1 S.1 (wld_D C.2.2.2.1 C.2.2.2.2.1) S.2 i 1 (wld_at hi) rfl hin hdg (fun H1 locs1 hP _ hS => ?_)
  have e9 := wld_set (dA := dA) (q := q) (w := w) (k := x.toNatClampNeg) (v := (vp_nar .boolean v)) (y := .inl (dA 1, n, .inl (upd (w i) x.toNatClampNeg (vp_nar .boolean v)))) hi rfl
  exact kk _ rfl H1 locs1 ⟨by rw [← e9]; exact hP, hS⟩
theorem r_cast {n : Nat} (hx : p.tables.exec = Jvm.exec) (hb : c.code = cc) (C : Cx EV K D dA q A s m args own) (S : Sta K D dA q A s.heap w H locs) {i : Nat} (hi : K[i]? = some (.inl (2, n))) {x v : Int32} (hin : vp_in x n) (hdg : decode cc pc = .ok (.castore, 1))
    (kk : ∀ w1 : Wt, w1 = upd2 w i x.toNatClampNeg (vp_nar .char v) → ∀ (H1 : Heap) (locs1 : List Loc), Sta K D dA q A s.heap w1 H1 locs1 → W p l e R s m args below meth c H1 locs1 cells slots Q (F0 m (pc + 1) ls rest)) : W p l e R s m args below meth c H locs cells slots Q (F0 m pc ls (.int v :: .int x :: .ref (q i) :: rest)) := by
  refine va_cast hx hb C.2.2.1 S.1 (wld_D C.2.2.2.1 C.2.2.2.2.1) S.2 i 2 (wld_at hi) rfl hin hdg (fun H1 locs1 hP _ hS => ?_)
  have e9 := wld_set (dA := dA) (q := q) (w := w) (k := x.toNatClampNeg) (v := (vp_nar .char v)) (y := .inl (dA 2, n, .inl (upd (w i) x.toNatClampNeg (vp_nar .char v)))) hi rfl
  exact kk _ rfl H1 locs1 ⟨by rw [← e9]; exact hP, hS⟩
end CORE
end
section
/-! CALLS: contracts over the world as functions, and the rows that use them -/
def exn (k : Nat) : String := if k = 0 then "java/lang/IndexOutOfBoundsException" else if k = 1 then "java/lang/IllegalArgumentException" else "java/lang/IllegalStateException"
/-- answers r, leaves the world w' -/
def Mi (l : Launch) (EV : Ev) (K : List Kd) (D : va_G) (dA : Nat → ClassId) (q : Nat → Nat) (y : MethodName) (b : ByteArray) (n : Nat) (ret : Option FieldType) (rm : Room) (av : List Value) (w : Wt) (r : Int32) (w' : Wt) : Prop :=
  ∀ sz : Nat, Met l y (.code y b n ret :: wall) rm (va_Pc av (Pr EV K D dA q sz w)) (va_Qi (fun (r' : Int32) (_ : Unit) => r' = r) (fun _ t => va_P D vwCl (wld K dA q w') t.heap) (Aq K q sz)) 0 0 (Aq K q sz)
def Mv (l : Launch) (EV : Ev) (K : List Kd) (D : va_G) (dA : Nat → ClassId) (q : Nat → Nat) (y : MethodName) (b : ByteArray) (n : Nat) (ret : Option FieldType) (rm : Room) (av : List Value) (w : Wt) (w' : Wt) : Prop :=
  ∀ sz : Nat, Met l y (.code y b n ret :: wall) rm (va_Pc av (Pr EV K D dA q sz w)) (va_Qv (fun (_ : Unit) => True) (fun _ t => va_P D vwCl (wld K dA q w') t.heap) (Aq K q sz)) 0 0 (Aq K q sz)
def Mr (l : Launch) (EV : Ev) (K : List Kd) (D : va_G) (dA : Nat → ClassId) (q : Nat → Nat) (y : MethodName) (b : ByteArray) (n : Nat) (ret : Option FieldType) (rm : Room) (av : List Value) (w : Wt) (j : Nat) (w' : Wt) : Prop :=
  ∀ sz : Nat, Met l y (.code y b n ret :: wall) rm (va_Pc av (Pr EV K D dA q sz w)) (va_Qr (fun (_ : Unit) => True) (fun _ a t => a = q j ∧ va_P D vwCl (wld K dA q w') t.heap) (Aq K q sz)) 0 0 (Aq K q sz)
/-- answers (inr r) or throws (inl k: the exception exn k) -/
def xQ (K : List Kd) (D : va_G) (dA : Nat → ClassId) (q : Nat → Nat) (res : Nat ⊕ Int32) (w' : Wt) (sz : Nat) : String → State → State → Prop :=
  vx_X (fun (_ : Unit) => True) (fun E _ t => (∃ k, res = .inl k ∧ E = exn k) ∧ va_P D vwCl (wld K dA q w') t.heap) (Aq K q sz)
def Xi (l : Launch) (EV : Ev) (K : List Kd) (D : va_G) (dA : Nat → ClassId) (q : Nat → Nat) (y : MethodName) (b : ByteArray) (n : Nat) (ret : Option FieldType) (rm : Room) (mc ms : Nat) (av : List Value) (w : Wt) (res : Nat ⊕ Int32) (w' : Wt) : Prop :=
  ∀ sz : Nat, vx_Met l y (.code y b n ret :: wall) rm (va_Pc av (Pr EV K D dA q sz w)) (va_Qi (fun (r' : Int32) (_ : Unit) => res = .inr r') (fun _ t => va_P D vwCl (wld K dA q w') t.heap) (Aq K q sz)) (xQ K D dA q res w' sz) mc ms (Aq K q sz)
def Xv (l : Launch) (EV : Ev) (K : List Kd) (D : va_G) (dA : Nat → ClassId) (q : Nat → Nat) (y : MethodName) (b : ByteArray) (n : Nat) (ret : Option FieldType) (rm : Room) (mc ms : Nat) (av : List Value) (w : Wt) (res : Nat ⊕ Int32) (w' : Wt) : Prop :=
  ∀ sz : Nat, vx_Met l y (.code y b n ret :: wall) rm (va_Pc av (Pr EV K D dA q sz w)) (va_Qv (fun (_ : Unit) => ∃ r, res = .inr r) (fun _ t => va_P D vwCl (wld K dA q w') t.heap) (Aq K q sz)) (xQ K D dA q res w' sz) mc ms (Aq K q sz)
abbrev plainM (y : MethodName) : Prop := y.cls ≠ "java/lang/invoke/MethodHandle" ∧ y.cls ≠ "java/lang/invoke/VarHandle"
abbrev nArgs (y : MethodName) (na : Nat) : Prop := (parseMethodDescriptor y.desc).map (fun d => d.parameters.length) = some na
/-- the words of a call: own method, named in its class -/
def lkV (own : String) (index : Nat) (Cn : String) (y : MethodName) (b : ByteArray) (n : Nat) (ret : Option FieldType) (na : Nat) : Prop :=
  Cond.methodLink own index y ∈ wall ∧ Cond.instanceMethod y ∈ wall ∧ Cond.selects Cn y y ∈ wall ∧ Cond.initialized y.cls ∈ wall ∧ Cond.code y b n ret ∈ wall ∧ plainM y ∧ nArgs y na
def lkS (own : String) (index : Nat) (y : MethodName) (b : ByteArray) (n : Nat) (ret : Option FieldType) (na : Nat) : Prop :=
  Cond.methodLink own index y ∈ wall ∧ Cond.static y ∈ wall ∧ Cond.initialized y.cls ∈ wall ∧ Cond.code y b n ret ∈ wall ∧ plainM y ∧ nArgs y na
/-- a nest mate's private static method -/
def lkN (own : String) (index : Nat) (host : String) (y : MethodName) (b : ByteArray) (n : Nat) (ret : Option FieldType) (na : Nat) : Prop :=
  Cond.methodLinkNest own index y host = Cond.methodLinkNest own index y host ∧ Cond.static y ∈ wall ∧ Cond.initialized y.cls ∈ wall ∧ Cond.code y b n ret ∈ wall ∧ plainM y ∧ nArgs y na
/-- inherited or overriding: x as the call names it, owner where it is declared, y what runs for a receiver of class Cn -/
def lkU (own : String) (index : Nat) (Cn owner : String) (x y : MethodName) (b : ByteArray) (n : Nat) (ret : Option FieldType) (na : Nat) : Prop :=
  Cond.methodLink own index x ∈ wall ∧ Cond.sameMethod x.cls owner x.name x.desc ∈ wall ∧ Cond.instanceMethod y ∈ wall ∧ Cond.initialized y.cls ∈ wall ∧ Cond.code y b n ret ∈ wall ∧ plainM ⟨owner, x.name, x.desc⟩ ∧ nArgs x na
section CALLS
variable {p : Program} {l : Launch} {e : Env} {R : Room} {s : State} {m : MethodId} {args : Array Value} {below : List Frame} {meth : Method} {c : Code} {H : Heap} {locs : List Loc} {cells slots : Nat} {Q : State → Prop}
variable {EV : Ev} {K : List Kd} {D : va_G} {dA : Nat → ClassId} {q : Nat → Nat} {A : Nat → Prop} {own : String} {w : Wt}
variable {cc : ByteArray} {pc nL : Nat} {ls : Array Slot} {rest st : List Value}
variable {index : Nat} {y : MethodName} {b : ByteArray} {n : Nat} {ret : Option FieldType} {na : Nat} {rm : Room} {As : List Value} {mc ms : Nat}
theorem r_cb (C : Cx EV K D dA q A s m args own) {yl : MethodName} (h4 : Cond.initialized y.cls ∈ wall) (h5 : Cond.code y b n ret ∈ wall) (hrc : rm.cells = mc) (hrs : rm.slots = ms) (hR : rm.frames + 1 ≤ R.frames ∧ 8 + (n + 11) + rm.locals ≤ R.locals) :
    rm.cells = mc ∧ rm.slots = ms ∧ rm.frames + 1 ≤ R.frames ∧ 8 + (n + 11) + rm.locals ≤ R.locals ∧ (∀ x ∈ (Cond.code y b n ret :: wall), ∀ (a' : Array Value) (U : State), s.WarmedH U.vm → x.before a' U = true) ∧ Cond.code y b n ret ∈ (Cond.code y b n ret :: wall) :=
  ⟨hrc, hrs, hR.1, hR.2, pay_in C.2.1 (wall_good (fun _ h => h) h5), List.mem_cons_self⟩
theorem r_len (h : nArgs y na) : ∀ sig, parseMethodDescriptor y.desc = some sig → na = sig.parameters.length := fun sig h1 => by
  unfold nArgs at h
  rw [h1] at h
  exact (Option.some.inj h).symm
theorem q_V {Cn : String} {Qc : Array Value → State → Outcome → State → Prop} (link : lkV own index Cn y b n ret na) (ev : evOk EV) (hx : p.tables.exec = Jvm.exec) (hb : c.code = cc) (hml : c.maxLocals = nL) (C : Cx EV K D dA q A s m args own) (S : Sta K D dA q A s.heap w H locs) {i ci N : Nat} {fs : List (Option Nat)} {T : u_T} (hi : K[i]? = some (.inr (.inl (ci, fs)))) (hc : vwCl[ci]? = some (Cn, T, N))
    (hM : Met l y (.code y b n ret :: wall) rm (va_Pc (.ref (q i) :: As) (Pr EV K D dA q H.size w)) Qc mc ms (Aq K q H.size)) (hrc : rm.cells = mc) (hrs : rm.slots = ms) (hR : rm.frames + 1 ≤ R.frames ∧ 8 + (n + 11) + rm.locals ≤ R.locals) (hn : As.length = na) (hsz : ls.size = nL) (hst : st = As.reverse ++ .ref (q i) :: rest) (hW : (rest.map fun v => v.category).sum ≤ 8) (hdg : decode cc pc = .ok (.invokevirtual index, 3)) (hf : cells + mc ≤ R.cells ∧ slots + ms ≤ R.slots) :
    va_Run p l e R s m args below meth c H locs cells slots mc ms (F0 m pc ls st) rest (Qc (Value.ref (q i) :: As).toArray) (Aq K q H.size) := by
  obtain ⟨h1, h2, h3, h4, h5, h6, h7⟩ := link
  obtain ⟨g1, g2, g3, g4, g5, g6⟩ := r_cb (R := R) C (yl := y) h4 h5 hrc hrs hR
  refine va_runV (Ts := wall) ⟨hx, hb, hml, C.1, C.2.1⟩ hM ⟨⟨g1, g2, g3, g4, g5, g6, C.2.1 _ h5, C.2.1 _ h4, h6, r_len h7, C.2.1 _ h1⟩, C.2.1 _ h2, C.2.1 _ h3⟩ ⟨Pr.blind ev, va_recv C.2.2.1 S.1 hc (wld_at hi), fun U hU hW => Cx.pre ev C S hU hW⟩ rfl hn hsz hst (lv_room hW) hdg hf
theorem q_S {Qc : Array Value → State → Outcome → State → Prop} (link : lkS own index y b n ret na) (ev : evOk EV) (hx : p.tables.exec = Jvm.exec) (hb : c.code = cc) (hml : c.maxLocals = nL) (C : Cx EV K D dA q A s m args own) (S : Sta K D dA q A s.heap w H locs)
    (hM : Met l y (.code y b n ret :: wall) rm (va_Pc As (Pr EV K D dA q H.size w)) Qc mc ms (Aq K q H.size)) (hrc : rm.cells = mc) (hrs : rm.slots = ms) (hR : rm.frames + 1 ≤ R.frames ∧ 8 + (n + 11) + rm.locals ≤ R.locals) (hn : As.length = na) (hsz : ls.size = nL) (hst : st = As.reverse ++ rest) (hW : (rest.map fun v => v.category).sum ≤ 8) (hdg : decode cc pc = .ok (.invokestatic index, 3)) (hf : cells + mc ≤ R.cells ∧ slots + ms ≤ R.slots) :
    va_Run p l e R s m args below meth c H locs cells slots mc ms (F0 m pc ls st) rest (Qc As.toArray) (Aq K q H.size) := by
  obtain ⟨h1, h2, h4, h5, h6, h7⟩ := link
  obtain ⟨g1, g2, g3, g4, g5, g6⟩ := r_cb (R := R) C (yl := y) h4 h5 hrc hrs hR
  refine va_runS (Ts := wall) ⟨hx, hb, hml, C.1, C.2.1⟩ hM ⟨⟨g1, g2, g3, g4, g5, g6, C.2.1 _ h5, C.2.1 _ h4, h6, r_len h7, C.2.1 _ h1⟩, C.2.1 _ h2⟩ ⟨Pr.blind ev, fun U hU hW => Cx.pre ev C S hU hW⟩ rfl hn hsz hst (lv_room hW) hdg hf
theorem q_N {host : String} {Qc : Array Value → State → Outcome → State → Prop} (link : lkN own index host y b n ret na) (hnest : va_Nw (.methodLinkNest own index y host) s) (ev : evOk EV) (hx : p.tables.exec = Jvm.exec) (hb : c.code = cc) (hml : c.maxLocals = nL) (C : Cx EV K D dA q A s m args own) (S : Sta K D dA q A s.heap w H locs)
    (hM : Met l y (.code y b n ret :: wall) rm (va_Pc As (Pr EV K D dA q H.size w)) Qc mc ms (Aq K q H.size)) (hrc : rm.cells = mc) (hrs : rm.slots = ms) (hR : rm.frames + 1 ≤ R.frames ∧ 8 + (n + 11) + rm.locals ≤ R.locals) (hn : As.length = na) (hsz : ls.size = nL) (hst : st = As.reverse ++ rest) (hW : (rest.map fun v => v.category).sum ≤ 8) (hdg : decode cc pc = .ok (.invokestatic index, 3)) (hf : cells + mc ≤ R.cells ∧ slots + ms ≤ R.slots) :
    va_Run p l e R s m args below meth c H locs cells slots mc ms (F0 m pc ls st) rest (Qc As.toArray) (Aq K q H.size) := by
  obtain ⟨h1, h2, h4, h5, h6, h7⟩ := link
  have g := r_cb (R := R) C (yl := y) h4 h5 hrc hrs hR
  refine va_runSN (Ts := wall) (host := host) ⟨hx, hb, hml, C.1, C.2.1⟩ hM ⟨⟨g, C.2.1 _ h5, C.2.1 _ h4, h6, r_len h7, va_Nw.use rfl hnest⟩, C.2.1 _ h2, trivial⟩ ⟨Pr.blind ev, fun U hU hW => Cx.pre ev C S hU hW⟩ rfl hn hsz hst (lv_room hW) hdg hf
theorem q_U {Cn owner : String} {x : MethodName} {Qc : Array Value → State → Outcome → State → Prop} (link : lkU own index Cn owner x y b n ret na) (hdec : va_Decl s ⟨owner, x.name, x.desc⟩) (hsel : (Cond.selects Cn x y).before args s = true) (ev : evOk EV) (hx : p.tables.exec = Jvm.exec) (hb : c.code = cc) (hml : c.maxLocals = nL) (C : Cx EV K D dA q A s m args own) (S : Sta K D dA q A s.heap w H locs) {i ci N : Nat} {fs : List (Option Nat)} {T : u_T} (hi : K[i]? = some (.inr (.inl (ci, fs)))) (hc : vwCl[ci]? = some (Cn, T, N))
    (hM : Met l y (.code y b n ret :: wall) rm (va_Pc (.ref (q i) :: As) (Pr EV K D dA q H.size w)) Qc mc ms (Aq K q H.size)) (hrc : rm.cells = mc) (hrs : rm.slots = ms) (hR : rm.frames + 1 ≤ R.frames ∧ 8 + (n + 11) + rm.locals ≤ R.locals) (hn : As.length = na) (hsz : ls.size = nL) (hst : st = As.reverse ++ .ref (q i) :: rest) (hW : (rest.map fun v => v.category).sum ≤ 8) (hdg : decode cc pc = .ok (.invokevirtual index, 3)) (hf : cells + mc ≤ R.cells ∧ slots + ms ≤ R.slots) :
    va_Run p l e R s m args below meth c H locs cells slots mc ms (F0 m pc ls st) rest (Qc (Value.ref (q i) :: As).toArray) (Aq K q H.size) := by
  obtain ⟨h1, h2, h3, h4, h5, h6, h7⟩ := link
  have g := r_cb (R := R) C (yl := y) h4 h5 hrc hrs hR
  refine va_runU (Ts := wall) (owner := owner) (x := x) ⟨hx, hb, hml, C.1, C.2.1⟩ hM ⟨g, C.2.1 _ h5, C.2.1 _ h4, h6, r_len (y := x) h7, C.2.1 _ h1, C.2.1 _ h2, hdec, hsel, C.2.1 _ h3⟩ ⟨Pr.blind ev, va_recv C.2.2.1 S.1 hc (wld_at hi), fun U hU hW => Cx.pre ev C S hU hW⟩ rfl hn hsz hst (lv_room hW) hdg hf
theorem q_sta {H1 : Heap} {locs1 : List Loc} {w' : Wt} {t : State} (ht : t.heap = H1) (h : va_P D vwCl (wld K dA q w') t.heap) (hS : va_S A s.heap H1 locs1) : Sta K D dA q A s.heap w' H1 locs1 := ⟨by rw [← ht]; exact h, hS⟩
theorem k_i {r : Int32} {w' : Wt} {a : Array Value} (C : Cx EV K D dA q A s m args own) (S : Sta K D dA q A s.heap w H locs) (hr : va_Run p l e R s m args below meth c H locs cells slots 0 0 (F0 m pc ls st) rest (va_Qi (fun (r' : Int32) (_ : Unit) => r' = r) (fun _ t => va_P D vwCl (wld K dA q w') t.heap) (Aq K q H.size) a) (Aq K q H.size))
    (kk : ∀ (H1 : Heap) (locs1 : List Loc), Sta K D dA q A s.heap w' H1 locs1 → W p l e R s m args below meth c H1 locs1 cells slots Q (F0 m (pc + 3) ls (.int r :: rest))) : W p l e R s m args below meth c H locs cells slots Q (F0 m pc ls st) :=
  va_calli hr S.2 (fun x _ h => C.sub S x h) (C.sub S) (fun r' _ t H1 locs1 ht _ hr' hP _ _ hS => by subst hr'; exact kk H1 locs1 (q_sta ht hP hS))
theorem k_v {w' : Wt} {a : Array Value} (C : Cx EV K D dA q A s m args own) (S : Sta K D dA q A s.heap w H locs) (hr : va_Run p l e R s m args below meth c H locs cells slots 0 0 (F0 m pc ls st) rest (va_Qv (fun (_ : Unit) => True) (fun _ t => va_P D vwCl (wld K dA q w') t.heap) (Aq K q H.size) a) (Aq K q H.size))
    (kk : ∀ (H1 : Heap) (locs1 : List Loc), Sta K D dA q A s.heap w' H1 locs1 → W p l e R s m args below meth c H1 locs1 cells slots Q (F0 m (pc + 3) ls rest)) : W p l e R s m args below meth c H locs cells slots Q (F0 m pc ls st) :=
  va_callv hr S.2 (fun x _ h => C.sub S x h) (C.sub S) (fun _ t H1 locs1 ht _ _ hP _ _ hS => kk H1 locs1 (q_sta ht hP hS))
theorem k_r {w' : Wt} {j : Nat} {a : Array Value} (C : Cx EV K D dA q A s m args own) (S : Sta K D dA q A s.heap w H locs) (hr : va_Run p l e R s m args below meth c H locs cells slots 0 0 (F0 m pc ls st) rest (va_Qr (fun (_ : Unit) => True) (fun _ x t => x = q j ∧ va_P D vwCl (wld K dA q w') t.heap) (Aq K q H.size) a) (Aq K q H.size))
    (kk : ∀ (H1 : Heap) (locs1 : List Loc), Sta K D dA q A s.heap w' H1 locs1 → W p l e R s m args below meth c H1 locs1 cells slots Q (F0 m (pc + 3) ls (.ref (q j) :: rest))) : W p l e R s m args below meth c H locs cells slots Q (F0 m pc ls st) := by
  refine va_callr hr S.2 (fun x _ h => C.sub S x h) (C.sub S) (fun u a2 t H1 locs1 ht ha hp hP h1 h2 hS => ?_)
  obtain ⟨rfl, hP⟩ := hP
  exact kk H1 locs1 (q_sta ht hP hS)
/-- the ends -/
theorem e_i {r r' : Int32} {w' w2 : Wt} {o : Option (Int32 × Wt)} (hx : p.tables.exec = Jvm.exec) (hb : c.code = cc) (hr : meth.sig.returnType = some .int) (hlocks : meth.locks = false) (C : Cx EV K D dA q (Aq K q s.heap.size) s m args own) (S : Sta K D dA q (Aq K q s.heap.size) s.heap w2 H locs) (h : some (r', w2) = some (r, w')) (hdg : decode cc pc = .ok (.ireturn, 1)) :
    W p l e R s m args below meth c H locs cells slots (MQ below (va_Qi (fun (r' : Int32) (_ : Unit) => r' = r) (fun _ t => va_P D vwCl (wld K dA q w') t.heap) (Aq K q s.heap.size)) args s cells slots (Aq K q s.heap.size)) (F0 m pc ls [.int r']) := by
  obtain ⟨rfl, rfl⟩ := Prod.mk.inj (Option.some.inj h)
  exact W.iret (v := r') hx hb hr (fun t ht hW => ⟨⟨r', (), rfl, rfl, by show va_P _ _ _ t.heap; rw [ht]; exact S.1⟩, S.2.F ht⟩) S.2.2.2 hdg hlocks
theorem e_z {r r' : Int32} {w' w2 : Wt} {ty : FieldType} (hx : p.tables.exec = Jvm.exec) (hb : c.code = cc) (hr : meth.sig.returnType = some ty) (hlocks : meth.locks = false) (C : Cx EV K D dA q (Aq K q s.heap.size) s m args own) (S : Sta K D dA q (Aq K q s.heap.size) s.heap w2 H locs) (hn : narrow ty (.int r') = .int r') (h : some (r', w2) = some (r, w')) (hdg : decode cc pc = .ok (.ireturn, 1)) :
    W p l e R s m args below meth c H locs cells slots (MQ below (va_Qi (fun (r' : Int32) (_ : Unit) => r' = r) (fun _ t => va_P D vwCl (wld K dA q w') t.heap) (Aq K q s.heap.size)) args s cells slots (Aq K q s.heap.size)) (F0 m pc ls [.int r']) := by
  obtain ⟨rfl, rfl⟩ := Prod.mk.inj (Option.some.inj h)
  exact W.zret (v := r') hx hb hr hn (fun t ht hW => ⟨⟨r', (), rfl, rfl, by show va_P _ _ _ t.heap; rw [ht]; exact S.1⟩, S.2.F ht⟩) S.2.2.2 hdg hlocks
theorem e_v {r r' : Int32} {w' w2 : Wt} (hx : p.tables.exec = Jvm.exec) (hb : c.code = cc) (hr : meth.sig.returnType = none) (hlocks : meth.locks = false) (C : Cx EV K D dA q (Aq K q s.heap.size) s m args own) (S : Sta K D dA q (Aq K q s.heap.size) s.heap w2 H locs) (h : some (r', w2) = some (r, w')) (hdg : decode cc pc = .ok (.return_, 1)) :
    W p l e R s m args below meth c H locs cells slots (MQ below (va_Qv (fun (_ : Unit) => True) (fun _ t => va_P D vwCl (wld K dA q w') t.heap) (Aq K q s.heap.size)) args s cells slots (Aq K q s.heap.size)) (F0 m pc ls []) := by
  obtain ⟨rfl, rfl⟩ := Prod.mk.inj (Option.some.inj h)
  exact W.vret hx hb hr (fun t ht hW => ⟨⟨(), rfl, trivial, by show va_P _ _ _ t.heap; rw [ht]; exact S.1⟩, S.2.F ht⟩) S.2.2.2 hdg hlocks
theorem e_r {r r' : Int32} {j : Nat} {w' w2 : Wt} {rt : FieldType} (hx : p.tables.exec = Jvm.exec) (hb : c.code = cc) (hr : meth.sig.returnType = some rt) (hrt : (∃ n, rt = .object n) ∨ ∃ t, rt = .array t) (hlocks : meth.locks = false) (C : Cx EV K D dA q (Aq K q s.heap.size) s m args own) (S : Sta K D dA q (Aq K q s.heap.size) s.heap w2 H locs) (h : some (r', w2) = some (r, w')) (hdg : decode cc pc = .ok (.areturn, 1)) :
    W p l e R s m args below meth c H locs cells slots (MQ below (va_Qr (fun (_ : Unit) => True) (fun _ a t => a = q j ∧ va_P D vwCl (wld K dA q w') t.heap) (Aq K q s.heap.size)) args s cells slots (Aq K q s.heap.size)) (F0 m pc ls [.ref (q j)]) := by
  obtain ⟨rfl, rfl⟩ := Prod.mk.inj (Option.some.inj h)
  exact W.aret (v := .ref (q j)) hx hb hr hrt (Or.inr ⟨_, rfl⟩) (fun t ht hW => ⟨⟨(), q j, rfl, trivial, rfl, by show va_P _ _ _ t.heap; rw [ht]; exact S.1⟩, S.2.F ht⟩) S.2.2.2 hdg hlocks
end CALLS
/-! the models: partial functions over the world; none where the machine itself would throw, or a loop has no fuel left -/
def gd {α : Type} (b : Bool) (o : Option α) : Option α := if b = true then o else none
def inb (x : Int32) (n : Nat) : Bool := decide (0 ≤ x.toInt ∧ x.toInt < (n : Int))
def nmd {α β : Type} (a : α) (f : α → Option β) : Option β := f a
def lp {σ ρ : Type} (b : σ → Option (σ ⊕ ρ)) : Nat → σ → Option ρ
  | 0, _ => none
  | n + 1, s => (b s).bind (fun x => match x with | .inl s' => lp b n s' | .inr r => some r)
def seqF {σ ρ β : Type} (a : σ → Option β) (b : ρ → Option β) (x : σ ⊕ ρ) : Option β := match x with
  | .inl s => a s
  | .inr r => b r
def FU : Nat := 100000
theorem h_gd {α β : Type} {b : Bool} {o : Option α} {F : α → Option β} {z : β} (h : Option.bind (gd b o) F = some z) : b = true ∧ Option.bind o F = some z := by
  unfold gd at h
  by_cases hb : b = true
  · rw [if_pos hb] at h; exact ⟨hb, h⟩
  · rw [if_neg hb] at h; cases h
theorem h_in {x : Int32} {n : Nat} (h : inb x n = true) : vp_in x n := vp_in_iff.mpr (of_decide_eq_true h)
theorem h_t {α β : Type} {c : Prop} [Decidable c] {a b : Option α} {F : α → Option β} {z : β} (hc : c) (h : Option.bind (if c then a else b) F = some z) : Option.bind a F = some z := by rw [if_pos hc] at h; exact h
theorem h_f {α β : Type} {c : Prop} [Decidable c] {a b : Option α} {F : α → Option β} {z : β} (hc : ¬ c) (h : Option.bind (if c then a else b) F = some z) : Option.bind b F = some z := by rw [if_neg hc] at h; exact h
theorem h_c {α β γ : Type} {a : Option γ} {f : γ → Option α} {F : α → Option β} {z : β} (h : Option.bind (Option.bind a f) F = some z) : ∃ x, a = some x ∧ Option.bind (f x) F = some z := by
  cases a with
  | none => cases h
  | some x => exact ⟨x, rfl, h⟩
theorem h_l {α β γ : Type} {a : γ} {f : γ → Option α} {F : α → Option β} {z : β} (h : Option.bind (nmd a f) F = some z) (x : γ) (e : x = a) : Option.bind (f x) F = some z := by subst e; exact h
/-- a loop: what is behind it gets its answer -/
theorem h_lp {σ ρ β : Type} {b : σ → Option (σ ⊕ ρ)} {n : Nat} {s : σ} {F : ρ → Option β} {z : β} (h : Option.bind (lp b (n + 1) s) F = some z) : Option.bind (b s) (seqF (fun s' => Option.bind (lp b n s') F) F) = some z := by
  unfold lp at h
  cases hb : b s with
  | none => rw [hb] at h; cases h
  | some x =>
    rw [hb] at h
    cases x with
    | inl s' => exact h
    | inr r => exact h
theorem h_lp0 {σ ρ β : Type} {b : σ → Option (σ ⊕ ρ)} {s : σ} {F : ρ → Option β} {z : β} (h : Option.bind (lp b 0 s) F = some z) : False := by cases h
theorem h_0 {α : Type} {a : Option α} {z : α} (h : a = some z) : Option.bind a some = some z := by rw [h]; rfl
end
section
/-! WORLDS: the cells of a Ballotscript, those of the reference; what the methods take of the heap beside their world -/
/-- the cells of a Ballotscript -/
def KC : List Kd := [.inr (.inl (8, [some 1, some 7, some 9, some 10, some 11, some 13, some 22, some 28, none, none, none])), .inr (.inl (3, [some 2, some 3, some 4, some 5, some 6, none])), .inl (0, 60), .inl (0, 60), .inl (0, 60), .inl (0, 60), .inl (1, 60), .inr (.inl (6, [some 8, none])), .inl (2, 24), .inr (.inr (3, 8, 32)), .inr (.inr (4, 8, 64)), .inr (.inl (5, [some 12, none])), .inl (0, 6), .inr (.inl (0, [some 1, some 14, some 15, some 16, some 17, some 18, some 19, some 20, none, some 21, none])), .inl (0, 100), .inl (0, 100), .inl (0, 100), .inl (0, 100), .inl (0, 100), .inl (0, 600), .inl (1, 100), .inl (0, 100), .inr (.inl (2, [some 13, some 23, none, none, none, none, none, none, some 24, some 25, some 26, some 27])), .inl (0, 6), .inl (0, 936), .inl (0, 156), .inl (0, 156), .inl (0, 24), .inr (.inl (1, [some 13, some 29, none, none, none, none, none, none, some 30, some 31])), .inl (0, 6), .inl (2, 156), .inl (0, 156), .inr (.inl (4, [some 40, some 48, some 56, none, none, none])), .inr (.inl (4, [some 41, some 49, some 57, none, none, none])), .inr (.inl (4, [some 42, some 50, some 58, none, none, none])), .inr (.inl (4, [some 43, some 51, some 59, none, none, none])), .inr (.inl (4, [some 44, some 52, some 60, none, none, none])), .inr (.inl (4, [some 45, some 53, some 61, none, none, none])), .inr (.inl (4, [some 46, some 54, some 62, none, none, none])), .inr (.inl (4, [some 47, some 55, some 63, none, none, none])), .inl (2, 24), .inl (2, 24), .inl (2, 24), .inl (2, 24), .inl (2, 24), .inl (2, 24), .inl (2, 24), .inl (2, 24), .inl (2, 24), .inl (2, 24), .inl (2, 24), .inl (2, 24), .inl (2, 24), .inl (2, 24), .inl (2, 24), .inl (2, 24), .inl (0, 24), .inl (0, 24), .inl (0, 24), .inl (0, 24), .inl (0, 24), .inl (0, 24), .inl (0, 24), .inl (0, 24), .inr (.inl (7, [none, none, none, none, none, none, none, none, none])), .inr (.inl (7, [none, none, none, none, none, none, none, none, none])), .inr (.inl (7, [none, none, none, none, none, none, none, none, none])), .inr (.inl (7, [none, none, none, none, none, none, none, none, none])), .inr (.inl (7, [none, none, none, none, none, none, none, none, none])), .inr (.inl (7, [none, none, none, none, none, none, none, none, none])), .inr (.inl (7, [none, none, none, none, none, none, none, none, none])), .inr (.inl (7, [none, none, none, none, none, none, none, none, none]))]
theorem KC_len : KC.length = 72 := rfl
theorem KC_0 : KC[0]? = some (.inr (.inl (8, [some 1, some 7, some 9, some 10, some 11, some 13, some 22, some 28, none, none, none]))) := rfl
theorem KC_1 : KC[1]? = some (.inr (.inl (3, [some 2, some 3, some 4, some 5, some 6, none]))) := rfl
theorem KC_2 : KC[2]? = some (.inl (0, 60)) := rfl
theorem KC_3 : KC[3]? = some (.inl (0, 60)) := rfl
theorem KC_4 : KC[4]? = some (.inl (0, 60)) := rfl
theorem KC_5 : KC[5]? = some (.inl (0, 60)) := rfl
theorem KC_6 : KC[6]? = some (.inl (1, 60)) := rfl
theorem KC_7 : KC[7]? = some (.inr (.inl (6, [some 8, none]))) := rfl
theorem KC_8 : KC[8]? = some (.inl (2, 24)) := rfl
theorem KC_9 : KC[9]? = some (.inr (.inr (3, 8, 32))) := rfl
theorem KC_10 : KC[10]? = some (.inr (.inr (4, 8, 64))) := rfl
theorem KC_11 : KC[11]? = some (.inr (.inl (5, [some 12, none]))) := rfl
theorem KC_12 : KC[12]? = some (.inl (0, 6)) := rfl
theorem KC_13 : KC[13]? = some (.inr (.inl (0, [some 1, some 14, some 15, some 16, some 17, some 18, some 19, some 20, none, some 21, none]))) := rfl
theorem KC_14 : KC[14]? = some (.inl (0, 100)) := rfl
theorem KC_15 : KC[15]? = some (.inl (0, 100)) := rfl
theorem KC_16 : KC[16]? = some (.inl (0, 100)) := rfl
theorem KC_17 : KC[17]? = some (.inl (0, 100)) := rfl
theorem KC_18 : KC[18]? = some (.inl (0, 100)) := rfl
theorem KC_19 : KC[19]? = some (.inl (0, 600)) := rfl
theorem KC_20 : KC[20]? = some (.inl (1, 100)) := rfl
theorem KC_21 : KC[21]? = some (.inl (0, 100)) := rfl
theorem KC_22 : KC[22]? = some (.inr (.inl (2, [some 13, some 23, none, none, none, none, none, none, some 24, some 25, some 26, some 27]))) := rfl
theorem KC_23 : KC[23]? = some (.inl (0, 6)) := rfl
theorem KC_24 : KC[24]? = some (.inl (0, 936)) := rfl
theorem KC_25 : KC[25]? = some (.inl (0, 156)) := rfl
theorem KC_26 : KC[26]? = some (.inl (0, 156)) := rfl
theorem KC_27 : KC[27]? = some (.inl (0, 24)) := rfl
theorem KC_28 : KC[28]? = some (.inr (.inl (1, [some 13, some 29, none, none, none, none, none, none, some 30, some 31]))) := rfl
theorem KC_29 : KC[29]? = some (.inl (0, 6)) := rfl
theorem KC_30 : KC[30]? = some (.inl (2, 156)) := rfl
theorem KC_31 : KC[31]? = some (.inl (0, 156)) := rfl
theorem KC_32 {r : Nat} (h : r < 8) : KC[32 + r]? = some (.inr (.inl (4, [some (40 + r), some (48 + r), some (56 + r), none, none, none]))) := by
  match r, h with
  | 0, _ => rfl
  | 1, _ => rfl
  | 2, _ => rfl
  | 3, _ => rfl
  | 4, _ => rfl
  | 5, _ => rfl
  | 6, _ => rfl
  | 7, _ => rfl
theorem KC_40 {r : Nat} (h : r < 8) : KC[40 + r]? = some (.inl (2, 24)) := by
  match r, h with
  | 0, _ => rfl
  | 1, _ => rfl
  | 2, _ => rfl
  | 3, _ => rfl
  | 4, _ => rfl
  | 5, _ => rfl
  | 6, _ => rfl
  | 7, _ => rfl
theorem KC_48 {r : Nat} (h : r < 8) : KC[48 + r]? = some (.inl (2, 24)) := by
  match r, h with
  | 0, _ => rfl
  | 1, _ => rfl
  | 2, _ => rfl
  | 3, _ => rfl
  | 4, _ => rfl
  | 5, _ => rfl
  | 6, _ => rfl
  | 7, _ => rfl
theorem KC_56 {r : Nat} (h : r < 8) : KC[56 + r]? = some (.inl (0, 24)) := by
  match r, h with
  | 0, _ => rfl
  | 1, _ => rfl
  | 2, _ => rfl
  | 3, _ => rfl
  | 4, _ => rfl
  | 5, _ => rfl
  | 6, _ => rfl
  | 7, _ => rfl
theorem KC_64 {r : Nat} (h : r < 8) : KC[64 + r]? = some (.inr (.inl (7, [none, none, none, none, none, none, none, none, none]))) := by
  match r, h with
  | 0, _ => rfl
  | 1, _ => rfl
  | 2, _ => rfl
  | 3, _ => rfl
  | 4, _ => rfl
  | 5, _ => rfl
  | 6, _ => rfl
  | 7, _ => rfl
/-- the cells of the reference -/
def KM : List Kd := [.inr (.inl (9, [none, some 1, some 2, some 3, some 4, some 5, none, some 6, none, some 7, some 8, none, some 9, some 10, some 11, some 12, some 13, some 14, some 15, some 16, none, some 17, some 18, some 19, some 20, some 21, some 22, none, some 23, none, some 24, some 25, none, none, some 26, none, none, none, none, none, none, some 27, some 28, none, some 29, none])), .inl (0, 60), .inl (0, 60), .inl (0, 60), .inl (0, 60), .inl (1, 60), .inl (0, 24), .inl (0, 192), .inl (0, 8), .inl (0, 8), .inl (0, 8), .inl (0, 8), .inl (0, 8), .inl (1, 8), .inl (0, 8), .inl (0, 8), .inl (0, 8), .inl (0, 600), .inl (0, 100), .inl (0, 100), .inl (0, 100), .inl (0, 100), .inl (1, 100), .inl (0, 6), .inl (1, 100), .inl (0, 2400), .inl (0, 800), .inl (0, 24), .inl (0, 24), .inl (0, 8)]
theorem KM_len : KM.length = 30 := rfl
theorem KM_0 : KM[0]? = some (.inr (.inl (9, [none, some 1, some 2, some 3, some 4, some 5, none, some 6, none, some 7, some 8, none, some 9, some 10, some 11, some 12, some 13, some 14, some 15, some 16, none, some 17, some 18, some 19, some 20, some 21, some 22, none, some 23, none, some 24, some 25, none, none, some 26, none, none, none, none, none, none, some 27, some 28, none, some 29, none]))) := rfl
theorem KM_1 : KM[1]? = some (.inl (0, 60)) := rfl
theorem KM_2 : KM[2]? = some (.inl (0, 60)) := rfl
theorem KM_3 : KM[3]? = some (.inl (0, 60)) := rfl
theorem KM_4 : KM[4]? = some (.inl (0, 60)) := rfl
theorem KM_5 : KM[5]? = some (.inl (1, 60)) := rfl
theorem KM_6 : KM[6]? = some (.inl (0, 24)) := rfl
theorem KM_7 : KM[7]? = some (.inl (0, 192)) := rfl
theorem KM_8 : KM[8]? = some (.inl (0, 8)) := rfl
theorem KM_9 : KM[9]? = some (.inl (0, 8)) := rfl
theorem KM_10 : KM[10]? = some (.inl (0, 8)) := rfl
theorem KM_11 : KM[11]? = some (.inl (0, 8)) := rfl
theorem KM_12 : KM[12]? = some (.inl (0, 8)) := rfl
theorem KM_13 : KM[13]? = some (.inl (1, 8)) := rfl
theorem KM_14 : KM[14]? = some (.inl (0, 8)) := rfl
theorem KM_15 : KM[15]? = some (.inl (0, 8)) := rfl
theorem KM_16 : KM[16]? = some (.inl (0, 8)) := rfl
theorem KM_17 : KM[17]? = some (.inl (0, 600)) := rfl
theorem KM_18 : KM[18]? = some (.inl (0, 100)) := rfl
theorem KM_19 : KM[19]? = some (.inl (0, 100)) := rfl
theorem KM_20 : KM[20]? = some (.inl (0, 100)) := rfl
theorem KM_21 : KM[21]? = some (.inl (0, 100)) := rfl
theorem KM_22 : KM[22]? = some (.inl (1, 100)) := rfl
theorem KM_23 : KM[23]? = some (.inl (0, 6)) := rfl
theorem KM_24 : KM[24]? = some (.inl (1, 100)) := rfl
theorem KM_25 : KM[25]? = some (.inl (0, 2400)) := rfl
theorem KM_26 : KM[26]? = some (.inl (0, 800)) := rfl
theorem KM_27 : KM[27]? = some (.inl (0, 24)) := rfl
theorem KM_28 : KM[28]? = some (.inl (0, 24)) := rfl
theorem KM_29 : KM[29]? = some (.inl (0, 8)) := rfl
/-- words that hold at any state of the launch, but not by the kit's own test -/
def xw1 : List Cond := [Cond.methodLinkNest "Ballotscript" 9 ⟨"Ballotscript$Rolls", "<init>", "()V"⟩ "Ballotscript", Cond.methodLinkNest "Ballotscript" 18 ⟨"Ballotscript$Text", "<init>", "()V"⟩ "Ballotscript", Cond.methodLinkNest "Ballotscript" 37 ⟨"Ballotscript$Slip", "<init>", "()V"⟩ "Ballotscript", Cond.methodLinkNest "Ballotscript" 67 ⟨"Ballotscript$Rule", "<init>", "()V"⟩ "Ballotscript", Cond.methodLinkNest "Ballotscript" 68 ⟨"Ballotscript$Vote", "<init>", "()V"⟩ "Ballotscript", Cond.methodLinkNest "Ballotscript$Text" 23 ⟨"Ballotscript", "isDigit", "(C)Z"⟩ "Ballotscript", Cond.methodLinkNest "Ballotscript$Rolls" 32 ⟨"Ballotscript", "isWithin", "(III)Z"⟩ "Ballotscript", Cond.declares ⟨"Ballotscript$Count", "begin", "(II)V"⟩, Cond.methodLinkNest "Ballotscript$MachineCount" 51 ⟨"Ballotscript", "isWithin", "(III)Z"⟩ "Ballotscript", Cond.declares ⟨"Ballotscript$Count", "obey", "(CI)V"⟩, Cond.declares ⟨"Ballotscript$Count", "makeTally", "(C)V"⟩, Cond.declares ⟨"Ballotscript$Count", "votesIn", "(II)I"⟩, Cond.declares ⟨"Ballotscript$Count", "weightOf", "(I)I"⟩, Cond.castable "java/lang/IndexOutOfBoundsException" "java/lang/IndexOutOfBoundsException", Cond.declares ⟨"java/lang/RuntimeException", "<init>", "()V"⟩, Cond.declares ⟨"java/lang/RuntimeException", "<init>", "(Ljava/lang/String;)V"⟩, Cond.declares ⟨"java/lang/Exception", "<init>", "()V"⟩, Cond.declares ⟨"java/lang/Exception", "<init>", "(Ljava/lang/String;)V"⟩, Cond.declares ⟨"java/lang/Throwable", "<init>", "()V"⟩, Cond.declares ⟨"java/lang/Throwable", "<init>", "(Ljava/lang/String;)V"⟩, Cond.castable "java/lang/IllegalArgumentException" "java/lang/IllegalArgumentException", Cond.castable "java/lang/IllegalStateException" "java/lang/IllegalStateException", Cond.methodLinkNest "Ballotscript$Rule" 36 ⟨"Ballotscript", "isDigit", "(C)Z"⟩ "Ballotscript", Cond.methodLinkNest "Ballotscript$HandCount" 31 ⟨"Ballotscript", "isDigit", "(C)Z"⟩ "Ballotscript"]
def xw2 : List Cond := [Cond.selects RX2 yX1_letGo yX1_letGo, Cond.selects RX2 yX1_leaders yX1_leaders, Cond.selects RX2 yX1_maySomeGo yX1_maySomeGo, Cond.selects RX2 yX1_keepTie yX1_keepTie, Cond.selects RX2 yX1_remove yX1_remove, Cond.selects RX3 yX1_letGo yX1_letGo, Cond.selects RX3 yX1_leaders yX1_leaders, Cond.selects RX3 yX1_maySomeGo yX1_maySomeGo, Cond.selects RX3 yX1_keepTie yX1_keepTie, Cond.selects RX3 yX1_remove yX1_remove]
def warmW (w : Cond) : Prop := ∀ s U : State, s.WarmedH U.vm → va_Nw w s → va_Nw w U
theorem warm_sel {C : String} {x y : MethodName} : warmW (.selects C x y) := fun s U hW h => word_at hW (good_of_word rfl) h
theorem xw1_warm : ∀ w ∈ xw1, warmW w := List.forall_mem_cons.mpr ⟨(fun s U hW h => va_Nw.warmM hW h), List.forall_mem_cons.mpr ⟨(fun s U hW h => va_Nw.warmM hW h), List.forall_mem_cons.mpr ⟨(fun s U hW h => va_Nw.warmM hW h), List.forall_mem_cons.mpr ⟨(fun s U hW h => va_Nw.warmM hW h), List.forall_mem_cons.mpr ⟨(fun s U hW h => va_Nw.warmM hW h), List.forall_mem_cons.mpr ⟨(fun s U hW h => va_Nw.warmM hW h), List.forall_mem_cons.mpr ⟨(fun s U hW h => va_Nw.warmM hW h), List.forall_mem_cons.mpr ⟨(fun s U hW h => va_Nw.warmD hW h), List.forall_mem_cons.mpr ⟨(fun s U hW h => va_Nw.warmM hW h), List.forall_mem_cons.mpr ⟨(fun s U hW h => va_Nw.warmD hW h), List.forall_mem_cons.mpr ⟨(fun s U hW h => va_Nw.warmD hW h), List.forall_mem_cons.mpr ⟨(fun s U hW h => va_Nw.warmD hW h), List.forall_mem_cons.mpr ⟨(fun s U hW h => va_Nw.warmD hW h), List.forall_mem_cons.mpr ⟨(fun s U hW h => va_Nw.warmC hW h), List.forall_mem_cons.mpr ⟨(fun s U hW h => va_Nw.warmD hW h), List.forall_mem_cons.mpr ⟨(fun s U hW h => va_Nw.warmD hW h), List.forall_mem_cons.mpr ⟨(fun s U hW h => va_Nw.warmD hW h), List.forall_mem_cons.mpr ⟨(fun s U hW h => va_Nw.warmD hW h), List.forall_mem_cons.mpr ⟨(fun s U hW h => va_Nw.warmD hW h), List.forall_mem_cons.mpr ⟨(fun s U hW h => va_Nw.warmD hW h), List.forall_mem_cons.mpr ⟨(fun s U hW h => va_Nw.warmC hW h), List.forall_mem_cons.mpr ⟨(fun s U hW h => va_Nw.warmC hW h), List.forall_mem_cons.mpr ⟨(fun s U hW h => va_Nw.warmM hW h), List.forall_mem_cons.mpr ⟨(fun s U hW h => va_Nw.warmM hW h), fun _ h => absurd h List.not_mem_nil⟩⟩⟩⟩⟩⟩⟩⟩⟩⟩⟩⟩⟩⟩⟩⟩⟩⟩⟩⟩⟩⟩⟩⟩
theorem xw2_warm : ∀ w ∈ xw2, warmW w := List.forall_mem_cons.mpr ⟨warm_sel, List.forall_mem_cons.mpr ⟨warm_sel, List.forall_mem_cons.mpr ⟨warm_sel, List.forall_mem_cons.mpr ⟨warm_sel, List.forall_mem_cons.mpr ⟨warm_sel, List.forall_mem_cons.mpr ⟨warm_sel, List.forall_mem_cons.mpr ⟨warm_sel, List.forall_mem_cons.mpr ⟨warm_sel, List.forall_mem_cons.mpr ⟨warm_sel, List.forall_mem_cons.mpr ⟨warm_sel, fun _ h => absurd h List.not_mem_nil⟩⟩⟩⟩⟩⟩⟩⟩⟩⟩
/-- the String constants: class, entry, text; the first three are those that the class asks -/
def strC : List (String × Nat × String) := [("Ballotscript$Text", 27, "tbamxrlhq"), ("Ballotscript$Count", 39, "tba"), ("Ballotscript$Count", 51, "lhq"), ("Ballotscript", 75, "no such roll or person"), ("Ballotscript", 82, "from or to is out of range"), ("Ballotscript", 91, "there are 60 entries"), ("Ballotscript", 98, "no such entry"), ("Ballotscript", 104, "the entry is struck"), ("Ballotscript", 110, "day is out of range"), ("Ballotscript", 115, "days is out of range"), ("Ballotscript", 120, "today would be behind 1000"), ("Ballotscript", 126, "no such letter"), ("Ballotscript", 129, "the text has 24 letters"), ("Ballotscript", 137, "the text is no rule"), ("Ballotscript", 142, "there are 8 rules"), ("Ballotscript", 148, "no such rule"), ("Ballotscript", 166, "no such roll or rule"), ("Ballotscript", 168, "candidates or seats is out of range"), ("Ballotscript", 170, "there are 8 votes"), ("Ballotscript", 304, "no such vote"), ("Ballotscript", 184, "the vote is closed"), ("Ballotscript", 192, "no such candidate"), ("Ballotscript", 198, "the candidate is marked"), ("Ballotscript", 203, "no such person"), ("Ballotscript", 213, "no such ballot may be cast"), ("Ballotscript", 306, "no such ballot"), ("Ballotscript", 227, "no such place"), ("Ballotscript", 240, "the ballot is misread or has one candidate alone"), ("Ballotscript", 242, "seed or many is out of range"), ("Ballotscript", 244, "no ballot of the vote counts"), ("Ballotscript", 279, "no such tally or candidate"), ("Ballotscript", 291, "no such tie"), ("Ballotscript", 296, "the vote is open")]
def lenS : List Nat := [9, 3, 3]
def bytS : List (List Int32) := [[116, 98, 97, 109, 120, 114, 108, 104, 113], [116, 98, 97], [108, 104, 113]]
/-- a String constant's cell -/
def sA (U : State) (j : Nat) : Nat := match (Term.string (strC.getD j ("", 0, "")).1 (strC.getD j ("", 0, "")).2.1).eval #[] U none [] U with
  | some (.ref a) => a
  | _ => 0
def strOk (U : State) : Prop := ∀ j : Nat, j < strC.length → vk_R (strC.getD j ("", 0, "")).1 (strC.getD j ("", 0, "")).2.1 (strC.getD j ("", 0, "")).2.2 (sA U j) U
theorem sA_of {U : State} {j a : Nat} {x : String × Nat × String} (hj : strC.getD j ("", 0, "") = x) (h : vk_R x.1 x.2.1 x.2.2 a U) : sA U j = a := by
  subst hj
  unfold sA
  rw [h.2]
theorem strOk.warm {s U : State} (hW : s.WarmedH U.vm) (h : strOk s) : strOk U ∧ ∀ j, j < strC.length → sA U j = sA s j := by
  have h1 : ∀ j, j < strC.length → vk_R (strC.getD j ("", 0, "")).1 (strC.getD j ("", 0, "")).2.1 (strC.getD j ("", 0, "")).2.2 (sA s j) U := fun j hj => vk_R.warm hW (h j hj)
  have h2 : ∀ j, j < strC.length → sA U j = sA s j := fun j hj => sA_of rfl (h1 j hj)
  exact ⟨fun j hj => by rw [h2 j hj]; exact h1 j hj, h2⟩
/-- the class's environment: words, String constants, the statics that a throw reads, String.COMPACT_STRINGS -/
def EVc : Ev := fun A U H => (∀ w ∈ xw1, va_Nw w U) ∧ (∀ w ∈ xw2, va_Nw w U) ∧ strOk U ∧ (∃ adV : Nat → Nat, vk_S 3 lenS bytS (sA U) adV A U H) ∧ vx_Zq Bundle.tN "UNASSIGNED_STACK" Bundle.steD A U H ∧ vx_Zq Bundle.tN "SUPPRESSED_SENTINEL" Bundle.listD A U H ∧ va_Z "java/lang/String" "COMPACT_STRINGS" "Z" (.int 1) A U H
theorem vk_S.cong {N : Nat} {len : List Nat} {byt : List (List Int32)} {a1 a2 adV : Nat → Nat} {A : Nat → Prop} {U : State} {H : Heap} (h : vk_S N len byt a1 adV A U H) (e : ∀ i, i < N → a2 i = a1 i) : vk_S N len byt a2 adV A U H :=
  ⟨fun i hi => by rw [e i hi]; exact h.1 i hi, fun i j hi hj => by rw [e i hi, e j hj]; exact h.2 i j hi hj⟩
theorem EVc_ok : evOk EVc := by
  refine ⟨fun A s U H hW h => ?_, fun A U H H1 h hq => ?_, fun A B U H h hAB => ?_⟩
  · obtain ⟨h1, h2, h3, ⟨adV, h4⟩, h5, h6, h7⟩ := h
    obtain ⟨g1, g2⟩ := strOk.warm hW h3
    exact ⟨fun w hw => xw1_warm w hw s U hW (h1 w hw), fun w hw => xw2_warm w hw s U hW (h2 w hw), g1, ⟨adV, vk_S.cong (vk_S.moved hW.alike h4) (fun i hi => g2 i (Nat.lt_of_lt_of_le hi (by decide)))⟩, vx_Zq.moved hW.alike h5, vx_Zq.moved hW.alike h6, va_Z.moved hW.alike h7⟩
  · obtain ⟨h1, h2, h3, ⟨adV, h4⟩, h5, h6, h7⟩ := h
    exact ⟨h1, h2, h3, ⟨adV, h4.kept hq⟩, h5.kept hq, h6.kept hq, va_Z.kept h7 hq⟩
  · obtain ⟨h1, h2, h3, ⟨adV, h4⟩, h5, h6, h7⟩ := h
    exact ⟨h1, h2, h3, ⟨adV, h4.narrow hAB⟩, h5.narrow hAB, h6.narrow hAB, va_Z.narrow h7 hAB⟩
/-- the reference's: nothing -/
def EVm : Ev := fun _ _ _ => True
theorem EVm_ok : evOk EVm := ⟨fun _ _ _ _ _ _ => trivial, fun _ _ _ _ _ _ => trivial, fun _ _ _ _ _ _ => trivial⟩
theorem h_bb {α β γ : Type} {a : Option γ} {f : γ → Option α} {F : α → Option β} {z : β} (h : Option.bind (Option.bind a f) F = some z) : Option.bind a (fun x => Option.bind (f x) F) = some z := by
  cases a with
  | none => cases h
  | some x => exact h
def onX {α : Type} (r : Nat ⊕ Int32) (a : Nat → Option α) (b : Int32 → Option α) : Option α := match r with
  | .inl k => a k
  | .inr x => b x
theorem h_xl {α β : Type} {r : Nat ⊕ Int32} {k : Nat} {a : Nat → Option α} {b : Int32 → Option α} {F : α → Option β} {z : β} (e : r = .inl k) (h : Option.bind (onX r a b) F = some z) : Option.bind (a k) F = some z := by subst e; exact h
theorem h_xr {α β : Type} {r : Nat ⊕ Int32} {x : Int32} {a : Nat → Option α} {b : Int32 → Option α} {F : α → Option β} {z : β} (e : r = .inr x) (h : Option.bind (onX r a b) F = some z) : Option.bind (b x) F = some z := by subst e; exact h
def chb (x : Int32) : Bool := decide (0 ≤ x.toInt ∧ x.toInt < 65536)
def bob (x : Int32) : Bool := decide (x = 0 ∨ x = 1)
def nzb (x : Int32) : Bool := decide (¬ x = 0)
theorem ch_of {x : Int32} (h : chb x = true) : narrow .char (.int x) = .int x ∧ fits .char (.int x) = true := by
  obtain ⟨h1, h2⟩ := of_decide_eq_true h
  obtain ⟨j, hj, rfl⟩ := vp_in_of (n := 65536) (vp_in_iff.mpr ⟨h1, h2⟩) (by decide)
  exact pk_charN hj
theorem bo_of {x : Int32} (h : bob x = true) : narrow .boolean (.int x) = .int x ∧ fits .boolean (.int x) = true := by
  rcases of_decide_eq_true h with rfl | rfl
  · exact ⟨by decide, by decide⟩
  · exact ⟨by decide, by decide⟩
theorem nz_of {x : Int32} (h : nzb x = true) : ¬ x = 0 := of_decide_eq_true h
theorem nt_lt {x : Int32} {n : Nat} (h : vp_in x n) : x.toNatClampNeg < n := Nat.not_le.mp fun q => h (Or.inr q)
/-- a field as a class's constant pool links it -/
def fL (own : String) (index ci k : Nat) (Cn : String) (T : u_T) (N : Nat) (ref : String) : Prop := vwCl[ci]? = some (Cn, T, N) ∧ k < N ∧ (∀ x ∈ u_ws Cn T N, x ∈ wall) ∧ Cond.fieldLink own index ref (T k).2.1 (T k).2.2.1 ∈ wall ∧ (ref = (T k).1 ∨ Cond.sameField ref (T k).1 (T k).2.1 (T k).2.2.1 ∈ wall)
def pL (k : Nat) (T : u_T) (N : Nat) (ty : FieldType) : Prop := (∃ ty0 : Nat → FieldType, ∀ k, k < N → parseFieldDescriptor (T k).2.2.1 = some (ty0 k)) ∧ (∀ a, a < N → ∀ b, b < N → a ≠ b → (T a).2.1 ≠ (T b).2.1) ∧ (T k).2.2.2 = false ∧ parseFieldDescriptor (T k).2.2.1 = some ty
theorem wall_list {ws : List Cond} (ps : List Nat) (hp : ws = ps.filterMap (fun i => tables_1[i]?)) (g : ws.all goodWord = true) : ∀ x ∈ ws, x ∈ wall := by
  intro x hx
  have h1 := List.all_eq_true.mp g x hx
  rw [hp] at hx
  obtain ⟨i, -, hi⟩ := List.mem_filterMap.mp hx
  exact wall_of i hi h1
section PACK
variable {p : Program} {l : Launch} {e : Env} {R : Room} {s : State} {m : MethodId} {args : Array Value} {below : List Frame} {meth : Method} {c : Code} {H : Heap} {locs : List Loc} {cells slots : Nat} {Q : State → Prop}
variable {EV : Ev} {K : List Kd} {D : va_G} {dA : Nat → ClassId} {q : Nat → Nat} {A : Nat → Prop} {own : String} {w : Wt}
variable {cc : ByteArray} {pc : Nat} {ls : Array Slot} {rest : List Value}
variable {ci k index i : Nat} {fs : List (Option Nat)} {Cn ref : String} {T : u_T} {N : Nat}
theorem g_get (L : fL own index ci k Cn T N ref) (hx : p.tables.exec = Jvm.exec) (hb : c.code = cc) (C : Cx EV K D dA q A s m args own) (S : Sta K D dA q A s.heap w H locs) (hi : K[i]? = some (.inr (.inl (ci, fs)))) (hf : fs[k]? = some none) (hdg : decode cc pc = .ok (.getfield index, 3))
    (kk : W p l e R s m args below meth c H locs cells slots Q (F0 m (pc + 3) ls (.int (w i k) :: rest))) : W p l e R s m args below meth c H locs cells slots Q (F0 m pc ls (.ref (q i) :: rest)) :=
  r_get L.1 L.2.1 L.2.2.1 L.2.2.2.1 L.2.2.2.2 hx hb C S hi hf hdg kk
theorem g_getR {j : Nat} (L : fL own index ci k Cn T N ref) (hx : p.tables.exec = Jvm.exec) (hb : c.code = cc) (C : Cx EV K D dA q A s m args own) (S : Sta K D dA q A s.heap w H locs) (hi : K[i]? = some (.inr (.inl (ci, fs)))) (hf : fs[k]? = some (some j)) (hdg : decode cc pc = .ok (.getfield index, 3))
    (kk : W p l e R s m args below meth c H locs cells slots Q (F0 m (pc + 3) ls (.ref (q j) :: rest))) : W p l e R s m args below meth c H locs cells slots Q (F0 m pc ls (.ref (q i) :: rest)) :=
  r_getR L.1 L.2.1 L.2.2.1 L.2.2.2.1 L.2.2.2.2 hx hb C S hi hf hdg kk
theorem g_put {ty : FieldType} (L : fL own index ci k Cn T N ref) (P : pL k T N ty) (hx : p.tables.exec = Jvm.exec) (hb : c.code = cc) (C : Cx EV K D dA q A s m args own) (S : Sta K D dA q A s.heap w H locs) (hi : K[i]? = some (.inr (.inl (ci, fs)))) (hf : fs[k]? = some none) {v : Int32} (hn : narrow ty (.int v) = .int v ∧ fits ty (.int v) = true) (hdg : decode cc pc = .ok (.putfield index, 3))
    (kk : ∀ w1 : Wt, w1 = upd2 w i k v → ∀ (H1 : Heap) (locs1 : List Loc), Sta K D dA q A s.heap w1 H1 locs1 → W p l e R s m args below meth c H1 locs1 cells slots Q (F0 m (pc + 3) ls rest)) : W p l e R s m args below meth c H locs cells slots Q (F0 m pc ls (.int v :: .ref (q i) :: rest)) := by
  obtain ⟨⟨ty0, hty⟩, hnm, hfin, hd⟩ := P
  exact r_put L.1 L.2.1 L.2.2.1 ty0 hty hnm L.2.2.2.1 L.2.2.2.2 hfin hd hx hb C S hi hf hn hdg kk
theorem Cx.xw1 (C : Cx EVc K D dA q A s m args own) {x : Cond} (h : x ∈ xw1) : va_Nw x s := C.2.2.2.2.2.2.1 x h
theorem Cx.xw2 (C : Cx EVc K D dA q A s m args own) {x : Cond} (h : x ∈ xw2) : va_Nw x s := C.2.2.2.2.2.2.2.1 x h
theorem Cx.str (C : Cx EVc K D dA q A s m args own) (j : Nat) (hj : j < strC.length) {x : String × Nat × String} (e : strC.getD j ("", 0, "") = x) : vk_R x.1 x.2.1 x.2.2 (sA s j) s := by
  subst e
  exact C.2.2.2.2.2.2.2.2.1 j hj
end PACK
end
section
/-! CONTRACTS out of walks: a walk goes from a method's entry to any end, its ends are given -/
section MK
variable {l : Launch} {EV : Ev} {K : List Kd} {D : va_G} {dA : Nat → ClassId} {q : Nat → Nat} {y : MethodName} {b : ByteArray} {n : Nat} {rm : Room} {av : List Value} {w w' : Wt} {r : Int32} {own : String}
theorem lv_start {m : MethodId} (h : (lg_sl av).length ≤ n) : ∃ ls : Array Slot, entryFrame m av.toArray n = F0 m 0 ls [] ∧ lv_has ls n (lv_args 0 av) := by
  have hl := lv_entry av (n := n) h
  rw [lg_entry_eq]
  exact ⟨_, rfl, hl⟩
theorem mk_i (hy : plainName y.cls = true) (ho : y.cls = own) (ev : evOk EV) (hn : (lg_sl av).length ≤ n)
    (walk : ∀ (p : Program) (e : Env) (s : State) (m : MethodId) (args : Array Value) (below : List Frame) (meth : Method) (c : Code) (A : Nat → Prop) (Q : State → Prop) (ls : Array Slot), p.tables.exec = Jvm.exec → c.code = b → c.maxLocals = n → Cx EV K D dA q A s m args own → Sta K D dA q A s.heap w s.heap [] → lv_has ls n (lv_args 0 av) →
      (∀ (H : Heap) (locs : List Loc) (ls : Array Slot) (r' : Int32) (w2 : Wt) (pc : Nat), Sta K D dA q A s.heap w2 H locs → some (r', w2) = some (r, w') → decode b pc = .ok (.ireturn, 1) → W p l e rm s m args below meth c H locs 0 0 Q (F0 m pc ls [.int r'])) →
      W p l e rm s m args below meth c s.heap [] 0 0 Q (F0 m 0 ls [])) : Mi l EV K D dA q y b n (some .int) rm av w r w' := by
  intro sz
  refine Met.ofW (cc := b) (maxL := n) (ret := some .int) hy rfl ?_
  intro p e s m args below meth c s₁ B hml hv
  obtain ⟨rfl, hPr⟩ := hv
  have hts := atoms_spec (ws := Cond.code y b n (some .int) :: wall) B.pre
  obtain ⟨C, S⟩ := Cx.start (args := av.toArray) (ho ▸ findClass_of_methodNamed B.named) (fun x hx => hts x (List.mem_cons_of_mem _ hx)) hPr
  obtain ⟨rfl, -⟩ := hPr
  obtain ⟨ls, e1, hl⟩ := lv_start (m := m) hn
  rw [e1]
  exact walk p e s m _ below meth c _ _ ls B.exec B.bytes hml C S hl (fun H locs ls r' w2 pc S h d => e_i (o := none) B.exec B.bytes B.returns B.notSynchronized C S h d)
theorem mk_z {ty : FieldType} (hy : plainName y.cls = true) (ho : y.cls = own) (ev : evOk EV) (hn : (lg_sl av).length ≤ n)
    (walk : ∀ (p : Program) (e : Env) (s : State) (m : MethodId) (args : Array Value) (below : List Frame) (meth : Method) (c : Code) (A : Nat → Prop) (Q : State → Prop) (ls : Array Slot), p.tables.exec = Jvm.exec → c.code = b → c.maxLocals = n → Cx EV K D dA q A s m args own → Sta K D dA q A s.heap w s.heap [] → lv_has ls n (lv_args 0 av) →
      (∀ (H : Heap) (locs : List Loc) (ls : Array Slot) (r' : Int32) (w2 : Wt) (pc : Nat), narrow ty (.int r') = .int r' → Sta K D dA q A s.heap w2 H locs → some (r', w2) = some (r, w') → decode b pc = .ok (.ireturn, 1) → W p l e rm s m args below meth c H locs 0 0 Q (F0 m pc ls [.int r'])) →
      W p l e rm s m args below meth c s.heap [] 0 0 Q (F0 m 0 ls [])) : Mi l EV K D dA q y b n (some ty) rm av w r w' := by
  intro sz
  refine Met.ofW (cc := b) (maxL := n) (ret := some ty) hy rfl ?_
  intro p e s m args below meth c s₁ B hml hv
  obtain ⟨rfl, hPr⟩ := hv
  have hts := atoms_spec (ws := Cond.code y b n (some ty) :: wall) B.pre
  obtain ⟨C, S⟩ := Cx.start (args := av.toArray) (ho ▸ findClass_of_methodNamed B.named) (fun x hx => hts x (List.mem_cons_of_mem _ hx)) hPr
  obtain ⟨rfl, -⟩ := hPr
  obtain ⟨ls, e1, hl⟩ := lv_start (m := m) hn
  rw [e1]
  exact walk p e s m _ below meth c _ _ ls B.exec B.bytes hml C S hl (fun H locs ls r' w2 pc hn S h d => e_z B.exec B.bytes B.returns B.notSynchronized C S hn h d)
theorem mk_v (hy : plainName y.cls = true) (ho : y.cls = own) (ev : evOk EV) (hn : (lg_sl av).length ≤ n)
    (walk : ∀ (p : Program) (e : Env) (s : State) (m : MethodId) (args : Array Value) (below : List Frame) (meth : Method) (c : Code) (A : Nat → Prop) (Q : State → Prop) (ls : Array Slot), p.tables.exec = Jvm.exec → c.code = b → c.maxLocals = n → Cx EV K D dA q A s m args own → Sta K D dA q A s.heap w s.heap [] → lv_has ls n (lv_args 0 av) →
      (∀ (H : Heap) (locs : List Loc) (ls : Array Slot) (w2 : Wt) (pc : Nat), Sta K D dA q A s.heap w2 H locs → some w2 = some w' → decode b pc = .ok (.return_, 1) → W p l e rm s m args below meth c H locs 0 0 Q (F0 m pc ls [])) →
      W p l e rm s m args below meth c s.heap [] 0 0 Q (F0 m 0 ls [])) : Mv l EV K D dA q y b n none rm av w w' := by
  intro sz
  refine Met.ofW (cc := b) (maxL := n) (ret := none) hy rfl ?_
  intro p e s m args below meth c s₁ B hml hv
  obtain ⟨rfl, hPr⟩ := hv
  have hts := atoms_spec (ws := Cond.code y b n none :: wall) B.pre
  obtain ⟨C, S⟩ := Cx.start (args := av.toArray) (ho ▸ findClass_of_methodNamed B.named) (fun x hx => hts x (List.mem_cons_of_mem _ hx)) hPr
  obtain ⟨rfl, -⟩ := hPr
  obtain ⟨ls, e1, hl⟩ := lv_start (m := m) hn
  rw [e1]
  exact walk p e s m _ below meth c _ _ ls B.exec B.bytes hml C S hl (fun H locs ls w2 pc S h d => e_v (r := 0) (r' := 0) B.exec B.bytes B.returns B.notSynchronized C S (by rw [Option.some.inj h]) d)
theorem mk_r {j : Nat} {rt : FieldType} (hy : plainName y.cls = true) (ho : y.cls = own) (hrt : (∃ n, rt = .object n) ∨ ∃ t, rt = .array t) (ev : evOk EV) (hn : (lg_sl av).length ≤ n)
    (walk : ∀ (p : Program) (e : Env) (s : State) (m : MethodId) (args : Array Value) (below : List Frame) (meth : Method) (c : Code) (A : Nat → Prop) (Q : State → Prop) (ls : Array Slot), p.tables.exec = Jvm.exec → c.code = b → c.maxLocals = n → Cx EV K D dA q A s m args own → Sta K D dA q A s.heap w s.heap [] → lv_has ls n (lv_args 0 av) →
      (∀ (H : Heap) (locs : List Loc) (ls : Array Slot) (w2 : Wt) (pc : Nat), Sta K D dA q A s.heap w2 H locs → some w2 = some w' → decode b pc = .ok (.areturn, 1) → W p l e rm s m args below meth c H locs 0 0 Q (F0 m pc ls [.ref (q j)])) →
      W p l e rm s m args below meth c s.heap [] 0 0 Q (F0 m 0 ls [])) : Mr l EV K D dA q y b n (some rt) rm av w j w' := by
  intro sz
  refine Met.ofW (cc := b) (maxL := n) (ret := some rt) hy rfl ?_
  intro p e s m args below meth c s₁ B hml hv
  obtain ⟨rfl, hPr⟩ := hv
  have hts := atoms_spec (ws := Cond.code y b n (some rt) :: wall) B.pre
  obtain ⟨C, S⟩ := Cx.start (args := av.toArray) (ho ▸ findClass_of_methodNamed B.named) (fun x hx => hts x (List.mem_cons_of_mem _ hx)) hPr
  obtain ⟨rfl, -⟩ := hPr
  obtain ⟨ls, e1, hl⟩ := lv_start (m := m) hn
  rw [e1]
  exact walk p e s m _ below meth c _ _ ls B.exec B.bytes hml C S hl (fun H locs ls w2 pc S h d => e_r (r := 0) (r' := 0) B.exec B.bytes B.returns hrt B.notSynchronized C S (by rw [Option.some.inj h]) d)
end MK
/-! throwing -/
/-- a place that throws exn k with a text: new, dup, ldc, invokespecial, athrow -/
def thF (own : String) (b : ByteArray) (pc k : Nat) : Prop := ∃ (ik is ic j : Nat) (names : List String) (x : String × Nat × String), Bundle.fit (exn k) = true ∧ (∀ n ∈ names, Bundle.fit n = true) ∧ names.length = 2 ∧ Cond.classLink own ik (exn k) ∈ wall ∧ Cond.initialized (exn k) ∈ wall ∧ j < strC.length ∧ strC.getD j ("", 0, "") = x ∧ x.1 = own ∧ x.2.1 = is ∧ (∀ w ∈ vx_atS own ic (exn k) names, w ∈ wall ∨ w ∈ xw1) ∧ (∀ w ∈ Cond.classLink own ik (exn k) :: Cond.initialized (exn k) :: vx_atS own ic (exn k) names, vx_ot w = true) ∧
  decode b pc = .ok (.new ik, 3) ∧ decode b (pc + 3) = .ok (.dup, 1) ∧ ((decode b (pc + 4) = .ok (.ldc is, 2) ∧ decode b (pc + 6) = .ok (.invokespecial ic, 3) ∧ decode b (pc + 9) = .ok (.athrow, 1)) ∨ (decode b (pc + 4) = .ok (.ldc_w is, 3) ∧ decode b (pc + 7) = .ok (.invokespecial ic, 3) ∧ decode b (pc + 10) = .ok (.athrow, 1)))
theorem xw1_tab : ∀ w ∈ xw1, w.onTables = true := by decide +kernel
theorem va_P_mono {D : va_G} {cl : List vw_C} {ws : va_W} {H H1 : Heap} (h : va_P D cl ws H) (hq : ∀ a : Nat, a < H.size → H1[a]? = H[a]?) : va_P D cl ws H1 := fun k z hz => (h k z hz).kept (hq z.1 (h k z hz).lt)
section TH
variable {p : Program} {l : Launch} {e : Env} {R : Room} {s : State} {m : MethodId} {args : Array Value} {below : List Frame} {meth : Method} {c : Code} {H : Heap} {locs : List Loc} {cells slots : Nat} {Q : State → Prop}
variable {K : List Kd} {D : va_G} {dA : Nat → ClassId} {q : Nat → Nat} {own : String} {w w2 w' : Wt} {res : Nat ⊕ Int32}
variable {cc : ByteArray} {pc n mc ms : Nat} {ls : Array Slot} {rest : List Value} {Qc : Array Value → State → Outcome → State → Prop}
theorem e_th {k : Nat} (hx : p.tables.exec = Jvm.exec) (hb : c.code = cc) (hml : c.maxLocals = n) (hfl : l.stackTraces = false) (ht : ∀ x ∈ c.exceptionTable.toList, False) (hlocks : meth.locks = false) (C : Cx EVc K D dA q (Aq K q s.heap.size) s m args own) (S : Sta K D dA q (Aq K q s.heap.size) s.heap w2 H locs) (h : some ((.inl k : Nat ⊕ Int32), w2) = some (res, w')) (t : thF own cc pc k) (hsz : ls.size = n)
    (hRf : 6 ≤ R.frames) (hRl : 82 ≤ R.locals) (hRc : cells + 1 ≤ R.cells) (hRs : slots + 6 ≤ R.slots) (hc : cells + 1 ≤ mc) (hs : slots + 6 ≤ ms) :
    W p l e R s m args below meth c H locs cells slots (vx_MQ below Qc (xQ K D dA q res w' s.heap.size) args s mc ms (Aq K q s.heap.size)) (F0 m pc ls []) := by
  obtain ⟨rfl, rfl⟩ := Prod.mk.inj (Option.some.inj h)
  obtain ⟨ik, is, ic, j, names, x, t1, t2, t3, t4, t5, t6, t7, t8, t9, t10, t11, d0, d3, dd⟩ := t
  have hstr := C.str j t6 t7
  rw [t8, t9] at hstr
  have hat : ∀ w ∈ vx_atS own ic (exn k) names, w.before args s = true := by
    intro w hw
    rcases t10 w hw with h1 | h1
    · exact C.2.1 w h1
    · exact va_Nw.use (xw1_tab w h1) (C.xw1 h1)
  have hend : ∀ t : State, s.vm.Alike t.vm → H.size ≤ t.heap.size → (∀ q : Nat, q < H.size → t.heap[q]? = H[q]?) → xQ K D dA q (.inl k) w2 s.heap.size (exn k) s t := by
    intro t ht1 ht2 ht3
    exact ⟨(), trivial, ⟨⟨k, rfl, rfl⟩, va_P_mono S.1 ht3⟩, Nat.le_trans S.2.1 ht2, fun a h1 h2 => by rw [ht3 a (Nat.lt_of_lt_of_le h1 S.2.1)]; exact S.2.2.1 a h1 h2⟩
  rcases dd with ⟨d4, d6, d9⟩ | ⟨d4, d6, d9⟩
  · exact vx_throwS (cls := exn k) (names := names) (ik := ik) (is := is) (ic := ic) hx hb hfl C.1 t1 t2 (C.2.1 _ t4) (C.2.1 _ t5) hstr hat t11 C.2.2.2.2.2.2.2.2.2.2.1 C.2.2.2.2.2.2.2.2.2.2.2.1 S.2 (by rw [hsz, hml]) d0 d3 d4 d6 d9 (fun x hx => (ht x hx).elim) (by rw [t3]; omega) (by rw [t3]; show 0 + _ ≤ _; omega) hRc hRs hlocks hend S.2.2.2 hc hs
  · exact vx_throwSW (cls := exn k) (names := names) (ik := ik) (is := is) (ic := ic) hx hb hfl C.1 t1 t2 (C.2.1 _ t4) (C.2.1 _ t5) hstr hat t11 C.2.2.2.2.2.2.2.2.2.2.1 C.2.2.2.2.2.2.2.2.2.2.2.1 S.2 (by rw [hsz, hml]) d0 d3 d4 d6 d9 (fun x hx => (ht x hx).elim) (by rw [t3]; omega) (by rw [t3]; show 0 + _ ≤ _; omega) hRc hRs hlocks hend S.2.2.2 hc hs
theorem e_pro {EV : Ev} {k : Nat} {q9 : Nat} {ce : Cell} (ht : ∀ x ∈ c.exceptionTable.toList, False) (hlocks : meth.locks = false) (C : Cx EV K D dA q (Aq K q s.heap.size) s m args own) (S : Sta K D dA q (Aq K q s.heap.size) s.heap w2 H locs) (h : some ((.inl k : Nat ⊕ Int32), w2) = some (res, w')) (hcell : H[q9]? = some ce) (hv : ce.vm = .none) (hcl : s.vm.findClass (exn k) = some ce.cls) (hc : cells ≤ mc) (hs : slots ≤ ms) :
    vx_W p l e R s m args below meth c H locs cells slots (vx_MQ below Qc (xQ K D dA q res w' s.heap.size) args s mc ms (Aq K q s.heap.size)) (F0 m pc ls rest) q9 := by
  obtain ⟨rfl, rfl⟩ := Prod.mk.inj (Option.some.inj h)
  exact vx_out (fun x hx => (ht x hx).elim) hlocks hcell hv hcl (fun t ht1 ht2 => ⟨(), trivial, ⟨⟨k, rfl, rfl⟩, by rw [ht1]; exact S.1⟩, S.2.F ht1⟩) S.2.2.2 hc hs
end TH
section MX
variable {l : Launch} {K : List Kd} {D : va_G} {dA : Nat → ClassId} {q : Nat → Nat} {y : MethodName} {b : ByteArray} {n : Nat} {rm : Room} {av : List Value} {w w' : Wt} {res : Nat ⊕ Int32} {own : String} {mc ms : Nat}
theorem mx_z {ty : FieldType} (hy : plainName y.cls = true) (ho : y.cls = own) (hfl : l.stackTraces = false) (hn : (lg_sl av).length ≤ n) (hf : 6 ≤ rm.frames) (hlo : 82 ≤ rm.locals) (hrc : rm.cells = mc) (hrs : rm.slots = ms)
    (walk : ∀ (p : Program) (e : Env) (s : State) (m : MethodId) (args : Array Value) (below : List Frame) (meth : Method) (c : Code) (A : Nat → Prop) (Q : State → Prop) (ls : Array Slot), p.tables.exec = Jvm.exec → c.code = b → c.maxLocals = n → Cx EVc K D dA q A s m args own → Sta K D dA q A s.heap w s.heap [] → lv_has ls n (lv_args 0 av) →
      (∀ (H : Heap) (locs : List Loc) (ls : Array Slot) (r' : Int32) (w2 : Wt) (pc cl sl : Nat), cl ≤ mc → sl ≤ ms → narrow ty (.int r') = .int r' → Sta K D dA q A s.heap w2 H locs → some ((.inr r' : Nat ⊕ Int32), w2) = some (res, w') → decode b pc = .ok (.ireturn, 1) → W p l e rm s m args below meth c H locs cl sl Q (F0 m pc ls [.int r'])) →
      (∀ (H : Heap) (locs : List Loc) (ls : Array Slot) (w2 : Wt) (k pc cl sl : Nat), cl + 1 ≤ mc → sl + 6 ≤ ms → ls.size = n → Sta K D dA q A s.heap w2 H locs → some ((.inl k : Nat ⊕ Int32), w2) = some (res, w') → thF own b pc k → W p l e rm s m args below meth c H locs cl sl Q (F0 m pc ls [])) →
      (∀ (H : Heap) (locs : List Loc) (ls : Array Slot) (w2 : Wt) (k pc cl sl : Nat) (rest : List Value) (q9 : Nat) (ce : Cell), cl ≤ mc → sl ≤ ms → Sta K D dA q A s.heap w2 H locs → some ((.inl k : Nat ⊕ Int32), w2) = some (res, w') → H[q9]? = some ce → ce.vm = .none → s.vm.findClass (exn k) = some ce.cls → vx_W p l e rm s m args below meth c H locs cl sl Q (F0 m pc ls rest) q9) →
      W p l e rm s m args below meth c s.heap [] 0 0 Q (F0 m 0 ls [])) : Xi l EVc K D dA q y b n (some ty) rm mc ms av w res w' := by
  intro sz
  refine vx_ofW (cc := b) (maxL := n) (ret := some ty) hy rfl ?_
  intro p e s m args below meth c s₁ B hml ht hv
  obtain ⟨rfl, hPr⟩ := hv
  have hts := atoms_spec (ws := Cond.code y b n (some ty) :: wall) B.pre
  obtain ⟨C, S⟩ := Cx.start (args := av.toArray) (ho ▸ findClass_of_methodNamed B.named) (fun x hx => hts x (List.mem_cons_of_mem _ hx)) hPr
  obtain ⟨rfl, -⟩ := hPr
  obtain ⟨ls, e1, hl⟩ := lv_start (m := m) hn
  rw [e1]
  refine walk p e s m _ below meth c _ _ ls B.exec B.bytes hml C S hl ?_ ?_ ?_
  · intro H locs ls r' w2 pc cl sl hc hs hn S h d
    obtain ⟨rfl, rfl⟩ := Prod.mk.inj (Option.some.inj h)
    refine W.widen hc hs ?_
    exact vx_ret (W.zret (v := r') B.exec B.bytes B.returns hn (fun t ht hW => ⟨⟨r', (), rfl, rfl, by show va_P _ _ _ t.heap; rw [ht]; exact S.1⟩, S.2.F ht⟩) S.2.2.2 d B.notSynchronized)
  · intro H locs ls w2 k pc cl sl hc hs hz S h t
    exact e_th B.exec B.bytes hml hfl ht B.notSynchronized C S h t hz hf hlo (by show cl + 1 ≤ rm.cells; rw [hrc]; exact hc) (by show sl + 6 ≤ rm.slots; rw [hrs]; exact hs) hc hs
  · intro H locs ls w2 k pc cl sl rest q9 ce hc hs S h h1 h2 h3
    exact e_pro ht B.notSynchronized C S h h1 h2 h3 hc hs
theorem mx_i (hy : plainName y.cls = true) (ho : y.cls = own) (hfl : l.stackTraces = false) (hn : (lg_sl av).length ≤ n) (hf : 6 ≤ rm.frames) (hlo : 82 ≤ rm.locals) (hrc : rm.cells = mc) (hrs : rm.slots = ms)
    (walk : ∀ (p : Program) (e : Env) (s : State) (m : MethodId) (args : Array Value) (below : List Frame) (meth : Method) (c : Code) (A : Nat → Prop) (Q : State → Prop) (ls : Array Slot), p.tables.exec = Jvm.exec → c.code = b → c.maxLocals = n → Cx EVc K D dA q A s m args own → Sta K D dA q A s.heap w s.heap [] → lv_has ls n (lv_args 0 av) →
      (∀ (H : Heap) (locs : List Loc) (ls : Array Slot) (r' : Int32) (w2 : Wt) (pc cl sl : Nat), cl ≤ mc → sl ≤ ms → Sta K D dA q A s.heap w2 H locs → some ((.inr r' : Nat ⊕ Int32), w2) = some (res, w') → decode b pc = .ok (.ireturn, 1) → W p l e rm s m args below meth c H locs cl sl Q (F0 m pc ls [.int r'])) →
      (∀ (H : Heap) (locs : List Loc) (ls : Array Slot) (w2 : Wt) (k pc cl sl : Nat), cl + 1 ≤ mc → sl + 6 ≤ ms → ls.size = n → Sta K D dA q A s.heap w2 H locs → some ((.inl k : Nat ⊕ Int32), w2) = some (res, w') → thF own b pc k → W p l e rm s m args below meth c H locs cl sl Q (F0 m pc ls [])) →
      (∀ (H : Heap) (locs : List Loc) (ls : Array Slot) (w2 : Wt) (k pc cl sl : Nat) (rest : List Value) (q9 : Nat) (ce : Cell), cl ≤ mc → sl ≤ ms → Sta K D dA q A s.heap w2 H locs → some ((.inl k : Nat ⊕ Int32), w2) = some (res, w') → H[q9]? = some ce → ce.vm = .none → s.vm.findClass (exn k) = some ce.cls → vx_W p l e rm s m args below meth c H locs cl sl Q (F0 m pc ls rest) q9) →
      W p l e rm s m args below meth c s.heap [] 0 0 Q (F0 m 0 ls [])) : Xi l EVc K D dA q y b n (some .int) rm mc ms av w res w' :=
  mx_z hy ho hfl hn hf hlo hrc hrs (fun p e s m args below meth c A Q ls hx hb hml C S hl fin thr pro => walk p e s m args below meth c A Q ls hx hb hml C S hl (fun H locs ls r' w2 pc cl sl hc hs S h d => fin H locs ls r' w2 pc cl sl hc hs rfl S h d) thr pro)
theorem mx_v (hy : plainName y.cls = true) (ho : y.cls = own) (hfl : l.stackTraces = false) (hn : (lg_sl av).length ≤ n) (hf : 6 ≤ rm.frames) (hlo : 82 ≤ rm.locals) (hrc : rm.cells = mc) (hrs : rm.slots = ms)
    (walk : ∀ (p : Program) (e : Env) (s : State) (m : MethodId) (args : Array Value) (below : List Frame) (meth : Method) (c : Code) (A : Nat → Prop) (Q : State → Prop) (ls : Array Slot), p.tables.exec = Jvm.exec → c.code = b → c.maxLocals = n → Cx EVc K D dA q A s m args own → Sta K D dA q A s.heap w s.heap [] → lv_has ls n (lv_args 0 av) →
      (∀ (H : Heap) (locs : List Loc) (ls : Array Slot) (w2 : Wt) (pc cl sl : Nat), cl ≤ mc → sl ≤ ms → Sta K D dA q A s.heap w2 H locs → some ((.inr 0 : Nat ⊕ Int32), w2) = some (res, w') → decode b pc = .ok (.return_, 1) → W p l e rm s m args below meth c H locs cl sl Q (F0 m pc ls [])) →
      (∀ (H : Heap) (locs : List Loc) (ls : Array Slot) (w2 : Wt) (k pc cl sl : Nat), cl + 1 ≤ mc → sl + 6 ≤ ms → ls.size = n → Sta K D dA q A s.heap w2 H locs → some ((.inl k : Nat ⊕ Int32), w2) = some (res, w') → thF own b pc k → W p l e rm s m args below meth c H locs cl sl Q (F0 m pc ls [])) →
      (∀ (H : Heap) (locs : List Loc) (ls : Array Slot) (w2 : Wt) (k pc cl sl : Nat) (rest : List Value) (q9 : Nat) (ce : Cell), cl ≤ mc → sl ≤ ms → Sta K D dA q A s.heap w2 H locs → some ((.inl k : Nat ⊕ Int32), w2) = some (res, w') → H[q9]? = some ce → ce.vm = .none → s.vm.findClass (exn k) = some ce.cls → vx_W p l e rm s m args below meth c H locs cl sl Q (F0 m pc ls rest) q9) →
      W p l e rm s m args below meth c s.heap [] 0 0 Q (F0 m 0 ls [])) : Xv l EVc K D dA q y b n none rm mc ms av w res w' := by
  intro sz
  refine vx_ofW (cc := b) (maxL := n) (ret := none) hy rfl ?_
  intro p e s m args below meth c s₁ B hml ht hv
  obtain ⟨rfl, hPr⟩ := hv
  have hts := atoms_spec (ws := Cond.code y b n none :: wall) B.pre
  obtain ⟨C, S⟩ := Cx.start (args := av.toArray) (ho ▸ findClass_of_methodNamed B.named) (fun x hx => hts x (List.mem_cons_of_mem _ hx)) hPr
  obtain ⟨rfl, -⟩ := hPr
  obtain ⟨ls, e1, hl⟩ := lv_start (m := m) hn
  rw [e1]
  refine walk p e s m _ below meth c _ _ ls B.exec B.bytes hml C S hl ?_ ?_ ?_
  · intro H locs ls w2 pc cl sl hc hs S h d
    obtain ⟨rfl, rfl⟩ := Prod.mk.inj (Option.some.inj h)
    refine W.widen hc hs ?_
    exact vx_ret (W.vret B.exec B.bytes B.returns (fun t ht hW => ⟨⟨(), rfl, ⟨0, rfl⟩, by show va_P _ _ _ t.heap; rw [ht]; exact S.1⟩, S.2.F ht⟩) S.2.2.2 d B.notSynchronized)
  · intro H locs ls w2 k pc cl sl hc hs hz S h t
    exact e_th B.exec B.bytes hml hfl ht B.notSynchronized C S h t hz hf hlo (by show cl + 1 ≤ rm.cells; rw [hrc]; exact hc) (by show sl + 6 ≤ rm.slots; rw [hrs]; exact hs) hc hs
  · intro H locs ls w2 k pc cl sl rest q9 ce hc hs S h h1 h2 h3
    exact e_pro ht B.notSynchronized C S h h1 h2 h3 hc hs
end MX
section XC
variable {p : Program} {l : Launch} {e : Env} {R : Room} {s : State} {m : MethodId} {args : Array Value} {below : List Frame} {meth : Method} {c : Code} {H : Heap} {locs : List Loc} {cells slots : Nat} {Q : State → Prop}
variable {EV : Ev} {K : List Kd} {D : va_G} {dA : Nat → ClassId} {q : Nat → Nat} {A : Nat → Prop} {own : String} {w w' : Wt}
variable {cc : ByteArray} {pc nL : Nat} {ls : Array Slot} {rest st : List Value}
variable {index : Nat} {y : MethodName} {b : ByteArray} {n : Nat} {ret : Option FieldType} {na : Nat} {rm : Room} {As : List Value} {mc ms : Nat}
theorem x_V {Cn : String} {Qc : Array Value → State → Outcome → State → Prop} {XC : String → State → State → Prop} (link : lkV own index Cn y b n ret na) (ev : evOk EV) (hx : p.tables.exec = Jvm.exec) (hb : c.code = cc) (hml : c.maxLocals = nL) (C : Cx EV K D dA q A s m args own) (S : Sta K D dA q A s.heap w H locs) {i ci N : Nat} {fs : List (Option Nat)} {T : u_T} (hi : K[i]? = some (.inr (.inl (ci, fs)))) (hc : vwCl[ci]? = some (Cn, T, N))
    (hM : vx_Met l y (.code y b n ret :: wall) rm (va_Pc (.ref (q i) :: As) (Pr EV K D dA q H.size w)) Qc XC mc ms (Aq K q H.size)) (hrc : rm.cells = mc) (hrs : rm.slots = ms) (hR : rm.frames + 1 ≤ R.frames ∧ 8 + (n + 11) + rm.locals ≤ R.locals) (hn : As.length = na) (hsz : ls.size = nL) (hst : st = As.reverse ++ .ref (q i) :: rest) (hW : (rest.map fun v => v.category).sum ≤ 8) (hdg : decode cc pc = .ok (.invokevirtual index, 3)) (hf : cells + mc ≤ R.cells ∧ slots + ms ≤ R.slots) :
    vx_Run p l e R s m args below meth c H locs cells slots mc ms (F0 m pc ls st) rest (Qc (Value.ref (q i) :: As).toArray) XC (Aq K q H.size) := by
  obtain ⟨h1, h2, h3, h4, h5, h6, h7⟩ := link
  obtain ⟨g1, g2, g3, g4, g5, g6⟩ := r_cb (R := R) C (yl := y) h4 h5 hrc hrs hR
  refine vx_runV (Ts := wall) ⟨hx, hb, hml, C.1, C.2.1⟩ hM ⟨⟨g1, g2, g3, g4, g5, g6, C.2.1 _ h5, C.2.1 _ h4, h6, r_len h7, C.2.1 _ h1⟩, C.2.1 _ h2, C.2.1 _ h3⟩ ⟨Pr.blind ev, va_recv C.2.2.1 S.1 hc (wld_at hi), fun U hU hW => Cx.pre ev C S hU hW⟩ rfl hn hsz hst (lv_room hW) hdg hf
theorem k_x {res : Nat ⊕ Int32} {a : Array Value} (C : Cx EV K D dA q A s m args own) (S : Sta K D dA q A s.heap w H locs) (hr : vx_Run p l e R s m args below meth c H locs cells slots mc ms (F0 m pc ls st) rest (va_Qv (fun (_ : Unit) => ∃ r, res = .inr r) (fun _ t => va_P D vwCl (wld K dA q w') t.heap) (Aq K q H.size) a) (xQ K D dA q res w' H.size) (Aq K q H.size))
    (kx : ∀ k, res = .inl k → ∀ (H1 : Heap) (locs1 : List Loc) (q9 : Nat) (ce : Cell), Sta K D dA q A s.heap w' H1 locs1 → H1[q9]? = some ce → ce.vm = .none → s.vm.findClass (exn k) = some ce.cls → vx_W p l e R s m args below meth c H1 locs1 (cells + mc) (slots + ms) Q (F0 m pc ls rest) q9)
    (kk : ∀ r, res = .inr r → ∀ (H1 : Heap) (locs1 : List Loc), Sta K D dA q A s.heap w' H1 locs1 → W p l e R s m args below meth c H1 locs1 (cells + mc) (slots + ms) Q (F0 m (pc + 3) ls rest)) : W p l e R s m args below meth c H locs cells slots Q (F0 m pc ls st) := by
  refine vx_callv hr S.2 (fun x _ h => C.sub S x h) (C.sub S) (fun x _ h => C.sub S x h) (fun E ce q9 u t H1 locs1 ht _ _ hb _ _ hS h1 h2 h3 => ?_) (fun u t H1 locs1 ht _ hp hb _ _ hS => ?_)
  · obtain ⟨⟨k, e1, rfl⟩, hP⟩ := hb
    exact kx k e1 H1 locs1 q9 ce (q_sta ht hP hS) h1 h2 h3
  · obtain ⟨r, e1⟩ := hp
    exact kk r e1 H1 locs1 (q_sta ht hb hS)
end XC
end
section
/-! SUPPORT of the walks: String.indexOf over the constants, an inherited static method, fuel of the recursion -/
def ixF (c : Int32) : List Int32 → Nat → Int32
  | [], _ => -1
  | b :: l, k => if b = c then nI k else ixF c l (k + 1)
/-- indexOf of a letter in the String constant j -/
def sIx (j : Nat) (c : Int32) : Int32 := ixF c (bytS.getD j []) 0
/-- fuel of a recursion -/
def FD : Nat := 30
/-- the words of a call of an inherited static method: x as the call names it -/
def lkSU (own : String) (index : Nat) (owner : String) (x y : MethodName) (b : ByteArray) (n : Nat) (ret : Option FieldType) (na : Nat) : Prop :=
  Cond.methodLink own index x ∈ wall ∧ Cond.sameMethod x.cls owner x.name x.desc ∈ wall ∧ Cond.static y ∈ wall ∧ Cond.initialized y.cls ∈ wall ∧ Cond.code y b n ret ∈ wall ∧ plainM y ∧ nArgs y na ∧ y = ⟨owner, x.name, x.desc⟩
/-! an inherited static method: the class that the call names isn't the one that declares it. (The kit has this for invokevirtual and invokespecial; these two rows go the same way with its own pieces.) -/
section SUPS
variable {p : Program} {l : Launch} {e : Env} {R : Room} {s : State} {m : MethodId} {args : Array Value} {below : List Frame} {meth : Method} {c : Code} {T : State} {locs : List Loc} {cells slots : Nat}
theorem su_warm {Q : Unit → Pre} {E : CtlPost} {d : Bool} {acts : List Action} {u u0 : State} {f : JFrame} {index ci nt named : Nat} {r : MethodId} {kd kn : Class} {cf : ClassFile} {nm ds : String} (hs : u.topJava?.isSome) (hpv : e.platform.polymorphicOnlyByInvokevirtual = true)
    (hW : u0.WarmedH u.vm) (hE : u0.MethodEntryUp e u.vm f.method.cls index named r ci) (hkd : u0.vm.classes[f.method.cls]? = some kd) (hcf : kd.cf = some cf) (hent : cf.constantPool[index]? = some (if false then .interfaceMethodref ci nt else .methodref ci nt)) (hnt : cf.constantPool.nameAndType? nt = some (nm, ds))
    (hkn : u0.vm.classes[named]? = some kn) (hno : (kn.methods.any fun x => x.name == nm && !x.isStatic && signaturePolymorphic kn x) = false) :
    wp (invokestatic.sem index) Q E e d acts (u.setTop f) ↔ wp (invokestatic.sem index) Q E e d acts ((u.setVm (u.vm.calledUp f.method.cls ci index named r)).setTop f) := by
  obtain ⟨first, -, hW1, second⟩ := hE.classFirst
  obtain ⟨ka, hka, ea⟩ := hW.alike.2.2 _ _ hkd
  obtain ⟨kb, hkb, eb⟩ := hE.warmed.alike.2.2 _ _ hkd
  obtain ⟨na, hna, ena⟩ := hW1.alike.2.2 _ _ hkn
  obtain ⟨nb, hnb, enb⟩ := hE.warmed.alike.2.2 _ _ hkn
  have askA := memberRef_ask_via (e := e) hka (by rw [ea]; exact hcf) hent hnt
  have askB := memberRef_ask_via (e := e) hkb (by rw [eb]; exact hcf) hent hnt
  have noA : (na.methods.any fun x => x.name == nm && !x.isStatic && signaturePolymorphic na x) = false := by rw [ena]; exact hno
  have noB : (nb.methods.any fun x => x.name == nm && !x.isStatic && signaturePolymorphic nb x) = false := by rw [enb]; exact hno
  have t1 : (u.setVm (u.vm.noted f.method.cls ci (.cls named))).topJava?.isSome := hs
  have t2 : (u.setVm (u.vm.calledUp f.method.cls ci index named r)).topJava?.isSome := hs
  have stepA : ∀ {Q' : ClassId → Pre} {d' : Bool} {acts' : List Action}, wp (Jvm.resolveClassAt ci) Q' E e d' acts' (u.setTop f) ↔ Q' named d' acts' ((u.setVm (u.vm.noted f.method.cls ci (.cls named))).setTop f) :=
    W.resolveClassAt_links (t := u.setTop f) (State.method?_setTop f hs) first
  have stepB : ∀ {Q' : MethodId → Pre} {d' : Bool} {acts' : List Action}, wp (Jvm.resolveMethodAt index) Q' E e d' acts' ((u.setVm (u.vm.noted f.method.cls ci (.cls named))).setTop f) ↔ Q' r d' acts' ((u.setVm (u.vm.calledUp f.method.cls ci index named r)).setTop f) :=
    W.resolveMethodAt_links (t := (u.setVm (u.vm.noted f.method.cls ci (.cls named))).setTop f) (State.method?_setTop f t1) second
  have readyA := fun {Q' : ClassId → Pre} {d' : Bool} {acts' : List Action} => W.resolveClassAt_ready (Q := Q') (E := E) (e := e) (d := d') (acts := acts') (s := (u.setVm (u.vm.calledUp f.method.cls ci index named r)).setTop f) (State.method?_setTop f t2) hE.classReady
  have readyB := fun {Q' : MethodId → Pre} {d' : Bool} {acts' : List Action} => W.resolveMethodAt_ready (Q := Q') (E := E) (e := e) (d := d') (acts := acts') (s := (u.setVm (u.vm.calledUp f.method.cls ci index named r)).setTop f) (State.method?_setTop f t2) hE.ready
  simp [invokestatic.sem, hpv, Seam.memberRefOf, State.method?_setTop f hs, State.method?_setTop f t2, askA, askB, stepA, hna, hnb, noA, noB, stepB, W.resolveClassAt_ready (s := (u.setVm (u.vm.calledUp f.method.cls ci index named r)).setTop f) (State.method?_setTop f t2) hE.classReady, W.resolveMethodAt_ready (s := (u.setVm (u.vm.calledUp f.method.cls ci index named r)).setTop f) (State.method?_setTop f t2) hE.ready, -Array.any_eq_true]
theorem su_call (X : Stand p l e R s m args below meth c T locs cells slots) (hexec : p.tables.exec = Jvm.exec) {own owner : String} {index : Nat} {x : MethodName} {bytes : ByteArray} {maxL : Nat} {ret : Option FieldType}
    (hown : s.vm.findClass own = some m.cls) (hlink : (Cond.methodLink own index x).before args s = true) (hsame : (Cond.sameMethod x.cls owner x.name x.desc).before args s = true) (hstat : (Cond.static ⟨owner, x.name, x.desc⟩).before args s = true) (hinit : (Cond.initialized owner).before args s = true) (hcode : (Cond.code ⟨owner, x.name, x.desc⟩ bytes maxL ret).before args s = true) (hy : owner ≠ "java/lang/invoke/MethodHandle" ∧ owner ≠ "java/lang/invoke/VarHandle")
    {W : Nat} {Pre : Pt → Array Value → Prop} {Post : Pt → Array Value → Option Value → Pt → Prop} (hK : Back l R p e below s args ⟨owner, x.name, x.desc⟩ 3 W Pre Post)
    {g : JFrame} (hg : g.method = m) (hsize : g.locals.size = c.maxLocals) {argsL rest : List Value} (hlen : ∀ sig, parseMethodDescriptor x.desc = some sig → argsL.length = sig.parameters.length)
    (hstack : g.stack = argsL.reverse ++ rest) (hW : 2 * g.monitorRoom + (rest.map fun v => v.category).sum ≤ W) (hdg : decode c.code g.pc = .ok (.invokestatic index, 3))
    (hpre : ∀ vm₁, s.WarmedH vm₁ → Pre ⟨T.setVm vm₁, locs, cells, slots⟩ argsL.toArray) :
    ∃ (v : Option Value) (vm₁ : Vm) (B : Pt), s.WarmedH vm₁ ∧ Stand p l e R s m args below meth c B.U B.locs B.cells B.slots ∧ Post ⟨T.setVm vm₁, locs, cells, slots⟩ argsL.toArray v B ∧
      ∀ target, Steps p.tables e below (B.U.setTop { g with pc := g.pc + 3, stack := v.toList ++ rest }) target → Steps p.tables e below (T.setTop g) target := by
  obtain ⟨mk, hnamed⟩ := Cond.code_named hcode
  obtain ⟨mm, cM, hmm, -, -, -, -, -, -, hsig⟩ := Cond.code_spec hnamed hcode
  have hst : mm.isStatic = true := Cond.static_spec hnamed hmm hstat
  obtain ⟨ko, hko, hnm⟩ := className_of_methodNamed hnamed
  have hini : ko.init = .initialized := Cond.initialized_spec (findClass_of_methodNamed hnamed) hko hinit
  have hpl : e.platform.magicAccessors = ({} : Platform).magicAccessors := by rw [X.admits.platform]
  have hpv : e.platform.polymorphicOnlyByInvokevirtual = true := by rw [X.admits.platform]
  obtain ⟨cn, ck, r1, hcn, hck, hni, hf, hn1⟩ := Cond.sameMethod_found hsame
  cases hnamed.symm.trans hn1
  obtain ⟨ci, hl, hright⟩ := Cond.methodLink_specUp hown hcn hck hni hf hlink e.platform hpl (by rw [X.admits.platform])
  have hE : s.MethodEntryUp e T.vm m.cls index cn mk ci := State.methodEntryUp X.warmed hl hright
  obtain ⟨dk, cfile, nt, mname, mdesc, ck', _, _, hd, hcf, hcp, hnt, -, -, hck', -, hnopoly, -⟩ := hl.here
  cases hck.symm.trans hck'
  have alike := hE.warmed.alike
  obtain ⟨dk2, hdk2, hed2⟩ := alike.2.2 _ _ hd
  obtain ⟨k2, hk2, he2⟩ := alike.2.2 _ _ hko
  obtain ⟨ck2, hck2, hec2⟩ := alike.2.2 _ _ hck
  have hno : (ck.methods.any fun y => y.name == mname && !y.isStatic && signaturePolymorphic ck y) = false := by simp [hnopoly]
  have hno2 : (ck2.methods.any fun y => y.name == mname && !y.isStatic && signaturePolymorphic ck2 y) = false := by rw [hec2]; exact hno
  have hcp' : cfile.constantPool[index]? = some (if false then .interfaceMethodref ci nt else .methodref ci nt) := hcp
  have X1 := X.noted hE.warmed
  have hstep : ∀ target, (∀ acts, Steps p.tables e below (doInvoke e ((T.setVm (T.vm.calledUp m.cls ci index cn mk)).setTop { g with stack := rest }) acts mk argsL.toArray).1 target) → Steps p.tables e below (T.setTop g) target := by
    intro target hrest
    subst hg
    jvm_step X.here [hexec, hdg, su_warm (e := e) (u := T) (u0 := s) (f := g) X.here.top hpv X.warmed hE hd hcf hcp' hnt hck hno,
      invokestatic.wp_ready (e := e) (s := T.setVm (T.vm.calledUp g.method.cls ci index cn mk)) (k := k2) (meth := mm) (m := mk) (args := argsL) (rest := rest) (f := g)
        X.here.top ⟨ci, mname, mdesc, false, cn, ck2, memberRef_ask_via (e := e) hdk2 (by rw [hed2]; exact hcf) hcp' hnt, hE.classReady, hck2, hno2⟩ hE.ready hk2
        (by show (T.vm.calledUp g.method.cls ci index cn mk).method? mk = some mm; rw [alike.method?]; exact hmm)
        (by rw [he2]; show signaturePolymorphic ko mm = false; simp [signaturePolymorphic, hnm, hy.1, hy.2]) hst (by rw [he2]; exact hini) (hlen _ hsig) hstack]
    exact fun acts => hrest _
  obtain ⟨v, B, X', hpost, hsteps⟩ := hK m meth c ⟨T.setVm _, locs, cells, slots⟩ { g with stack := rest } (.invokestatic index) mk argsL.toArray X1 hg hsize hdg hW (X1.named hnamed) (hpre _ X1.warmed)
  exact ⟨v, _, B, X1.warmed, X', hpost, fun target h => hstep _ fun acts => by rw [doInvoke_state]; exact hsteps.trans h⟩
end SUPS
section SUP
variable {p : Program} {l : Launch} {e : Env} {R : Room} {s : State} {m : MethodId} {args : Array Value} {below : List Frame} {meth : Method} {c : Code} {H : Heap} {locs : List Loc} {cells slots : Nat} {Q : State → Prop}
variable {EV : Ev} {K : List Kd} {D : va_G} {dA : Nat → ClassId} {q : Nat → Nat} {A : Nat → Prop} {own : String} {w w' : Wt}
variable {cc : ByteArray} {pc nL : Nat} {ls : Array Slot} {rest st : List Value}
variable {index : Nat} {y : MethodName} {b : ByteArray} {n : Nat} {ret : Option FieldType} {na : Nat} {rm : Room} {As : List Value} {mc ms : Nat}
theorem q_SU {owner : String} {x : MethodName} {Qc : Array Value → State → Outcome → State → Prop} (link : lkSU own index owner x y b n ret na) (ev : evOk EV) (hx : p.tables.exec = Jvm.exec) (hb : c.code = cc) (hml : c.maxLocals = nL) (C : Cx EV K D dA q A s m args own) (S : Sta K D dA q A s.heap w H locs)
    (hM : Met l y (.code y b n ret :: wall) rm (va_Pc As (Pr EV K D dA q H.size w)) Qc mc ms (Aq K q H.size)) (hrc : rm.cells = mc) (hrs : rm.slots = ms) (hR : rm.frames + 1 ≤ R.frames ∧ 8 + (n + 11) + rm.locals ≤ R.locals) (hn : As.length = na) (hsz : ls.size = nL) (hst : st = As.reverse ++ rest) (hW : (rest.map fun v => v.category).sum ≤ 8) (hdg : decode cc pc = .ok (.invokestatic index, 3)) (hf : cells + mc ≤ R.cells ∧ slots + ms ≤ R.slots) :
    va_Run p l e R s m args below meth c H locs cells slots mc ms (F0 m pc ls st) rest (Qc As.toArray) (Aq K q H.size) := by
  obtain ⟨h1, h2, h3, h4, h5, h6, h7, rfl⟩ := link
  obtain ⟨g1, g2, g3, g4, g5, g6⟩ := r_cb (R := R) C (yl := ⟨owner, x.name, x.desc⟩) h4 h5 hrc hrs hR
  have hK : Back l R p e below s args ⟨owner, x.name, x.desc⟩ 3 8 (PreOf R mc ms (va_Pc As (Pr EV K D dA q H.size w))) (PostOf Qc mc ms (Aq K q H.size)) :=
    back_of (bytes := b) (maxL := n) (ret := ret) hM (Pr.blind ev) g1 g2 g3 g4 g5 g6 (fun a' U hW => word_at hW (Or.inl (by first | rfl | simp [Cond.onTables, Cond.keeps, Cond.steady])) (C.2.1 _ h4))
  intro T hT X
  obtain ⟨v, vm₁, ⟨U', l2, c2, s2⟩, hW₁, X', ⟨g', mk, t, L, e1, e2, hq, k1, hL, k2, k3⟩, st⟩ := su_call X hx (bytes := b) (maxL := n) (ret := ret) C.1 (C.2.1 _ h1) (C.2.1 _ h2) (C.2.1 _ h3) (C.2.1 _ h4) (C.2.1 _ h5) h6 hK (g := F0 m pc ls st) rfl (hsz.trans hml.symm) (argsL := As) (rest := rest) (fun sig h => hn.trans (r_len (y := ⟨owner, x.name, x.desc⟩) h7 sig h)) hst (lv_room hW) (by rw [hb]; exact hdg)
    (fun vm₁ hW₁ => ⟨hf.1, hf.2, Cx.pre ev C S (U := T.setVm vm₁) hT hW₁⟩)
  dsimp only [Pt.U, Pt.locs, Pt.cells, Pt.slots] at X' e1 e2 k1 k2 k3 st
  subst k1; subst k2; subst k3
  exact ⟨v, (T.setVm vm₁).calling g' mk As.toArray, t, U', L, hT, X', hL, e1, e2, hq, st⟩
theorem sk_0 (C : Cx EVc K D dA q A s m args own) : vk_R "Ballotscript$Text" 27 "tbamxrlhq" (sA s 0) s := C.str 0 (by decide) rfl
theorem sk_1 (C : Cx EVc K D dA q A s m args own) : vk_R "Ballotscript$Count" 39 "tba" (sA s 1) s := C.str 1 (by decide) rfl
theorem sk_2 (C : Cx EVc K D dA q A s m args own) : vk_R "Ballotscript$Count" 51 "lhq" (sA s 2) s := C.str 2 (by decide) rfl
end SUP
end
section
/-! the String constants' links and instructions -/
theorem dJ0_indexOf_0f7a4_0 : decode cJ0_indexOf_0f7a4 0 = .ok (.aload_n 0, 1) := by decide +kernel
theorem dJ0_indexOf_0f7a4_1 : decode cJ0_indexOf_0f7a4 1 = .ok (.iload_n 1, 1) := by decide +kernel
theorem dJ0_indexOf_0f7a4_2 : decode cJ0_indexOf_0f7a4 2 = .ok (.iconst 0, 1) := by decide +kernel
theorem dJ0_indexOf_0f7a4_3 : decode cJ0_indexOf_0f7a4 3 = .ok (.invokevirtual 633, 3) := by decide +kernel
theorem dJ0_indexOf_0f7a4_6 : decode cJ0_indexOf_0f7a4 6 = .ok (.ireturn, 1) := by decide +kernel
theorem dJ0_indexOf_7cf53_0 : decode cJ0_indexOf_7cf53 0 = .ok (.aload_n 0, 1) := by decide +kernel
theorem dJ0_indexOf_7cf53_1 : decode cJ0_indexOf_7cf53 1 = .ok (.invokevirtual 492, 3) := by decide +kernel
theorem dJ0_indexOf_7cf53_4 : decode cJ0_indexOf_7cf53 4 = .ok (.ifCond .eq 19, 3) := by decide +kernel
theorem dJ0_indexOf_7cf53_7 : decode cJ0_indexOf_7cf53 7 = .ok (.aload_n 0, 1) := by decide +kernel
theorem dJ0_indexOf_7cf53_8 : decode cJ0_indexOf_7cf53 8 = .ok (.getfield 9, 3) := by decide +kernel
theorem dJ0_indexOf_7cf53_11 : decode cJ0_indexOf_7cf53 11 = .ok (.iload_n 1, 1) := by decide +kernel
theorem dJ0_indexOf_7cf53_12 : decode cJ0_indexOf_7cf53 12 = .ok (.iload_n 2, 1) := by decide +kernel
theorem dJ0_indexOf_7cf53_13 : decode cJ0_indexOf_7cf53 13 = .ok (.aload_n 0, 1) := by decide +kernel
theorem dJ0_indexOf_7cf53_14 : decode cJ0_indexOf_7cf53 14 = .ok (.invokevirtual 505, 3) := by decide +kernel
theorem dJ0_indexOf_7cf53_17 : decode cJ0_indexOf_7cf53 17 = .ok (.invokestatic 637, 3) := by decide +kernel
theorem dJ0_indexOf_7cf53_20 : decode cJ0_indexOf_7cf53 20 = .ok (.goto 16, 3) := by decide +kernel
theorem dJ0_indexOf_7cf53_23 : decode cJ0_indexOf_7cf53 23 = .ok (.aload_n 0, 1) := by decide +kernel
theorem dJ0_indexOf_7cf53_24 : decode cJ0_indexOf_7cf53 24 = .ok (.getfield 9, 3) := by decide +kernel
theorem dJ0_indexOf_7cf53_27 : decode cJ0_indexOf_7cf53 27 = .ok (.iload_n 1, 1) := by decide +kernel
theorem dJ0_indexOf_7cf53_28 : decode cJ0_indexOf_7cf53 28 = .ok (.iload_n 2, 1) := by decide +kernel
theorem dJ0_indexOf_7cf53_29 : decode cJ0_indexOf_7cf53 29 = .ok (.aload_n 0, 1) := by decide +kernel
theorem dJ0_indexOf_7cf53_30 : decode cJ0_indexOf_7cf53 30 = .ok (.invokevirtual 505, 3) := by decide +kernel
theorem dJ0_indexOf_7cf53_33 : decode cJ0_indexOf_7cf53 33 = .ok (.invokestatic 640, 3) := by decide +kernel
theorem dJ0_indexOf_7cf53_36 : decode cJ0_indexOf_7cf53 36 = .ok (.ireturn, 1) := by decide +kernel
theorem dJ0_isLatin1_aae02_0 : decode cJ0_isLatin1_aae02 0 = .ok (.getstatic 38, 3) := by decide +kernel
theorem dJ0_isLatin1_aae02_3 : decode cJ0_isLatin1_aae02 3 = .ok (.ifCond .eq 14, 3) := by decide +kernel
theorem dJ0_isLatin1_aae02_6 : decode cJ0_isLatin1_aae02 6 = .ok (.aload_n 0, 1) := by decide +kernel
theorem dJ0_isLatin1_aae02_7 : decode cJ0_isLatin1_aae02 7 = .ok (.getfield 15, 3) := by decide +kernel
theorem dJ0_isLatin1_aae02_10 : decode cJ0_isLatin1_aae02 10 = .ok (.ifCond .ne 7, 3) := by decide +kernel
theorem dJ0_isLatin1_aae02_13 : decode cJ0_isLatin1_aae02 13 = .ok (.iconst 1, 1) := by decide +kernel
theorem dJ0_isLatin1_aae02_14 : decode cJ0_isLatin1_aae02 14 = .ok (.goto 4, 3) := by decide +kernel
theorem dJ0_isLatin1_aae02_17 : decode cJ0_isLatin1_aae02 17 = .ok (.iconst 0, 1) := by decide +kernel
theorem dJ0_isLatin1_aae02_18 : decode cJ0_isLatin1_aae02 18 = .ok (.ireturn, 1) := by decide +kernel
theorem dJ0_coder_7d493_0 : decode cJ0_coder_7d493 0 = .ok (.getstatic 38, 3) := by decide +kernel
theorem dJ0_coder_7d493_3 : decode cJ0_coder_7d493 3 = .ok (.ifCond .eq 10, 3) := by decide +kernel
theorem dJ0_coder_7d493_6 : decode cJ0_coder_7d493 6 = .ok (.aload_n 0, 1) := by decide +kernel
theorem dJ0_coder_7d493_7 : decode cJ0_coder_7d493 7 = .ok (.getfield 15, 3) := by decide +kernel
theorem dJ0_coder_7d493_10 : decode cJ0_coder_7d493 10 = .ok (.goto 4, 3) := by decide +kernel
theorem dJ0_coder_7d493_13 : decode cJ0_coder_7d493 13 = .ok (.iconst 1, 1) := by decide +kernel
theorem dJ0_coder_7d493_14 : decode cJ0_coder_7d493 14 = .ok (.ireturn, 1) := by decide +kernel
theorem dJ0_length_8abf5_0 : decode cJ0_length_8abf5 0 = .ok (.aload_n 0, 1) := by decide +kernel
theorem dJ0_length_8abf5_1 : decode cJ0_length_8abf5 1 = .ok (.getfield 9, 3) := by decide +kernel
theorem dJ0_length_8abf5_4 : decode cJ0_length_8abf5 4 = .ok (.arraylength, 1) := by decide +kernel
theorem dJ0_length_8abf5_5 : decode cJ0_length_8abf5 5 = .ok (.aload_n 0, 1) := by decide +kernel
theorem dJ0_length_8abf5_6 : decode cJ0_length_8abf5 6 = .ok (.invokevirtual 335, 3) := by decide +kernel
theorem dJ0_length_8abf5_9 : decode cJ0_length_8abf5 9 = .ok (.ishr, 1) := by decide +kernel
theorem dJ0_length_8abf5_10 : decode cJ0_length_8abf5 10 = .ok (.ireturn, 1) := by decide +kernel
theorem dJ1_indexOf_4cfef_0 : decode cJ1_indexOf_4cfef 0 = .ok (.iload_n 1, 1) := by decide +kernel
theorem dJ1_indexOf_4cfef_1 : decode cJ1_indexOf_4cfef 1 = .ok (.invokestatic 88, 3) := by decide +kernel
theorem dJ1_indexOf_4cfef_4 : decode cJ1_indexOf_4cfef 4 = .ok (.ifCond .ne 5, 3) := by decide +kernel
theorem dJ1_indexOf_4cfef_7 : decode cJ1_indexOf_4cfef 7 = .ok (.iconst (-1), 1) := by decide +kernel
theorem dJ1_indexOf_4cfef_8 : decode cJ1_indexOf_4cfef 8 = .ok (.ireturn, 1) := by decide +kernel
theorem dJ1_indexOf_4cfef_9 : decode cJ1_indexOf_4cfef 9 = .ok (.iload_n 2, 1) := by decide +kernel
theorem dJ1_indexOf_4cfef_10 : decode cJ1_indexOf_4cfef 10 = .ok (.iconst 0, 1) := by decide +kernel
theorem dJ1_indexOf_4cfef_11 : decode cJ1_indexOf_4cfef 11 = .ok (.invokestatic 92, 3) := by decide +kernel
theorem dJ1_indexOf_4cfef_14 : decode cJ1_indexOf_4cfef 14 = .ok (.istore_n 2, 1) := by decide +kernel
theorem dJ1_indexOf_4cfef_15 : decode cJ1_indexOf_4cfef 15 = .ok (.iload_n 3, 1) := by decide +kernel
theorem dJ1_indexOf_4cfef_16 : decode cJ1_indexOf_4cfef 16 = .ok (.aload_n 0, 1) := by decide +kernel
theorem dJ1_indexOf_4cfef_17 : decode cJ1_indexOf_4cfef 17 = .ok (.arraylength, 1) := by decide +kernel
theorem dJ1_indexOf_4cfef_18 : decode cJ1_indexOf_4cfef 18 = .ok (.invokestatic 38, 3) := by decide +kernel
theorem dJ1_indexOf_4cfef_21 : decode cJ1_indexOf_4cfef 21 = .ok (.istore_n 3, 1) := by decide +kernel
theorem dJ1_indexOf_4cfef_22 : decode cJ1_indexOf_4cfef 22 = .ok (.iload_n 2, 1) := by decide +kernel
theorem dJ1_indexOf_4cfef_23 : decode cJ1_indexOf_4cfef 23 = .ok (.iload_n 3, 1) := by decide +kernel
theorem dJ1_indexOf_4cfef_24 : decode cJ1_indexOf_4cfef 24 = .ok (.if_icmp .lt 5, 3) := by decide +kernel
theorem dJ1_indexOf_4cfef_27 : decode cJ1_indexOf_4cfef 27 = .ok (.iconst (-1), 1) := by decide +kernel
theorem dJ1_indexOf_4cfef_28 : decode cJ1_indexOf_4cfef 28 = .ok (.ireturn, 1) := by decide +kernel
theorem dJ1_indexOf_4cfef_29 : decode cJ1_indexOf_4cfef 29 = .ok (.aload_n 0, 1) := by decide +kernel
theorem dJ1_indexOf_4cfef_30 : decode cJ1_indexOf_4cfef 30 = .ok (.iload_n 1, 1) := by decide +kernel
theorem dJ1_indexOf_4cfef_31 : decode cJ1_indexOf_4cfef 31 = .ok (.iload_n 2, 1) := by decide +kernel
theorem dJ1_indexOf_4cfef_32 : decode cJ1_indexOf_4cfef 32 = .ok (.iload_n 3, 1) := by decide +kernel
theorem dJ1_indexOf_4cfef_33 : decode cJ1_indexOf_4cfef 33 = .ok (.invokestatic 95, 3) := by decide +kernel
theorem dJ1_indexOf_4cfef_36 : decode cJ1_indexOf_4cfef 36 = .ok (.ireturn, 1) := by decide +kernel
theorem dJ1_canEncode_9a6ad_0 : decode cJ1_canEncode_9a6ad 0 = .ok (.iload_n 0, 1) := by decide +kernel
theorem dJ1_canEncode_9a6ad_1 : decode cJ1_canEncode_9a6ad 1 = .ok (.ifCond .lt 14, 3) := by decide +kernel
theorem dJ1_canEncode_9a6ad_4 : decode cJ1_canEncode_9a6ad 4 = .ok (.iload_n 0, 1) := by decide +kernel
theorem dJ1_canEncode_9a6ad_5 : decode cJ1_canEncode_9a6ad 5 = .ok (.sipush 255, 3) := by decide +kernel
theorem dJ1_canEncode_9a6ad_8 : decode cJ1_canEncode_9a6ad 8 = .ok (.if_icmp .gt 7, 3) := by decide +kernel
theorem dJ1_canEncode_9a6ad_11 : decode cJ1_canEncode_9a6ad 11 = .ok (.iconst 1, 1) := by decide +kernel
theorem dJ1_canEncode_9a6ad_12 : decode cJ1_canEncode_9a6ad 12 = .ok (.goto 4, 3) := by decide +kernel
theorem dJ1_canEncode_9a6ad_15 : decode cJ1_canEncode_9a6ad 15 = .ok (.iconst 0, 1) := by decide +kernel
theorem dJ1_canEncode_9a6ad_16 : decode cJ1_canEncode_9a6ad 16 = .ok (.ireturn, 1) := by decide +kernel
theorem dJ1_indexOfChar_4cfef_0 : decode cJ1_indexOfChar_4cfef 0 = .ok (.iload_n 1, 1) := by decide +kernel
theorem dJ1_indexOfChar_4cfef_1 : decode cJ1_indexOfChar_4cfef 1 = .ok (.i2b, 1) := by decide +kernel
theorem dJ1_indexOfChar_4cfef_2 : decode cJ1_indexOfChar_4cfef 2 = .ok (.istore 4, 2) := by decide +kernel
theorem dJ1_indexOfChar_4cfef_4 : decode cJ1_indexOfChar_4cfef 4 = .ok (.iload_n 2, 1) := by decide +kernel
theorem dJ1_indexOfChar_4cfef_5 : decode cJ1_indexOfChar_4cfef 5 = .ok (.istore 5, 2) := by decide +kernel
theorem dJ1_indexOfChar_4cfef_7 : decode cJ1_indexOfChar_4cfef 7 = .ok (.iload 5, 2) := by decide +kernel
theorem dJ1_indexOfChar_4cfef_9 : decode cJ1_indexOfChar_4cfef 9 = .ok (.iload_n 3, 1) := by decide +kernel
theorem dJ1_indexOfChar_4cfef_10 : decode cJ1_indexOfChar_4cfef 10 = .ok (.if_icmp .ge 21, 3) := by decide +kernel
theorem dJ1_indexOfChar_4cfef_13 : decode cJ1_indexOfChar_4cfef 13 = .ok (.aload_n 0, 1) := by decide +kernel
theorem dJ1_indexOfChar_4cfef_14 : decode cJ1_indexOfChar_4cfef 14 = .ok (.iload 5, 2) := by decide +kernel
theorem dJ1_indexOfChar_4cfef_16 : decode cJ1_indexOfChar_4cfef 16 = .ok (.baload, 1) := by decide +kernel
theorem dJ1_indexOfChar_4cfef_17 : decode cJ1_indexOfChar_4cfef 17 = .ok (.iload 4, 2) := by decide +kernel
theorem dJ1_indexOfChar_4cfef_19 : decode cJ1_indexOfChar_4cfef 19 = .ok (.if_icmp .ne 6, 3) := by decide +kernel
theorem dJ1_indexOfChar_4cfef_22 : decode cJ1_indexOfChar_4cfef 22 = .ok (.iload 5, 2) := by decide +kernel
theorem dJ1_indexOfChar_4cfef_24 : decode cJ1_indexOfChar_4cfef 24 = .ok (.ireturn, 1) := by decide +kernel
theorem dJ1_indexOfChar_4cfef_25 : decode cJ1_indexOfChar_4cfef 25 = .ok (.iinc 5 1, 3) := by decide +kernel
theorem dJ1_indexOfChar_4cfef_28 : decode cJ1_indexOfChar_4cfef 28 = .ok (.goto (-21), 3) := by decide +kernel
theorem dJ1_indexOfChar_4cfef_31 : decode cJ1_indexOfChar_4cfef 31 = .ok (.iconst (-1), 1) := by decide +kernel
theorem dJ1_indexOfChar_4cfef_32 : decode cJ1_indexOfChar_4cfef 32 = .ok (.ireturn, 1) := by decide +kernel
theorem jl_38 : Cond.fieldLink RJ0 38 "java/lang/String" "COMPACT_STRINGS" "Z" ∈ wall := wall_of 376 (by decide +kernel) rfl
theorem jl_15 : Cond.fieldLink RJ0 15 "java/lang/String" "coder" "B" ∈ wall := wall_of 1339 (by decide +kernel) rfl
theorem jl_9 : Cond.fieldLink RJ0 9 "java/lang/String" "value" "[B" ∈ wall := wall_of 1340 (by decide +kernel) rfl
theorem jk_335 : lkV RJ0 335 "java/lang/String" yJ0_coder_7d493 cJ0_coder_7d493 1 (some .byte) 0 := ⟨wall_of 382 (by decide +kernel) rfl, wall_of 383 (by decide +kernel) rfl, wall_of 384 (by decide +kernel) rfl, wall_of 18 (by decide +kernel) rfl, wall_of 385 (by decide +kernel) rfl, ⟨by decide, by decide⟩, by decide +kernel⟩
theorem jk_492 : lkV RJ0 492 "java/lang/String" yJ0_isLatin1_aae02 cJ0_isLatin1_aae02 1 (some .boolean) 0 := ⟨wall_of 372 (by decide +kernel) rfl, wall_of 373 (by decide +kernel) rfl, wall_of 374 (by decide +kernel) rfl, wall_of 18 (by decide +kernel) rfl, wall_of 375 (by decide +kernel) rfl, ⟨by decide, by decide⟩, by decide +kernel⟩
theorem jk_505 : lkV RJ0 505 "java/lang/String" yJ0_length_8abf5 cJ0_length_8abf5 1 (some .int) 0 := ⟨wall_of 378 (by decide +kernel) rfl, wall_of 379 (by decide +kernel) rfl, wall_of 380 (by decide +kernel) rfl, wall_of 18 (by decide +kernel) rfl, wall_of 381 (by decide +kernel) rfl, ⟨by decide, by decide⟩, by decide +kernel⟩
theorem jk_633 : lkV RJ0 633 "java/lang/String" yJ0_indexOf_7cf53 cJ0_indexOf_7cf53 3 (some .int) 2 := ⟨wall_of 368 (by decide +kernel) rfl, wall_of 369 (by decide +kernel) rfl, wall_of 370 (by decide +kernel) rfl, wall_of 18 (by decide +kernel) rfl, wall_of 371 (by decide +kernel) rfl, ⟨by decide, by decide⟩, by decide +kernel⟩
theorem jk_88 : lkS RJ1 88 yJ1_canEncode_9a6ad cJ1_canEncode_9a6ad 1 (some .boolean) 1 := ⟨wall_of 389 (by decide +kernel) rfl, wall_of 390 (by decide +kernel) rfl, wall_of 19 (by decide +kernel) rfl, wall_of 391 (by decide +kernel) rfl, ⟨by decide, by decide⟩, by decide +kernel⟩
theorem jk_95 : lkS RJ1 95 yJ1_indexOfChar_4cfef cJ1_indexOfChar_4cfef 6 (some .int) 4 := ⟨wall_of 398 (by decide +kernel) rfl, wall_of 399 (by decide +kernel) rfl, wall_of 19 (by decide +kernel) rfl, wall_of 400 (by decide +kernel) rfl, ⟨by decide, by decide⟩, by decide +kernel⟩
theorem jk_637 : lkS RJ0 637 yJ1_indexOf_4cfef cJ1_indexOf_4cfef 4 (some .int) 4 := ⟨wall_of 386 (by decide +kernel) rfl, wall_of 387 (by decide +kernel) rfl, wall_of 19 (by decide +kernel) rfl, wall_of 388 (by decide +kernel) rfl, ⟨by decide, by decide⟩, by decide +kernel⟩
theorem jk_92 : Cond.methodLink RJ1 92 Lib.Math.max.name ∈ wall := wall_of 392 (by decide +kernel) rfl
theorem jk_38 : Cond.methodLink RJ1 38 Lib.Math.min.name ∈ wall := wall_of 395 (by decide +kernel) rfl
theorem mx_st : Cond.static Lib.Math.max.name ∈ wall := wall_of 393 (by decide +kernel) rfl
theorem mx_co : Cond.code Lib.Math.max.name Lib.Math.max.code 2 (some .int) ∈ wall := wall_of 394 (by decide +kernel) rfl
theorem mn_st : Cond.static Lib.Math.min.name ∈ wall := wall_of 396 (by decide +kernel) rfl
theorem mn_co : Cond.code Lib.Math.min.name Lib.Math.min.code 2 (some .int) ∈ wall := wall_of 397 (by decide +kernel) rfl
theorem mx_in : Cond.initialized "java/lang/Math" ∈ wall := wall_of 20 (by decide +kernel) rfl
theorem fa_lt0 (x : Int32) : x < 0 ↔ x.toInt < 0 := Int32.lt_iff_toInt_lt
theorem fa_lt1 (x : Int32) : 255 < x ↔ 255 < x.toInt := Int32.lt_iff_toInt_lt
theorem ix_RX7_29 : lkV RX7 29 "java/lang/String" yJ0_indexOf_0f7a4 cJ0_indexOf_0f7a4 2 (some .int) 1 := ⟨wall_of 364 (by decide +kernel) rfl, wall_of 365 (by decide +kernel) rfl, wall_of 366 (by decide +kernel) rfl, wall_of 18 (by decide +kernel) rfl, wall_of 367 (by decide +kernel) rfl, ⟨by decide, by decide⟩, by decide +kernel⟩
theorem ix_RX1_41 : lkV RX1 41 "java/lang/String" yJ0_indexOf_0f7a4 cJ0_indexOf_0f7a4 2 (some .int) 1 := ⟨wall_of 496 (by decide +kernel) rfl, wall_of 365 (by decide +kernel) rfl, wall_of 366 (by decide +kernel) rfl, wall_of 18 (by decide +kernel) rfl, wall_of 367 (by decide +kernel) rfl, ⟨by decide, by decide⟩, by decide +kernel⟩
/-! String.indexOf(char) of the three constants, through the JDK's own methods. sz ≤ z: nothing old is written -/
def Pst (j a t : Nat) (A : Nat → Prop) (U : State) (H : Heap) : Prop := va_O "java/lang/String" a A U H ∧ va_OF "java/lang/String" "coder" "B" (.int 0) a A U H ∧ va_OF "java/lang/String" "value" "[B" (.ref t) a A U H ∧ va_T .byte t (lenS.getD j 0) (fun k => .int ((bytS.getD j []).getD k 0)) A U H ∧ va_Z "java/lang/String" "COMPACT_STRINGS" "Z" (.int 1) A U H
theorem Pst.to {j a t : Nat} {A B : Nat → Prop} {s U : State} {H : Heap} {locs : List Loc} (h : Pst j a t A s s.heap) (hS : va_S A s.heap H locs) (hW : s.WarmedH U.vm) (hAB : ∀ z, B z → A z) : Pst j a t B U H := by
  obtain ⟨h1, h2, h3, h4, h5⟩ := h
  exact ⟨((va_O.moved hW.alike h1).kept hS.2.1).narrow hAB, ((va_OF.moved hW.alike h2).kept hS.2.1).narrow hAB, ((va_OF.moved hW.alike h3).kept hS.2.1).narrow hAB, ((va_T.moved hW.alike h4).kept hS.2.1).narrow hAB, va_Z.narrow (va_Z.kept (va_Z.moved hW.alike h5) hS.2.1) hAB⟩
def Js (l : Launch) (y : MethodName) (b : ByteArray) (n : Nat) (ret : Option FieldType) (rm : Room) (av : List Value) (j a t : Nat) (r : Int32) : Prop :=
  ∀ sz : Nat, Met l y (.code y b n ret :: wall) rm (va_Pc av (fun U => U.heap.size = sz ∧ Pst j a t (fun z => sz ≤ z) U U.heap)) (va_Qi (fun (r' : Int32) (_ : Unit) => r' = r) (fun _ _ => True) (fun z => sz ≤ z)) 0 0 (fun z => sz ≤ z)
theorem Js.blind {av : List Value} {sz j a t : Nat} : FrameBlind (va_Pc av (fun U => U.heap.size = sz ∧ Pst j a t (fun z => sz ≤ z) U U.heap)) := by
  intro x U g mk h
  obtain ⟨h0, h1, h2⟩ := h
  exact ⟨h0, h1, Pst.to (U := U.calling g mk x) h2 va_S.rf (State.WarmedH.refl U) (fun _ h => h)⟩
section STRS
variable {p : Program} {l : Launch} {e : Env} {R : Room} {s : State} {m : MethodId} {args : Array Value} {below : List Frame} {meth : Method} {c : Code} {H : Heap} {locs : List Loc} {Q : State → Prop} {cells slots : Nat}
variable {cc : ByteArray} {pc nL : Nat} {ls : Array Slot} {rest st : List Value} {A : Nat → Prop} {own : String} {index : Nat} {y : MethodName} {b : ByteArray} {n : Nat} {ret : Option FieldType} {na : Nat} {rm : Room} {As : List Value} {j a t : Nat} {r : Int32}
theorem mk_j {ty : FieldType} {av : List Value} (hy : plainName y.cls = true) (ho : y.cls = own) (hn : (lg_sl av).length ≤ n)
    (walk : ∀ (p : Program) (e : Env) (s : State) (m : MethodId) (args : Array Value) (below : List Frame) (meth : Method) (c : Code) (Q : State → Prop) (ls : Array Slot), p.tables.exec = Jvm.exec → c.code = b → c.maxLocals = n → s.vm.findClass own = some m.cls → (∀ w ∈ wall, w.before args s = true) → Pst j a t (fun z => s.heap.size ≤ z) s s.heap → lv_has ls n (lv_args 0 av) →
      (∀ (H : Heap) (locs : List Loc) (ls : Array Slot) (r' : Int32) (pc : Nat), va_S (fun z => s.heap.size ≤ z) s.heap H locs → narrow ty (.int r') = .int r' → r' = r → decode b pc = .ok (.ireturn, 1) → W p l e rm s m args below meth c H locs 0 0 Q (F0 m pc ls [.int r'])) →
      W p l e rm s m args below meth c s.heap [] 0 0 Q (F0 m 0 ls [])) : Js l y b n (some ty) rm av j a t r := by
  intro sz
  refine Met.ofW (cc := b) (maxL := n) (ret := some ty) hy rfl ?_
  intro p e s m args below meth c s₁ B hml hv
  obtain ⟨rfl, rfl, hP⟩ := hv
  have hts := atoms_spec (ws := Cond.code y b n (some ty) :: wall) B.pre
  obtain ⟨ls, e1, hl⟩ := lv_start (m := m) hn
  rw [e1]
  refine walk p e s m _ below meth c _ ls B.exec B.bytes hml (ho ▸ findClass_of_methodNamed B.named) (fun x hx => hts x (List.mem_cons_of_mem _ hx)) hP hl (fun H locs ls r' pc hS hn hr d => ?_)
  subst hr
  exact W.zret (v := r') B.exec B.bytes B.returns hn (fun t ht hW => ⟨⟨r', (), rfl, rfl, trivial⟩, hS.F ht⟩) hS.2.2 d B.notSynchronized
theorem kj_pre (hts : ∀ w ∈ wall, w.before args s = true) (h5 : Cond.code y b n ret ∈ wall) (hR : rm.frames + 1 ≤ R.frames ∧ 8 + (n + 11) + rm.locals ≤ R.locals) :
    rm.frames + 1 ≤ R.frames ∧ 8 + (n + 11) + rm.locals ≤ R.locals ∧ (∀ x ∈ (Cond.code y b n ret :: wall), ∀ (a' : Array Value) (U : State), s.WarmedH U.vm → x.before a' U = true) ∧ Cond.code y b n ret ∈ (Cond.code y b n ret :: wall) :=
  ⟨hR.1, hR.2, pay_in hts (wall_good (fun _ h => h) h5), List.mem_cons_self⟩
theorem kj_V (link : lkV own index "java/lang/String" y b n ret na) (hx : p.tables.exec = Jvm.exec) (hb : c.code = cc) (hml : c.maxLocals = nL) (hown : s.vm.findClass own = some m.cls) (hts : ∀ w ∈ wall, w.before args s = true) (hP : Pst j a t A s s.heap) (hS : va_S A s.heap H locs) (hA : ∀ z, s.heap.size ≤ z → A z)
    (hM : Js l y b n ret rm (.ref a :: As) j a t r) (hrc : rm.cells = 0) (hrs : rm.slots = 0) (hR : rm.frames + 1 ≤ R.frames ∧ 8 + (n + 11) + rm.locals ≤ R.locals) (hn : As.length = na) (hsz : ls.size = nL) (hst : st = As.reverse ++ .ref a :: rest) (hW : (rest.map fun v => v.category).sum ≤ 8) (hdg : decode cc pc = .ok (.invokevirtual index, 3)) (hf : cells + 0 ≤ R.cells ∧ slots + 0 ≤ R.slots)
    (kk : ∀ (H1 : Heap) (locs1 : List Loc), va_S A s.heap H1 locs1 → W p l e R s m args below meth c H1 locs1 cells slots Q (F0 m (pc + 3) ls (.int r :: rest))) : W p l e R s m args below meth c H locs cells slots Q (F0 m pc ls st) := by
  obtain ⟨h1, h2, h3, h4, h5, h6, h7⟩ := link
  obtain ⟨g3, g4, g5, g6⟩ := kj_pre (R := R) hts h5 hR
  have hle : s.heap.size ≤ H.size := hS.1
  have hrec : ∃ cellB : Cell, H[a]? = some cellB ∧ cellB.vm.isStatics = false ∧ s.vm.findClass "java/lang/String" = some cellB.cls := by
    obtain ⟨cell, k1, k2, k3, k4⟩ := hP.1
    exact ⟨cell, by rw [hS.2.1 a (Array.getElem?_eq_some_iff.mp k1).1 k4]; exact k1, k2, k3⟩
  refine va_calli (va_runV (Ts := wall) (C := "java/lang/String") (rest := rest) ⟨hx, hb, hml, hown, hts⟩ (hM H.size) ⟨⟨hrc, hrs, g3, g4, g5, g6, hts _ h5, hts _ h4, h6, r_len h7, hts _ h1⟩, hts _ h2, hts _ h3⟩ ⟨Js.blind, hrec, fun U hU hW => ⟨rfl, by rw [hU], by rw [hU]; exact hP.to hS hW (fun z hz => hA z (Nat.le_trans hle hz))⟩⟩ rfl hn hsz hst (lv_room hW) hdg hf) hS (fun z _ hz => hA z (Nat.le_trans hle hz)) (fun z hz => hA z (Nat.le_trans hle hz)) (fun r' _ t' H1 locs1 ht _ hr' _ _ _ hS1 => ?_)
  subst hr'
  exact kk H1 locs1 hS1
theorem kj_S (link : lkS own index y b n ret na) (hx : p.tables.exec = Jvm.exec) (hb : c.code = cc) (hml : c.maxLocals = nL) (hown : s.vm.findClass own = some m.cls) (hts : ∀ w ∈ wall, w.before args s = true) (hP : Pst j a t A s s.heap) (hS : va_S A s.heap H locs) (hA : ∀ z, s.heap.size ≤ z → A z)
    (hM : Js l y b n ret rm As j a t r) (hrc : rm.cells = 0) (hrs : rm.slots = 0) (hR : rm.frames + 1 ≤ R.frames ∧ 8 + (n + 11) + rm.locals ≤ R.locals) (hn : As.length = na) (hsz : ls.size = nL) (hst : st = As.reverse ++ rest) (hW : (rest.map fun v => v.category).sum ≤ 8) (hdg : decode cc pc = .ok (.invokestatic index, 3)) (hf : cells + 0 ≤ R.cells ∧ slots + 0 ≤ R.slots)
    (kk : ∀ (H1 : Heap) (locs1 : List Loc), va_S A s.heap H1 locs1 → W p l e R s m args below meth c H1 locs1 cells slots Q (F0 m (pc + 3) ls (.int r :: rest))) : W p l e R s m args below meth c H locs cells slots Q (F0 m pc ls st) := by
  obtain ⟨h1, h2, h4, h5, h6, h7⟩ := link
  obtain ⟨g3, g4, g5, g6⟩ := kj_pre (R := R) hts h5 hR
  have hle : s.heap.size ≤ H.size := hS.1
  refine va_calli (va_runS (Ts := wall) (rest := rest) ⟨hx, hb, hml, hown, hts⟩ (hM H.size) ⟨⟨hrc, hrs, g3, g4, g5, g6, hts _ h5, hts _ h4, h6, r_len h7, hts _ h1⟩, hts _ h2⟩ ⟨Js.blind, fun U hU hW => ⟨rfl, by rw [hU], by rw [hU]; exact hP.to hS hW (fun z hz => hA z (Nat.le_trans hle hz))⟩⟩ rfl hn hsz hst (lv_room hW) hdg hf) hS (fun z _ hz => hA z (Nat.le_trans hle hz)) (fun z hz => hA z (Nat.le_trans hle hz)) (fun r' _ t' H1 locs1 ht _ hr' _ _ _ hS1 => ?_)
  subst hr'
  exact kk H1 locs1 hS1
theorem kj_get {n d : String} {v : Value} (hx : p.tables.exec = Jvm.exec) (hb : c.code = cc) (hown : s.vm.findClass own = some m.cls) (hts : ∀ w ∈ wall, w.before args s = true) (hE : va_OF "java/lang/String" n d v a A s s.heap) (hS : va_S A s.heap H locs) (hlink : Cond.fieldLink own index "java/lang/String" n d ∈ wall) (hdg : decode cc pc = .ok (.getfield index, 3))
    (kk : W p l e R s m args below meth c H locs cells slots Q (F0 m (pc + 3) ls (v :: rest))) : W p l e R s m args below meth c H locs cells slots Q (F0 m pc ls (.ref a :: rest)) :=
  va_getX (N := 1) (i := 0) (v := fun _ => v) (ad := fun _ => a) hx hb (fun _ _ => hE) (by decide) hS hown (hts _ hlink) (fun x h => h) hdg kk
end STRS
abbrev rmJ (f lo : Nat) : Room := { frames := f, cells := 0, slots := 0, locals := lo }
section JWALK
variable (l : Launch) (j a t : Nat)
theorem j_coder : Js l yJ0_coder_7d493 cJ0_coder_7d493 1 (some .byte) (rmJ 0 0) [.ref a] j a t 0 :=
  mk_j (own := RJ0) (by decide) rfl (Nat.le_of_ble_eq_true rfl) (fun p e s m args below meth c Q ls hx hb hml hown hts hP hl fin => by
    have hl : lv_has ls 1 [(0, .ref a)] := hl
    have hS : va_S (fun z => s.heap.size ≤ z) s.heap s.heap [] := va_S.rf
    refine va_gets hx hb hP.2.2.2.2 hS hown (hts _ jl_38) (fun _ h => h) dJ0_coder_7d493_0 ?_
    refine lv_if_eq (tgt := 13) hx hb dJ0_coder_7d493_3 rfl (fun c1 => absurd c1 (by decide)) (fun c1 => ?_)
    refine lv_aload_n hx hb dJ0_coder_7d493_6 rfl (lv_at hl 0 rfl) ?_
    refine kj_get hx hb hown hts hP.2.1 hS jl_15 dJ0_coder_7d493_7 ?_
    refine lv_goto (tgt := 14) hx hb dJ0_coder_7d493_10 rfl ?_
    exact fin _ _ _ 0 _ hS (by decide) rfl dJ0_coder_7d493_14)
theorem j_isLatin1 : Js l yJ0_isLatin1_aae02 cJ0_isLatin1_aae02 1 (some .boolean) (rmJ 0 0) [.ref a] j a t 1 :=
  mk_j (own := RJ0) (by decide) rfl (Nat.le_of_ble_eq_true rfl) (fun p e s m args below meth c Q ls hx hb hml hown hts hP hl fin => by
    have hl : lv_has ls 1 [(0, .ref a)] := hl
    have hS : va_S (fun z => s.heap.size ≤ z) s.heap s.heap [] := va_S.rf
    refine va_gets hx hb hP.2.2.2.2 hS hown (hts _ jl_38) (fun _ h => h) dJ0_isLatin1_aae02_0 ?_
    refine lv_if_eq (tgt := 17) hx hb dJ0_isLatin1_aae02_3 rfl (fun c1 => absurd c1 (by decide)) (fun c1 => ?_)
    refine lv_aload_n hx hb dJ0_isLatin1_aae02_6 rfl (lv_at hl 0 rfl) ?_
    refine kj_get hx hb hown hts hP.2.1 hS jl_15 dJ0_isLatin1_aae02_7 ?_
    refine lv_if_ne (tgt := 17) hx hb dJ0_isLatin1_aae02_10 rfl (fun c1 => absurd rfl c1) (fun c1 => ?_)
    refine lv_iconst (v := 1) hx hb dJ0_isLatin1_aae02_13 (by decide) ?_
    refine lv_goto (tgt := 18) hx hb dJ0_isLatin1_aae02_14 rfl ?_
    exact fin _ _ _ 1 _ hS (by decide) rfl dJ0_isLatin1_aae02_18)
theorem j_length (hj : j < 3) : Js l yJ0_length_8abf5 cJ0_length_8abf5 1 (some .int) (rmJ 1 20) [.ref a] j a t (nI (lenS.getD j 0)) :=
  mk_j (own := RJ0) (by decide) rfl (Nat.le_of_ble_eq_true rfl) (fun p e s m args below meth c Q ls hx hb hml hown hts hP hl fin => by
    have hl : lv_has ls 1 [(0, .ref a)] := hl
    have hS : va_S (fun z => s.heap.size ≤ z) s.heap s.heap [] := va_S.rf
    refine lv_aload_n hx hb dJ0_length_8abf5_0 rfl (lv_at hl 0 rfl) ?_
    refine kj_get hx hb hown hts hP.2.2.1 hS jl_9 dJ0_length_8abf5_1 ?_
    refine va_tlen hx hb hP.2.2.2.1 hS (v := nI (lenS.getD j 0)) rfl dJ0_length_8abf5_4 ?_
    refine lv_aload_n hx hb dJ0_length_8abf5_5 rfl (lv_at hl 0 rfl) ?_
    refine kj_V (rest := [.int (nI (lenS.getD j 0))]) (As := []) jk_335 hx hb hml hown hts hP hS (fun _ h => h) (j_coder l j a t) rfl rfl ⟨Nat.le_of_ble_eq_true rfl, Nat.le_of_ble_eq_true rfl⟩ rfl hl.1 rfl (Nat.le_of_ble_eq_true rfl) dJ0_length_8abf5_6 ⟨Nat.le_of_ble_eq_true rfl, Nat.le_of_ble_eq_true rfl⟩ (fun H locs hS => ?_)
    refine lv_ishr hx hb dJ0_length_8abf5_9 ?_
    exact fin _ _ _ _ _ hS rfl (sb_shr0 _) dJ0_length_8abf5_10)
theorem j_canEncode (x : Int32) : Js l yJ1_canEncode_9a6ad cJ1_canEncode_9a6ad 1 (some .boolean) (rmJ 0 0) [.int x] j a t (if x < 0 then 0 else if 255 < x then 0 else 1) :=
  mk_j (own := RJ1) (by decide) rfl (Nat.le_of_ble_eq_true rfl) (fun p e s m args below meth c Q ls hx hb hml hown hts hP hl fin => by
    have hl : lv_has ls 1 [(0, .int x)] := hl
    have hS : va_S (fun z => s.heap.size ≤ z) s.heap s.heap [] := va_S.rf
    refine lv_iload_n hx hb dJ1_canEncode_9a6ad_0 rfl (lv_at hl 0 rfl) ?_
    refine lv_if_lt (tgt := 15) hx hb dJ1_canEncode_9a6ad_1 rfl (fun c1 => ?_) (fun c1 => ?_)
    · refine lv_iconst (v := 0) hx hb dJ1_canEncode_9a6ad_15 (by decide) ?_
      exact fin _ _ _ 0 _ hS (by decide) (by rw [if_pos c1]) dJ1_canEncode_9a6ad_16
    · refine lv_iload_n hx hb dJ1_canEncode_9a6ad_4 rfl (lv_at hl 0 rfl) ?_
      refine lv_sipush (v := 255) hx hb dJ1_canEncode_9a6ad_5 (by decide) ?_
      refine lv_icmp_gt (tgt := 15) hx hb dJ1_canEncode_9a6ad_8 rfl (fun c2 => ?_) (fun c2 => ?_)
      · refine lv_iconst (v := 0) hx hb dJ1_canEncode_9a6ad_15 (by decide) ?_
        exact fin _ _ _ 0 _ hS (by decide) (by rw [if_neg c1, if_pos c2]) dJ1_canEncode_9a6ad_16
      · refine lv_iconst (v := 1) hx hb dJ1_canEncode_9a6ad_11 (by decide) ?_
        refine lv_goto (tgt := 16) hx hb dJ1_canEncode_9a6ad_12 rfl ?_
        exact fin _ _ _ 1 _ hS (by decide) (by rw [if_neg c1, if_neg c2]) dJ1_canEncode_9a6ad_16)
/-- the texts: short, of signs below 128 -/
theorem bytS_ok : ∀ j, j < 3 → lenS.getD j 0 = (bytS.getD j []).length ∧ (bytS.getD j []).length < 100 ∧ ∀ b ∈ bytS.getD j [], 0 ≤ b.toInt ∧ b.toInt < 128 := by decide +kernel
theorem ix_b8 (x b : Int32) (h1 : ¬ x < 0) (h2 : ¬ 255 < x) (hb : 0 ≤ b.toInt ∧ b.toInt < 128) : (b = x.toInt8.toInt32) ↔ b = x := by
  obtain ⟨n, hn, rfl⟩ := nI_of h1
  have hn2 : n < 256 := by
    rcases Nat.lt_or_ge n 256 with q | q
    · exact q
    · exact absurd (nI_lt (a := 255) (b := n) (by omega) hn) h2
  obtain ⟨k, hk, rfl⟩ := vp_in_of (n := 128) (vp_in_iff.mpr hb) (by decide)
  have key : ∀ n, n < 256 → ∀ k, k < 128 → ((nI k = (nI n).toInt8.toInt32) ↔ nI k = nI n) := by decide +kernel
  exact key n hn2 k hk
theorem j_ixLoop (x : Int32) (hj : j < 3) (h1 : ¬ x < 0) (h2 : ¬ 255 < x) : Js l yJ1_indexOfChar_4cfef cJ1_indexOfChar_4cfef 6 (some .int) (rmJ 0 0) [.ref t, .int x, .int 0, .int (nI (lenS.getD j 0))] j a t (sIx j x) :=
  mk_j (own := RJ1) (by decide) rfl (Nat.le_of_ble_eq_true rfl) (fun p e s m args below meth c Q ls hx hb hml hown hts hP hl fin => by
    have hl : lv_has ls 6 [(0, .ref t), (1, .int x), (2, .int 0), (3, .int (nI (lenS.getD j 0)))] := hl
    have hS : va_S (fun z => s.heap.size ≤ z) s.heap s.heap [] := va_S.rf
    obtain ⟨bl, bs, bb⟩ := bytS_ok j hj
    refine lv_iload_n hx hb dJ1_indexOfChar_4cfef_0 rfl (lv_at hl 1 rfl) ?_
    refine lv_i2b hx hb dJ1_indexOfChar_4cfef_1 rfl ?_
    refine lv_istore (lv' := [(4, .int x.toInt8.toInt32), (0, .ref t), (1, .int x), (2, .int 0), (3, .int (nI (lenS.getD j 0)))]) hx hb dJ1_indexOfChar_4cfef_2 hl (Nat.le_of_ble_eq_true rfl) rfl (fun ls hl => ?_)
    refine lv_iload_n hx hb dJ1_indexOfChar_4cfef_4 rfl (lv_at hl 3 rfl) ?_
    refine lv_istore (lv' := [(5, .int 0), (4, .int x.toInt8.toInt32), (0, .ref t), (1, .int x), (2, .int 0), (3, .int (nI (lenS.getD j 0)))]) hx hb dJ1_indexOfChar_4cfef_5 hl (Nat.le_of_ble_eq_true rfl) rfl (fun ls hl => ?_)
    have loop : ∀ (d : List Int32) (k : Nat) (ls : Array Slot), (bytS.getD j []).drop k = d → k ≤ (bytS.getD j []).length → sIx j x = ixF x d k → lv_has ls 6 [(5, .int (nI k)), (4, .int x.toInt8.toInt32), (0, .ref t), (3, .int (nI (lenS.getD j 0)))] → W p l e (rmJ 0 0) s m args below meth c s.heap [] 0 0 Q (F0 m 7 ls []) := by
      intro d
      induction d with
      | nil =>
        intro k ls hd hk hr hl
        have hk2 : (bytS.getD j []).length ≤ k := List.drop_eq_nil_iff.mp hd
        refine lv_iload hx hb dJ1_indexOfChar_4cfef_7 (lv_at hl 0 rfl) ?_
        refine lv_iload_n hx hb dJ1_indexOfChar_4cfef_9 rfl (lv_at hl 3 rfl) ?_
        refine lv_icmp_ge (tgt := 31) hx hb dJ1_indexOfChar_4cfef_10 rfl (fun c1 => ?_) (fun c1 => absurd (nI_le (by omega) (by omega)) c1)
        refine lv_iconst (v := -1) hx hb dJ1_indexOfChar_4cfef_31 (by decide) ?_
        exact fin _ _ _ _ _ hS rfl hr.symm dJ1_indexOfChar_4cfef_32
      | cons b d ih =>
        intro k ls hd hk hr hl
        obtain ⟨d1, d2, d3, d4⟩ := sc_dropC hd
        refine lv_iload hx hb dJ1_indexOfChar_4cfef_7 (lv_at hl 0 rfl) ?_
        refine lv_iload_n hx hb dJ1_indexOfChar_4cfef_9 rfl (lv_at hl 3 rfl) ?_
        refine lv_icmp_ge (tgt := 31) hx hb dJ1_indexOfChar_4cfef_10 rfl (fun c1 => absurd c1 (nI_ge (by omega) (by omega))) (fun c1 => ?_)
        refine lv_aload_n hx hb dJ1_indexOfChar_4cfef_13 rfl (lv_at hl 2 rfl) ?_
        refine lv_iload hx hb dJ1_indexOfChar_4cfef_14 (lv_at hl 0 rfl) ?_
        refine va_tb hx hb hP.2.2.2.1 hS (vp_in_nI (by omega) (by omega)) (v := .int b) (by rw [nI_clamp (by omega), d2]) dJ1_indexOfChar_4cfef_16 ?_
        refine lv_iload hx hb dJ1_indexOfChar_4cfef_17 (lv_at hl 1 rfl) ?_
        have hb8 := ix_b8 x b h1 h2 (bb b d4)
        rw [ixF] at hr
        refine lv_icmp_ne (tgt := 25) hx hb dJ1_indexOfChar_4cfef_19 rfl (fun c2 => ?_) (fun c2 => ?_)
        · rw [if_neg (fun z => c2 (hb8.mpr z))] at hr
          refine lv_iinc (v := nI (k + 1)) (lv' := [(5, .int (nI (k + 1))), (4, .int x.toInt8.toInt32), (0, .ref t), (3, .int (nI (lenS.getD j 0)))]) hx hb dJ1_indexOfChar_4cfef_25 hl (k := 0) rfl (nI_succ k).symm (Nat.le_of_ble_eq_true rfl) rfl (fun ls hl => ?_)
          refine lv_goto (tgt := 7) hx hb dJ1_indexOfChar_4cfef_28 rfl ?_
          exact ih (k + 1) ls d3 (by omega) hr hl
        · rw [if_pos (hb8.mp c2)] at hr
          refine lv_iload hx hb dJ1_indexOfChar_4cfef_22 (lv_at hl 0 rfl) ?_
          exact fin _ _ _ _ _ hS rfl hr.symm dJ1_indexOfChar_4cfef_24
    exact loop _ 0 ls rfl (Nat.zero_le _) rfl (by rw [nI_0]; exact lv_sub hl [0, 1, 2, 5] rfl))
theorem sIx_out {x : Int32} (hj : j < 3) (h : x < 0 ∨ 255 < x) : sIx j x = -1 := by
  obtain ⟨-, -, bb⟩ := bytS_ok j hj
  have key : ∀ (d : List Int32) (k : Nat), (∀ b ∈ d, 0 ≤ b.toInt ∧ b.toInt < 128) → ixF x d k = -1 := by
    intro d
    induction d with
    | nil => intro k _; rfl
    | cons b d ih =>
      intro k hb
      have h1 := hb b List.mem_cons_self
      have hne : ¬ b = x := by
        rintro rfl
        rw [fa_lt0, fa_lt1] at h
        omega
      rw [ixF, if_neg hne]
      exact ih (k + 1) (fun y hy => hb y (List.mem_cons_of_mem _ hy))
  exact key _ 0 bb
theorem j_ixL1 (x : Int32) (hj : j < 3) : Js l yJ1_indexOf_4cfef cJ1_indexOf_4cfef 4 (some .int) (rmJ 2 60) [.ref t, .int x, .int 0, .int (nI (lenS.getD j 0))] j a t (sIx j x) :=
  mk_j (own := RJ1) (by decide) rfl (Nat.le_of_ble_eq_true rfl) (fun p e s m args below meth c Q ls hx hb hml hown hts hP hl fin => by
    have hl : lv_has ls 4 [(0, .ref t), (1, .int x), (2, .int 0), (3, .int (nI (lenS.getD j 0)))] := hl
    have hS : va_S (fun z => s.heap.size ≤ z) s.heap s.heap [] := va_S.rf
    obtain ⟨bl, bs, bb⟩ := bytS_ok j hj
    have hpos : 0 < (bytS.getD j []).length := (show ∀ j, j < 3 → 0 < (bytS.getD j []).length by decide +kernel) j hj
    refine lv_iload_n hx hb dJ1_indexOf_4cfef_0 rfl (lv_at hl 1 rfl) ?_
    refine kj_S (rest := []) (As := [.int x]) jk_88 hx hb hml hown hts hP hS (fun _ h => h) (j_canEncode l j a t x) rfl rfl ⟨Nat.le_of_ble_eq_true rfl, Nat.le_of_ble_eq_true rfl⟩ rfl hl.1 rfl (Nat.le_of_ble_eq_true rfl) dJ1_indexOf_4cfef_1 ⟨Nat.le_of_ble_eq_true rfl, Nat.le_of_ble_eq_true rfl⟩ (fun H locs hS => ?_)
    by_cases h1 : x < 0
    · refine lv_if_ne (tgt := 9) hx hb dJ1_indexOf_4cfef_4 rfl (fun c1 => absurd (by rw [if_pos h1]) c1) (fun c1 => ?_)
      refine lv_iconst (v := -1) hx hb dJ1_indexOf_4cfef_7 (by decide) ?_
      exact fin _ _ _ _ _ hS rfl (sIx_out j hj (Or.inl h1)).symm dJ1_indexOf_4cfef_8
    by_cases h2 : 255 < x
    · refine lv_if_ne (tgt := 9) hx hb dJ1_indexOf_4cfef_4 rfl (fun c1 => absurd (by rw [if_neg h1, if_pos h2]) c1) (fun c1 => ?_)
      refine lv_iconst (v := -1) hx hb dJ1_indexOf_4cfef_7 (by decide) ?_
      exact fin _ _ _ _ _ hS rfl (sIx_out j hj (Or.inr h2)).symm dJ1_indexOf_4cfef_8
    refine lv_if_ne (tgt := 9) hx hb dJ1_indexOf_4cfef_4 rfl (fun c1 => ?_) (fun c1 => absurd c1 (by rw [if_neg h1, if_neg h2]; decide))
    refine lv_iload_n hx hb dJ1_indexOf_4cfef_9 rfl (lv_at hl 2 rfl) ?_
    refine lv_iconst (v := 0) hx hb dJ1_indexOf_4cfef_10 (by decide) ?_
    refine va_mmax hx hb (hml.trans hl.1.symm) hown (hts _ jk_92) (hts _ mx_st) (hts _ mx_in) (hts _ mx_co) (Nat.le_of_ble_eq_true rfl) (Nat.le_of_ble_eq_true rfl) (Nat.le_of_ble_eq_true rfl) (Nat.le_of_ble_eq_true rfl) dJ1_indexOf_4cfef_11 ?_
    rw [show (if (0 : Int32) < 0 then (0 : Int32) else 0) = 0 from rfl]
    refine lv_istore_n (lv' := [(2, .int 0), (0, .ref t), (1, .int x), (3, .int (nI (lenS.getD j 0)))]) hx hb dJ1_indexOf_4cfef_14 rfl hl (Nat.le_of_ble_eq_true rfl) rfl (fun ls hl => ?_)
    refine lv_iload_n hx hb dJ1_indexOf_4cfef_15 rfl (lv_at hl 3 rfl) ?_
    refine lv_aload_n hx hb dJ1_indexOf_4cfef_16 rfl (lv_at hl 1 rfl) ?_
    refine va_tlen hx hb hP.2.2.2.1 hS (v := nI (lenS.getD j 0)) rfl dJ1_indexOf_4cfef_17 ?_
    refine va_mmin hx hb (hml.trans hl.1.symm) hown (hts _ jk_38) (hts _ mn_st) (hts _ mx_in) (hts _ mn_co) (Nat.le_of_ble_eq_true rfl) (Nat.le_of_ble_eq_true rfl) (Nat.le_of_ble_eq_true rfl) (Nat.le_of_ble_eq_true rfl) dJ1_indexOf_4cfef_18 ?_
    rw [ite_self]
    refine lv_istore_n (lv' := [(3, .int (nI (lenS.getD j 0))), (2, .int 0), (0, .ref t), (1, .int x)]) hx hb dJ1_indexOf_4cfef_21 rfl hl (Nat.le_of_ble_eq_true rfl) rfl (fun ls hl => ?_)
    refine lv_iload_n hx hb dJ1_indexOf_4cfef_22 rfl (lv_at hl 1 rfl) ?_
    refine lv_iload_n hx hb dJ1_indexOf_4cfef_23 rfl (lv_at hl 0 rfl) ?_
    refine lv_icmp_lt (tgt := 29) hx hb dJ1_indexOf_4cfef_24 rfl (fun c2 => ?_) (fun c2 => absurd (nI_lt (a := 0) (b := lenS.getD j 0) (by omega) (by omega)) c2)
    refine lv_aload_n hx hb dJ1_indexOf_4cfef_29 rfl (lv_at hl 2 rfl) ?_
    refine lv_iload_n hx hb dJ1_indexOf_4cfef_30 rfl (lv_at hl 3 rfl) ?_
    refine lv_iload_n hx hb dJ1_indexOf_4cfef_31 rfl (lv_at hl 1 rfl) ?_
    refine lv_iload_n hx hb dJ1_indexOf_4cfef_32 rfl (lv_at hl 0 rfl) ?_
    refine kj_S (rest := []) (As := [.ref t, .int x, .int 0, .int (nI (lenS.getD j 0))]) jk_95 hx hb hml hown hts hP hS (fun _ h => h) (j_ixLoop l j a t x hj h1 h2) rfl rfl ⟨Nat.le_of_ble_eq_true rfl, Nat.le_of_ble_eq_true rfl⟩ rfl hl.1 rfl (Nat.le_of_ble_eq_true rfl) dJ1_indexOf_4cfef_33 ⟨Nat.le_of_ble_eq_true rfl, Nat.le_of_ble_eq_true rfl⟩ (fun H locs hS => ?_)
    exact fin _ _ _ _ _ hS rfl rfl dJ1_indexOf_4cfef_36)
theorem j_ixII (x : Int32) (hj : j < 3) : Js l yJ0_indexOf_7cf53 cJ0_indexOf_7cf53 3 (some .int) (rmJ 3 100) [.ref a, .int x, .int 0] j a t (sIx j x) :=
  mk_j (own := RJ0) (by decide) rfl (Nat.le_of_ble_eq_true rfl) (fun p e s m args below meth c Q ls hx hb hml hown hts hP hl fin => by
    have hl : lv_has ls 3 [(0, .ref a), (1, .int x), (2, .int 0)] := hl
    have hS : va_S (fun z => s.heap.size ≤ z) s.heap s.heap [] := va_S.rf
    refine lv_aload_n hx hb dJ0_indexOf_7cf53_0 rfl (lv_at hl 0 rfl) ?_
    refine kj_V (rest := []) (As := []) jk_492 hx hb hml hown hts hP hS (fun _ h => h) (j_isLatin1 l j a t) rfl rfl ⟨Nat.le_of_ble_eq_true rfl, Nat.le_of_ble_eq_true rfl⟩ rfl hl.1 rfl (Nat.le_of_ble_eq_true rfl) dJ0_indexOf_7cf53_1 ⟨Nat.le_of_ble_eq_true rfl, Nat.le_of_ble_eq_true rfl⟩ (fun H locs hS => ?_)
    refine lv_if_eq (tgt := 23) hx hb dJ0_indexOf_7cf53_4 rfl (fun c1 => absurd c1 (by decide)) (fun c1 => ?_)
    refine lv_aload_n hx hb dJ0_indexOf_7cf53_7 rfl (lv_at hl 0 rfl) ?_
    refine kj_get hx hb hown hts hP.2.2.1 hS jl_9 dJ0_indexOf_7cf53_8 ?_
    refine lv_iload_n hx hb dJ0_indexOf_7cf53_11 rfl (lv_at hl 1 rfl) ?_
    refine lv_iload_n hx hb dJ0_indexOf_7cf53_12 rfl (lv_at hl 2 rfl) ?_
    refine lv_aload_n hx hb dJ0_indexOf_7cf53_13 rfl (lv_at hl 0 rfl) ?_
    refine kj_V (rest := [.int 0, .int x, .ref t]) (As := []) jk_505 hx hb hml hown hts hP hS (fun _ h => h) (j_length l j a t hj) rfl rfl ⟨Nat.le_of_ble_eq_true rfl, Nat.le_of_ble_eq_true rfl⟩ rfl hl.1 rfl (Nat.le_of_ble_eq_true rfl) dJ0_indexOf_7cf53_14 ⟨Nat.le_of_ble_eq_true rfl, Nat.le_of_ble_eq_true rfl⟩ (fun H locs hS => ?_)
    refine kj_S (rest := []) (As := [.ref t, .int x, .int 0, .int (nI (lenS.getD j 0))]) jk_637 hx hb hml hown hts hP hS (fun _ h => h) (j_ixL1 l j a t x hj) rfl rfl ⟨Nat.le_of_ble_eq_true rfl, Nat.le_of_ble_eq_true rfl⟩ rfl hl.1 rfl (Nat.le_of_ble_eq_true rfl) dJ0_indexOf_7cf53_17 ⟨Nat.le_of_ble_eq_true rfl, Nat.le_of_ble_eq_true rfl⟩ (fun H locs hS => ?_)
    refine lv_goto (tgt := 36) hx hb dJ0_indexOf_7cf53_20 rfl ?_
    exact fin _ _ _ _ _ hS rfl rfl dJ0_indexOf_7cf53_36)
theorem j_ixI (x : Int32) (hj : j < 3) : Js l yJ0_indexOf_0f7a4 cJ0_indexOf_0f7a4 2 (some .int) (rmJ 4 130) [.ref a, .int x] j a t (sIx j x) :=
  mk_j (own := RJ0) (by decide) rfl (Nat.le_of_ble_eq_true rfl) (fun p e s m args below meth c Q ls hx hb hml hown hts hP hl fin => by
    have hl : lv_has ls 2 [(0, .ref a), (1, .int x)] := hl
    have hS : va_S (fun z => s.heap.size ≤ z) s.heap s.heap [] := va_S.rf
    refine lv_aload_n hx hb dJ0_indexOf_0f7a4_0 rfl (lv_at hl 0 rfl) ?_
    refine lv_iload_n hx hb dJ0_indexOf_0f7a4_1 rfl (lv_at hl 1 rfl) ?_
    refine lv_iconst (v := 0) hx hb dJ0_indexOf_0f7a4_2 (by decide) ?_
    refine kj_V (rest := []) (As := [.int x, .int 0]) jk_633 hx hb hml hown hts hP hS (fun _ h => h) (j_ixII l j a t x hj) rfl rfl ⟨Nat.le_of_ble_eq_true rfl, Nat.le_of_ble_eq_true rfl⟩ rfl hl.1 rfl (Nat.le_of_ble_eq_true rfl) dJ0_indexOf_0f7a4_3 ⟨Nat.le_of_ble_eq_true rfl, Nat.le_of_ble_eq_true rfl⟩ (fun H locs hS => ?_)
    exact fin _ _ _ _ _ hS rfl rfl dJ0_indexOf_0f7a4_6)
end JWALK
section SUP2
variable {p : Program} {l : Launch} {e : Env} {R : Room} {s : State} {m : MethodId} {args : Array Value} {below : List Frame} {meth : Method} {c : Code} {H : Heap} {locs : List Loc} {cells slots : Nat} {Q : State → Prop}
variable {K : List Kd} {D : va_G} {dA : Nat → ClassId} {q : Nat → Nat} {A : Nat → Prop} {own : String} {w : Wt} {cc : ByteArray} {pc nL : Nat} {ls : Array Slot} {rest : List Value} {index : Nat}
theorem k_ix {j : Nat} {x : Int32} (L : lkV own index "java/lang/String" yJ0_indexOf_0f7a4 cJ0_indexOf_0f7a4 2 (some .int) 1) (hx : p.tables.exec = Jvm.exec) (hb : c.code = cc) (hml : c.maxLocals = nL) (C : Cx EVc K D dA q A s m args own) (S : Sta K D dA q A s.heap w H locs) (hj : j < 3) (hf : 8 ≤ R.frames) (hlo : 200 ≤ R.locals) (hsz : ls.size = nL) (hW : (rest.map fun v => v.category).sum ≤ 8) (hcs : cells ≤ R.cells ∧ slots ≤ R.slots) (hdg : decode cc pc = .ok (.invokevirtual index, 3))
    (kk : ∀ (H1 : Heap) (locs1 : List Loc), Sta K D dA q A s.heap w H1 locs1 → W p l e R s m args below meth c H1 locs1 cells slots Q (F0 m (pc + 3) ls (.int (sIx j x) :: rest))) : W p l e R s m args below meth c H locs cells slots Q (F0 m pc ls (.int x :: .ref (sA s j) :: rest)) := by
  obtain ⟨-, -, -, ⟨adV, hvs, -⟩, -, -, hZ⟩ := C.2.2.2.2.2.2
  obtain ⟨v1, v2, v3, v4⟩ := hvs j hj
  have hP : Pst j (sA s j) (adV j) A s s.heap := ⟨v1, v2, v3, v4, hZ⟩
  have hM : Js l yJ0_indexOf_0f7a4 cJ0_indexOf_0f7a4 2 (some .int) (rmJ 4 130) [.ref (sA s j), .int x] j (sA s j) (adV j) (sIx j x) := j_ixI l j (sA s j) (adV j) x hj
  have hle : s.heap.size ≤ H.size := S.2.1
  obtain ⟨h1, h2, h3, h4, h5, h6, h7⟩ := L
  obtain ⟨g3, g4, g5, g6⟩ := kj_pre (R := R) (rm := rmJ 4 130) (n := 2) C.2.1 h5 ⟨by show 4 + 1 ≤ _; omega, by show 8 + (2 + 11) + 130 ≤ _; omega⟩
  have hrec : ∃ cellB : Cell, H[sA s j]? = some cellB ∧ cellB.vm.isStatics = false ∧ s.vm.findClass "java/lang/String" = some cellB.cls := by
    obtain ⟨cell, k1, k2, k3, k4⟩ := hP.1
    exact ⟨cell, by rw [S.2.2.1 _ (Array.getElem?_eq_some_iff.mp k1).1 k4]; exact k1, k2, k3⟩
  have hA : ∀ z, s.heap.size ≤ z → A z := C.2.2.2.2.2.1
  refine va_calli (va_runV (Ts := wall) (C := "java/lang/String") (As := [.int x]) (rest := rest) ⟨hx, hb, hml, C.1, C.2.1⟩ (hM H.size) ⟨⟨rfl, rfl, g3, g4, g5, g6, C.2.1 _ h5, C.2.1 _ h4, h6, r_len h7, C.2.1 _ h1⟩, C.2.1 _ h2, C.2.1 _ h3⟩ ⟨Js.blind, hrec, fun U hU hW => ⟨rfl, by rw [hU], by rw [hU]; exact hP.to S.2 hW (fun z hz => hA z (Nat.le_trans hle hz))⟩⟩ rfl rfl hsz rfl (lv_room hW) hdg ⟨hcs.1, hcs.2⟩) S.2 (fun z _ hz => hA z (Nat.le_trans hle hz)) (fun z hz => hA z (Nat.le_trans hle hz)) (fun r' _ t' H1 locs1 ht _ hr' _ hz hk hS1 => ?_)
  subst hr'
  exact kk H1 locs1 ⟨va_P_mono S.1 (fun z hz => hk z hz (Nat.not_le.mpr hz)), hS1⟩
end SUP2
end

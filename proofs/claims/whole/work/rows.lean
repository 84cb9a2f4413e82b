section
-- ===== PART A: goes FIRST, ahead of the names: the tables' words, and 'selects' of the private methods out of them =====
/-- a private method of a class that the tables say can be made, by its rows of tables_1 -/
def lw_okq (q : MethodName × Nat) : Prop := (q.1.cls ≠ "java/lang/invoke/MethodHandle" ∧ q.1.cls ≠ "java/lang/invoke/VarHandle") ∧ Cond.instantiable q.1.cls q.2 ∈ tables_1 ∧ Cond.privateMethod q.1 ∈ tables_1 ∧ Cond.instanceMethod q.1 ∈ tables_1
theorem lw_p0 : lw_okq (⟨"Ballotscript", "countVote", "(I)LBallotscript$MachineCount;"⟩, 11) := ⟨⟨by decide +kernel, by decide +kernel⟩, List.mem_of_getElem? (i := 26) (by decide +kernel), List.mem_of_getElem? (i := 456) (by decide +kernel), List.mem_of_getElem? (i := 457) (by decide +kernel)⟩
theorem lw_p1 : lw_okq (⟨"Ballotscript$MachineCount", "stepAfterPass", "(II)I"⟩, 12) := ⟨⟨by decide +kernel, by decide +kernel⟩, List.mem_of_getElem? (i := 152) (by decide +kernel), List.mem_of_getElem? (i := 485) (by decide +kernel), List.mem_of_getElem? (i := 486) (by decide +kernel)⟩
theorem lw_p2 : lw_okq (⟨"Ballotscript$MachineCount", "addBallot", "(ICI)I"⟩, 12) := ⟨⟨by decide +kernel, by decide +kernel⟩, List.mem_of_getElem? (i := 152) (by decide +kernel), List.mem_of_getElem? (i := 507) (by decide +kernel), List.mem_of_getElem? (i := 508) (by decide +kernel)⟩
theorem lw_p3 : lw_okq (⟨"Ballotscript$HandCount", "givenBy", "(III)I"⟩, 10) := ⟨⟨by decide +kernel, by decide +kernel⟩, List.mem_of_getElem? (i := 223) (by decide +kernel), List.mem_of_getElem? (i := 541) (by decide +kernel), List.mem_of_getElem? (i := 542) (by decide +kernel)⟩
theorem lw_p4 : lw_okq (⟨"Ballotscript$HandCount", "gaveSomething", "(II)Z"⟩, 10) := ⟨⟨by decide +kernel, by decide +kernel⟩, List.mem_of_getElem? (i := 223) (by decide +kernel), List.mem_of_getElem? (i := 566) (by decide +kernel), List.mem_of_getElem? (i := 567) (by decide +kernel)⟩
theorem lw_p5 : lw_okq (⟨"java/lang/Throwable", "fillInStackTrace", "(I)Ljava/lang/Throwable;"⟩, 6) := ⟨⟨by decide +kernel, by decide +kernel⟩, List.mem_of_getElem? (i := 633) (by decide +kernel), List.mem_of_getElem? (i := 631) (by decide +kernel), List.mem_of_getElem? (i := 632) (by decide +kernel)⟩
theorem lw_p6 : lw_okq (⟨"Ballotscript$Rule", "addStep", "(CI)I"⟩, 6) := ⟨⟨by decide +kernel, by decide +kernel⟩, List.mem_of_getElem? (i := 243) (by decide +kernel), List.mem_of_getElem? (i := 760) (by decide +kernel), List.mem_of_getElem? (i := 761) (by decide +kernel)⟩
theorem lw_p7 : lw_okq (⟨"Ballotscript", "needVote", "(I)V"⟩, 11) := ⟨⟨by decide +kernel, by decide +kernel⟩, List.mem_of_getElem? (i := 26) (by decide +kernel), List.mem_of_getElem? (i := 800) (by decide +kernel), List.mem_of_getElem? (i := 801) (by decide +kernel)⟩
theorem lw_p8 : lw_okq (⟨"Ballotscript", "needBallot", "(I)V"⟩, 11) := ⟨⟨by decide +kernel, by decide +kernel⟩, List.mem_of_getElem? (i := 26) (by decide +kernel), List.mem_of_getElem? (i := 848) (by decide +kernel), List.mem_of_getElem? (i := 849) (by decide +kernel)⟩
theorem lw_p9 : lw_okq (⟨"BallotscriptModel", "goes", "(ZZZ)Z"⟩, 46) := ⟨⟨by decide +kernel, by decide +kernel⟩, List.mem_of_getElem? (i := 975) (by decide +kernel), List.mem_of_getElem? (i := 1134) (by decide +kernel), List.mem_of_getElem? (i := 1135) (by decide +kernel)⟩
theorem lw_p10 : lw_okq (⟨"BallotscriptModel", "counting", "()I"⟩, 46) := ⟨⟨by decide +kernel, by decide +kernel⟩, List.mem_of_getElem? (i := 975) (by decide +kernel), List.mem_of_getElem? (i := 1142) (by decide +kernel), List.mem_of_getElem? (i := 1143) (by decide +kernel)⟩
theorem lw_p11 : lw_okq (⟨"BallotscriptModel", "reason", "(I)I"⟩, 46) := ⟨⟨by decide +kernel, by decide +kernel⟩, List.mem_of_getElem? (i := 975) (by decide +kernel), List.mem_of_getElem? (i := 1146) (by decide +kernel), List.mem_of_getElem? (i := 1147) (by decide +kernel)⟩
theorem lw_p12 : lw_okq (⟨"BallotscriptModel", "allowed", "(III)Z"⟩, 46) := ⟨⟨by decide +kernel, by decide +kernel⟩, List.mem_of_getElem? (i := 975) (by decide +kernel), List.mem_of_getElem? (i := 1150) (by decide +kernel), List.mem_of_getElem? (i := 1151) (by decide +kernel)⟩
theorem lw_p13 : lw_okq (⟨"BallotscriptModel", "faultOf", "()I"⟩, 46) := ⟨⟨by decide +kernel, by decide +kernel⟩, List.mem_of_getElem? (i := 975) (by decide +kernel), List.mem_of_getElem? (i := 1177) (by decide +kernel), List.mem_of_getElem? (i := 1178) (by decide +kernel)⟩
theorem lw_p14 : lw_okq (⟨"BallotscriptModel", "writes", "(I)V"⟩, 46) := ⟨⟨by decide +kernel, by decide +kernel⟩, List.mem_of_getElem? (i := 975) (by decide +kernel), List.mem_of_getElem? (i := 1188) (by decide +kernel), List.mem_of_getElem? (i := 1189) (by decide +kernel)⟩
theorem lw_p15 : lw_okq (⟨"BallotscriptModel", "winnersOf", "(I)I"⟩, 46) := ⟨⟨by decide +kernel, by decide +kernel⟩, List.mem_of_getElem? (i := 975) (by decide +kernel), List.mem_of_getElem? (i := 1196) (by decide +kernel), List.mem_of_getElem? (i := 1197) (by decide +kernel)⟩
def lw_privs_1 : List (MethodName × Nat) := [(⟨"Ballotscript", "countVote", "(I)LBallotscript$MachineCount;"⟩, 11), (⟨"Ballotscript$MachineCount", "stepAfterPass", "(II)I"⟩, 12), (⟨"Ballotscript$MachineCount", "addBallot", "(ICI)I"⟩, 12), (⟨"Ballotscript$HandCount", "givenBy", "(III)I"⟩, 10), (⟨"Ballotscript$HandCount", "gaveSomething", "(II)Z"⟩, 10), (⟨"java/lang/Throwable", "fillInStackTrace", "(I)Ljava/lang/Throwable;"⟩, 6), (⟨"Ballotscript$Rule", "addStep", "(CI)I"⟩, 6), (⟨"Ballotscript", "needVote", "(I)V"⟩, 11), (⟨"Ballotscript", "needBallot", "(I)V"⟩, 11), (⟨"BallotscriptModel", "goes", "(ZZZ)Z"⟩, 46), (⟨"BallotscriptModel", "counting", "()I"⟩, 46), (⟨"BallotscriptModel", "reason", "(I)I"⟩, 46), (⟨"BallotscriptModel", "allowed", "(III)Z"⟩, 46), (⟨"BallotscriptModel", "faultOf", "()I"⟩, 46), (⟨"BallotscriptModel", "writes", "(I)V"⟩, 46), (⟨"BallotscriptModel", "winnersOf", "(I)I"⟩, 46)]
theorem lw_r1 : ∀ q ∈ lw_privs_1, lw_okq q := List.forall_mem_cons.mpr ⟨lw_p0, List.forall_mem_cons.mpr ⟨lw_p1, List.forall_mem_cons.mpr ⟨lw_p2, List.forall_mem_cons.mpr ⟨lw_p3, List.forall_mem_cons.mpr ⟨lw_p4, List.forall_mem_cons.mpr ⟨lw_p5, List.forall_mem_cons.mpr ⟨lw_p6, List.forall_mem_cons.mpr ⟨lw_p7, List.forall_mem_cons.mpr ⟨lw_p8, List.forall_mem_cons.mpr ⟨lw_p9, List.forall_mem_cons.mpr ⟨lw_p10, List.forall_mem_cons.mpr ⟨lw_p11, List.forall_mem_cons.mpr ⟨lw_p12, List.forall_mem_cons.mpr ⟨lw_p13, List.forall_mem_cons.mpr ⟨lw_p14, List.forall_mem_cons.mpr ⟨lw_p15, fun _ h => absurd h List.not_mem_nil⟩⟩⟩⟩⟩⟩⟩⟩⟩⟩⟩⟩⟩⟩⟩⟩
theorem lw_p16 : lw_okq (⟨"BallotscriptModel", "goesOn", "(II)I"⟩, 46) := ⟨⟨by decide +kernel, by decide +kernel⟩, List.mem_of_getElem? (i := 975) (by decide +kernel), List.mem_of_getElem? (i := 1200) (by decide +kernel), List.mem_of_getElem? (i := 1201) (by decide +kernel)⟩
theorem lw_p17 : lw_okq (⟨"BallotscriptModel", "electsAbove", "(I)V"⟩, 46) := ⟨⟨by decide +kernel, by decide +kernel⟩, List.mem_of_getElem? (i := 975) (by decide +kernel), List.mem_of_getElem? (i := 1204) (by decide +kernel), List.mem_of_getElem? (i := 1205) (by decide +kernel)⟩
theorem lw_p18 : lw_okq (⟨"BallotscriptModel", "chosen", "(Z)I"⟩, 46) := ⟨⟨by decide +kernel, by decide +kernel⟩, List.mem_of_getElem? (i := 975) (by decide +kernel), List.mem_of_getElem? (i := 1208) (by decide +kernel), List.mem_of_getElem? (i := 1209) (by decide +kernel)⟩
theorem lw_p19 : lw_okq (⟨"BallotscriptModel", "extreme", "(IIZ)I"⟩, 46) := ⟨⟨by decide +kernel, by decide +kernel⟩, List.mem_of_getElem? (i := 975) (by decide +kernel), List.mem_of_getElem? (i := 1212) (by decide +kernel), List.mem_of_getElem? (i := 1213) (by decide +kernel)⟩
theorem lw_p20 : lw_okq (⟨"BallotscriptModel", "votesIn", "(II)I"⟩, 46) := ⟨⟨by decide +kernel, by decide +kernel⟩, List.mem_of_getElem? (i := 975) (by decide +kernel), List.mem_of_getElem? (i := 1219) (by decide +kernel), List.mem_of_getElem? (i := 1220) (by decide +kernel)⟩
theorem lw_p21 : lw_okq (⟨"BallotscriptModel", "elects", "(I)V"⟩, 46) := ⟨⟨by decide +kernel, by decide +kernel⟩, List.mem_of_getElem? (i := 975) (by decide +kernel), List.mem_of_getElem? (i := 1226) (by decide +kernel), List.mem_of_getElem? (i := 1227) (by decide +kernel)⟩
theorem lw_p22 : lw_okq (⟨"BallotscriptModel", "does", "(I)V"⟩, 46) := ⟨⟨by decide +kernel, by decide +kernel⟩, List.mem_of_getElem? (i := 975) (by decide +kernel), List.mem_of_getElem? (i := 1230) (by decide +kernel), List.mem_of_getElem? (i := 1231) (by decide +kernel)⟩
theorem lw_p23 : lw_okq (⟨"BallotscriptModel", "makesTally", "(I)V"⟩, 46) := ⟨⟨by decide +kernel, by decide +kernel⟩, List.mem_of_getElem? (i := 975) (by decide +kernel), List.mem_of_getElem? (i := 1234) (by decide +kernel), List.mem_of_getElem? (i := 1235) (by decide +kernel)⟩
theorem lw_p24 : lw_okq (⟨"BallotscriptModel", "readAt", "(II)I"⟩, 46) := ⟨⟨by decide +kernel, by decide +kernel⟩, List.mem_of_getElem? (i := 975) (by decide +kernel), List.mem_of_getElem? (i := 1238) (by decide +kernel), List.mem_of_getElem? (i := 1239) (by decide +kernel)⟩
theorem lw_p25 : lw_okq (⟨"BallotscriptModel", "countingIn", "(I)I"⟩, 46) := ⟨⟨by decide +kernel, by decide +kernel⟩, List.mem_of_getElem? (i := 975) (by decide +kernel), List.mem_of_getElem? (i := 1254) (by decide +kernel), List.mem_of_getElem? (i := 1255) (by decide +kernel)⟩
theorem lw_p26 : lw_okq (⟨"BallotscriptModel", "countedAt", "(II)I"⟩, 46) := ⟨⟨by decide +kernel, by decide +kernel⟩, List.mem_of_getElem? (i := 975) (by decide +kernel), List.mem_of_getElem? (i := 1283) (by decide +kernel), List.mem_of_getElem? (i := 1284) (by decide +kernel)⟩
def lw_privs_2 : List (MethodName × Nat) := [(⟨"BallotscriptModel", "goesOn", "(II)I"⟩, 46), (⟨"BallotscriptModel", "electsAbove", "(I)V"⟩, 46), (⟨"BallotscriptModel", "chosen", "(Z)I"⟩, 46), (⟨"BallotscriptModel", "extreme", "(IIZ)I"⟩, 46), (⟨"BallotscriptModel", "votesIn", "(II)I"⟩, 46), (⟨"BallotscriptModel", "elects", "(I)V"⟩, 46), (⟨"BallotscriptModel", "does", "(I)V"⟩, 46), (⟨"BallotscriptModel", "makesTally", "(I)V"⟩, 46), (⟨"BallotscriptModel", "readAt", "(II)I"⟩, 46), (⟨"BallotscriptModel", "countingIn", "(I)I"⟩, 46), (⟨"BallotscriptModel", "countedAt", "(II)I"⟩, 46)]
theorem lw_r2 : ∀ q ∈ lw_privs_2, lw_okq q := List.forall_mem_cons.mpr ⟨lw_p16, List.forall_mem_cons.mpr ⟨lw_p17, List.forall_mem_cons.mpr ⟨lw_p18, List.forall_mem_cons.mpr ⟨lw_p19, List.forall_mem_cons.mpr ⟨lw_p20, List.forall_mem_cons.mpr ⟨lw_p21, List.forall_mem_cons.mpr ⟨lw_p22, List.forall_mem_cons.mpr ⟨lw_p23, List.forall_mem_cons.mpr ⟨lw_p24, List.forall_mem_cons.mpr ⟨lw_p25, List.forall_mem_cons.mpr ⟨lw_p26, fun _ h => absurd h List.not_mem_nil⟩⟩⟩⟩⟩⟩⟩⟩⟩⟩⟩
def lw_privs : List (MethodName × Nat) := lw_privs_1 ++ (lw_privs_2)
def lw_tbl : List Cond := k2_sels lw_privs ++ tables_1
theorem lw_privs_ok : ∀ q ∈ lw_privs, lw_okq q := by
  show ∀ q ∈ lw_privs_1 ++ (lw_privs_2), lw_okq q
  exact List.forall_mem_append.mpr ⟨lw_r1, lw_r2⟩
/-- the words that every method of this claim takes: those of the tables that hold at any state of the launch -/
def wall : List Cond := lw_tbl.filter goodWord
theorem wall_of {w : Cond} (i : Nat) (h : tables_1[i]? = some w) (g : goodWord w = true) : w ∈ wall := List.mem_filter.mpr ⟨List.mem_append_right _ (List.mem_of_getElem? h), g⟩
theorem wall_sel {w : Cond} (i : Nat) (h : (k2_sels lw_privs)[i]? = some w) (g : goodWord w = true) : w ∈ wall := List.mem_filter.mpr ⟨List.mem_append_left _ (List.mem_of_getElem? h), g⟩
theorem wall_good {Ts : List Cond} {y : MethodName} {b : ByteArray} {n : Nat} {r : Option FieldType} (hT : ∀ w ∈ wall, w ∈ Ts) (h : Cond.code y b n r ∈ wall) : GoodIn Ts (.code y b n r :: wall) := by
  have h1 : ∀ w ∈ wall, w ∈ Ts ∧ ((w.onTables && w.keeps) = true ∨ ∃ ty, w = .arrayClass ty) := fun w hw => ⟨hT w hw, good_of_word (List.mem_filter.mp hw).2⟩
  intro w hw
  rcases List.mem_cons.mp hw with e | e
  · rw [e]; exact h1 _ h
  · exact h1 w e
end
section
def RX0 : String := "Ballotscript$Box"
def TX0 : u_T := fun k => match k with
  | 0 => ("Ballotscript$Box", "rolls", "LBallotscript$Rolls;", true)
  | 1 => ("Ballotscript$Box", "voteOf", "[I", true)
  | 2 => ("Ballotscript$Box", "rollOf", "[I", true)
  | 3 => ("Ballotscript$Box", "personOf", "[I", true)
  | 4 => ("Ballotscript$Box", "dayOf", "[I", true)
  | 5 => ("Ballotscript$Box", "lengths", "[I", true)
  | 6 => ("Ballotscript$Box", "orders", "[I", true)
  | 7 => ("Ballotscript$Box", "swapped", "[Z", true)
  | 8 => ("Ballotscript$Box", "size", "I", false)
  | 9 => ("Ballotscript$Box", "gathered", "[I", true)
  | _ => ("Ballotscript$Box", "gatheredCount", "I", false)
def tyX0 : Nat → FieldType := fun k => match k with
  | 0 => .object "Ballotscript$Rolls"
  | 1 => .array .int
  | 2 => .array .int
  | 3 => .array .int
  | 4 => .array .int
  | 5 => .array .int
  | 6 => .array .int
  | 7 => .array .boolean
  | 8 => .int
  | 9 => .array .int
  | _ => .int
abbrev wsX00 : List Cond := u_ws RX0 TX0 11
theorem nmX0 : ∀ a, a < 11 → ∀ b, b < 11 → a ≠ b → (TX0 a).2.1 ≠ (TX0 b).2.1 := by decide +kernel
theorem tyX0_ok : ∀ k, k < 11 → parseFieldDescriptor (TX0 k).2.2.1 = some (tyX0 k) := by decide +kernel
abbrev cX0_init : ByteArray := prog_2_method_1_code
def yX0_init : MethodName := ⟨RX0, "<init>", "(LBallotscript$Rolls;)V"⟩
abbrev cX0_add : ByteArray := prog_2_method_2_code
def yX0_add : MethodName := ⟨RX0, "add", "(IIIILBallotscript$Slip;)I"⟩
abbrev cX0_candidateAt : ByteArray := prog_2_method_3_code
def yX0_candidateAt : MethodName := ⟨RX0, "candidateAt", "(II)I"⟩
abbrev cX0_putRight : ByteArray := prog_2_method_4_code
def yX0_putRight : MethodName := ⟨RX0, "putRight", "(I)Z"⟩
abbrev cX0_reasonOf : ByteArray := prog_2_method_5_code
def yX0_reasonOf : MethodName := ⟨RX0, "reasonOf", "(I)I"⟩
abbrev cX0_gather : ByteArray := prog_2_method_6_code
def yX0_gather : MethodName := ⟨RX0, "gather", "(I)V"⟩
abbrev cX0_countAll : ByteArray := prog_2_method_7_code
def yX0_countAll : MethodName := ⟨RX0, "countAll", "()I"⟩
def RX1 : String := "Ballotscript$Count"
def TX1 : u_T := fun k => match k with
  | _ => ("", "", "", false)
def tyX1 : Nat → FieldType := fun k => match k with
  | _ => .int
abbrev wsX10 : List Cond := u_ws RX1 TX1 0
theorem nmX1 : ∀ a, a < 0 → ∀ b, b < 0 → a ≠ b → (TX1 a).2.1 ≠ (TX1 b).2.1 := by decide +kernel
theorem tyX1_ok : ∀ k, k < 0 → parseFieldDescriptor (TX1 k).2.2.1 = some (tyX1 k) := by decide +kernel
abbrev cX1_init : ByteArray := prog_3_method_1_code
def yX1_init : MethodName := ⟨RX1, "<init>", "(LBallotscript$Box;)V"⟩
abbrev cX1_begin : ByteArray := prog_3_method_5_code
def yX1_begin : MethodName := ⟨RX1, "begin", "(II)V"⟩
abbrev cX1_obey : ByteArray := prog_3_method_6_code
def yX1_obey : MethodName := ⟨RX1, "obey", "(CI)V"⟩
abbrev cX1_letGo : ByteArray := prog_3_method_7_code
def yX1_letGo : MethodName := ⟨RX1, "letGo", "(CI)V"⟩
abbrev cX1_maySomeGo : ByteArray := prog_3_method_8_code
def yX1_maySomeGo : MethodName := ⟨RX1, "maySomeGo", "(CII)Z"⟩
abbrev cX1_keepTie : ByteArray := prog_3_method_9_code
def yX1_keepTie : MethodName := ⟨RX1, "keepTie", "(I)V"⟩
abbrev cX1_remove : ByteArray := prog_3_method_10_code
def yX1_remove : MethodName := ⟨RX1, "remove", "(IZ)V"⟩
abbrev cX1_leaders : ByteArray := prog_3_method_11_code
def yX1_leaders : MethodName := ⟨RX1, "leaders", "(IIZ)I"⟩
abbrev cX1_hasBit : ByteArray := prog_3_method_12_code
def yX1_hasBit : MethodName := ⟨RX1, "hasBit", "(II)Z"⟩
abbrev cX1_lowest : ByteArray := prog_3_method_13_code
def yX1_lowest : MethodName := ⟨RX1, "lowest", "(I)I"⟩
abbrev cX1_highest : ByteArray := prog_3_method_14_code
def yX1_highest : MethodName := ⟨RX1, "highest", "(I)I"⟩
def RX2 : String := "Ballotscript$HandCount"
def TX2 : u_T := fun k => match k with
  | 0 => ("Ballotscript$Count", "box", "LBallotscript$Box;", true)
  | 1 => ("Ballotscript$Count", "tieSets", "[I", true)
  | 2 => ("Ballotscript$Count", "tieCount", "I", false)
  | 3 => ("Ballotscript$Count", "tallyCount", "I", false)
  | 4 => ("Ballotscript$Count", "openSeats", "I", false)
  | 5 => ("Ballotscript$Count", "standing", "I", false)
  | 6 => ("Ballotscript$Count", "elected", "I", false)
  | 7 => ("Ballotscript$Count", "breaking", "C", false)
  | 8 => ("Ballotscript$HandCount", "kinds", "[C", true)
  | _ => ("Ballotscript$HandCount", "stood", "[I", true)
def tyX2 : Nat → FieldType := fun k => match k with
  | 0 => .object "Ballotscript$Box"
  | 1 => .array .int
  | 2 => .int
  | 3 => .int
  | 4 => .int
  | 5 => .int
  | 6 => .int
  | 7 => .char
  | 8 => .array .char
  | _ => .array .int
abbrev wsX20 : List Cond := u_ws RX2 TX2 10
theorem nmX2 : ∀ a, a < 10 → ∀ b, b < 10 → a ≠ b → (TX2 a).2.1 ≠ (TX2 b).2.1 := by decide +kernel
theorem tyX2_ok : ∀ k, k < 10 → parseFieldDescriptor (TX2 k).2.2.1 = some (tyX2 k) := by decide +kernel
abbrev cX2_init : ByteArray := prog_4_method_1_code
def yX2_init : MethodName := ⟨RX2, "<init>", "(LBallotscript$Box;)V"⟩
abbrev cX2_doRow : ByteArray := prog_4_method_2_code
def yX2_doRow : MethodName := ⟨RX2, "doRow", "(LBallotscript$Rule;II)I"⟩
abbrev cX2_makeTally : ByteArray := prog_4_method_3_code
def yX2_makeTally : MethodName := ⟨RX2, "makeTally", "(C)V"⟩
abbrev cX2_votesIn : ByteArray := prog_4_method_4_code
def yX2_votesIn : MethodName := ⟨RX2, "votesIn", "(II)I"⟩
abbrev cX2_givenBy : ByteArray := prog_4_method_5_code
def yX2_givenBy : MethodName := ⟨RX2, "givenBy", "(III)I"⟩
abbrev cX2_weightOf : ByteArray := prog_4_method_6_code
def yX2_weightOf : MethodName := ⟨RX2, "weightOf", "(I)I"⟩
abbrev cX2_gaveSomething : ByteArray := prog_4_method_7_code
def yX2_gaveSomething : MethodName := ⟨RX2, "gaveSomething", "(II)Z"⟩
def RX3 : String := "Ballotscript$MachineCount"
def TX3 : u_T := fun k => match k with
  | 0 => ("Ballotscript$Count", "box", "LBallotscript$Box;", true)
  | 1 => ("Ballotscript$Count", "tieSets", "[I", true)
  | 2 => ("Ballotscript$Count", "tieCount", "I", false)
  | 3 => ("Ballotscript$Count", "tallyCount", "I", false)
  | 4 => ("Ballotscript$Count", "openSeats", "I", false)
  | 5 => ("Ballotscript$Count", "standing", "I", false)
  | 6 => ("Ballotscript$Count", "elected", "I", false)
  | 7 => ("Ballotscript$Count", "breaking", "C", false)
  | 8 => ("Ballotscript$MachineCount", "counted", "[I", true)
  | 9 => ("Ballotscript$MachineCount", "stood", "[I", true)
  | 10 => ("Ballotscript$MachineCount", "weights", "[I", true)
  | _ => ("Ballotscript$MachineCount", "stoodAtPass", "[I", true)
def tyX3 : Nat → FieldType := fun k => match k with
  | 0 => .object "Ballotscript$Box"
  | 1 => .array .int
  | 2 => .int
  | 3 => .int
  | 4 => .int
  | 5 => .int
  | 6 => .int
  | 7 => .char
  | 8 => .array .int
  | 9 => .array .int
  | 10 => .array .int
  | _ => .array .int
abbrev wsX30 : List Cond := u_ws RX3 TX3 12
theorem nmX3 : ∀ a, a < 12 → ∀ b, b < 12 → a ≠ b → (TX3 a).2.1 ≠ (TX3 b).2.1 := by decide +kernel
theorem tyX3_ok : ∀ k, k < 12 → parseFieldDescriptor (TX3 k).2.2.1 = some (tyX3 k) := by decide +kernel
abbrev cX3_init : ByteArray := prog_5_method_1_code
def yX3_init : MethodName := ⟨RX3, "<init>", "(LBallotscript$Box;)V"⟩
abbrev cX3_follow : ByteArray := prog_5_method_2_code
def yX3_follow : MethodName := ⟨RX3, "follow", "(LBallotscript$Rule;)V"⟩
abbrev cX3_stepAfterPass : ByteArray := prog_5_method_3_code
def yX3_stepAfterPass : MethodName := ⟨RX3, "stepAfterPass", "(II)I"⟩
abbrev cX3_makeTally : ByteArray := prog_5_method_4_code
def yX3_makeTally : MethodName := ⟨RX3, "makeTally", "(C)V"⟩
abbrev cX3_addBallot : ByteArray := prog_5_method_5_code
def yX3_addBallot : MethodName := ⟨RX3, "addBallot", "(ICI)I"⟩
abbrev cX3_stoodIn : ByteArray := prog_5_method_6_code
def yX3_stoodIn : MethodName := ⟨RX3, "stoodIn", "(II)Z"⟩
abbrev cX3_votesIn : ByteArray := prog_5_method_7_code
def yX3_votesIn : MethodName := ⟨RX3, "votesIn", "(II)I"⟩
abbrev cX3_weightOf : ByteArray := prog_5_method_8_code
def yX3_weightOf : MethodName := ⟨RX3, "weightOf", "(I)I"⟩
def RX4 : String := "Ballotscript$Rolls"
def TX4 : u_T := fun k => match k with
  | 0 => ("Ballotscript$Rolls", "rollOf", "[I", true)
  | 1 => ("Ballotscript$Rolls", "personOf", "[I", true)
  | 2 => ("Ballotscript$Rolls", "fromOf", "[I", true)
  | 3 => ("Ballotscript$Rolls", "toOf", "[I", true)
  | 4 => ("Ballotscript$Rolls", "struck", "[Z", true)
  | _ => ("Ballotscript$Rolls", "size", "I", false)
def tyX4 : Nat → FieldType := fun k => match k with
  | 0 => .array .int
  | 1 => .array .int
  | 2 => .array .int
  | 3 => .array .int
  | 4 => .array .boolean
  | _ => .int
abbrev wsX40 : List Cond := u_ws RX4 TX4 6
theorem nmX4 : ∀ a, a < 6 → ∀ b, b < 6 → a ≠ b → (TX4 a).2.1 ≠ (TX4 b).2.1 := by decide +kernel
theorem tyX4_ok : ∀ k, k < 6 → parseFieldDescriptor (TX4 k).2.2.1 = some (tyX4 k) := by decide +kernel
abbrev cX4_init : ByteArray := prog_6_method_1_code
def yX4_init : MethodName := ⟨RX4, "<init>", "()V"⟩
abbrev cX4_add : ByteArray := prog_6_method_2_code
def yX4_add : MethodName := ⟨RX4, "add", "(IIII)I"⟩
abbrev cX4_allows : ByteArray := prog_6_method_3_code
def yX4_allows : MethodName := ⟨RX4, "allows", "(III)Z"⟩
def RX5 : String := "Ballotscript$Rule"
def TX5 : u_T := fun k => match k with
  | 0 => ("Ballotscript$Rule", "letters", "[C", true)
  | 1 => ("Ballotscript$Rule", "steps", "[C", true)
  | 2 => ("Ballotscript$Rule", "numbers", "[I", true)
  | 3 => ("Ballotscript$Rule", "size", "I", false)
  | 4 => ("Ballotscript$Rule", "stepCount", "I", false)
  | _ => ("Ballotscript$Rule", "commandCount", "I", false)
def tyX5 : Nat → FieldType := fun k => match k with
  | 0 => .array .char
  | 1 => .array .char
  | 2 => .array .int
  | 3 => .int
  | 4 => .int
  | _ => .int
abbrev wsX50 : List Cond := u_ws RX5 TX5 6
theorem nmX5 : ∀ a, a < 6 → ∀ b, b < 6 → a ≠ b → (TX5 a).2.1 ≠ (TX5 b).2.1 := by decide +kernel
theorem tyX5_ok : ∀ k, k < 6 → parseFieldDescriptor (TX5 k).2.2.1 = some (tyX5 k) := by decide +kernel
abbrev cX5_init : ByteArray := prog_7_method_1_code
def yX5_init : MethodName := ⟨RX5, "<init>", "()V"⟩
abbrev cX5_take : ByteArray := prog_7_method_2_code
def yX5_take : MethodName := ⟨RX5, "take", "(LBallotscript$Text;)V"⟩
abbrev cX5_addStep : ByteArray := prog_7_method_3_code
def yX5_addStep : MethodName := ⟨RX5, "addStep", "(CI)I"⟩
def RX6 : String := "Ballotscript$Slip"
def TX6 : u_T := fun k => match k with
  | 0 => ("Ballotscript$Slip", "order", "[I", true)
  | _ => ("Ballotscript$Slip", "size", "I", false)
def tyX6 : Nat → FieldType := fun k => match k with
  | 0 => .array .int
  | _ => .int
abbrev wsX60 : List Cond := u_ws RX6 TX6 2
theorem nmX6 : ∀ a, a < 2 → ∀ b, b < 2 → a ≠ b → (TX6 a).2.1 ≠ (TX6 b).2.1 := by decide +kernel
theorem tyX6_ok : ∀ k, k < 2 → parseFieldDescriptor (TX6 k).2.2.1 = some (tyX6 k) := by decide +kernel
abbrev cX6_init : ByteArray := prog_8_method_1_code
def yX6_init : MethodName := ⟨RX6, "<init>", "()V"⟩
abbrev cX6_add : ByteArray := prog_8_method_2_code
def yX6_add : MethodName := ⟨RX6, "add", "(I)I"⟩
abbrev cX6_has : ByteArray := prog_8_method_3_code
def yX6_has : MethodName := ⟨RX6, "has", "(I)Z"⟩
abbrev cX6_highest : ByteArray := prog_8_method_4_code
def yX6_highest : MethodName := ⟨RX6, "highest", "()I"⟩
def RX7 : String := "Ballotscript$Text"
def TX7 : u_T := fun k => match k with
  | 0 => ("Ballotscript$Text", "letters", "[C", true)
  | _ => ("Ballotscript$Text", "size", "I", false)
def tyX7 : Nat → FieldType := fun k => match k with
  | 0 => .array .char
  | _ => .int
abbrev wsX70 : List Cond := u_ws RX7 TX7 2
theorem nmX7 : ∀ a, a < 2 → ∀ b, b < 2 → a ≠ b → (TX7 a).2.1 ≠ (TX7 b).2.1 := by decide +kernel
theorem tyX7_ok : ∀ k, k < 2 → parseFieldDescriptor (TX7 k).2.2.1 = some (tyX7 k) := by decide +kernel
abbrev cX7_init : ByteArray := prog_9_method_1_code
def yX7_init : MethodName := ⟨RX7, "<init>", "()V"⟩
abbrev cX7_add : ByteArray := prog_9_method_2_code
def yX7_add : MethodName := ⟨RX7, "add", "(C)I"⟩
abbrev cX7_firstFault : ByteArray := prog_9_method_3_code
def yX7_firstFault : MethodName := ⟨RX7, "firstFault", "()I"⟩
abbrev cX7_stateAfter : ByteArray := prog_9_method_4_code
def yX7_stateAfter : MethodName := ⟨RX7, "stateAfter", "(CII)I"⟩
def RX8 : String := "Ballotscript$Vote"
def TX8 : u_T := fun k => match k with
  | 0 => ("Ballotscript$Vote", "roll", "I", false)
  | 1 => ("Ballotscript$Vote", "candidates", "I", false)
  | 2 => ("Ballotscript$Vote", "seats", "I", false)
  | 3 => ("Ballotscript$Vote", "rule", "I", false)
  | 4 => ("Ballotscript$Vote", "closed", "Z", false)
  | 5 => ("Ballotscript$Vote", "draws", "I", false)
  | 6 => ("Ballotscript$Vote", "found", "I", false)
  | 7 => ("Ballotscript$Vote", "certificate", "I", false)
  | _ => ("Ballotscript$Vote", "before", "I", false)
def tyX8 : Nat → FieldType := fun k => match k with
  | 0 => .int
  | 1 => .int
  | 2 => .int
  | 3 => .int
  | 4 => .boolean
  | 5 => .int
  | 6 => .int
  | 7 => .int
  | _ => .int
abbrev wsX80 : List Cond := u_ws RX8 TX8 9
theorem nmX8 : ∀ a, a < 9 → ∀ b, b < 9 → a ≠ b → (TX8 a).2.1 ≠ (TX8 b).2.1 := by decide +kernel
theorem tyX8_ok : ∀ k, k < 9 → parseFieldDescriptor (TX8 k).2.2.1 = some (tyX8 k) := by decide +kernel
abbrev cX8_init : ByteArray := prog_10_method_1_code
def yX8_init : MethodName := ⟨RX8, "<init>", "()V"⟩
abbrev cX8_begin : ByteArray := prog_10_method_2_code
def yX8_begin : MethodName := ⟨RX8, "begin", "(IIII)V"⟩
def RX9 : String := "Ballotscript"
def TX9 : u_T := fun k => match k with
  | 0 => ("Ballotscript", "rolls", "LBallotscript$Rolls;", true)
  | 1 => ("Ballotscript", "text", "LBallotscript$Text;", true)
  | 2 => ("Ballotscript", "rules", "[LBallotscript$Rule;", true)
  | 3 => ("Ballotscript", "house", "[LBallotscript$Vote;", true)
  | 4 => ("Ballotscript", "slip", "LBallotscript$Slip;", true)
  | 5 => ("Ballotscript", "box", "LBallotscript$Box;", true)
  | 6 => ("Ballotscript", "machine", "LBallotscript$MachineCount;", true)
  | 7 => ("Ballotscript", "hand", "LBallotscript$HandCount;", true)
  | 8 => ("Ballotscript", "today", "I", false)
  | 9 => ("Ballotscript", "ruleCount", "I", false)
  | _ => ("Ballotscript", "voteCount", "I", false)
def tyX9 : Nat → FieldType := fun k => match k with
  | 0 => .object "Ballotscript$Rolls"
  | 1 => .object "Ballotscript$Text"
  | 2 => .array (.object "Ballotscript$Rule")
  | 3 => .array (.object "Ballotscript$Vote")
  | 4 => .object "Ballotscript$Slip"
  | 5 => .object "Ballotscript$Box"
  | 6 => .object "Ballotscript$MachineCount"
  | 7 => .object "Ballotscript$HandCount"
  | 8 => .int
  | 9 => .int
  | _ => .int
abbrev wsX90 : List Cond := u_ws RX9 TX9 11
theorem nmX9 : ∀ a, a < 11 → ∀ b, b < 11 → a ≠ b → (TX9 a).2.1 ≠ (TX9 b).2.1 := by decide +kernel
theorem tyX9_ok : ∀ k, k < 11 → parseFieldDescriptor (TX9 k).2.2.1 = some (tyX9 k) := by decide +kernel
abbrev cX9_init : ByteArray := prog_1_method_1_code
def yX9_init : MethodName := ⟨RX9, "<init>", "()V"⟩
abbrev cX9_enter : ByteArray := prog_1_method_2_code
def yX9_enter : MethodName := ⟨RX9, "enter", "(IIII)I"⟩
abbrev cX9_strike : ByteArray := prog_1_method_3_code
def yX9_strike : MethodName := ⟨RX9, "strike", "(I)I"⟩
abbrev cX9_isAllowed : ByteArray := prog_1_method_4_code
def yX9_isAllowed : MethodName := ⟨RX9, "isAllowed", "(III)Z"⟩
abbrev cX9_pass : ByteArray := prog_1_method_5_code
def yX9_pass : MethodName := ⟨RX9, "pass", "(I)I"⟩
abbrev cX9_type : ByteArray := prog_1_method_6_code
def yX9_type : MethodName := ⟨RX9, "type", "(C)I"⟩
abbrev cX9_wipe : ByteArray := prog_1_method_7_code
def yX9_wipe : MethodName := ⟨RX9, "wipe", "()I"⟩
abbrev cX9_fault : ByteArray := prog_1_method_8_code
def yX9_fault : MethodName := ⟨RX9, "fault", "()I"⟩
abbrev cX9_rule : ByteArray := prog_1_method_9_code
def yX9_rule : MethodName := ⟨RX9, "rule", "()I"⟩
abbrev cX9_mend : ByteArray := prog_1_method_10_code
def yX9_mend : MethodName := ⟨RX9, "mend", "(I)I"⟩
abbrev cX9_commands : ByteArray := prog_1_method_11_code
def yX9_commands : MethodName := ⟨RX9, "commands", "(I)I"⟩
abbrev cX9_open : ByteArray := prog_1_method_12_code
def yX9_open : MethodName := ⟨RX9, "open", "(IIII)I"⟩
abbrev cX9_close : ByteArray := prog_1_method_13_code
def yX9_close : MethodName := ⟨RX9, "close", "(I)I"⟩
abbrev cX9_mark : ByteArray := prog_1_method_14_code
def yX9_mark : MethodName := ⟨RX9, "mark", "(I)I"⟩
abbrev cX9_cast : ByteArray := prog_1_method_15_code
def yX9_cast : MethodName := ⟨RX9, "cast", "(II)I"⟩
abbrev cX9_why : ByteArray := prog_1_method_16_code
def yX9_why : MethodName := ⟨RX9, "why", "(I)I"⟩
abbrev cX9_read : ByteArray := prog_1_method_17_code
def yX9_read : MethodName := ⟨RX9, "read", "(II)I"⟩
abbrev cX9_misread : ByteArray := prog_1_method_18_code
def yX9_misread : MethodName := ⟨RX9, "misread", "(I)V"⟩
abbrev cX9_sample : ByteArray := prog_1_method_19_code
def yX9_sample : MethodName := ⟨RX9, "sample", "(III)I"⟩
abbrev cX9_recount : ByteArray := prog_1_method_20_code
def yX9_recount : MethodName := ⟨RX9, "recount", "(I)I"⟩
abbrev cX9_doubt : ByteArray := prog_1_method_21_code
def yX9_doubt : MethodName := ⟨RX9, "doubt", "(I)I"⟩
abbrev cX9_winners : ByteArray := prog_1_method_22_code
def yX9_winners : MethodName := ⟨RX9, "winners", "(I)I"⟩
abbrev cX9_winnersByHand : ByteArray := prog_1_method_23_code
def yX9_winnersByHand : MethodName := ⟨RX9, "winnersByHand", "(I)I"⟩
abbrev cX9_tallies : ByteArray := prog_1_method_24_code
def yX9_tallies : MethodName := ⟨RX9, "tallies", "(I)I"⟩
abbrev cX9_votes : ByteArray := prog_1_method_25_code
def yX9_votes : MethodName := ⟨RX9, "votes", "(III)I"⟩
abbrev cX9_ties : ByteArray := prog_1_method_26_code
def yX9_ties : MethodName := ⟨RX9, "ties", "(I)I"⟩
abbrev cX9_tied : ByteArray := prog_1_method_27_code
def yX9_tied : MethodName := ⟨RX9, "tied", "(II)I"⟩
abbrev cX9_certify : ByteArray := prog_1_method_28_code
def yX9_certify : MethodName := ⟨RX9, "certify", "(I)I"⟩
abbrev cX9_certified : ByteArray := prog_1_method_29_code
def yX9_certified : MethodName := ⟨RX9, "certified", "(I)I"⟩
abbrev cX9_stale : ByteArray := prog_1_method_30_code
def yX9_stale : MethodName := ⟨RX9, "stale", "()I"⟩
abbrev cX9_isWithin : ByteArray := prog_1_method_31_code
def yX9_isWithin : MethodName := ⟨RX9, "isWithin", "(III)Z"⟩
abbrev cX9_isDigit : ByteArray := prog_1_method_32_code
def yX9_isDigit : MethodName := ⟨RX9, "isDigit", "(C)Z"⟩
abbrev cX9_isTypable : ByteArray := prog_1_method_33_code
def yX9_isTypable : MethodName := ⟨RX9, "isTypable", "(C)Z"⟩
abbrev cX9_needVote : ByteArray := prog_1_method_34_code
def yX9_needVote : MethodName := ⟨RX9, "needVote", "(I)V"⟩
abbrev cX9_needBallot : ByteArray := prog_1_method_35_code
def yX9_needBallot : MethodName := ⟨RX9, "needBallot", "(I)V"⟩
abbrev cX9_countVote : ByteArray := prog_1_method_36_code
def yX9_countVote : MethodName := ⟨RX9, "countVote", "(I)LBallotscript$MachineCount;"⟩
def RX10 : String := "BallotscriptModel"
def TX10 : u_T := fun k => match k with
  | 0 => ("BallotscriptModel", "today", "I", false)
  | 1 => ("BallotscriptModel", "roll", "[I", true)
  | 2 => ("BallotscriptModel", "person", "[I", true)
  | 3 => ("BallotscriptModel", "from", "[I", true)
  | 4 => ("BallotscriptModel", "to", "[I", true)
  | 5 => ("BallotscriptModel", "isStruck", "[Z", true)
  | 6 => ("BallotscriptModel", "entries", "I", false)
  | 7 => ("BallotscriptModel", "text", "[I", true)
  | 8 => ("BallotscriptModel", "length", "I", false)
  | 9 => ("BallotscriptModel", "rule", "[I", true)
  | 10 => ("BallotscriptModel", "ruleLength", "[I", true)
  | 11 => ("BallotscriptModel", "rules", "I", false)
  | 12 => ("BallotscriptModel", "voteRoll", "[I", true)
  | 13 => ("BallotscriptModel", "candidates", "[I", true)
  | 14 => ("BallotscriptModel", "seats", "[I", true)
  | 15 => ("BallotscriptModel", "voteRule", "[I", true)
  | 16 => ("BallotscriptModel", "isClosed", "[Z", true)
  | 17 => ("BallotscriptModel", "certified", "[I", true)
  | 18 => ("BallotscriptModel", "draws", "[I", true)
  | 19 => ("BallotscriptModel", "finds", "[I", true)
  | 20 => ("BallotscriptModel", "votes", "I", false)
  | 21 => ("BallotscriptModel", "order", "[I", true)
  | 22 => ("BallotscriptModel", "orderLength", "[I", true)
  | 23 => ("BallotscriptModel", "vote", "[I", true)
  | 24 => ("BallotscriptModel", "voter", "[I", true)
  | 25 => ("BallotscriptModel", "day", "[I", true)
  | 26 => ("BallotscriptModel", "isMisread", "[Z", true)
  | 27 => ("BallotscriptModel", "ballots", "I", false)
  | 28 => ("BallotscriptModel", "marked", "[I", true)
  | 29 => ("BallotscriptModel", "marks", "I", false)
  | 30 => ("BallotscriptModel", "isIn", "[Z", true)
  | 31 => ("BallotscriptModel", "tally", "[I", true)
  | 32 => ("BallotscriptModel", "tallies", "I", false)
  | 33 => ("BallotscriptModel", "weight", "I", false)
  | 34 => ("BallotscriptModel", "tie", "[I", true)
  | 35 => ("BallotscriptModel", "ties", "I", false)
  | 36 => ("BallotscriptModel", "standing", "I", false)
  | 37 => ("BallotscriptModel", "elected", "I", false)
  | 38 => ("BallotscriptModel", "open", "I", false)
  | 39 => ("BallotscriptModel", "breaking", "I", false)
  | 40 => ("BallotscriptModel", "events", "I", false)
  | 41 => ("BallotscriptModel", "start", "[I", true)
  | 42 => ("BallotscriptModel", "seen", "[I", true)
  | 43 => ("BallotscriptModel", "level", "I", false)
  | 44 => ("BallotscriptModel", "had", "[I", true)
  | _ => ("BallotscriptModel", "thrown", "I", false)
def tyX10 : Nat → FieldType := fun k => match k with
  | 0 => .int
  | 1 => .array .int
  | 2 => .array .int
  | 3 => .array .int
  | 4 => .array .int
  | 5 => .array .boolean
  | 6 => .int
  | 7 => .array .int
  | 8 => .int
  | 9 => .array .int
  | 10 => .array .int
  | 11 => .int
  | 12 => .array .int
  | 13 => .array .int
  | 14 => .array .int
  | 15 => .array .int
  | 16 => .array .boolean
  | 17 => .array .int
  | 18 => .array .int
  | 19 => .array .int
  | 20 => .int
  | 21 => .array .int
  | 22 => .array .int
  | 23 => .array .int
  | 24 => .array .int
  | 25 => .array .int
  | 26 => .array .boolean
  | 27 => .int
  | 28 => .array .int
  | 29 => .int
  | 30 => .array .boolean
  | 31 => .array .int
  | 32 => .int
  | 33 => .int
  | 34 => .array .int
  | 35 => .int
  | 36 => .int
  | 37 => .int
  | 38 => .int
  | 39 => .int
  | 40 => .int
  | 41 => .array .int
  | 42 => .array .int
  | 43 => .int
  | 44 => .array .int
  | _ => .int
abbrev wsX100 : List Cond := u_ws RX10 TX10 46
theorem nmX10 : ∀ a, a < 46 → ∀ b, b < 46 → a ≠ b → (TX10 a).2.1 ≠ (TX10 b).2.1 := by decide +kernel
theorem tyX10_ok : ∀ k, k < 46 → parseFieldDescriptor (TX10 k).2.2.1 = some (tyX10 k) := by decide +kernel
abbrev cX10_init : ByteArray := prog_12_method_1_code
def yX10_init : MethodName := ⟨RX10, "<init>", "()V"⟩
abbrev cX10_thrown : ByteArray := prog_12_method_2_code
def yX10_thrown : MethodName := ⟨RX10, "thrown", "()I"⟩
abbrev cX10_goes : ByteArray := prog_12_method_3_code
def yX10_goes : MethodName := ⟨RX10, "goes", "(ZZZ)Z"⟩
abbrev cX10_isBelow : ByteArray := prog_12_method_4_code
def yX10_isBelow : MethodName := ⟨RX10, "isBelow", "(II)Z"⟩
abbrev cX10_isWithin : ByteArray := prog_12_method_5_code
def yX10_isWithin : MethodName := ⟨RX10, "isWithin", "(III)Z"⟩
abbrev cX10_has : ByteArray := prog_12_method_6_code
def yX10_has : MethodName := ⟨RX10, "has", "(II)Z"⟩
abbrev cX10_size : ByteArray := prog_12_method_7_code
def yX10_size : MethodName := ⟨RX10, "size", "(I)I"⟩
abbrev cX10_enter : ByteArray := prog_12_method_8_code
def yX10_enter : MethodName := ⟨RX10, "enter", "(IIII)I"⟩
abbrev cX10_allowed : ByteArray := prog_12_method_9_code
def yX10_allowed : MethodName := ⟨RX10, "allowed", "(III)Z"⟩
abbrev cX10_counting : ByteArray := prog_12_method_10_code
def yX10_counting : MethodName := ⟨RX10, "counting", "()I"⟩
abbrev cX10_strike : ByteArray := prog_12_method_11_code
def yX10_strike : MethodName := ⟨RX10, "strike", "(I)I"⟩
abbrev cX10_isAllowed : ByteArray := prog_12_method_12_code
def yX10_isAllowed : MethodName := ⟨RX10, "isAllowed", "(III)Z"⟩
abbrev cX10_pass : ByteArray := prog_12_method_13_code
def yX10_pass : MethodName := ⟨RX10, "pass", "(I)I"⟩
abbrev cX10_isFigure : ByteArray := prog_12_method_14_code
def yX10_isFigure : MethodName := ⟨RX10, "isFigure", "(I)Z"⟩
abbrev cX10_isPlain : ByteArray := prog_12_method_15_code
def yX10_isPlain : MethodName := ⟨RX10, "isPlain", "(I)Z"⟩
abbrev cX10_type : ByteArray := prog_12_method_16_code
def yX10_type : MethodName := ⟨RX10, "type", "(C)I"⟩
abbrev cX10_wipe : ByteArray := prog_12_method_17_code
def yX10_wipe : MethodName := ⟨RX10, "wipe", "()I"⟩
abbrev cX10_faultOf : ByteArray := prog_12_method_18_code
def yX10_faultOf : MethodName := ⟨RX10, "faultOf", "()I"⟩
abbrev cX10_fault : ByteArray := prog_12_method_19_code
def yX10_fault : MethodName := ⟨RX10, "fault", "()I"⟩
abbrev cX10_writes : ByteArray := prog_12_method_20_code
def yX10_writes : MethodName := ⟨RX10, "writes", "(I)V"⟩
abbrev cX10_rule : ByteArray := prog_12_method_21_code
def yX10_rule : MethodName := ⟨RX10, "rule", "()I"⟩
abbrev cX10_mend : ByteArray := prog_12_method_22_code
def yX10_mend : MethodName := ⟨RX10, "mend", "(I)I"⟩
abbrev cX10_commands : ByteArray := prog_12_method_23_code
def yX10_commands : MethodName := ⟨RX10, "commands", "(I)I"⟩
abbrev cX10_open : ByteArray := prog_12_method_24_code
def yX10_open : MethodName := ⟨RX10, "open", "(IIII)I"⟩
abbrev cX10_countingIn : ByteArray := prog_12_method_25_code
def yX10_countingIn : MethodName := ⟨RX10, "countingIn", "(I)I"⟩
abbrev cX10_close : ByteArray := prog_12_method_26_code
def yX10_close : MethodName := ⟨RX10, "close", "(I)I"⟩
abbrev cX10_mark : ByteArray := prog_12_method_27_code
def yX10_mark : MethodName := ⟨RX10, "mark", "(I)I"⟩
abbrev cX10_cast : ByteArray := prog_12_method_28_code
def yX10_cast : MethodName := ⟨RX10, "cast", "(II)I"⟩
abbrev cX10_reason : ByteArray := prog_12_method_29_code
def yX10_reason : MethodName := ⟨RX10, "reason", "(I)I"⟩
abbrev cX10_why : ByteArray := prog_12_method_30_code
def yX10_why : MethodName := ⟨RX10, "why", "(I)I"⟩
abbrev cX10_readAt : ByteArray := prog_12_method_31_code
def yX10_readAt : MethodName := ⟨RX10, "readAt", "(II)I"⟩
abbrev cX10_read : ByteArray := prog_12_method_32_code
def yX10_read : MethodName := ⟨RX10, "read", "(II)I"⟩
abbrev cX10_misread : ByteArray := prog_12_method_33_code
def yX10_misread : MethodName := ⟨RX10, "misread", "(I)V"⟩
abbrev cX10_countedAt : ByteArray := prog_12_method_34_code
def yX10_countedAt : MethodName := ⟨RX10, "countedAt", "(II)I"⟩
abbrev cX10_sample : ByteArray := prog_12_method_35_code
def yX10_sample : MethodName := ⟨RX10, "sample", "(III)I"⟩
abbrev cX10_recount : ByteArray := prog_12_method_36_code
def yX10_recount : MethodName := ⟨RX10, "recount", "(I)I"⟩
abbrev cX10_doubt : ByteArray := prog_12_method_37_code
def yX10_doubt : MethodName := ⟨RX10, "doubt", "(I)I"⟩
abbrev cX10_makesTally : ByteArray := prog_12_method_38_code
def yX10_makesTally : MethodName := ⟨RX10, "makesTally", "(I)V"⟩
abbrev cX10_votesIn : ByteArray := prog_12_method_39_code
def yX10_votesIn : MethodName := ⟨RX10, "votesIn", "(II)I"⟩
abbrev cX10_extreme : ByteArray := prog_12_method_40_code
def yX10_extreme : MethodName := ⟨RX10, "extreme", "(IIZ)I"⟩
abbrev cX10_chosen : ByteArray := prog_12_method_41_code
def yX10_chosen : MethodName := ⟨RX10, "chosen", "(Z)I"⟩
abbrev cX10_elects : ByteArray := prog_12_method_42_code
def yX10_elects : MethodName := ⟨RX10, "elects", "(I)V"⟩
abbrev cX10_electsAbove : ByteArray := prog_12_method_43_code
def yX10_electsAbove : MethodName := ⟨RX10, "electsAbove", "(I)V"⟩
abbrev cX10_does : ByteArray := prog_12_method_44_code
def yX10_does : MethodName := ⟨RX10, "does", "(I)V"⟩
abbrev cX10_goesOn : ByteArray := prog_12_method_45_code
def yX10_goesOn : MethodName := ⟨RX10, "goesOn", "(II)I"⟩
abbrev cX10_winnersOf : ByteArray := prog_12_method_46_code
def yX10_winnersOf : MethodName := ⟨RX10, "winnersOf", "(I)I"⟩
abbrev cX10_winners : ByteArray := prog_12_method_47_code
def yX10_winners : MethodName := ⟨RX10, "winners", "(I)I"⟩
abbrev cX10_winnersByHand : ByteArray := prog_12_method_48_code
def yX10_winnersByHand : MethodName := ⟨RX10, "winnersByHand", "(I)I"⟩
abbrev cX10_tallies : ByteArray := prog_12_method_49_code
def yX10_tallies : MethodName := ⟨RX10, "tallies", "(I)I"⟩
abbrev cX10_ties : ByteArray := prog_12_method_50_code
def yX10_ties : MethodName := ⟨RX10, "ties", "(I)I"⟩
abbrev cX10_votes : ByteArray := prog_12_method_51_code
def yX10_votes : MethodName := ⟨RX10, "votes", "(III)I"⟩
abbrev cX10_tied : ByteArray := prog_12_method_52_code
def yX10_tied : MethodName := ⟨RX10, "tied", "(II)I"⟩
abbrev cX10_certify : ByteArray := prog_12_method_53_code
def yX10_certify : MethodName := ⟨RX10, "certify", "(I)I"⟩
abbrev cX10_certified : ByteArray := prog_12_method_54_code
def yX10_certified : MethodName := ⟨RX10, "certified", "(I)I"⟩
abbrev cX10_stale : ByteArray := prog_12_method_55_code
def yX10_stale : MethodName := ⟨RX10, "stale", "()I"⟩
def RJ11 : String := "java/lang/Character"
def TJ11 : u_T := fun k => match k with
  | _ => ("", "", "", false)
def tyJ11 : Nat → FieldType := fun k => match k with
  | _ => .int
abbrev wsJ110 : List Cond := u_ws RJ11 TJ11 0
theorem nmJ11 : ∀ a, a < 0 → ∀ b, b < 0 → a ≠ b → (TJ11 a).2.1 ≠ (TJ11 b).2.1 := by decide +kernel
theorem tyJ11_ok : ∀ k, k < 0 → parseFieldDescriptor (TJ11 k).2.2.1 = some (tyJ11 k) := by decide +kernel
abbrev cJ11_isValidCodePoint_9a6ad : ByteArray := prog_13_method_11_code
def yJ11_isValidCodePoint_9a6ad : MethodName := ⟨RJ11, "isValidCodePoint", "(I)Z"⟩
abbrev cJ11_highSurrogate_5068e : ByteArray := prog_13_method_28_code
def yJ11_highSurrogate_5068e : MethodName := ⟨RJ11, "highSurrogate", "(I)C"⟩
abbrev cJ11_lowSurrogate_5068e : ByteArray := prog_13_method_29_code
def yJ11_lowSurrogate_5068e : MethodName := ⟨RJ11, "lowSurrogate", "(I)C"⟩
def RJ6 : String := "java/lang/Integer"
def TJ6 : u_T := fun k => match k with
  | _ => ("", "", "", false)
def tyJ6 : Nat → FieldType := fun k => match k with
  | _ => .int
abbrev wsJ60 : List Cond := u_ws RJ6 TJ6 0
theorem nmJ6 : ∀ a, a < 0 → ∀ b, b < 0 → a ≠ b → (TJ6 a).2.1 ≠ (TJ6 b).2.1 := by decide +kernel
theorem tyJ6_ok : ∀ k, k < 0 → parseFieldDescriptor (TJ6 k).2.2.1 = some (tyJ6 k) := by decide +kernel
abbrev cJ6_bitCount_0f7a4 : ByteArray := prog_18_method_49_code
def yJ6_bitCount_0f7a4 : MethodName := ⟨RJ6, "bitCount", "(I)I"⟩
def RJ9 : String := "java/lang/Math"
def TJ9 : u_T := fun k => match k with
  | _ => ("", "", "", false)
def tyJ9 : Nat → FieldType := fun k => match k with
  | _ => .int
abbrev wsJ90 : List Cond := u_ws RJ9 TJ9 0
theorem nmJ9 : ∀ a, a < 0 → ∀ b, b < 0 → a ≠ b → (TJ9 a).2.1 ≠ (TJ9 b).2.1 := by decide +kernel
theorem tyJ9_ok : ∀ k, k < 0 → parseFieldDescriptor (TJ9 k).2.2.1 = some (tyJ9 k) := by decide +kernel
abbrev cJ9_max_7cf53 : ByteArray := prog_19_method_65_code
def yJ9_max_7cf53 : MethodName := ⟨RJ9, "max", "(II)I"⟩
abbrev cJ9_min_7cf53 : ByteArray := prog_19_method_69_code
def yJ9_min_7cf53 : MethodName := ⟨RJ9, "min", "(II)I"⟩
def RJ0 : String := "java/lang/String"
def TJ0 : u_T := fun k => match k with
  | _ => ("", "", "", false)
def tyJ0 : Nat → FieldType := fun k => match k with
  | _ => .int
abbrev wsJ00 : List Cond := u_ws RJ0 TJ0 0
theorem nmJ0 : ∀ a, a < 0 → ∀ b, b < 0 → a ≠ b → (TJ0 a).2.1 ≠ (TJ0 b).2.1 := by decide +kernel
theorem tyJ0_ok : ∀ k, k < 0 → parseFieldDescriptor (TJ0 k).2.2.1 = some (tyJ0 k) := by decide +kernel
abbrev cJ0_length_8abf5 : ByteArray := prog_21_method_54_code
def yJ0_length_8abf5 : MethodName := ⟨RJ0, "length", "()I"⟩
abbrev cJ0_indexOf_0f7a4 : ByteArray := prog_21_method_79_code
def yJ0_indexOf_0f7a4 : MethodName := ⟨RJ0, "indexOf", "(I)I"⟩
abbrev cJ0_indexOf_7cf53 : ByteArray := prog_21_method_80_code
def yJ0_indexOf_7cf53 : MethodName := ⟨RJ0, "indexOf", "(II)I"⟩
abbrev cJ0_coder_7d493 : ByteArray := prog_21_method_152_code
def yJ0_coder_7d493 : MethodName := ⟨RJ0, "coder", "()B"⟩
abbrev cJ0_isLatin1_aae02 : ByteArray := prog_21_method_154_code
def yJ0_isLatin1_aae02 : MethodName := ⟨RJ0, "isLatin1", "()Z"⟩
abbrev cJ0_checkBoundsBeginEnd_23922 : ByteArray := prog_21_method_158_code
def yJ0_checkBoundsBeginEnd_23922 : MethodName := ⟨RJ0, "checkBoundsBeginEnd", "(III)V"⟩
def RJ1 : String := "java/lang/StringLatin1"
def TJ1 : u_T := fun k => match k with
  | _ => ("", "", "", false)
def tyJ1 : Nat → FieldType := fun k => match k with
  | _ => .int
abbrev wsJ10 : List Cond := u_ws RJ1 TJ1 0
theorem nmJ1 : ∀ a, a < 0 → ∀ b, b < 0 → a ≠ b → (TJ1 a).2.1 ≠ (TJ1 b).2.1 := by decide +kernel
theorem tyJ1_ok : ∀ k, k < 0 → parseFieldDescriptor (TJ1 k).2.2.1 = some (tyJ1 k) := by decide +kernel
abbrev cJ1_canEncode_9a6ad : ByteArray := prog_22_method_4_code
def yJ1_canEncode_9a6ad : MethodName := ⟨RJ1, "canEncode", "(I)Z"⟩
abbrev cJ1_indexOf_4cfef : ByteArray := prog_22_method_22_code
def yJ1_indexOf_4cfef : MethodName := ⟨RJ1, "indexOf", "([BIII)I"⟩
abbrev cJ1_indexOfChar_4cfef : ByteArray := prog_22_method_23_code
def yJ1_indexOfChar_4cfef : MethodName := ⟨RJ1, "indexOfChar", "([BIII)I"⟩
def RJ2 : String := "java/lang/StringUTF16"
def TJ2 : u_T := fun k => match k with
  | _ => ("", "", "", false)
def tyJ2 : Nat → FieldType := fun k => match k with
  | _ => .int
abbrev wsJ20 : List Cond := u_ws RJ2 TJ2 0
theorem nmJ2 : ∀ a, a < 0 → ∀ b, b < 0 → a ≠ b → (TJ2 a).2.1 ≠ (TJ2 b).2.1 := by decide +kernel
theorem tyJ2_ok : ∀ k, k < 0 → parseFieldDescriptor (TJ2 k).2.2.1 = some (tyJ2 k) := by decide +kernel
abbrev cJ2_getChar_3b067 : ByteArray := prog_23_method_5_code
def yJ2_getChar_3b067 : MethodName := ⟨RJ2, "getChar", "([BI)C"⟩
abbrev cJ2_length_9d52b : ByteArray := prog_23_method_6_code
def yJ2_length_9d52b : MethodName := ⟨RJ2, "length", "([B)I"⟩
abbrev cJ2_indexOf_4cfef : ByteArray := prog_23_method_40_code
def yJ2_indexOf_4cfef : MethodName := ⟨RJ2, "indexOf", "([BIII)I"⟩
abbrev cJ2_indexOfChar_4cfef : ByteArray := prog_23_method_47_code
def yJ2_indexOfChar_4cfef : MethodName := ⟨RJ2, "indexOfChar", "([BIII)I"⟩
abbrev cJ2_indexOfCharUnsafe_4cfef : ByteArray := prog_23_method_48_code
def yJ2_indexOfCharUnsafe_4cfef : MethodName := ⟨RJ2, "indexOfCharUnsafe", "([BIII)I"⟩
abbrev cJ2_indexOfSupplementary_4cfef : ByteArray := prog_23_method_49_code
def yJ2_indexOfSupplementary_4cfef : MethodName := ⟨RJ2, "indexOfSupplementary", "([BIII)I"⟩
abbrev cJ2_checkBoundsBeginEnd_d044e : ByteArray := prog_23_method_93_code
def yJ2_checkBoundsBeginEnd_d044e : MethodName := ⟨RJ2, "checkBoundsBeginEnd", "(II[B)V"⟩
def RJ3 : String := "jdk/internal/util/Preconditions"
def TJ3 : u_T := fun k => match k with
  | _ => ("", "", "", false)
def tyJ3 : Nat → FieldType := fun k => match k with
  | _ => .int
abbrev wsJ30 : List Cond := u_ws RJ3 TJ3 0
theorem nmJ3 : ∀ a, a < 0 → ∀ b, b < 0 → a ≠ b → (TJ3 a).2.1 ≠ (TJ3 b).2.1 := by decide +kernel
theorem tyJ3_ok : ∀ k, k < 0 → parseFieldDescriptor (TJ3 k).2.2.1 = some (tyJ3 k) := by decide +kernel
abbrev cJ3_checkFromToIndex_8c36e : ByteArray := prog_25_method_12_code
def yJ3_checkFromToIndex_8c36e : MethodName := ⟨RJ3, "checkFromToIndex", "(IIILjava/util/function/BiFunction;)I"⟩
def RL : String := "BallotscriptLaw"
abbrev cL_enter : ByteArray := method_3_code
def yL_enter : MethodName := ⟨RL, "enter", "(LBallotscript;IIII[J)I"⟩
abbrev cL_strike : ByteArray := method_4_code
def yL_strike : MethodName := ⟨RL, "strike", "(LBallotscript;I[J)I"⟩
abbrev cL_isAllowed : ByteArray := method_5_code
def yL_isAllowed : MethodName := ⟨RL, "isAllowed", "(LBallotscript;III[J)I"⟩
abbrev cL_pass : ByteArray := method_6_code
def yL_pass : MethodName := ⟨RL, "pass", "(LBallotscript;I[J)I"⟩
abbrev cL_type : ByteArray := method_7_code
def yL_type : MethodName := ⟨RL, "type", "(LBallotscript;C[J)I"⟩
abbrev cL_rule : ByteArray := method_8_code
def yL_rule : MethodName := ⟨RL, "rule", "(LBallotscript;[J)I"⟩
abbrev cL_mend : ByteArray := method_9_code
def yL_mend : MethodName := ⟨RL, "mend", "(LBallotscript;I[J)I"⟩
abbrev cL_commands : ByteArray := method_10_code
def yL_commands : MethodName := ⟨RL, "commands", "(LBallotscript;I[J)I"⟩
abbrev cL_open : ByteArray := method_11_code
def yL_open : MethodName := ⟨RL, "open", "(LBallotscript;IIII[J)I"⟩
abbrev cL_close : ByteArray := method_12_code
def yL_close : MethodName := ⟨RL, "close", "(LBallotscript;I[J)I"⟩
abbrev cL_mark : ByteArray := method_13_code
def yL_mark : MethodName := ⟨RL, "mark", "(LBallotscript;I[J)I"⟩
abbrev cL_cast : ByteArray := method_14_code
def yL_cast : MethodName := ⟨RL, "cast", "(LBallotscript;II[J)I"⟩
abbrev cL_why : ByteArray := method_15_code
def yL_why : MethodName := ⟨RL, "why", "(LBallotscript;I[J)I"⟩
abbrev cL_read : ByteArray := method_16_code
def yL_read : MethodName := ⟨RL, "read", "(LBallotscript;II[J)I"⟩
abbrev cL_misread : ByteArray := method_17_code
def yL_misread : MethodName := ⟨RL, "misread", "(LBallotscript;I)I"⟩
abbrev cL_sample : ByteArray := method_18_code
def yL_sample : MethodName := ⟨RL, "sample", "(LBallotscript;III[J)I"⟩
abbrev cL_recount : ByteArray := method_19_code
def yL_recount : MethodName := ⟨RL, "recount", "(LBallotscript;I[J)I"⟩
abbrev cL_doubt : ByteArray := method_20_code
def yL_doubt : MethodName := ⟨RL, "doubt", "(LBallotscript;I[J)I"⟩
abbrev cL_winners : ByteArray := method_21_code
def yL_winners : MethodName := ⟨RL, "winners", "(LBallotscript;I[J)I"⟩
abbrev cL_winnersByHand : ByteArray := method_22_code
def yL_winnersByHand : MethodName := ⟨RL, "winnersByHand", "(LBallotscript;I[J)I"⟩
abbrev cL_tallies : ByteArray := method_23_code
def yL_tallies : MethodName := ⟨RL, "tallies", "(LBallotscript;I[J)I"⟩
abbrev cL_votes : ByteArray := method_24_code
def yL_votes : MethodName := ⟨RL, "votes", "(LBallotscript;III[J)I"⟩
abbrev cL_ties : ByteArray := method_25_code
def yL_ties : MethodName := ⟨RL, "ties", "(LBallotscript;I[J)I"⟩
abbrev cL_tied : ByteArray := method_26_code
def yL_tied : MethodName := ⟨RL, "tied", "(LBallotscript;II[J)I"⟩
abbrev cL_certify : ByteArray := method_27_code
def yL_certify : MethodName := ⟨RL, "certify", "(LBallotscript;I[J)I"⟩
abbrev cL_certified : ByteArray := method_28_code
def yL_certified : MethodName := ⟨RL, "certified", "(LBallotscript;I[J)I"⟩
abbrev cL_law : ByteArray := code
def yL_law : MethodName := ⟨RL, "law", "([I)Z"⟩
abbrev vwCl : List vw_C := [(RX0, TX0, 11), (RX2, TX2, 10), (RX3, TX3, 12), (RX4, TX4, 6), (RX5, TX5, 6), (RX6, TX6, 2), (RX7, TX7, 2), (RX8, TX8, 9), (RX9, TX9, 11), (RX10, TX10, 46)]
end
section
/-! CORE: a world is a list of kinds of cells; what the cells hold is a function. All ints (booleans, chars) of the cells are w i k: cell i, place k. -/
abbrev Wt : Type := Nat → Nat → Int32
/-- a cell's kind: an array (its type's place, its length); an object (its class's place, its fields: none an int, some j a reference to the cell j); an array of references (its type's place, its length, the first cell) -/
abbrev Kd : Type := (Nat × Nat) ⊕ ((Nat × List (Option Nat)) ⊕ (Nat × Nat × Nat))
def kfs (q : Nat → Nat) (f : Nat → Int32) (l : List (Option Nat)) : List Value := l.mapIdx (fun j r => match r with | none => Value.int (f j) | some i => Value.ref (q i))
def kc (dA : Nat → ClassId) (q : Nat → Nat) (f : Nat → Int32) (k : Kd) : va_E := match k with
  | .inl a => .inl (dA a.1, a.2, .inl f)
  | .inr (.inl o) => .inr (o.1, kfs q f o.2)
  | .inr (.inr a) => .inl (dA a.1, a.2.1, .inr (.inr (.inr (.inr (fun j => some (q (a.2.2 + j)))))))
def wld (K : List Kd) (dA : Nat → ClassId) (q : Nat → Nat) (w : Wt) : va_W := K.mapIdx (fun i k => (q i, kc dA q (w i) k))
def upd2 (w : Wt) (i k : Nat) (v : Int32) : Wt := fun a => if a = i then upd (w i) k v else w a
theorem upd2_s {w : Wt} {i k : Nat} {v : Int32} : upd2 w i k v i = upd (w i) k v := if_pos rfl
theorem upd2_n {w : Wt} {i k a : Nat} {v : Int32} (h : a ≠ i) : upd2 w i k v a = w a := if_neg h
theorem wld_at {K : List Kd} {dA : Nat → ClassId} {q : Nat → Nat} {w : Wt} {i : Nat} {k : Kd} (h : K[i]? = some k) : (wld K dA q w)[i]? = some (q i, kc dA q (w i) k) := by
  unfold wld
  rw [List.getElem?_mapIdx, h]
  rfl
theorem wld_len {K : List Kd} {dA : Nat → ClassId} {q : Nat → Nat} {w : Wt} : (wld K dA q w).length = K.length := by unfold wld; exact List.length_mapIdx
theorem wld_in {K : List Kd} {dA : Nat → ClassId} {q : Nat → Nat} {w : Wt} {i : Nat} {z : Nat × va_E} (h : (wld K dA q w)[i]? = some z) : i < K.length ∧ z.1 = q i := by
  have hl : i < (wld K dA q w).length := (List.getElem?_eq_some_iff.mp h).1
  rw [wld_len] at hl
  have h2 := wld_at (dA := dA) (q := q) (w := w) (List.getElem?_eq_getElem hl)
  rw [h2] at h
  exact ⟨hl, by rw [← Option.some.inj h]⟩
theorem wld_set {K : List Kd} {dA : Nat → ClassId} {q : Nat → Nat} {w : Wt} {i k : Nat} {v : Int32} {z : Kd} {y : va_E} (h : K[i]? = some z) (hy : y = kc dA q (upd (w i) k v) z) : (wld K dA q w).set i (q i, y) = wld K dA q (upd2 w i k v) := by
  subst hy
  apply List.ext_getElem?
  intro j
  by_cases e : j = i
  · subst e
    have hl : j < (wld K dA q w).length := by rw [wld_len]; exact (List.getElem?_eq_some_iff.mp h).1
    rw [List.getElem?_set_self hl, wld_at h, upd2_s]
  · rw [List.getElem?_set_ne (fun z => e z.symm)]
    unfold wld
    rw [List.getElem?_mapIdx, List.getElem?_mapIdx, upd2_n e]
theorem kfs_at {q : Nat → Nat} {f : Nat → Int32} {l : List (Option Nat)} {k : Nat} (h : l[k]? = some none) : (kfs q f l)[k]? = some (.int (f k)) := by
  unfold kfs
  rw [List.getElem?_mapIdx, h]
  rfl
theorem kfs_ref {q : Nat → Nat} {f : Nat → Int32} {l : List (Option Nat)} {k j : Nat} (h : l[k]? = some (some j)) : (kfs q f l)[k]? = some (.ref (q j)) := by
  unfold kfs
  rw [List.getElem?_mapIdx, h]
  rfl
theorem kfs_set {q : Nat → Nat} {f : Nat → Int32} {l : List (Option Nat)} {k : Nat} {v : Int32} (h : l[k]? = some none) : (kfs q f l).set k (.int v) = kfs q (upd f k v) l := by
  apply List.ext_getElem?
  intro j
  have hl : k < l.length := (List.getElem?_eq_some_iff.mp h).1
  by_cases e : j = k
  · subst e
    rw [List.getElem?_set_self (by unfold kfs; rw [List.length_mapIdx]; exact hl), kfs_at h, pk_us]
  · rw [List.getElem?_set_ne (fun z => e z.symm)]
    unfold kfs
    rw [List.getElem?_mapIdx, List.getElem?_mapIdx]
    cases l[j]? with
    | none => rfl
    | some r =>
      cases r with
      | none => show some (Value.int (f j)) = some (Value.int (upd f k v j)); rw [pk_un e]
      | some i => rfl
/-- the array classes -/
def tysW (dA : Nat → ClassId) : List (ClassId × FieldType) := [(dA 0, .int), (dA 1, .boolean), (dA 2, .char), (dA 3, .object RX5), (dA 4, .object RX8)]
abbrev injK (K : List Kd) (q : Nat → Nat) : Prop := ∀ i j, i < K.length → j < K.length → q i = q j → i = j
def Aq (K : List Kd) (q : Nat → Nat) (sz : Nat) : Nat → Prop := fun a => (∃ i, i < K.length ∧ a = q i) ∨ sz ≤ a
theorem wld_D {K : List Kd} {dA : Nat → ClassId} {q : Nat → Nat} {w : Wt} {A : Nat → Prop} (hq : injK K q) (hA : ∀ i, i < K.length → A (q i)) : va_D A (wld K dA q w) := by
  refine ⟨fun i j p r hi hj e => ?_, fun k r hk => ?_⟩
  · obtain ⟨a1, b1⟩ := wld_in hi
    obtain ⟨a2, b2⟩ := wld_in hj
    exact hq i j a1 a2 (by rw [← b1, ← b2]; exact e)
  · obtain ⟨a1, b1⟩ := wld_in hk
    rw [b1]
    exact hA k a1
/-- what a method takes of the heap beside its world: kept by what doesn't write there -/
abbrev Ev : Type := (Nat → Prop) → State → Heap → Prop
def evOk (EV : Ev) : Prop := (∀ (A : Nat → Prop) (s U : State) (H : Heap), s.WarmedH U.vm → EV A s H → EV A U H) ∧ (∀ (A : Nat → Prop) (U : State) (H H1 : Heap), EV A U H → (∀ a : Nat, a < H.size → ¬ A a → H1[a]? = H[a]?) → EV A U H1) ∧ ∀ (A B : Nat → Prop) (U : State) (H : Heap), EV A U H → (∀ a, B a → A a) → EV B U H
/-- the walk's state: the world in the heap, and nothing else changed -/
def Sta (K : List Kd) (D : va_G) (dA : Nat → ClassId) (q : Nat → Nat) (A : Nat → Prop) (H0 : Heap) (w : Wt) (H : Heap) (locs : List Loc) : Prop := va_P D vwCl (wld K dA q w) H ∧ va_S A H0 H locs
/-- what holds all through a method -/
def Cx (EV : Ev) (K : List Kd) (D : va_G) (dA : Nat → ClassId) (q : Nat → Nat) (A : Nat → Prop) (s : State) (m : MethodId) (args : Array Value) (own : String) : Prop :=
  s.vm.findClass own = some m.cls ∧ (∀ w ∈ wall, w.before args s = true) ∧ va_K D vwCl (tysW dA) s ∧ injK K q ∧ (∀ i, i < K.length → A (q i)) ∧ (∀ a, s.heap.size ≤ a → A a) ∧ EV A s s.heap
/-- a method's start -/
def Pr (EV : Ev) (K : List Kd) (D : va_G) (dA : Nat → ClassId) (q : Nat → Nat) (sz : Nat) (w : Wt) : State → Prop := fun U => U.heap.size = sz ∧ va_P D vwCl (wld K dA q w) U.heap ∧ va_K D vwCl (tysW dA) U ∧ injK K q ∧ EV (Aq K q sz) U U.heap
theorem Pr.blind {EV : Ev} {K : List Kd} {D : va_G} {dA : Nat → ClassId} {q : Nat → Nat} {sz : Nat} {w : Wt} {av : List Value} (ev : evOk EV) : FrameBlind (va_Pc av (Pr EV K D dA q sz w)) := by
  intro a U g mk h
  obtain ⟨h0, h1, h2, h3, h4, h5⟩ := h
  exact ⟨h0, h1, h2, va_K.moved (u := U) (U := U.calling g mk a) (Vm.Alike.refl U.vm) h3, h4, ev.1 _ U (U.calling g mk a) _ (State.WarmedH.refl U) h5⟩
section CORE
variable {p : Program} {l : Launch} {e : Env} {R : Room} {s : State} {m : MethodId} {args : Array Value} {below : List Frame} {meth : Method} {c : Code} {H : Heap} {locs : List Loc} {cells slots : Nat} {Q : State → Prop}
variable {EV : Ev} {K : List Kd} {D : va_G} {dA : Nat → ClassId} {q : Nat → Nat} {A : Nat → Prop} {own : String} {w : Wt}
variable {cc : ByteArray} {pc : Nat} {ls : Array Slot} {rest : List Value}
theorem Cx.start {sz : Nat} (hown : s.vm.findClass own = some m.cls) (hts : ∀ x ∈ wall, x.before args s = true) (h : Pr EV K D dA q sz w s) : Cx EV K D dA q (Aq K q s.heap.size) s m args own ∧ Sta K D dA q (Aq K q s.heap.size) s.heap w s.heap [] := by
  obtain ⟨rfl, h2, h3, h4, h5⟩ := h
  exact ⟨⟨hown, hts, h3, h4, fun i hi => Or.inl ⟨i, hi, rfl⟩, fun a ha => Or.inr ha, h5⟩, h2, va_S.rf⟩
theorem Cx.pre {av : List Value} (ev : evOk EV) (C : Cx EV K D dA q A s m args own) (S : Sta K D dA q A s.heap w H locs) {U : State} (hU : U.heap = H) (hW : s.WarmedH U.vm) : va_Pc av (Pr EV K D dA q H.size w) av.toArray U := by
  obtain ⟨-, -, hK, hq, hA, hB, hE⟩ := C
  have h1 : EV A s H := ev.2.1 A s s.heap H hE S.2.2.1
  have h2 : ∀ a, Aq K q H.size a → A a := fun a h => h.elim (fun ⟨i, hi, e⟩ => by rw [e]; exact hA i hi) (fun h => hB a (Nat.le_trans S.2.1 h))
  exact ⟨rfl, by rw [hU], by rw [hU]; exact S.1, va_K.moved hW.alike hK, hq, by rw [hU]; exact ev.1 _ s U H hW (ev.2.2 A _ s H h1 h2)⟩
theorem Cx.sub (C : Cx EV K D dA q A s m args own) (S : Sta K D dA q A s.heap w H locs) : ∀ a, Aq K q H.size a → A a :=
  fun a h => h.elim (fun ⟨i, hi, e⟩ => by rw [e]; exact C.2.2.2.2.1 i hi) (fun h => C.2.2.2.2.2.1 a (Nat.le_trans S.2.1 h))
/-- getfield of an int -/
theorem r_get {ci k index : Nat} {fs : List (Option Nat)} {Cn ref : String} {T : u_T} {N : Nat} (hc : vwCl[ci]? = some (Cn, T, N)) (hk : k < N) (hin : ∀ x ∈ u_ws Cn T N, x ∈ wall) (hlink : Cond.fieldLink own index ref (T k).2.1 (T k).2.2.1 ∈ wall) (hsame : ref = (T k).1 ∨ Cond.sameField ref (T k).1 (T k).2.1 (T k).2.2.1 ∈ wall)
    (hx : p.tables.exec = Jvm.exec) (hb : c.code = cc) (C : Cx EV K D dA q A s m args own) (S : Sta K D dA q A s.heap w H locs) {i : Nat} (hi : K[i]? = some (.inr (.inl (ci, fs)))) (hf : fs[k]? = some none) (hdg : decode cc pc = .ok (.getfield index, 3))
    (kk : W p l e R s m args below meth c H locs cells slots Q (F0 m (pc + 3) ls (.int (w i k) :: rest))) : W p l e R s m args below meth c H locs cells slots Q (F0 m pc ls (.ref (q i) :: rest)) :=
  va_get (ref := ref) hx hb C.2.1 hin C.1 C.2.2.1 S.1 i (wld_at hi) hc k hk (C.2.1 _ hlink) (fun x h => hsame.elim (fun e => by rw [e]; exact h) (fun h2 => u_same (C.2.1 _ h2) x h)) (kfs_at hf) hdg kk
/-- getfield of a reference -/
theorem r_getR {ci k index j : Nat} {fs : List (Option Nat)} {Cn ref : String} {T : u_T} {N : Nat} (hc : vwCl[ci]? = some (Cn, T, N)) (hk : k < N) (hin : ∀ x ∈ u_ws Cn T N, x ∈ wall) (hlink : Cond.fieldLink own index ref (T k).2.1 (T k).2.2.1 ∈ wall) (hsame : ref = (T k).1 ∨ Cond.sameField ref (T k).1 (T k).2.1 (T k).2.2.1 ∈ wall)
    (hx : p.tables.exec = Jvm.exec) (hb : c.code = cc) (C : Cx EV K D dA q A s m args own) (S : Sta K D dA q A s.heap w H locs) {i : Nat} (hi : K[i]? = some (.inr (.inl (ci, fs)))) (hf : fs[k]? = some (some j)) (hdg : decode cc pc = .ok (.getfield index, 3))
    (kk : W p l e R s m args below meth c H locs cells slots Q (F0 m (pc + 3) ls (.ref (q j) :: rest))) : W p l e R s m args below meth c H locs cells slots Q (F0 m pc ls (.ref (q i) :: rest)) :=
  va_get (ref := ref) hx hb C.2.1 hin C.1 C.2.2.1 S.1 i (wld_at hi) hc k hk (C.2.1 _ hlink) (fun x h => hsame.elim (fun e => by rw [e]; exact h) (fun h2 => u_same (C.2.1 _ h2) x h)) (kfs_ref hf) hdg kk
/-- putfield of an int -/
theorem r_put {ci k index : Nat} {fs : List (Option Nat)} {Cn ref : String} {T : u_T} {N : Nat} (hc : vwCl[ci]? = some (Cn, T, N)) (hk : k < N) (hin : ∀ x ∈ u_ws Cn T N, x ∈ wall) (ty0 : Nat → FieldType) (hty : ∀ k, k < N → parseFieldDescriptor (T k).2.2.1 = some (ty0 k)) (hnm : ∀ a, a < N → ∀ b, b < N → a ≠ b → (T a).2.1 ≠ (T b).2.1) (hlink : Cond.fieldLink own index ref (T k).2.1 (T k).2.2.1 ∈ wall) (hsame : ref = (T k).1 ∨ Cond.sameField ref (T k).1 (T k).2.1 (T k).2.2.1 ∈ wall) (hfin : (T k).2.2.2 = false) {ty : FieldType} (hd : parseFieldDescriptor (T k).2.2.1 = some ty)
    (hx : p.tables.exec = Jvm.exec) (hb : c.code = cc) (C : Cx EV K D dA q A s m args own) (S : Sta K D dA q A s.heap w H locs) {i : Nat} (hi : K[i]? = some (.inr (.inl (ci, fs)))) (hf : fs[k]? = some none) {v : Int32} (hn : narrow ty (.int v) = .int v ∧ fits ty (.int v) = true) (hdg : decode cc pc = .ok (.putfield index, 3))
    (kk : ∀ w1 : Wt, w1 = upd2 w i k v → ∀ (H1 : Heap) (locs1 : List Loc), Sta K D dA q A s.heap w1 H1 locs1 → W p l e R s m args below meth c H1 locs1 cells slots Q (F0 m (pc + 3) ls rest)) : W p l e R s m args below meth c H locs cells slots Q (F0 m pc ls (.int v :: .ref (q i) :: rest)) := by
  have hlf : k < fs.length := (List.getElem?_eq_some_iff.mp hf).1
  refine va_put (ref := ref) hx hb C.2.1 hin ty0 hty hnm C.1 C.2.2.1 S.1 (wld_D C.2.2.2.1 C.2.2.2.2.1) S.2 i (wld_at hi) hc k hk (C.2.1 _ hlink) (fun x h => hsame.elim (fun e => by rw [e]; exact h) (fun h2 => u_same (C.2.1 _ h2) x h)) hfin hd hn.1 hn.2 (by unfold kfs; rw [List.length_mapIdx]; exact hlf) hdg (fun H1 locs1 hP _ hS => ?_)
  refine kk _ rfl H1 locs1 ⟨?_, hS⟩
  rw [wld_set hi (show _ = kc dA q (upd (w i) k v) (.inr (.inl (ci, fs))) from by show Sum.inr (ci, (kfs q (w i) fs).set k (.int v)) = _; rw [kfs_set hf]; rfl)] at hP
  exact hP
theorem r_iald {n : Nat} (hx : p.tables.exec = Jvm.exec) (hb : c.code = cc) (C : Cx EV K D dA q A s m args own) (S : Sta K D dA q A s.heap w H locs) {i : Nat} (hi : K[i]? = some (.inl (0, n))) {x : Int32} (hin : vp_in x n) (hdg : decode cc pc = .ok (.iaload, 1))
    (kk : W p l e R s m args below meth c H locs cells slots Q (F0 m (pc + 1) ls (.int (w i x.toNatClampNeg) :: rest))) : W p l e R s m args below meth c H locs cells slots Q (F0 m pc ls (.int x :: .ref (q i) :: rest)) :=
  va_iald hx hb C.2.2.1 S.1 i 0 (wld_at hi) rfl hin hdg kk
theorem r_zald {n : Nat} (hx : p.tables.exec = Jvm.exec) (hb : c.code = cc) (C : Cx EV K D dA q A s m args own) (S : Sta K D dA q A s.heap w H locs) {i : Nat} (hi : K[i]? = some (.inl (1, n))) {x : Int32} (hin : vp_in x n) (hdg : decode cc pc = .ok (.baload, 1))
    (kk : W p l e R s m args below meth c H locs cells slots Q (F0 m (pc + 1) ls (.int (w i x.toNatClampNeg) :: rest))) : W p l e R s m args below meth c H locs cells slots Q (F0 m pc ls (.int x :: .ref (q i) :: rest)) :=
  va_zald hx hb C.2.2.1 S.1 i 1 (wld_at hi) rfl hin hdg kk
theorem r_cald {n : Nat} (hx : p.tables.exec = Jvm.exec) (hb : c.code = cc) (C : Cx EV K D dA q A s m args own) (S : Sta K D dA q A s.heap w H locs) {i : Nat} (hi : K[i]? = some (.inl (2, n))) {x : Int32} (hin : vp_in x n) (hdg : decode cc pc = .ok (.caload, 1))
    (kk : W p l e R s m args below meth c H locs cells slots Q (F0 m (pc + 1) ls (.int (w i x.toNatClampNeg) :: rest))) : W p l e R s m args below meth c H locs cells slots Q (F0 m pc ls (.int x :: .ref (q i) :: rest)) :=
  va_cald hx hb C.2.2.1 S.1 i 2 (wld_at hi) rfl hin hdg kk
theorem r_aald {n b t : Nat} {Cn : String} (ht : (tysW dA)[t]? = some (dA t, .object Cn)) (hx : p.tables.exec = Jvm.exec) (hb : c.code = cc) (C : Cx EV K D dA q A s m args own) (S : Sta K D dA q A s.heap w H locs) {i : Nat} (hi : K[i]? = some (.inr (.inr (t, n, b)))) {x : Int32} (hin : vp_in x n) (hdg : decode cc pc = .ok (.aaload, 1))
    (kk : W p l e R s m args below meth c H locs cells slots Q (F0 m (pc + 1) ls (.ref (q (b + x.toNatClampNeg)) :: rest))) : W p l e R s m args below meth c H locs cells slots Q (F0 m pc ls (.int x :: .ref (q i) :: rest)) :=
  va_aldq hx hb C.2.2.1 S.1 i t (wld_at hi) ht hin hdg kk
theorem r_iast {n : Nat} (hx : p.tables.exec = Jvm.exec) (hb : c.code = cc) (C : Cx EV K D dA q A s m args own) (S : Sta K D dA q A s.heap w H locs) {i : Nat} (hi : K[i]? = some (.inl (0, n))) {x v : Int32} (hin : vp_in x n) (hdg : decode cc pc = .ok (.iastore, 1))
    (kk : ∀ w1 : Wt, w1 = upd2 w i x.toNatClampNeg v → ∀ (H1 : Heap) (locs1 : List Loc), Sta K D dA q A s.heap w1 H1 locs1 → W p l e R s m args below meth c H1 locs1 cells slots Q (F0 m (pc + 1) ls rest)) : W p l e R s m args below meth c H locs cells slots Q (F0 m pc ls (.int v :: .int x :: .ref (q i) :: rest)) := by
  refine va_iast hx hb C.2.2.1 S.1 (wld_D C.2.2.2.1 C.2.2.2.2.1) S.2 i 0 (wld_at hi) rfl hin hdg (fun H1 locs1 hP _ hS => ?_)
  have e9 := wld_set (dA := dA) (q := q) (w := w) (k := x.toNatClampNeg) (v := v) (y := .inl (dA 0, n, .inl (upd (w i) x.toNatClampNeg v))) hi rfl
  exact kk _ rfl H1 locs1 ⟨by rw [← e9]; exact hP, hS⟩
theorem r_zast {n : Nat} (hx : p.tables.exec = Jvm.exec) (hb : c.code = cc) (C : Cx EV K D dA q A s m args own) (S : Sta K D dA q A s.heap w H locs) {i : Nat} (hi : K[i]? = some (.inl (1, n))) {x v : Int32} (hin : vp_in x n) (hdg : decode cc pc = .ok (.bastore, 1))
    (kk : ∀ w1 : Wt, w1 = upd2 w i x.toNatClampNeg (vp_nar .boolean v) → ∀ (H1 : Heap) (locs1 : List Loc), Sta K D dA q A s.heap w1 H1 locs1 → W p l e R s m args below meth c H1 locs1 cells slots Q (F0 m (pc + 1) ls rest)) : W p l e R s m args below meth c H locs cells slots Q (F0 m pc ls (.int v :: .int x :: .ref (q i) :: rest)) := by
  refine va_zast hx hb C.2.2.1 S.1 (wld_D C.2.2.2.1 C.2.2.2.2.1) S.2 i 1 (wld_at hi) rfl hin hdg (fun H1 locs1 hP _ hS => ?_)
  have e9 := wld_set (dA := dA) (q := q) (w := w) (k := x.toNatClampNeg) (v := (vp_nar .boolean v)) (y := .inl (dA 1, n, .inl (upd (w i) x.toNatClampNeg (vp_nar .boolean v)))) hi rfl
  exact kk _ rfl H1 locs1 ⟨by rw [← e9]; exact hP, hS⟩
theorem r_cast {n : Nat} (hx : p.tables.exec = Jvm.exec) (hb : c.code = cc) (C : Cx EV K D dA q A s m args own) (S : Sta K D dA q A s.heap w H locs) {i : Nat} (hi : K[i]? = some (.inl (2, n))) {x v : Int32} (hin : vp_in x n) (hdg : decode cc pc = .ok (.castore, 1))
    (kk : ∀ w1 : Wt, w1 = upd2 w i x.toNatClampNeg (vp_nar .char v) → ∀ (H1 : Heap) (locs1 : List Loc), Sta K D dA q A s.heap w1 H1 locs1 → W p l e R s m args below meth c H1 locs1 cells slots Q (F0 m (pc + 1) ls rest)) : W p l e R s m args below meth c H locs cells slots Q (F0 m pc ls (.int v :: .int x :: .ref (q i) :: rest)) := by
  refine va_cast hx hb C.2.2.1 S.1 (wld_D C.2.2.2.1 C.2.2.2.2.1) S.2 i 2 (wld_at hi) rfl hin hdg (fun H1 locs1 hP _ hS => ?_)
  have e9 := wld_set (dA := dA) (q := q) (w := w) (k := x.toNatClampNeg) (v := (vp_nar .char v)) (y := .inl (dA 2, n, .inl (upd (w i) x.toNatClampNeg (vp_nar .char v)))) hi rfl
  exact kk _ rfl H1 locs1 ⟨by rw [← e9]; exact hP, hS⟩
end CORE
end
section
/-! CALLS: contracts over the world as functions, and the rows that use them -/
def exn (k : Nat) : String := if k = 0 then "java/lang/IndexOutOfBoundsException" else if k = 1 then "java/lang/IllegalArgumentException" else "java/lang/IllegalStateException"
/-- answers r, leaves the world w' -/
def Mi (l : Launch) (EV : Ev) (K : List Kd) (D : va_G) (dA : Nat → ClassId) (q : Nat → Nat) (y : MethodName) (b : ByteArray) (n : Nat) (ret : Option FieldType) (rm : Room) (av : List Value) (w : Wt) (r : Int32) (w' : Wt) : Prop :=
  ∀ sz : Nat, Met l y (.code y b n ret :: wall) rm (va_Pc av (Pr EV K D dA q sz w)) (va_Qi (fun (r' : Int32) (_ : Unit) => r' = r) (fun _ t => va_P D vwCl (wld K dA q w') t.heap) (Aq K q sz)) 0 0 (Aq K q sz)
def Mv (l : Launch) (EV : Ev) (K : List Kd) (D : va_G) (dA : Nat → ClassId) (q : Nat → Nat) (y : MethodName) (b : ByteArray) (n : Nat) (ret : Option FieldType) (rm : Room) (av : List Value) (w : Wt) (w' : Wt) : Prop :=
  ∀ sz : Nat, Met l y (.code y b n ret :: wall) rm (va_Pc av (Pr EV K D dA q sz w)) (va_Qv (fun (_ : Unit) => True) (fun _ t => va_P D vwCl (wld K dA q w') t.heap) (Aq K q sz)) 0 0 (Aq K q sz)
def Mr (l : Launch) (EV : Ev) (K : List Kd) (D : va_G) (dA : Nat → ClassId) (q : Nat → Nat) (y : MethodName) (b : ByteArray) (n : Nat) (ret : Option FieldType) (rm : Room) (av : List Value) (w : Wt) (j : Nat) (w' : Wt) : Prop :=
  ∀ sz : Nat, Met l y (.code y b n ret :: wall) rm (va_Pc av (Pr EV K D dA q sz w)) (va_Qr (fun (_ : Unit) => True) (fun _ a t => a = q j ∧ va_P D vwCl (wld K dA q w') t.heap) (Aq K q sz)) 0 0 (Aq K q sz)
/-- answers (inr r) or throws (inl k: the exception exn k) -/
def xQ (K : List Kd) (D : va_G) (dA : Nat → ClassId) (q : Nat → Nat) (res : Nat ⊕ Int32) (w' : Wt) (sz : Nat) : String → State → State → Prop :=
  vx_X (fun (_ : Unit) => True) (fun E _ t => (∃ k, res = .inl k ∧ E = exn k) ∧ va_P D vwCl (wld K dA q w') t.heap) (Aq K q sz)
def Xi (l : Launch) (EV : Ev) (K : List Kd) (D : va_G) (dA : Nat → ClassId) (q : Nat → Nat) (y : MethodName) (b : ByteArray) (n : Nat) (ret : Option FieldType) (rm : Room) (av : List Value) (w : Wt) (res : Nat ⊕ Int32) (w' : Wt) : Prop :=
  ∀ sz : Nat, vx_Met l y (.code y b n ret :: wall) rm (va_Pc av (Pr EV K D dA q sz w)) (va_Qi (fun (r' : Int32) (_ : Unit) => res = .inr r') (fun _ t => va_P D vwCl (wld K dA q w') t.heap) (Aq K q sz)) (xQ K D dA q res w' sz) 1 6 (Aq K q sz)
def Xv (l : Launch) (EV : Ev) (K : List Kd) (D : va_G) (dA : Nat → ClassId) (q : Nat → Nat) (y : MethodName) (b : ByteArray) (n : Nat) (ret : Option FieldType) (rm : Room) (av : List Value) (w : Wt) (res : Nat ⊕ Int32) (w' : Wt) : Prop :=
  ∀ sz : Nat, vx_Met l y (.code y b n ret :: wall) rm (va_Pc av (Pr EV K D dA q sz w)) (va_Qv (fun (_ : Unit) => ∃ r, res = .inr r) (fun _ t => va_P D vwCl (wld K dA q w') t.heap) (Aq K q sz)) (xQ K D dA q res w' sz) 1 6 (Aq K q sz)
abbrev plainM (y : MethodName) : Prop := y.cls ≠ "java/lang/invoke/MethodHandle" ∧ y.cls ≠ "java/lang/invoke/VarHandle"
abbrev nArgs (y : MethodName) (na : Nat) : Prop := (parseMethodDescriptor y.desc).map (fun d => d.parameters.length) = some na
/-- the words of a call: own method, named in its class -/
def lkV (own : String) (index : Nat) (Cn : String) (y : MethodName) (b : ByteArray) (n : Nat) (ret : Option FieldType) (na : Nat) : Prop :=
  Cond.methodLink own index y ∈ wall ∧ Cond.instanceMethod y ∈ wall ∧ Cond.selects Cn y y ∈ wall ∧ Cond.initialized y.cls ∈ wall ∧ Cond.code y b n ret ∈ wall ∧ plainM y ∧ nArgs y na
def lkS (own : String) (index : Nat) (y : MethodName) (b : ByteArray) (n : Nat) (ret : Option FieldType) (na : Nat) : Prop :=
  Cond.methodLink own index y ∈ wall ∧ Cond.static y ∈ wall ∧ Cond.initialized y.cls ∈ wall ∧ Cond.code y b n ret ∈ wall ∧ plainM y ∧ nArgs y na
/-- a nest mate's private static method -/
def lkN (own : String) (index : Nat) (host : String) (y : MethodName) (b : ByteArray) (n : Nat) (ret : Option FieldType) (na : Nat) : Prop :=
  Cond.methodLinkNest own index y host ∈ wall ∧ Cond.static y ∈ wall ∧ Cond.initialized y.cls ∈ wall ∧ Cond.code y b n ret ∈ wall ∧ plainM y ∧ nArgs y na
/-- inherited or overriding: x as the call names it, owner where it is declared, y what runs for a receiver of class Cn -/
def lkU (own : String) (index : Nat) (Cn owner : String) (x y : MethodName) (b : ByteArray) (n : Nat) (ret : Option FieldType) (na : Nat) : Prop :=
  Cond.methodLink own index x ∈ wall ∧ Cond.sameMethod x.cls owner x.name x.desc ∈ wall ∧ Cond.instanceMethod y ∈ wall ∧ Cond.initialized y.cls ∈ wall ∧ Cond.code y b n ret ∈ wall ∧ plainM ⟨owner, x.name, x.desc⟩ ∧ nArgs x na
section CALLS
variable {p : Program} {l : Launch} {e : Env} {R : Room} {s : State} {m : MethodId} {args : Array Value} {below : List Frame} {meth : Method} {c : Code} {H : Heap} {locs : List Loc} {cells slots : Nat} {Q : State → Prop}
variable {EV : Ev} {K : List Kd} {D : va_G} {dA : Nat → ClassId} {q : Nat → Nat} {A : Nat → Prop} {own : String} {w : Wt}
variable {cc : ByteArray} {pc nL : Nat} {ls : Array Slot} {rest st : List Value}
variable {index : Nat} {y : MethodName} {b : ByteArray} {n : Nat} {ret : Option FieldType} {na : Nat} {rm : Room} {As : List Value} {mc ms : Nat}
theorem r_cb (C : Cx EV K D dA q A s m args own) {yl : MethodName} (h4 : Cond.initialized y.cls ∈ wall) (h5 : Cond.code y b n ret ∈ wall) (hrc : rm.cells = mc) (hrs : rm.slots = ms) (hR : rm.frames + 1 ≤ R.frames ∧ 8 + (n + 11) + rm.locals ≤ R.locals) :
    rm.cells = mc ∧ rm.slots = ms ∧ rm.frames + 1 ≤ R.frames ∧ 8 + (n + 11) + rm.locals ≤ R.locals ∧ (∀ x ∈ (Cond.code y b n ret :: wall), ∀ (a' : Array Value) (U : State), s.WarmedH U.vm → x.before a' U = true) ∧ Cond.code y b n ret ∈ (Cond.code y b n ret :: wall) :=
  ⟨hrc, hrs, hR.1, hR.2, pay_in C.2.1 (wall_good (fun _ h => h) h5), List.mem_cons_self⟩
theorem r_len (h : nArgs y na) : ∀ sig, parseMethodDescriptor y.desc = some sig → na = sig.parameters.length := fun sig h1 => by
  unfold nArgs at h
  rw [h1] at h
  exact (Option.some.inj h).symm
theorem q_V {Cn : String} {Qc : Array Value → State → Outcome → State → Prop} (link : lkV own index Cn y b n ret na) (ev : evOk EV) (hx : p.tables.exec = Jvm.exec) (hb : c.code = cc) (hml : c.maxLocals = nL) (C : Cx EV K D dA q A s m args own) (S : Sta K D dA q A s.heap w H locs) {i ci N : Nat} {fs : List (Option Nat)} {T : u_T} (hi : K[i]? = some (.inr (.inl (ci, fs)))) (hc : vwCl[ci]? = some (Cn, T, N))
    (hM : Met l y (.code y b n ret :: wall) rm (va_Pc (.ref (q i) :: As) (Pr EV K D dA q H.size w)) Qc mc ms (Aq K q H.size)) (hrc : rm.cells = mc) (hrs : rm.slots = ms) (hR : rm.frames + 1 ≤ R.frames ∧ 8 + (n + 11) + rm.locals ≤ R.locals) (hn : As.length = na) (hsz : ls.size = nL) (hst : st = As.reverse ++ .ref (q i) :: rest) (hW : (rest.map fun v => v.category).sum ≤ 8) (hdg : decode cc pc = .ok (.invokevirtual index, 3)) (hf : cells + mc ≤ R.cells ∧ slots + ms ≤ R.slots) :
    va_Run p l e R s m args below meth c H locs cells slots mc ms (F0 m pc ls st) rest (Qc (Value.ref (q i) :: As).toArray) (Aq K q H.size) := by
  obtain ⟨h1, h2, h3, h4, h5, h6, h7⟩ := link
  obtain ⟨g1, g2, g3, g4, g5, g6⟩ := r_cb (R := R) C (yl := y) h4 h5 hrc hrs hR
  refine va_runV (Ts := wall) ⟨hx, hb, hml, C.1, C.2.1⟩ hM ⟨⟨g1, g2, g3, g4, g5, g6, C.2.1 _ h5, C.2.1 _ h4, h6, r_len h7, C.2.1 _ h1⟩, C.2.1 _ h2, C.2.1 _ h3⟩ ⟨Pr.blind ev, va_recv C.2.2.1 S.1 hc (wld_at hi), fun U hU hW => Cx.pre ev C S hU hW⟩ rfl hn hsz hst (lv_room hW) hdg hf
theorem q_S {Qc : Array Value → State → Outcome → State → Prop} (link : lkS own index y b n ret na) (ev : evOk EV) (hx : p.tables.exec = Jvm.exec) (hb : c.code = cc) (hml : c.maxLocals = nL) (C : Cx EV K D dA q A s m args own) (S : Sta K D dA q A s.heap w H locs)
    (hM : Met l y (.code y b n ret :: wall) rm (va_Pc As (Pr EV K D dA q H.size w)) Qc mc ms (Aq K q H.size)) (hrc : rm.cells = mc) (hrs : rm.slots = ms) (hR : rm.frames + 1 ≤ R.frames ∧ 8 + (n + 11) + rm.locals ≤ R.locals) (hn : As.length = na) (hsz : ls.size = nL) (hst : st = As.reverse ++ rest) (hW : (rest.map fun v => v.category).sum ≤ 8) (hdg : decode cc pc = .ok (.invokestatic index, 3)) (hf : cells + mc ≤ R.cells ∧ slots + ms ≤ R.slots) :
    va_Run p l e R s m args below meth c H locs cells slots mc ms (F0 m pc ls st) rest (Qc As.toArray) (Aq K q H.size) := by
  obtain ⟨h1, h2, h4, h5, h6, h7⟩ := link
  obtain ⟨g1, g2, g3, g4, g5, g6⟩ := r_cb (R := R) C (yl := y) h4 h5 hrc hrs hR
  refine va_runS (Ts := wall) ⟨hx, hb, hml, C.1, C.2.1⟩ hM ⟨⟨g1, g2, g3, g4, g5, g6, C.2.1 _ h5, C.2.1 _ h4, h6, r_len h7, C.2.1 _ h1⟩, C.2.1 _ h2⟩ ⟨Pr.blind ev, fun U hU hW => Cx.pre ev C S hU hW⟩ rfl hn hsz hst (lv_room hW) hdg hf
theorem q_N {host : String} {Qc : Array Value → State → Outcome → State → Prop} (link : lkN own index host y b n ret na) (ev : evOk EV) (hx : p.tables.exec = Jvm.exec) (hb : c.code = cc) (hml : c.maxLocals = nL) (C : Cx EV K D dA q A s m args own) (S : Sta K D dA q A s.heap w H locs)
    (hM : Met l y (.code y b n ret :: wall) rm (va_Pc As (Pr EV K D dA q H.size w)) Qc mc ms (Aq K q H.size)) (hrc : rm.cells = mc) (hrs : rm.slots = ms) (hR : rm.frames + 1 ≤ R.frames ∧ 8 + (n + 11) + rm.locals ≤ R.locals) (hn : As.length = na) (hsz : ls.size = nL) (hst : st = As.reverse ++ rest) (hW : (rest.map fun v => v.category).sum ≤ 8) (hdg : decode cc pc = .ok (.invokestatic index, 3)) (hf : cells + mc ≤ R.cells ∧ slots + ms ≤ R.slots) :
    va_Run p l e R s m args below meth c H locs cells slots mc ms (F0 m pc ls st) rest (Qc As.toArray) (Aq K q H.size) := by
  obtain ⟨h1, h2, h4, h5, h6, h7⟩ := link
  have g := r_cb (R := R) C (yl := y) h4 h5 hrc hrs hR
  refine va_runSN (Ts := wall) (host := host) ⟨hx, hb, hml, C.1, C.2.1⟩ hM ⟨⟨g, C.2.1 _ h5, C.2.1 _ h4, h6, r_len h7, C.2.1 _ h1⟩, C.2.1 _ h2, trivial⟩ ⟨Pr.blind ev, fun U hU hW => Cx.pre ev C S hU hW⟩ rfl hn hsz hst (lv_room hW) hdg hf
theorem q_U {Cn owner : String} {x : MethodName} {Qc : Array Value → State → Outcome → State → Prop} (link : lkU own index Cn owner x y b n ret na) (hdec : va_Decl s ⟨owner, x.name, x.desc⟩) (hsel : (Cond.selects Cn x y).before args s = true) (ev : evOk EV) (hx : p.tables.exec = Jvm.exec) (hb : c.code = cc) (hml : c.maxLocals = nL) (C : Cx EV K D dA q A s m args own) (S : Sta K D dA q A s.heap w H locs) {i ci N : Nat} {fs : List (Option Nat)} {T : u_T} (hi : K[i]? = some (.inr (.inl (ci, fs)))) (hc : vwCl[ci]? = some (Cn, T, N))
    (hM : Met l y (.code y b n ret :: wall) rm (va_Pc (.ref (q i) :: As) (Pr EV K D dA q H.size w)) Qc mc ms (Aq K q H.size)) (hrc : rm.cells = mc) (hrs : rm.slots = ms) (hR : rm.frames + 1 ≤ R.frames ∧ 8 + (n + 11) + rm.locals ≤ R.locals) (hn : As.length = na) (hsz : ls.size = nL) (hst : st = As.reverse ++ .ref (q i) :: rest) (hW : (rest.map fun v => v.category).sum ≤ 8) (hdg : decode cc pc = .ok (.invokevirtual index, 3)) (hf : cells + mc ≤ R.cells ∧ slots + ms ≤ R.slots) :
    va_Run p l e R s m args below meth c H locs cells slots mc ms (F0 m pc ls st) rest (Qc (Value.ref (q i) :: As).toArray) (Aq K q H.size) := by
  obtain ⟨h1, h2, h3, h4, h5, h6, h7⟩ := link
  have g := r_cb (R := R) C (yl := y) h4 h5 hrc hrs hR
  refine va_runU (Ts := wall) (owner := owner) (x := x) ⟨hx, hb, hml, C.1, C.2.1⟩ hM ⟨g, C.2.1 _ h5, C.2.1 _ h4, h6, r_len (y := x) h7, C.2.1 _ h1, C.2.1 _ h2, hdec, hsel, C.2.1 _ h3⟩ ⟨Pr.blind ev, va_recv C.2.2.1 S.1 hc (wld_at hi), fun U hU hW => Cx.pre ev C S hU hW⟩ rfl hn hsz hst (lv_room hW) hdg hf
theorem q_sta {H1 : Heap} {locs1 : List Loc} {w' : Wt} {t : State} (ht : t.heap = H1) (h : va_P D vwCl (wld K dA q w') t.heap) (hS : va_S A s.heap H1 locs1) : Sta K D dA q A s.heap w' H1 locs1 := ⟨by rw [← ht]; exact h, hS⟩
theorem k_i {r : Int32} {w' : Wt} {a : Array Value} (C : Cx EV K D dA q A s m args own) (S : Sta K D dA q A s.heap w H locs) (hr : va_Run p l e R s m args below meth c H locs cells slots 0 0 (F0 m pc ls st) rest (va_Qi (fun (r' : Int32) (_ : Unit) => r' = r) (fun _ t => va_P D vwCl (wld K dA q w') t.heap) (Aq K q H.size) a) (Aq K q H.size))
    (kk : ∀ (H1 : Heap) (locs1 : List Loc), Sta K D dA q A s.heap w' H1 locs1 → W p l e R s m args below meth c H1 locs1 cells slots Q (F0 m (pc + 3) ls (.int r :: rest))) : W p l e R s m args below meth c H locs cells slots Q (F0 m pc ls st) :=
  va_calli hr S.2 (fun x _ h => C.sub S x h) (C.sub S) (fun r' _ t H1 locs1 ht _ hr' hP _ _ hS => by subst hr'; exact kk H1 locs1 (q_sta ht hP hS))
theorem k_v {w' : Wt} {a : Array Value} (C : Cx EV K D dA q A s m args own) (S : Sta K D dA q A s.heap w H locs) (hr : va_Run p l e R s m args below meth c H locs cells slots 0 0 (F0 m pc ls st) rest (va_Qv (fun (_ : Unit) => True) (fun _ t => va_P D vwCl (wld K dA q w') t.heap) (Aq K q H.size) a) (Aq K q H.size))
    (kk : ∀ (H1 : Heap) (locs1 : List Loc), Sta K D dA q A s.heap w' H1 locs1 → W p l e R s m args below meth c H1 locs1 cells slots Q (F0 m (pc + 3) ls rest)) : W p l e R s m args below meth c H locs cells slots Q (F0 m pc ls st) :=
  va_callv hr S.2 (fun x _ h => C.sub S x h) (C.sub S) (fun _ t H1 locs1 ht _ _ hP _ _ hS => kk H1 locs1 (q_sta ht hP hS))
theorem k_r {w' : Wt} {j : Nat} {a : Array Value} (C : Cx EV K D dA q A s m args own) (S : Sta K D dA q A s.heap w H locs) (hr : va_Run p l e R s m args below meth c H locs cells slots 0 0 (F0 m pc ls st) rest (va_Qr (fun (_ : Unit) => True) (fun _ x t => x = q j ∧ va_P D vwCl (wld K dA q w') t.heap) (Aq K q H.size) a) (Aq K q H.size))
    (kk : ∀ (H1 : Heap) (locs1 : List Loc), Sta K D dA q A s.heap w' H1 locs1 → W p l e R s m args below meth c H1 locs1 cells slots Q (F0 m (pc + 3) ls (.ref (q j) :: rest))) : W p l e R s m args below meth c H locs cells slots Q (F0 m pc ls st) := by
  refine va_callr hr S.2 (fun x _ h => C.sub S x h) (C.sub S) (fun u a2 t H1 locs1 ht ha hp hP h1 h2 hS => ?_)
  obtain ⟨rfl, hP⟩ := hP
  exact kk H1 locs1 (q_sta ht hP hS)
/-- the ends -/
theorem e_i {r r' : Int32} {w' w2 : Wt} {o : Option (Int32 × Wt)} (hx : p.tables.exec = Jvm.exec) (hb : c.code = cc) (hr : meth.sig.returnType = some .int) (hlocks : meth.locks = false) (C : Cx EV K D dA q (Aq K q s.heap.size) s m args own) (S : Sta K D dA q (Aq K q s.heap.size) s.heap w2 H locs) (h : some (r', w2) = some (r, w')) (hdg : decode cc pc = .ok (.ireturn, 1)) :
    W p l e R s m args below meth c H locs cells slots (MQ below (va_Qi (fun (r' : Int32) (_ : Unit) => r' = r) (fun _ t => va_P D vwCl (wld K dA q w') t.heap) (Aq K q s.heap.size)) args s cells slots (Aq K q s.heap.size)) (F0 m pc ls [.int r']) := by
  obtain ⟨rfl, rfl⟩ := Prod.mk.inj (Option.some.inj h)
  exact W.iret (v := r') hx hb hr (fun t ht hW => ⟨⟨r', (), rfl, rfl, by rw [ht]; exact S.1⟩, S.2.F ht⟩) S.2.2.2 hdg hlocks
theorem e_z {r r' : Int32} {w' w2 : Wt} {ty : FieldType} (hx : p.tables.exec = Jvm.exec) (hb : c.code = cc) (hr : meth.sig.returnType = some ty) (hlocks : meth.locks = false) (C : Cx EV K D dA q (Aq K q s.heap.size) s m args own) (S : Sta K D dA q (Aq K q s.heap.size) s.heap w2 H locs) (hn : narrow ty (.int r') = .int r') (h : some (r', w2) = some (r, w')) (hdg : decode cc pc = .ok (.ireturn, 1)) :
    W p l e R s m args below meth c H locs cells slots (MQ below (va_Qi (fun (r' : Int32) (_ : Unit) => r' = r) (fun _ t => va_P D vwCl (wld K dA q w') t.heap) (Aq K q s.heap.size)) args s cells slots (Aq K q s.heap.size)) (F0 m pc ls [.int r']) := by
  obtain ⟨rfl, rfl⟩ := Prod.mk.inj (Option.some.inj h)
  exact W.zret (v := r') hx hb hr hn (fun t ht hW => ⟨⟨r', (), rfl, rfl, by rw [ht]; exact S.1⟩, S.2.F ht⟩) S.2.2.2 hdg hlocks
theorem e_v {r r' : Int32} {w' w2 : Wt} (hx : p.tables.exec = Jvm.exec) (hb : c.code = cc) (hr : meth.sig.returnType = none) (hlocks : meth.locks = false) (C : Cx EV K D dA q (Aq K q s.heap.size) s m args own) (S : Sta K D dA q (Aq K q s.heap.size) s.heap w2 H locs) (h : some (r', w2) = some (r, w')) (hdg : decode cc pc = .ok (.return_, 1)) :
    W p l e R s m args below meth c H locs cells slots (MQ below (va_Qv (fun (_ : Unit) => True) (fun _ t => va_P D vwCl (wld K dA q w') t.heap) (Aq K q s.heap.size)) args s cells slots (Aq K q s.heap.size)) (F0 m pc ls []) := by
  obtain ⟨rfl, rfl⟩ := Prod.mk.inj (Option.some.inj h)
  exact W.vret hx hb hr (fun t ht hW => ⟨⟨(), rfl, trivial, by rw [ht]; exact S.1⟩, S.2.F ht⟩) S.2.2.2 hdg hlocks
theorem e_r {r r' : Int32} {j : Nat} {w' w2 : Wt} {rt : FieldType} (hx : p.tables.exec = Jvm.exec) (hb : c.code = cc) (hr : meth.sig.returnType = some rt) (hrt : (∃ n, rt = .object n) ∨ ∃ t, rt = .array t) (hlocks : meth.locks = false) (C : Cx EV K D dA q (Aq K q s.heap.size) s m args own) (S : Sta K D dA q (Aq K q s.heap.size) s.heap w2 H locs) (h : some (r', w2) = some (r, w')) (hdg : decode cc pc = .ok (.areturn, 1)) :
    W p l e R s m args below meth c H locs cells slots (MQ below (va_Qr (fun (_ : Unit) => True) (fun _ a t => a = q j ∧ va_P D vwCl (wld K dA q w') t.heap) (Aq K q s.heap.size)) args s cells slots (Aq K q s.heap.size)) (F0 m pc ls [.ref (q j)]) := by
  obtain ⟨rfl, rfl⟩ := Prod.mk.inj (Option.some.inj h)
  exact W.aret (v := .ref (q j)) hx hb hr hrt (Or.inr ⟨_, rfl⟩) (fun t ht hW => ⟨⟨(), q j, rfl, trivial, rfl, by rw [ht]; exact S.1⟩, S.2.F ht⟩) S.2.2.2 hdg hlocks
end CALLS
/-! the models: partial functions over the world; none where the machine itself would throw, or a loop has no fuel left -/
def gd {α : Type} (b : Bool) (o : Option α) : Option α := if b = true then o else none
def inb (x : Int32) (n : Nat) : Bool := decide (vp_in x n)
def lt {α β : Type} (a : α) (f : α → Option β) : Option β := f a
def lp {σ ρ : Type} (b : σ → Option (σ ⊕ ρ)) : Nat → σ → Option ρ
  | 0, _ => none
  | n + 1, s => (b s).bind (fun x => match x with | .inl s' => lp b n s' | .inr r => some r)
def FU : Nat := 100000
theorem h_gd {α β : Type} {b : Bool} {o : Option α} {F : α → Option β} {z : β} (h : Option.bind (gd b o) F = some z) : b = true ∧ Option.bind o F = some z := by
  unfold gd at h
  by_cases hb : b = true
  · rw [if_pos hb] at h; exact ⟨hb, h⟩
  · rw [if_neg hb] at h; cases h
theorem h_in {x : Int32} {n : Nat} (h : inb x n = true) : vp_in x n := of_decide_eq_true h
theorem h_t {α β : Type} {c : Prop} [Decidable c] {a b : Option α} {F : α → Option β} {z : β} (hc : c) (h : Option.bind (if c then a else b) F = some z) : Option.bind a F = some z := by rw [if_pos hc] at h; exact h
theorem h_f {α β : Type} {c : Prop} [Decidable c] {a b : Option α} {F : α → Option β} {z : β} (hc : ¬ c) (h : Option.bind (if c then a else b) F = some z) : Option.bind b F = some z := by rw [if_neg hc] at h; exact h
theorem h_c {α β γ : Type} {a : Option γ} {f : γ → Option α} {F : α → Option β} {z : β} (h : Option.bind (Option.bind a f) F = some z) : ∃ x, a = some x ∧ Option.bind (f x) F = some z := by
  cases a with
  | none => cases h
  | some x => exact ⟨x, rfl, h⟩
theorem h_l {α β γ : Type} {a : γ} {f : γ → Option α} {F : α → Option β} {z : β} (h : Option.bind (lt a f) F = some z) (x : γ) (e : x = a) : Option.bind (f x) F = some z := by subst e; exact h
/-- a loop: what is behind it gets its answer -/
theorem h_lp {σ ρ β : Type} {b : σ → Option (σ ⊕ ρ)} {n : Nat} {s : σ} {F : ρ → Option β} {z : β} (h : Option.bind (lp b (n + 1) s) F = some z) : Option.bind (b s) (fun x => match x with | .inl s' => Option.bind (lp b n s') F | .inr r => F r) = some z := by
  unfold lp at h
  cases hb : b s with
  | none => rw [hb] at h; cases h
  | some x =>
    rw [hb] at h
    cases x with
    | inl s' => exact h
    | inr r => exact h
theorem h_lp0 {σ ρ β : Type} {b : σ → Option (σ ⊕ ρ)} {s : σ} {F : ρ → Option β} {z : β} (h : Option.bind (lp b 0 s) F = some z) : False := by cases h
theorem h_0 {α : Type} {a : Option α} {z : α} (h : a = some z) : Option.bind a some = some z := by rw [h]; rfl
end

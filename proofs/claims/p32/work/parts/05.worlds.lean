/-! WORLDS: the cells of a Ballotscript, those of the reference; what the methods take of the heap beside their world -/
/-- the cells of a Ballotscript -/
def KC : List Kd := [.inr (.inl (8, [some 1, some 7, some 9, some 10, some 11, some 13, some 22, some 28, none, none, none])), .inr (.inl (3, [some 2, some 3, some 4, some 5, some 6, none])), .inl (0, 60), .inl (0, 60), .inl (0, 60), .inl (0, 60), .inl (1, 60), .inr (.inl (6, [some 8, none])), .inl (2, 24), .inr (.inr (3, 8, 32)), .inr (.inr (4, 8, 64)), .inr (.inl (5, [some 12, none])), .inl (0, 6), .inr (.inl (0, [some 1, some 14, some 15, some 16, some 17, some 18, some 19, some 20, none, some 21, none])), .inl (0, 100), .inl (0, 100), .inl (0, 100), .inl (0, 100), .inl (0, 100), .inl (0, 600), .inl (1, 100), .inl (0, 100), .inr (.inl (2, [some 13, some 23, none, none, none, none, none, none, some 24, some 25, some 26, some 27])), .inl (0, 6), .inl (0, 936), .inl (0, 156), .inl (0, 156), .inl (0, 24), .inr (.inl (1, [some 13, some 29, none, none, none, none, none, none, some 30, some 31])), .inl (0, 6), .inl (2, 156), .inl (0, 156), .inr (.inl (4, [some 40, some 48, some 56, none, none, none])), .inr (.inl (4, [some 41, some 49, some 57, none, none, none])), .inr (.inl (4, [some 42, some 50, some 58, none, none, none])), .inr (.inl (4, [some 43, some 51, some 59, none, none, none])), .inr (.inl (4, [some 44, some 52, some 60, none, none, none])), .inr (.inl (4, [some 45, some 53, some 61, none, none, none])), .inr (.inl (4, [some 46, some 54, some 62, none, none, none])), .inr (.inl (4, [some 47, some 55, some 63, none, none, none])), .inl (2, 24), .inl (2, 24), .inl (2, 24), .inl (2, 24), .inl (2, 24), .inl (2, 24), .inl (2, 24), .inl (2, 24), .inl (2, 24), .inl (2, 24), .inl (2, 24), .inl (2, 24), .inl (2, 24), .inl (2, 24), .inl (2, 24), .inl (2, 24), .inl (0, 24), .inl (0, 24), .inl (0, 24), .inl (0, 24), .inl (0, 24), .inl (0, 24), .inl (0, 24), .inl (0, 24), .inr (.inl (7, [none, none, none, none, none, none, none, none, none])), .inr (.inl (7, [none, none, none, none, none, none, none, none, none])), .inr (.inl (7, [none, none, none, none, none, none, none, none, none])), .inr (.inl (7, [none, none, none, none, none, none, none, none, none])), .inr (.inl (7, [none, none, none, none, none, none, none, none, none])), .inr (.inl (7, [none, none, none, none, none, none, none, none, none])), .inr (.inl (7, [none, none, none, none, none, none, none, none, none])), .inr (.inl (7, [none, none, none, none, none, none, none, none, none]))]
theorem KC_len : KC.length = 72 := rfl
theorem KC_0 : KC[0]? = some (.inr (.inl (8, [some 1, some 7, some 9, some 10, some 11, some 13, some 22, some 28, none, none, none]))) := rfl
theorem KC_1 : KC[1]? = some (.inr (.inl (3, [some 2, some 3, some 4, some 5, some 6, none]))) := rfl
theorem KC_2 : KC[2]? = some (.inl (0, 60)) := rfl
theorem KC_3 : KC[3]? = some (.inl (0, 60)) := rfl
theorem KC_4 : KC[4]? = some (.inl (0, 60)) := rfl
theorem KC_5 : KC[5]? = some (.inl (0, 60)) := rfl
theorem KC_6 : KC[6]? = some (.inl (1, 60)) := rfl
theorem KC_7 : KC[7]? = some (.inr (.inl (6, [some 8, none]))) := rfl
theorem KC_8 : KC[8]? = some (.inl (2, 24)) := rfl
theorem KC_9 : KC[9]? = some (.inr (.inr (3, 8, 32))) := rfl
theorem KC_10 : KC[10]? = some (.inr (.inr (4, 8, 64))) := rfl
theorem KC_11 : KC[11]? = some (.inr (.inl (5, [some 12, none]))) := rfl
theorem KC_12 : KC[12]? = some (.inl (0, 6)) := rfl
theorem KC_13 : KC[13]? = some (.inr (.inl (0, [some 1, some 14, some 15, some 16, some 17, some 18, some 19, some 20, none, some 21, none]))) := rfl
theorem KC_14 : KC[14]? = some (.inl (0, 100)) := rfl
theorem KC_15 : KC[15]? = some (.inl (0, 100)) := rfl
theorem KC_16 : KC[16]? = some (.inl (0, 100)) := rfl
theorem KC_17 : KC[17]? = some (.inl (0, 100)) := rfl
theorem KC_18 : KC[18]? = some (.inl (0, 100)) := rfl
theorem KC_19 : KC[19]? = some (.inl (0, 600)) := rfl
theorem KC_20 : KC[20]? = some (.inl (1, 100)) := rfl
theorem KC_21 : KC[21]? = some (.inl (0, 100)) := rfl
theorem KC_22 : KC[22]? = some (.inr (.inl (2, [some 13, some 23, none, none, none, none, none, none, some 24, some 25, some 26, some 27]))) := rfl
theorem KC_23 : KC[23]? = some (.inl (0, 6)) := rfl
theorem KC_24 : KC[24]? = some (.inl (0, 936)) := rfl
theorem KC_25 : KC[25]? = some (.inl (0, 156)) := rfl
theorem KC_26 : KC[26]? = some (.inl (0, 156)) := rfl
theorem KC_27 : KC[27]? = some (.inl (0, 24)) := rfl
theorem KC_28 : KC[28]? = some (.inr (.inl (1, [some 13, some 29, none, none, none, none, none, none, some 30, some 31]))) := rfl
theorem KC_29 : KC[29]? = some (.inl (0, 6)) := rfl
theorem KC_30 : KC[30]? = some (.inl (2, 156)) := rfl
theorem KC_31 : KC[31]? = some (.inl (0, 156)) := rfl
theorem KC_32 {r : Nat} (h : r < 8) : KC[32 + r]? = some (.inr (.inl (4, [some (40 + r), some (48 + r), some (56 + r), none, none, none]))) := by
  match r, h with
  | 0, _ => rfl
  | 1, _ => rfl
  | 2, _ => rfl
  | 3, _ => rfl
  | 4, _ => rfl
  | 5, _ => rfl
  | 6, _ => rfl
  | 7, _ => rfl
theorem KC_40 {r : Nat} (h : r < 8) : KC[40 + r]? = some (.inl (2, 24)) := by
  match r, h with
  | 0, _ => rfl
  | 1, _ => rfl
  | 2, _ => rfl
  | 3, _ => rfl
  | 4, _ => rfl
  | 5, _ => rfl
  | 6, _ => rfl
  | 7, _ => rfl
theorem KC_48 {r : Nat} (h : r < 8) : KC[48 + r]? = some (.inl (2, 24)) := by
  match r, h with
  | 0, _ => rfl
  | 1, _ => rfl
  | 2, _ => rfl
  | 3, _ => rfl
  | 4, _ => rfl
  | 5, _ => rfl
  | 6, _ => rfl
  | 7, _ => rfl
theorem KC_56 {r : Nat} (h : r < 8) : KC[56 + r]? = some (.inl (0, 24)) := by
  match r, h with
  | 0, _ => rfl
  | 1, _ => rfl
  | 2, _ => rfl
  | 3, _ => rfl
  | 4, _ => rfl
  | 5, _ => rfl
  | 6, _ => rfl
  | 7, _ => rfl
theorem KC_64 {r : Nat} (h : r < 8) : KC[64 + r]? = some (.inr (.inl (7, [none, none, none, none, none, none, none, none, none]))) := by
  match r, h with
  | 0, _ => rfl
  | 1, _ => rfl
  | 2, _ => rfl
  | 3, _ => rfl
  | 4, _ => rfl
  | 5, _ => rfl
  | 6, _ => rfl
  | 7, _ => rfl
/-- the cells of the reference -/
def KM : List Kd := [.inr (.inl (9, [none, some 1, some 2, some 3, some 4, some 5, none, some 6, none, some 7, some 8, none, some 9, some 10, some 11, some 12, some 13, some 14, some 15, some 16, none, some 17, some 18, some 19, some 20, some 21, some 22, none, some 23, none, some 24, some 25, none, none, some 26, none, none, none, none, none, none, some 27, some 28, none, some 29, none])), .inl (0, 60), .inl (0, 60), .inl (0, 60), .inl (0, 60), .inl (1, 60), .inl (0, 24), .inl (0, 192), .inl (0, 8), .inl (0, 8), .inl (0, 8), .inl (0, 8), .inl (0, 8), .inl (1, 8), .inl (0, 8), .inl (0, 8), .inl (0, 8), .inl (0, 600), .inl (0, 100), .inl (0, 100), .inl (0, 100), .inl (0, 100), .inl (1, 100), .inl (0, 6), .inl (1, 100), .inl (0, 2400), .inl (0, 800), .inl (0, 24), .inl (0, 24), .inl (0, 8)]
theorem KM_len : KM.length = 30 := rfl
theorem KM_0 : KM[0]? = some (.inr (.inl (9, [none, some 1, some 2, some 3, some 4, some 5, none, some 6, none, some 7, some 8, none, some 9, some 10, some 11, some 12, some 13, some 14, some 15, some 16, none, some 17, some 18, some 19, some 20, some 21, some 22, none, some 23, none, some 24, some 25, none, none, some 26, none, none, none, none, none, none, some 27, some 28, none, some 29, none]))) := rfl
theorem KM_1 : KM[1]? = some (.inl (0, 60)) := rfl
theorem KM_2 : KM[2]? = some (.inl (0, 60)) := rfl
theorem KM_3 : KM[3]? = some (.inl (0, 60)) := rfl
theorem KM_4 : KM[4]? = some (.inl (0, 60)) := rfl
theorem KM_5 : KM[5]? = some (.inl (1, 60)) := rfl
theorem KM_6 : KM[6]? = some (.inl (0, 24)) := rfl
theorem KM_7 : KM[7]? = some (.inl (0, 192)) := rfl
theorem KM_8 : KM[8]? = some (.inl (0, 8)) := rfl
theorem KM_9 : KM[9]? = some (.inl (0, 8)) := rfl
theorem KM_10 : KM[10]? = some (.inl (0, 8)) := rfl
theorem KM_11 : KM[11]? = some (.inl (0, 8)) := rfl
theorem KM_12 : KM[12]? = some (.inl (0, 8)) := rfl
theorem KM_13 : KM[13]? = some (.inl (1, 8)) := rfl
theorem KM_14 : KM[14]? = some (.inl (0, 8)) := rfl
theorem KM_15 : KM[15]? = some (.inl (0, 8)) := rfl
theorem KM_16 : KM[16]? = some (.inl (0, 8)) := rfl
theorem KM_17 : KM[17]? = some (.inl (0, 600)) := rfl
theorem KM_18 : KM[18]? = some (.inl (0, 100)) := rfl
theorem KM_19 : KM[19]? = some (.inl (0, 100)) := rfl
theorem KM_20 : KM[20]? = some (.inl (0, 100)) := rfl
theorem KM_21 : KM[21]? = some (.inl (0, 100)) := rfl
theorem KM_22 : KM[22]? = some (.inl (1, 100)) := rfl
theorem KM_23 : KM[23]? = some (.inl (0, 6)) := rfl
theorem KM_24 : KM[24]? = some (.inl (1, 100)) := rfl
theorem KM_25 : KM[25]? = some (.inl (0, 2400)) := rfl
theorem KM_26 : KM[26]? = some (.inl (0, 800)) := rfl
theorem KM_27 : KM[27]? = some (.inl (0, 24)) := rfl
theorem KM_28 : KM[28]? = some (.inl (0, 24)) := rfl
theorem KM_29 : KM[29]? = some (.inl (0, 8)) := rfl
/-- words that hold at any state of the launch, but not by the kit's own test -/
def xw1 : List Cond := [Cond.methodLinkNest "Ballotscript" 9 ⟨"Ballotscript$Rolls", "<init>", "()V"⟩ "Ballotscript", Cond.methodLinkNest "Ballotscript" 18 ⟨"Ballotscript$Text", "<init>", "()V"⟩ "Ballotscript", Cond.methodLinkNest "Ballotscript" 37 ⟨"Ballotscript$Slip", "<init>", "()V"⟩ "Ballotscript", Cond.methodLinkNest "Ballotscript" 67 ⟨"Ballotscript$Rule", "<init>", "()V"⟩ "Ballotscript", Cond.methodLinkNest "Ballotscript" 68 ⟨"Ballotscript$Vote", "<init>", "()V"⟩ "Ballotscript", Cond.methodLinkNest "Ballotscript$Text" 23 ⟨"Ballotscript", "isDigit", "(C)Z"⟩ "Ballotscript", Cond.methodLinkNest "Ballotscript$Rolls" 32 ⟨"Ballotscript", "isWithin", "(III)Z"⟩ "Ballotscript", Cond.declares ⟨"Ballotscript$Count", "begin", "(II)V"⟩, Cond.methodLinkNest "Ballotscript$MachineCount" 51 ⟨"Ballotscript", "isWithin", "(III)Z"⟩ "Ballotscript", Cond.declares ⟨"Ballotscript$Count", "obey", "(CI)V"⟩, Cond.declares ⟨"Ballotscript$Count", "makeTally", "(C)V"⟩, Cond.declares ⟨"Ballotscript$Count", "votesIn", "(II)I"⟩, Cond.declares ⟨"Ballotscript$Count", "weightOf", "(I)I"⟩, Cond.castable "java/lang/IndexOutOfBoundsException" "java/lang/IndexOutOfBoundsException", Cond.declares ⟨"java/lang/RuntimeException", "<init>", "()V"⟩, Cond.declares ⟨"java/lang/RuntimeException", "<init>", "(Ljava/lang/String;)V"⟩, Cond.declares ⟨"java/lang/Exception", "<init>", "()V"⟩, Cond.declares ⟨"java/lang/Exception", "<init>", "(Ljava/lang/String;)V"⟩, Cond.declares ⟨"java/lang/Throwable", "<init>", "()V"⟩, Cond.declares ⟨"java/lang/Throwable", "<init>", "(Ljava/lang/String;)V"⟩, Cond.castable "java/lang/IllegalArgumentException" "java/lang/IllegalArgumentException", Cond.castable "java/lang/IllegalStateException" "java/lang/IllegalStateException", Cond.methodLinkNest "Ballotscript$Rule" 36 ⟨"Ballotscript", "isDigit", "(C)Z"⟩ "Ballotscript", Cond.methodLinkNest "Ballotscript" 271 ⟨"Ballotscript$HandCount", "doRow", "(LBallotscript$HandCount;LBallotscript$Rule;II)I"⟩ "Ballotscript", Cond.methodLinkNest "Ballotscript$HandCount" 31 ⟨"Ballotscript", "isDigit", "(C)Z"⟩ "Ballotscript"]
def xw2 : List Cond := [Cond.selects RX2 yX1_letGo yX1_letGo, Cond.selects RX2 yX1_leaders yX1_leaders, Cond.selects RX2 yX1_maySomeGo yX1_maySomeGo, Cond.selects RX2 yX1_keepTie yX1_keepTie, Cond.selects RX2 yX1_remove yX1_remove, Cond.selects RX3 yX1_letGo yX1_letGo, Cond.selects RX3 yX1_leaders yX1_leaders, Cond.selects RX3 yX1_maySomeGo yX1_maySomeGo, Cond.selects RX3 yX1_keepTie yX1_keepTie, Cond.selects RX3 yX1_remove yX1_remove]
def warmW (w : Cond) : Prop := ∀ s U : State, s.WarmedH U.vm → va_Nw w s → va_Nw w U
theorem warm_sel {C : String} {x y : MethodName} : warmW (.selects C x y) := fun s U hW h => word_at hW (good_of_word rfl) h
theorem xw1_warm : ∀ w ∈ xw1, warmW w := List.forall_mem_cons.mpr ⟨(fun s U hW h => va_Nw.warmM hW h), List.forall_mem_cons.mpr ⟨(fun s U hW h => va_Nw.warmM hW h), List.forall_mem_cons.mpr ⟨(fun s U hW h => va_Nw.warmM hW h), List.forall_mem_cons.mpr ⟨(fun s U hW h => va_Nw.warmM hW h), List.forall_mem_cons.mpr ⟨(fun s U hW h => va_Nw.warmM hW h), List.forall_mem_cons.mpr ⟨(fun s U hW h => va_Nw.warmM hW h), List.forall_mem_cons.mpr ⟨(fun s U hW h => va_Nw.warmM hW h), List.forall_mem_cons.mpr ⟨(fun s U hW h => va_Nw.warmD hW h), List.forall_mem_cons.mpr ⟨(fun s U hW h => va_Nw.warmM hW h), List.forall_mem_cons.mpr ⟨(fun s U hW h => va_Nw.warmD hW h), List.forall_mem_cons.mpr ⟨(fun s U hW h => va_Nw.warmD hW h), List.forall_mem_cons.mpr ⟨(fun s U hW h => va_Nw.warmD hW h), List.forall_mem_cons.mpr ⟨(fun s U hW h => va_Nw.warmD hW h), List.forall_mem_cons.mpr ⟨(fun s U hW h => va_Nw.warmC hW h), List.forall_mem_cons.mpr ⟨(fun s U hW h => va_Nw.warmD hW h), List.forall_mem_cons.mpr ⟨(fun s U hW h => va_Nw.warmD hW h), List.forall_mem_cons.mpr ⟨(fun s U hW h => va_Nw.warmD hW h), List.forall_mem_cons.mpr ⟨(fun s U hW h => va_Nw.warmD hW h), List.forall_mem_cons.mpr ⟨(fun s U hW h => va_Nw.warmD hW h), List.forall_mem_cons.mpr ⟨(fun s U hW h => va_Nw.warmD hW h), List.forall_mem_cons.mpr ⟨(fun s U hW h => va_Nw.warmC hW h), List.forall_mem_cons.mpr ⟨(fun s U hW h => va_Nw.warmC hW h), List.forall_mem_cons.mpr ⟨(fun s U hW h => va_Nw.warmM hW h), List.forall_mem_cons.mpr ⟨(fun s U hW h => va_Nw.warmM hW h), List.forall_mem_cons.mpr ⟨(fun s U hW h => va_Nw.warmM hW h), fun _ h => absurd h List.not_mem_nil⟩⟩⟩⟩⟩⟩⟩⟩⟩⟩⟩⟩⟩⟩⟩⟩⟩⟩⟩⟩⟩⟩⟩⟩⟩
theorem xw2_warm : ∀ w ∈ xw2, warmW w := List.forall_mem_cons.mpr ⟨warm_sel, List.forall_mem_cons.mpr ⟨warm_sel, List.forall_mem_cons.mpr ⟨warm_sel, List.forall_mem_cons.mpr ⟨warm_sel, List.forall_mem_cons.mpr ⟨warm_sel, List.forall_mem_cons.mpr ⟨warm_sel, List.forall_mem_cons.mpr ⟨warm_sel, List.forall_mem_cons.mpr ⟨warm_sel, List.forall_mem_cons.mpr ⟨warm_sel, List.forall_mem_cons.mpr ⟨warm_sel, fun _ h => absurd h List.not_mem_nil⟩⟩⟩⟩⟩⟩⟩⟩⟩⟩
/-- the String constants: class, entry, text; the first three are those that the class asks -/
def strC : List (String × Nat × String) := [("Ballotscript$Text", 27, "tbamxrlhq"), ("Ballotscript$Count", 39, "tba"), ("Ballotscript$Count", 51, "lhq"), ("Ballotscript", 75, "no such roll or person"), ("Ballotscript", 82, "from or to is out of range"), ("Ballotscript", 91, "there are 60 entries"), ("Ballotscript", 98, "no such entry"), ("Ballotscript", 104, "the entry is struck"), ("Ballotscript", 110, "day is out of range"), ("Ballotscript", 115, "days is out of range"), ("Ballotscript", 120, "today would be behind 1000"), ("Ballotscript", 137, "the text is no rule"), ("Ballotscript", 142, "there are 8 rules"), ("Ballotscript", 148, "no such rule"), ("Ballotscript", 166, "no such roll or rule"), ("Ballotscript", 168, "candidates or seats is out of range"), ("Ballotscript", 170, "there are 8 votes"), ("Ballotscript", 304, "no such vote"), ("Ballotscript", 184, "the vote is closed"), ("Ballotscript", 192, "no such candidate"), ("Ballotscript", 198, "the candidate is marked"), ("Ballotscript", 203, "no such person"), ("Ballotscript", 213, "no such ballot may be cast"), ("Ballotscript", 306, "no such ballot"), ("Ballotscript", 227, "no such place"), ("Ballotscript", 240, "the ballot is misread or has one candidate alone"), ("Ballotscript", 242, "seed or many is out of range"), ("Ballotscript", 244, "no ballot of the vote counts"), ("Ballotscript", 296, "the vote is open"), ("Ballotscript", 126, "no such letter"), ("Ballotscript", 129, "the text has 24 letters"), ("Ballotscript", 279, "no such tally or candidate"), ("Ballotscript", 291, "no such tie")]
def lenS : List Nat := [9, 3, 3]
def bytS : List (List Int32) := [[116, 98, 97, 109, 120, 114, 108, 104, 113], [116, 98, 97], [108, 104, 113]]
/-- a String constant's cell -/
def sA (U : State) (j : Nat) : Nat := match (Term.string (strC.getD j ("", 0, "")).1 (strC.getD j ("", 0, "")).2.1).eval #[] U none [] U with
  | some (.ref a) => a
  | _ => 0
def strOk (U : State) : Prop := ∀ j : Nat, j < strC.length → vk_R (strC.getD j ("", 0, "")).1 (strC.getD j ("", 0, "")).2.1 (strC.getD j ("", 0, "")).2.2 (sA U j) U
theorem sA_of {U : State} {j a : Nat} {x : String × Nat × String} (hj : strC.getD j ("", 0, "") = x) (h : vk_R x.1 x.2.1 x.2.2 a U) : sA U j = a := by
  subst hj
  unfold sA
  rw [h.2]
theorem strOk.warm {s U : State} (hW : s.WarmedH U.vm) (h : strOk s) : strOk U ∧ ∀ j, j < strC.length → sA U j = sA s j := by
  have h1 : ∀ j, j < strC.length → vk_R (strC.getD j ("", 0, "")).1 (strC.getD j ("", 0, "")).2.1 (strC.getD j ("", 0, "")).2.2 (sA s j) U := fun j hj => vk_R.warm hW (h j hj)
  have h2 : ∀ j, j < strC.length → sA U j = sA s j := fun j hj => sA_of rfl (h1 j hj)
  exact ⟨fun j hj => by rw [h2 j hj]; exact h1 j hj, h2⟩
/-- the class's environment: words, String constants, the statics that a throw reads, String.COMPACT_STRINGS -/
def EVc : Ev := fun A U H => (∀ w ∈ xw1, va_Nw w U) ∧ (∀ w ∈ xw2, va_Nw w U) ∧ strOk U ∧ (∃ adV : Nat → Nat, vk_S 3 lenS bytS (sA U) adV A U H) ∧ vx_Zq Bundle.tN "UNASSIGNED_STACK" Bundle.steD A U H ∧ vx_Zq Bundle.tN "SUPPRESSED_SENTINEL" Bundle.listD A U H ∧ va_Z "java/lang/String" "COMPACT_STRINGS" "Z" (.int 1) A U H
theorem vk_S.cong {N : Nat} {len : List Nat} {byt : List (List Int32)} {a1 a2 adV : Nat → Nat} {A : Nat → Prop} {U : State} {H : Heap} (h : vk_S N len byt a1 adV A U H) (e : ∀ i, i < N → a2 i = a1 i) : vk_S N len byt a2 adV A U H :=
  ⟨fun i hi => by rw [e i hi]; exact h.1 i hi, fun i j hi hj => by rw [e i hi, e j hj]; exact h.2 i j hi hj⟩
theorem EVc_ok : evOk EVc := by
  refine ⟨fun A s U H hW h => ?_, fun A U H H1 h hq => ?_, fun A B U H h hAB => ?_⟩
  · obtain ⟨h1, h2, h3, ⟨adV, h4⟩, h5, h6, h7⟩ := h
    obtain ⟨g1, g2⟩ := strOk.warm hW h3
    exact ⟨fun w hw => xw1_warm w hw s U hW (h1 w hw), fun w hw => xw2_warm w hw s U hW (h2 w hw), g1, ⟨adV, vk_S.cong (vk_S.moved hW.alike h4) (fun i hi => g2 i (Nat.lt_of_lt_of_le hi (by decide)))⟩, vx_Zq.moved hW.alike h5, vx_Zq.moved hW.alike h6, va_Z.moved hW.alike h7⟩
  · obtain ⟨h1, h2, h3, ⟨adV, h4⟩, h5, h6, h7⟩ := h
    exact ⟨h1, h2, h3, ⟨adV, h4.kept hq⟩, h5.kept hq, h6.kept hq, va_Z.kept h7 hq⟩
  · obtain ⟨h1, h2, h3, ⟨adV, h4⟩, h5, h6, h7⟩ := h
    exact ⟨h1, h2, h3, ⟨adV, h4.narrow hAB⟩, h5.narrow hAB, h6.narrow hAB, va_Z.narrow h7 hAB⟩
/-- the reference's: nothing -/
def EVm : Ev := fun _ _ _ => True
theorem EVm_ok : evOk EVm := ⟨fun _ _ _ _ _ _ => trivial, fun _ _ _ _ _ _ => trivial, fun _ _ _ _ _ _ => trivial⟩
theorem h_bb {α β γ : Type} {a : Option γ} {f : γ → Option α} {F : α → Option β} {z : β} (h : Option.bind (Option.bind a f) F = some z) : Option.bind a (fun x => Option.bind (f x) F) = some z := by
  cases a with
  | none => cases h
  | some x => exact h
def onX {α : Type} (r : Nat ⊕ Int32) (a : Nat → Option α) (b : Int32 → Option α) : Option α := match r with
  | .inl k => a k
  | .inr x => b x
theorem h_xl {α β : Type} {r : Nat ⊕ Int32} {k : Nat} {a : Nat → Option α} {b : Int32 → Option α} {F : α → Option β} {z : β} (e : r = .inl k) (h : Option.bind (onX r a b) F = some z) : Option.bind (a k) F = some z := by subst e; exact h
theorem h_xr {α β : Type} {r : Nat ⊕ Int32} {x : Int32} {a : Nat → Option α} {b : Int32 → Option α} {F : α → Option β} {z : β} (e : r = .inr x) (h : Option.bind (onX r a b) F = some z) : Option.bind (b x) F = some z := by subst e; exact h
def chb (x : Int32) : Bool := decide (0 ≤ x.toInt ∧ x.toInt < 65536)
def bob (x : Int32) : Bool := decide (x = 0 ∨ x = 1)
def nzb (x : Int32) : Bool := decide (¬ x = 0)
theorem ch_of {x : Int32} (h : chb x = true) : narrow .char (.int x) = .int x ∧ fits .char (.int x) = true := by
  obtain ⟨h1, h2⟩ := of_decide_eq_true h
  obtain ⟨j, hj, rfl⟩ := vp_in_of (n := 65536) (vp_in_iff.mpr ⟨h1, h2⟩) (by decide)
  exact pk_charN hj
theorem bo_of {x : Int32} (h : bob x = true) : narrow .boolean (.int x) = .int x ∧ fits .boolean (.int x) = true := by
  rcases of_decide_eq_true h with rfl | rfl
  · exact ⟨by decide, by decide⟩
  · exact ⟨by decide, by decide⟩
theorem nz_of {x : Int32} (h : nzb x = true) : ¬ x = 0 := of_decide_eq_true h
theorem nt_lt {x : Int32} {n : Nat} (h : vp_in x n) : x.toNatClampNeg < n := Nat.not_le.mp fun q => h (Or.inr q)
/-- a field as a class's constant pool links it -/
def fL (own : String) (index ci k : Nat) (Cn : String) (T : u_T) (N : Nat) (ref : String) : Prop := vwCl[ci]? = some (Cn, T, N) ∧ k < N ∧ (∀ x ∈ u_ws Cn T N, x ∈ wall) ∧ Cond.fieldLink own index ref (T k).2.1 (T k).2.2.1 ∈ wall ∧ (ref = (T k).1 ∨ Cond.sameField ref (T k).1 (T k).2.1 (T k).2.2.1 ∈ wall)
def pL (k : Nat) (T : u_T) (N : Nat) (ty : FieldType) : Prop := (∃ ty0 : Nat → FieldType, ∀ k, k < N → parseFieldDescriptor (T k).2.2.1 = some (ty0 k)) ∧ (∀ a, a < N → ∀ b, b < N → a ≠ b → (T a).2.1 ≠ (T b).2.1) ∧ (T k).2.2.2 = false ∧ parseFieldDescriptor (T k).2.2.1 = some ty
theorem wall_list {ws : List Cond} (ps : List Nat) (hp : ws = ps.filterMap (fun i => tables_1[i]?)) (g : ws.all goodWord = true) : ∀ x ∈ ws, x ∈ wall := by
  intro x hx
  have h1 := List.all_eq_true.mp g x hx
  rw [hp] at hx
  obtain ⟨i, -, hi⟩ := List.mem_filterMap.mp hx
  exact wall_of i hi h1
section PACK
variable {p : Program} {l : Launch} {e : Env} {R : Room} {s : State} {m : MethodId} {args : Array Value} {below : List Frame} {meth : Method} {c : Code} {H : Heap} {locs : List Loc} {cells slots : Nat} {Q : State → Prop}
variable {EV : Ev} {K : List Kd} {D : va_G} {dA : Nat → ClassId} {q : Nat → Nat} {A : Nat → Prop} {own : String} {w : Wt}
variable {cc : ByteArray} {pc : Nat} {ls : Array Slot} {rest : List Value}
variable {ci k index i : Nat} {fs : List (Option Nat)} {Cn ref : String} {T : u_T} {N : Nat}
theorem g_get (L : fL own index ci k Cn T N ref) (hx : p.tables.exec = Jvm.exec) (hb : c.code = cc) (C : Cx EV K D dA q A s m args own) (S : Sta K D dA q A s.heap w H locs) (hi : K[i]? = some (.inr (.inl (ci, fs)))) (hf : fs[k]? = some none) (hdg : decode cc pc = .ok (.getfield index, 3))
    (kk : W p l e R s m args below meth c H locs cells slots Q (F0 m (pc + 3) ls (.int (w i k) :: rest))) : W p l e R s m args below meth c H locs cells slots Q (F0 m pc ls (.ref (q i) :: rest)) :=
  r_get L.1 L.2.1 L.2.2.1 L.2.2.2.1 L.2.2.2.2 hx hb C S hi hf hdg kk
theorem g_getR {j : Nat} (L : fL own index ci k Cn T N ref) (hx : p.tables.exec = Jvm.exec) (hb : c.code = cc) (C : Cx EV K D dA q A s m args own) (S : Sta K D dA q A s.heap w H locs) (hi : K[i]? = some (.inr (.inl (ci, fs)))) (hf : fs[k]? = some (some j)) (hdg : decode cc pc = .ok (.getfield index, 3))
    (kk : W p l e R s m args below meth c H locs cells slots Q (F0 m (pc + 3) ls (.ref (q j) :: rest))) : W p l e R s m args below meth c H locs cells slots Q (F0 m pc ls (.ref (q i) :: rest)) :=
  r_getR L.1 L.2.1 L.2.2.1 L.2.2.2.1 L.2.2.2.2 hx hb C S hi hf hdg kk
theorem g_put {ty : FieldType} (L : fL own index ci k Cn T N ref) (P : pL k T N ty) (hx : p.tables.exec = Jvm.exec) (hb : c.code = cc) (C : Cx EV K D dA q A s m args own) (S : Sta K D dA q A s.heap w H locs) (hi : K[i]? = some (.inr (.inl (ci, fs)))) (hf : fs[k]? = some none) {v : Int32} (hn : narrow ty (.int v) = .int v ∧ fits ty (.int v) = true) (hdg : decode cc pc = .ok (.putfield index, 3))
    (kk : ∀ w1 : Wt, w1 = upd2 w i k v → ∀ (H1 : Heap) (locs1 : List Loc), Sta K D dA q A s.heap w1 H1 locs1 → W p l e R s m args below meth c H1 locs1 cells slots Q (F0 m (pc + 3) ls rest)) : W p l e R s m args below meth c H locs cells slots Q (F0 m pc ls (.int v :: .ref (q i) :: rest)) := by
  obtain ⟨⟨ty0, hty⟩, hnm, hfin, hd⟩ := P
  exact r_put L.1 L.2.1 L.2.2.1 ty0 hty hnm L.2.2.2.1 L.2.2.2.2 hfin hd hx hb C S hi hf hn hdg kk
theorem Cx.xw1 (C : Cx EVc K D dA q A s m args own) {x : Cond} (h : x ∈ xw1) : va_Nw x s := C.2.2.2.2.2.2.1 x h
theorem Cx.xw2 (C : Cx EVc K D dA q A s m args own) {x : Cond} (h : x ∈ xw2) : va_Nw x s := C.2.2.2.2.2.2.2.1 x h
theorem Cx.str (C : Cx EVc K D dA q A s m args own) (j : Nat) (hj : j < strC.length) {x : String × Nat × String} (e : strC.getD j ("", 0, "") = x) : vk_R x.1 x.2.1 x.2.2 (sA s j) s := by
  subst e
  exact C.2.2.2.2.2.2.2.2.1 j hj
end PACK

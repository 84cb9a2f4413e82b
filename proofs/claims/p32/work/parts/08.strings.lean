/-! the String constants' links and instructions -/
theorem dJ0_indexOf_0f7a4_0 : decode cJ0_indexOf_0f7a4 0 = .ok (.aload_n 0, 1) := by decide +kernel
theorem dJ0_indexOf_0f7a4_1 : decode cJ0_indexOf_0f7a4 1 = .ok (.iload_n 1, 1) := by decide +kernel
theorem dJ0_indexOf_0f7a4_2 : decode cJ0_indexOf_0f7a4 2 = .ok (.iconst 0, 1) := by decide +kernel
theorem dJ0_indexOf_0f7a4_3 : decode cJ0_indexOf_0f7a4 3 = .ok (.invokevirtual 633, 3) := by decide +kernel
theorem dJ0_indexOf_0f7a4_6 : decode cJ0_indexOf_0f7a4 6 = .ok (.ireturn, 1) := by decide +kernel
theorem dJ0_indexOf_7cf53_0 : decode cJ0_indexOf_7cf53 0 = .ok (.aload_n 0, 1) := by decide +kernel
theorem dJ0_indexOf_7cf53_1 : decode cJ0_indexOf_7cf53 1 = .ok (.invokevirtual 492, 3) := by decide +kernel
theorem dJ0_indexOf_7cf53_4 : decode cJ0_indexOf_7cf53 4 = .ok (.ifCond .eq 19, 3) := by decide +kernel
theorem dJ0_indexOf_7cf53_7 : decode cJ0_indexOf_7cf53 7 = .ok (.aload_n 0, 1) := by decide +kernel
theorem dJ0_indexOf_7cf53_8 : decode cJ0_indexOf_7cf53 8 = .ok (.getfield 9, 3) := by decide +kernel
theorem dJ0_indexOf_7cf53_11 : decode cJ0_indexOf_7cf53 11 = .ok (.iload_n 1, 1) := by decide +kernel
theorem dJ0_indexOf_7cf53_12 : decode cJ0_indexOf_7cf53 12 = .ok (.iload_n 2, 1) := by decide +kernel
theorem dJ0_indexOf_7cf53_13 : decode cJ0_indexOf_7cf53 13 = .ok (.aload_n 0, 1) := by decide +kernel
theorem dJ0_indexOf_7cf53_14 : decode cJ0_indexOf_7cf53 14 = .ok (.invokevirtual 505, 3) := by decide +kernel
theorem dJ0_indexOf_7cf53_17 : decode cJ0_indexOf_7cf53 17 = .ok (.invokestatic 637, 3) := by decide +kernel
theorem dJ0_indexOf_7cf53_20 : decode cJ0_indexOf_7cf53 20 = .ok (.goto 16, 3) := by decide +kernel
theorem dJ0_indexOf_7cf53_23 : decode cJ0_indexOf_7cf53 23 = .ok (.aload_n 0, 1) := by decide +kernel
theorem dJ0_indexOf_7cf53_24 : decode cJ0_indexOf_7cf53 24 = .ok (.getfield 9, 3) := by decide +kernel
theorem dJ0_indexOf_7cf53_27 : decode cJ0_indexOf_7cf53 27 = .ok (.iload_n 1, 1) := by decide +kernel
theorem dJ0_indexOf_7cf53_28 : decode cJ0_indexOf_7cf53 28 = .ok (.iload_n 2, 1) := by decide +kernel
theorem dJ0_indexOf_7cf53_29 : decode cJ0_indexOf_7cf53 29 = .ok (.aload_n 0, 1) := by decide +kernel
theorem dJ0_indexOf_7cf53_30 : decode cJ0_indexOf_7cf53 30 = .ok (.invokevirtual 505, 3) := by decide +kernel
theorem dJ0_indexOf_7cf53_33 : decode cJ0_indexOf_7cf53 33 = .ok (.invokestatic 640, 3) := by decide +kernel
theorem dJ0_indexOf_7cf53_36 : decode cJ0_indexOf_7cf53 36 = .ok (.ireturn, 1) := by decide +kernel
theorem dJ0_isLatin1_aae02_0 : decode cJ0_isLatin1_aae02 0 = .ok (.getstatic 38, 3) := by decide +kernel
theorem dJ0_isLatin1_aae02_3 : decode cJ0_isLatin1_aae02 3 = .ok (.ifCond .eq 14, 3) := by decide +kernel
theorem dJ0_isLatin1_aae02_6 : decode cJ0_isLatin1_aae02 6 = .ok (.aload_n 0, 1) := by decide +kernel
theorem dJ0_isLatin1_aae02_7 : decode cJ0_isLatin1_aae02 7 = .ok (.getfield 15, 3) := by decide +kernel
theorem dJ0_isLatin1_aae02_10 : decode cJ0_isLatin1_aae02 10 = .ok (.ifCond .ne 7, 3) := by decide +kernel
theorem dJ0_isLatin1_aae02_13 : decode cJ0_isLatin1_aae02 13 = .ok (.iconst 1, 1) := by decide +kernel
theorem dJ0_isLatin1_aae02_14 : decode cJ0_isLatin1_aae02 14 = .ok (.goto 4, 3) := by decide +kernel
theorem dJ0_isLatin1_aae02_17 : decode cJ0_isLatin1_aae02 17 = .ok (.iconst 0, 1) := by decide +kernel
theorem dJ0_isLatin1_aae02_18 : decode cJ0_isLatin1_aae02 18 = .ok (.ireturn, 1) := by decide +kernel
theorem dJ0_coder_7d493_0 : decode cJ0_coder_7d493 0 = .ok (.getstatic 38, 3) := by decide +kernel
theorem dJ0_coder_7d493_3 : decode cJ0_coder_7d493 3 = .ok (.ifCond .eq 10, 3) := by decide +kernel
theorem dJ0_coder_7d493_6 : decode cJ0_coder_7d493 6 = .ok (.aload_n 0, 1) := by decide +kernel
theorem dJ0_coder_7d493_7 : decode cJ0_coder_7d493 7 = .ok (.getfield 15, 3) := by decide +kernel
theorem dJ0_coder_7d493_10 : decode cJ0_coder_7d493 10 = .ok (.goto 4, 3) := by decide +kernel
theorem dJ0_coder_7d493_13 : decode cJ0_coder_7d493 13 = .ok (.iconst 1, 1) := by decide +kernel
theorem dJ0_coder_7d493_14 : decode cJ0_coder_7d493 14 = .ok (.ireturn, 1) := by decide +kernel
theorem dJ0_length_8abf5_0 : decode cJ0_length_8abf5 0 = .ok (.aload_n 0, 1) := by decide +kernel
theorem dJ0_length_8abf5_1 : decode cJ0_length_8abf5 1 = .ok (.getfield 9, 3) := by decide +kernel
theorem dJ0_length_8abf5_4 : decode cJ0_length_8abf5 4 = .ok (.arraylength, 1) := by decide +kernel
theorem dJ0_length_8abf5_5 : decode cJ0_length_8abf5 5 = .ok (.aload_n 0, 1) := by decide +kernel
theorem dJ0_length_8abf5_6 : decode cJ0_length_8abf5 6 = .ok (.invokevirtual 335, 3) := by decide +kernel
theorem dJ0_length_8abf5_9 : decode cJ0_length_8abf5 9 = .ok (.ishr, 1) := by decide +kernel
theorem dJ0_length_8abf5_10 : decode cJ0_length_8abf5 10 = .ok (.ireturn, 1) := by decide +kernel
theorem dJ1_indexOf_4cfef_0 : decode cJ1_indexOf_4cfef 0 = .ok (.iload_n 1, 1) := by decide +kernel
theorem dJ1_indexOf_4cfef_1 : decode cJ1_indexOf_4cfef 1 = .ok (.invokestatic 88, 3) := by decide +kernel
theorem dJ1_indexOf_4cfef_4 : decode cJ1_indexOf_4cfef 4 = .ok (.ifCond .ne 5, 3) := by decide +kernel
theorem dJ1_indexOf_4cfef_7 : decode cJ1_indexOf_4cfef 7 = .ok (.iconst (-1), 1) := by decide +kernel
theorem dJ1_indexOf_4cfef_8 : decode cJ1_indexOf_4cfef 8 = .ok (.ireturn, 1) := by decide +kernel
theorem dJ1_indexOf_4cfef_9 : decode cJ1_indexOf_4cfef 9 = .ok (.iload_n 2, 1) := by decide +kernel
theorem dJ1_indexOf_4cfef_10 : decode cJ1_indexOf_4cfef 10 = .ok (.iconst 0, 1) := by decide +kernel
theorem dJ1_indexOf_4cfef_11 : decode cJ1_indexOf_4cfef 11 = .ok (.invokestatic 92, 3) := by decide +kernel
theorem dJ1_indexOf_4cfef_14 : decode cJ1_indexOf_4cfef 14 = .ok (.istore_n 2, 1) := by decide +kernel
theorem dJ1_indexOf_4cfef_15 : decode cJ1_indexOf_4cfef 15 = .ok (.iload_n 3, 1) := by decide +kernel
theorem dJ1_indexOf_4cfef_16 : decode cJ1_indexOf_4cfef 16 = .ok (.aload_n 0, 1) := by decide +kernel
theorem dJ1_indexOf_4cfef_17 : decode cJ1_indexOf_4cfef 17 = .ok (.arraylength, 1) := by decide +kernel
theorem dJ1_indexOf_4cfef_18 : decode cJ1_indexOf_4cfef 18 = .ok (.invokestatic 38, 3) := by decide +kernel
theorem dJ1_indexOf_4cfef_21 : decode cJ1_indexOf_4cfef 21 = .ok (.istore_n 3, 1) := by decide +kernel
theorem dJ1_indexOf_4cfef_22 : decode cJ1_indexOf_4cfef 22 = .ok (.iload_n 2, 1) := by decide +kernel
theorem dJ1_indexOf_4cfef_23 : decode cJ1_indexOf_4cfef 23 = .ok (.iload_n 3, 1) := by decide +kernel
theorem dJ1_indexOf_4cfef_24 : decode cJ1_indexOf_4cfef 24 = .ok (.if_icmp .lt 5, 3) := by decide +kernel
theorem dJ1_indexOf_4cfef_27 : decode cJ1_indexOf_4cfef 27 = .ok (.iconst (-1), 1) := by decide +kernel
theorem dJ1_indexOf_4cfef_28 : decode cJ1_indexOf_4cfef 28 = .ok (.ireturn, 1) := by decide +kernel
theorem dJ1_indexOf_4cfef_29 : decode cJ1_indexOf_4cfef 29 = .ok (.aload_n 0, 1) := by decide +kernel
theorem dJ1_indexOf_4cfef_30 : decode cJ1_indexOf_4cfef 30 = .ok (.iload_n 1, 1) := by decide +kernel
theorem dJ1_indexOf_4cfef_31 : decode cJ1_indexOf_4cfef 31 = .ok (.iload_n 2, 1) := by decide +kernel
theorem dJ1_indexOf_4cfef_32 : decode cJ1_indexOf_4cfef 32 = .ok (.iload_n 3, 1) := by decide +kernel
theorem dJ1_indexOf_4cfef_33 : decode cJ1_indexOf_4cfef 33 = .ok (.invokestatic 95, 3) := by decide +kernel
theorem dJ1_indexOf_4cfef_36 : decode cJ1_indexOf_4cfef 36 = .ok (.ireturn, 1) := by decide +kernel
theorem dJ1_canEncode_9a6ad_0 : decode cJ1_canEncode_9a6ad 0 = .ok (.iload_n 0, 1) := by decide +kernel
theorem dJ1_canEncode_9a6ad_1 : decode cJ1_canEncode_9a6ad 1 = .ok (.ifCond .lt 14, 3) := by decide +kernel
theorem dJ1_canEncode_9a6ad_4 : decode cJ1_canEncode_9a6ad 4 = .ok (.iload_n 0, 1) := by decide +kernel
theorem dJ1_canEncode_9a6ad_5 : decode cJ1_canEncode_9a6ad 5 = .ok (.sipush 255, 3) := by decide +kernel
theorem dJ1_canEncode_9a6ad_8 : decode cJ1_canEncode_9a6ad 8 = .ok (.if_icmp .gt 7, 3) := by decide +kernel
theorem dJ1_canEncode_9a6ad_11 : decode cJ1_canEncode_9a6ad 11 = .ok (.iconst 1, 1) := by decide +kernel
theorem dJ1_canEncode_9a6ad_12 : decode cJ1_canEncode_9a6ad 12 = .ok (.goto 4, 3) := by decide +kernel
theorem dJ1_canEncode_9a6ad_15 : decode cJ1_canEncode_9a6ad 15 = .ok (.iconst 0, 1) := by decide +kernel
theorem dJ1_canEncode_9a6ad_16 : decode cJ1_canEncode_9a6ad 16 = .ok (.ireturn, 1) := by decide +kernel
theorem dJ1_indexOfChar_4cfef_0 : decode cJ1_indexOfChar_4cfef 0 = .ok (.iload_n 1, 1) := by decide +kernel
theorem dJ1_indexOfChar_4cfef_1 : decode cJ1_indexOfChar_4cfef 1 = .ok (.i2b, 1) := by decide +kernel
theorem dJ1_indexOfChar_4cfef_2 : decode cJ1_indexOfChar_4cfef 2 = .ok (.istore 4, 2) := by decide +kernel
theorem dJ1_indexOfChar_4cfef_4 : decode cJ1_indexOfChar_4cfef 4 = .ok (.iload_n 2, 1) := by decide +kernel
theorem dJ1_indexOfChar_4cfef_5 : decode cJ1_indexOfChar_4cfef 5 = .ok (.istore 5, 2) := by decide +kernel
theorem dJ1_indexOfChar_4cfef_7 : decode cJ1_indexOfChar_4cfef 7 = .ok (.iload 5, 2) := by decide +kernel
theorem dJ1_indexOfChar_4cfef_9 : decode cJ1_indexOfChar_4cfef 9 = .ok (.iload_n 3, 1) := by decide +kernel
theorem dJ1_indexOfChar_4cfef_10 : decode cJ1_indexOfChar_4cfef 10 = .ok (.if_icmp .ge 21, 3) := by decide +kernel
theorem dJ1_indexOfChar_4cfef_13 : decode cJ1_indexOfChar_4cfef 13 = .ok (.aload_n 0, 1) := by decide +kernel
theorem dJ1_indexOfChar_4cfef_14 : decode cJ1_indexOfChar_4cfef 14 = .ok (.iload 5, 2) := by decide +kernel
theorem dJ1_indexOfChar_4cfef_16 : decode cJ1_indexOfChar_4cfef 16 = .ok (.baload, 1) := by decide +kernel
theorem dJ1_indexOfChar_4cfef_17 : decode cJ1_indexOfChar_4cfef 17 = .ok (.iload 4, 2) := by decide +kernel
theorem dJ1_indexOfChar_4cfef_19 : decode cJ1_indexOfChar_4cfef 19 = .ok (.if_icmp .ne 6, 3) := by decide +kernel
theorem dJ1_indexOfChar_4cfef_22 : decode cJ1_indexOfChar_4cfef 22 = .ok (.iload 5, 2) := by decide +kernel
theorem dJ1_indexOfChar_4cfef_24 : decode cJ1_indexOfChar_4cfef 24 = .ok (.ireturn, 1) := by decide +kernel
theorem dJ1_indexOfChar_4cfef_25 : decode cJ1_indexOfChar_4cfef 25 = .ok (.iinc 5 1, 3) := by decide +kernel
theorem dJ1_indexOfChar_4cfef_28 : decode cJ1_indexOfChar_4cfef 28 = .ok (.goto (-21), 3) := by decide +kernel
theorem dJ1_indexOfChar_4cfef_31 : decode cJ1_indexOfChar_4cfef 31 = .ok (.iconst (-1), 1) := by decide +kernel
theorem dJ1_indexOfChar_4cfef_32 : decode cJ1_indexOfChar_4cfef 32 = .ok (.ireturn, 1) := by decide +kernel
theorem jl_38 : Cond.fieldLink RJ0 38 "java/lang/String" "COMPACT_STRINGS" "Z" ∈ wall := wall_of 371 (by decide +kernel) rfl
theorem jl_15 : Cond.fieldLink RJ0 15 "java/lang/String" "coder" "B" ∈ wall := wall_of 1002 (by decide +kernel) rfl
theorem jl_9 : Cond.fieldLink RJ0 9 "java/lang/String" "value" "[B" ∈ wall := wall_of 1003 (by decide +kernel) rfl
theorem jk_335 : lkV RJ0 335 "java/lang/String" yJ0_coder_7d493 cJ0_coder_7d493 1 (some .byte) 0 := ⟨wall_of 377 (by decide +kernel) rfl, wall_of 378 (by decide +kernel) rfl, wall_of 379 (by decide +kernel) rfl, wall_of 11 (by decide +kernel) rfl, wall_of 380 (by decide +kernel) rfl, ⟨by decide, by decide⟩, by decide +kernel⟩
theorem jk_492 : lkV RJ0 492 "java/lang/String" yJ0_isLatin1_aae02 cJ0_isLatin1_aae02 1 (some .boolean) 0 := ⟨wall_of 367 (by decide +kernel) rfl, wall_of 368 (by decide +kernel) rfl, wall_of 369 (by decide +kernel) rfl, wall_of 11 (by decide +kernel) rfl, wall_of 370 (by decide +kernel) rfl, ⟨by decide, by decide⟩, by decide +kernel⟩
theorem jk_505 : lkV RJ0 505 "java/lang/String" yJ0_length_8abf5 cJ0_length_8abf5 1 (some .int) 0 := ⟨wall_of 373 (by decide +kernel) rfl, wall_of 374 (by decide +kernel) rfl, wall_of 375 (by decide +kernel) rfl, wall_of 11 (by decide +kernel) rfl, wall_of 376 (by decide +kernel) rfl, ⟨by decide, by decide⟩, by decide +kernel⟩
theorem jk_633 : lkV RJ0 633 "java/lang/String" yJ0_indexOf_7cf53 cJ0_indexOf_7cf53 3 (some .int) 2 := ⟨wall_of 363 (by decide +kernel) rfl, wall_of 364 (by decide +kernel) rfl, wall_of 365 (by decide +kernel) rfl, wall_of 11 (by decide +kernel) rfl, wall_of 366 (by decide +kernel) rfl, ⟨by decide, by decide⟩, by decide +kernel⟩
theorem jk_88 : lkS RJ1 88 yJ1_canEncode_9a6ad cJ1_canEncode_9a6ad 1 (some .boolean) 1 := ⟨wall_of 384 (by decide +kernel) rfl, wall_of 385 (by decide +kernel) rfl, wall_of 12 (by decide +kernel) rfl, wall_of 386 (by decide +kernel) rfl, ⟨by decide, by decide⟩, by decide +kernel⟩
theorem jk_95 : lkS RJ1 95 yJ1_indexOfChar_4cfef cJ1_indexOfChar_4cfef 6 (some .int) 4 := ⟨wall_of 393 (by decide +kernel) rfl, wall_of 394 (by decide +kernel) rfl, wall_of 12 (by decide +kernel) rfl, wall_of 395 (by decide +kernel) rfl, ⟨by decide, by decide⟩, by decide +kernel⟩
theorem jk_637 : lkS RJ0 637 yJ1_indexOf_4cfef cJ1_indexOf_4cfef 4 (some .int) 4 := ⟨wall_of 381 (by decide +kernel) rfl, wall_of 382 (by decide +kernel) rfl, wall_of 12 (by decide +kernel) rfl, wall_of 383 (by decide +kernel) rfl, ⟨by decide, by decide⟩, by decide +kernel⟩
theorem jk_92 : Cond.methodLink RJ1 92 Lib.Math.max.name ∈ wall := wall_of 387 (by decide +kernel) rfl
theorem jk_38 : Cond.methodLink RJ1 38 Lib.Math.min.name ∈ wall := wall_of 390 (by decide +kernel) rfl
theorem mx_st : Cond.static Lib.Math.max.name ∈ wall := wall_of 388 (by decide +kernel) rfl
theorem mx_co : Cond.code Lib.Math.max.name Lib.Math.max.code 2 (some .int) ∈ wall := wall_of 389 (by decide +kernel) rfl
theorem mn_st : Cond.static Lib.Math.min.name ∈ wall := wall_of 391 (by decide +kernel) rfl
theorem mn_co : Cond.code Lib.Math.min.name Lib.Math.min.code 2 (some .int) ∈ wall := wall_of 392 (by decide +kernel) rfl
theorem mx_in : Cond.initialized "java/lang/Math" ∈ wall := wall_of 13 (by decide +kernel) rfl
theorem fa_lt0 (x : Int32) : x < 0 ↔ x.toInt < 0 := Int32.lt_iff_toInt_lt
theorem fa_lt1 (x : Int32) : 255 < x ↔ 255 < x.toInt := Int32.lt_iff_toInt_lt
theorem ix_RX7_29 : lkV RX7 29 "java/lang/String" yJ0_indexOf_0f7a4 cJ0_indexOf_0f7a4 2 (some .int) 1 := ⟨wall_of 359 (by decide +kernel) rfl, wall_of 360 (by decide +kernel) rfl, wall_of 361 (by decide +kernel) rfl, wall_of 11 (by decide +kernel) rfl, wall_of 362 (by decide +kernel) rfl, ⟨by decide, by decide⟩, by decide +kernel⟩
theorem ix_RX1_41 : lkV RX1 41 "java/lang/String" yJ0_indexOf_0f7a4 cJ0_indexOf_0f7a4 2 (some .int) 1 := ⟨wall_of 491 (by decide +kernel) rfl, wall_of 360 (by decide +kernel) rfl, wall_of 361 (by decide +kernel) rfl, wall_of 11 (by decide +kernel) rfl, wall_of 362 (by decide +kernel) rfl, ⟨by decide, by decide⟩, by decide +kernel⟩
/-! String.indexOf(char) of the three constants, through the JDK's own methods. sz ≤ z: nothing old is written -/
def Pst (j a t : Nat) (A : Nat → Prop) (U : State) (H : Heap) : Prop := va_O "java/lang/String" a A U H ∧ va_OF "java/lang/String" "coder" "B" (.int 0) a A U H ∧ va_OF "java/lang/String" "value" "[B" (.ref t) a A U H ∧ va_T .byte t (lenS.getD j 0) (fun k => .int ((bytS.getD j []).getD k 0)) A U H ∧ va_Z "java/lang/String" "COMPACT_STRINGS" "Z" (.int 1) A U H
theorem Pst.to {j a t : Nat} {A B : Nat → Prop} {s U : State} {H : Heap} {locs : List Loc} (h : Pst j a t A s s.heap) (hS : va_S A s.heap H locs) (hW : s.WarmedH U.vm) (hAB : ∀ z, B z → A z) : Pst j a t B U H := by
  obtain ⟨h1, h2, h3, h4, h5⟩ := h
  exact ⟨((va_O.moved hW.alike h1).kept hS.2.1).narrow hAB, ((va_OF.moved hW.alike h2).kept hS.2.1).narrow hAB, ((va_OF.moved hW.alike h3).kept hS.2.1).narrow hAB, ((va_T.moved hW.alike h4).kept hS.2.1).narrow hAB, va_Z.narrow (va_Z.kept (va_Z.moved hW.alike h5) hS.2.1) hAB⟩
def Js (l : Launch) (y : MethodName) (b : ByteArray) (n : Nat) (ret : Option FieldType) (rm : Room) (av : List Value) (j a t : Nat) (r : Int32) : Prop :=
  ∀ sz : Nat, Met l y (.code y b n ret :: wall) rm (va_Pc av (fun U => U.heap.size = sz ∧ Pst j a t (fun z => sz ≤ z) U U.heap)) (va_Qi (fun (r' : Int32) (_ : Unit) => r' = r) (fun _ _ => True) (fun z => sz ≤ z)) 0 0 (fun z => sz ≤ z)
theorem Js.blind {av : List Value} {sz j a t : Nat} : FrameBlind (va_Pc av (fun U => U.heap.size = sz ∧ Pst j a t (fun z => sz ≤ z) U U.heap)) := by
  intro x U g mk h
  obtain ⟨h0, h1, h2⟩ := h
  exact ⟨h0, h1, Pst.to (U := U.calling g mk x) h2 va_S.rf (State.WarmedH.refl U) (fun _ h => h)⟩
section STRS
variable {p : Program} {l : Launch} {e : Env} {R : Room} {s : State} {m : MethodId} {args : Array Value} {below : List Frame} {meth : Method} {c : Code} {H : Heap} {locs : List Loc} {Q : State → Prop} {cells slots : Nat}
variable {cc : ByteArray} {pc nL : Nat} {ls : Array Slot} {rest st : List Value} {A : Nat → Prop} {own : String} {index : Nat} {y : MethodName} {b : ByteArray} {n : Nat} {ret : Option FieldType} {na : Nat} {rm : Room} {As : List Value} {j a t : Nat} {r : Int32}
theorem mk_j {ty : FieldType} {av : List Value} (hy : plainName y.cls = true) (ho : y.cls = own) (hn : (lg_sl av).length ≤ n)
    (walk : ∀ (p : Program) (e : Env) (s : State) (m : MethodId) (args : Array Value) (below : List Frame) (meth : Method) (c : Code) (Q : State → Prop) (ls : Array Slot), p.tables.exec = Jvm.exec → c.code = b → c.maxLocals = n → s.vm.findClass own = some m.cls → (∀ w ∈ wall, w.before args s = true) → Pst j a t (fun z => s.heap.size ≤ z) s s.heap → lv_has ls n (lv_args 0 av) →
      (∀ (H : Heap) (locs : List Loc) (ls : Array Slot) (r' : Int32) (pc : Nat), va_S (fun z => s.heap.size ≤ z) s.heap H locs → narrow ty (.int r') = .int r' → r' = r → decode b pc = .ok (.ireturn, 1) → W p l e rm s m args below meth c H locs 0 0 Q (F0 m pc ls [.int r'])) →
      W p l e rm s m args below meth c s.heap [] 0 0 Q (F0 m 0 ls [])) : Js l y b n (some ty) rm av j a t r := by
  intro sz
  refine Met.ofW (cc := b) (maxL := n) (ret := some ty) hy rfl ?_
  intro p e s m args below meth c s₁ B hml hv
  obtain ⟨rfl, rfl, hP⟩ := hv
  have hts := atoms_spec (ws := Cond.code y b n (some ty) :: wall) B.pre
  obtain ⟨ls, e1, hl⟩ := lv_start (m := m) hn
  rw [e1]
  refine walk p e s m _ below meth c _ ls B.exec B.bytes hml (ho ▸ findClass_of_methodNamed B.named) (fun x hx => hts x (List.mem_cons_of_mem _ hx)) hP hl (fun H locs ls r' pc hS hn hr d => ?_)
  subst hr
  exact W.zret (v := r') B.exec B.bytes B.returns hn (fun t ht hW => ⟨⟨r', (), rfl, rfl, trivial⟩, hS.F ht⟩) hS.2.2 d B.notSynchronized
theorem kj_pre (hts : ∀ w ∈ wall, w.before args s = true) (h5 : Cond.code y b n ret ∈ wall) (hR : rm.frames + 1 ≤ R.frames ∧ 8 + (n + 11) + rm.locals ≤ R.locals) :
    rm.frames + 1 ≤ R.frames ∧ 8 + (n + 11) + rm.locals ≤ R.locals ∧ (∀ x ∈ (Cond.code y b n ret :: wall), ∀ (a' : Array Value) (U : State), s.WarmedH U.vm → x.before a' U = true) ∧ Cond.code y b n ret ∈ (Cond.code y b n ret :: wall) :=
  ⟨hR.1, hR.2, pay_in hts (wall_good (fun _ h => h) h5), List.mem_cons_self⟩
theorem kj_V (link : lkV own index "java/lang/String" y b n ret na) (hx : p.tables.exec = Jvm.exec) (hb : c.code = cc) (hml : c.maxLocals = nL) (hown : s.vm.findClass own = some m.cls) (hts : ∀ w ∈ wall, w.before args s = true) (hP : Pst j a t A s s.heap) (hS : va_S A s.heap H locs) (hA : ∀ z, s.heap.size ≤ z → A z)
    (hM : Js l y b n ret rm (.ref a :: As) j a t r) (hrc : rm.cells = 0) (hrs : rm.slots = 0) (hR : rm.frames + 1 ≤ R.frames ∧ 8 + (n + 11) + rm.locals ≤ R.locals) (hn : As.length = na) (hsz : ls.size = nL) (hst : st = As.reverse ++ .ref a :: rest) (hW : (rest.map fun v => v.category).sum ≤ 8) (hdg : decode cc pc = .ok (.invokevirtual index, 3)) (hf : cells + 0 ≤ R.cells ∧ slots + 0 ≤ R.slots)
    (kk : ∀ (H1 : Heap) (locs1 : List Loc), va_S A s.heap H1 locs1 → W p l e R s m args below meth c H1 locs1 cells slots Q (F0 m (pc + 3) ls (.int r :: rest))) : W p l e R s m args below meth c H locs cells slots Q (F0 m pc ls st) := by
  obtain ⟨h1, h2, h3, h4, h5, h6, h7⟩ := link
  obtain ⟨g3, g4, g5, g6⟩ := kj_pre (R := R) hts h5 hR
  have hle : s.heap.size ≤ H.size := hS.1
  have hrec : ∃ cellB : Cell, H[a]? = some cellB ∧ cellB.vm.isStatics = false ∧ s.vm.findClass "java/lang/String" = some cellB.cls := by
    obtain ⟨cell, k1, k2, k3, k4⟩ := hP.1
    exact ⟨cell, by rw [hS.2.1 a (Array.getElem?_eq_some_iff.mp k1).1 k4]; exact k1, k2, k3⟩
  refine va_calli (va_runV (Ts := wall) (C := "java/lang/String") (rest := rest) ⟨hx, hb, hml, hown, hts⟩ (hM H.size) ⟨⟨hrc, hrs, g3, g4, g5, g6, hts _ h5, hts _ h4, h6, r_len h7, hts _ h1⟩, hts _ h2, hts _ h3⟩ ⟨Js.blind, hrec, fun U hU hW => ⟨rfl, by rw [hU], by rw [hU]; exact hP.to hS hW (fun z hz => hA z (Nat.le_trans hle hz))⟩⟩ rfl hn hsz hst (lv_room hW) hdg hf) hS (fun z _ hz => hA z (Nat.le_trans hle hz)) (fun z hz => hA z (Nat.le_trans hle hz)) (fun r' _ t' H1 locs1 ht _ hr' _ _ _ hS1 => ?_)
  subst hr'
  exact kk H1 locs1 hS1
theorem kj_S (link : lkS own index y b n ret na) (hx : p.tables.exec = Jvm.exec) (hb : c.code = cc) (hml : c.maxLocals = nL) (hown : s.vm.findClass own = some m.cls) (hts : ∀ w ∈ wall, w.before args s = true) (hP : Pst j a t A s s.heap) (hS : va_S A s.heap H locs) (hA : ∀ z, s.heap.size ≤ z → A z)
    (hM : Js l y b n ret rm As j a t r) (hrc : rm.cells = 0) (hrs : rm.slots = 0) (hR : rm.frames + 1 ≤ R.frames ∧ 8 + (n + 11) + rm.locals ≤ R.locals) (hn : As.length = na) (hsz : ls.size = nL) (hst : st = As.reverse ++ rest) (hW : (rest.map fun v => v.category).sum ≤ 8) (hdg : decode cc pc = .ok (.invokestatic index, 3)) (hf : cells + 0 ≤ R.cells ∧ slots + 0 ≤ R.slots)
    (kk : ∀ (H1 : Heap) (locs1 : List Loc), va_S A s.heap H1 locs1 → W p l e R s m args below meth c H1 locs1 cells slots Q (F0 m (pc + 3) ls (.int r :: rest))) : W p l e R s m args below meth c H locs cells slots Q (F0 m pc ls st) := by
  obtain ⟨h1, h2, h4, h5, h6, h7⟩ := link
  obtain ⟨g3, g4, g5, g6⟩ := kj_pre (R := R) hts h5 hR
  have hle : s.heap.size ≤ H.size := hS.1
  refine va_calli (va_runS (Ts := wall) (rest := rest) ⟨hx, hb, hml, hown, hts⟩ (hM H.size) ⟨⟨hrc, hrs, g3, g4, g5, g6, hts _ h5, hts _ h4, h6, r_len h7, hts _ h1⟩, hts _ h2⟩ ⟨Js.blind, fun U hU hW => ⟨rfl, by rw [hU], by rw [hU]; exact hP.to hS hW (fun z hz => hA z (Nat.le_trans hle hz))⟩⟩ rfl hn hsz hst (lv_room hW) hdg hf) hS (fun z _ hz => hA z (Nat.le_trans hle hz)) (fun z hz => hA z (Nat.le_trans hle hz)) (fun r' _ t' H1 locs1 ht _ hr' _ _ _ hS1 => ?_)
  subst hr'
  exact kk H1 locs1 hS1
theorem kj_get {n d : String} {v : Value} (hx : p.tables.exec = Jvm.exec) (hb : c.code = cc) (hown : s.vm.findClass own = some m.cls) (hts : ∀ w ∈ wall, w.before args s = true) (hE : va_OF "java/lang/String" n d v a A s s.heap) (hS : va_S A s.heap H locs) (hlink : Cond.fieldLink own index "java/lang/String" n d ∈ wall) (hdg : decode cc pc = .ok (.getfield index, 3))
    (kk : W p l e R s m args below meth c H locs cells slots Q (F0 m (pc + 3) ls (v :: rest))) : W p l e R s m args below meth c H locs cells slots Q (F0 m pc ls (.ref a :: rest)) :=
  va_getX (N := 1) (i := 0) (v := fun _ => v) (ad := fun _ => a) hx hb (fun _ _ => hE) (by decide) hS hown (hts _ hlink) (fun x h => h) hdg kk
end STRS
abbrev rmJ (f lo : Nat) : Room := { frames := f, cells := 0, slots := 0, locals := lo }
section JWALK
variable (l : Launch) (j a t : Nat)
theorem j_coder : Js l yJ0_coder_7d493 cJ0_coder_7d493 1 (some .byte) (rmJ 0 0) [.ref a] j a t 0 :=
  mk_j (own := RJ0) (by decide) rfl (Nat.le_of_ble_eq_true rfl) (fun p e s m args below meth c Q ls hx hb hml hown hts hP hl fin => by
    have hl : lv_has ls 1 [(0, .ref a)] := hl
    have hS : va_S (fun z => s.heap.size ≤ z) s.heap s.heap [] := va_S.rf
    refine va_gets hx hb hP.2.2.2.2 hS hown (hts _ jl_38) (fun _ h => h) dJ0_coder_7d493_0 ?_
    refine lv_if_eq (tgt := 13) hx hb dJ0_coder_7d493_3 rfl (fun c1 => absurd c1 (by decide)) (fun c1 => ?_)
    refine lv_aload_n hx hb dJ0_coder_7d493_6 rfl (lv_at hl 0 rfl) ?_
    refine kj_get hx hb hown hts hP.2.1 hS jl_15 dJ0_coder_7d493_7 ?_
    refine lv_goto (tgt := 14) hx hb dJ0_coder_7d493_10 rfl ?_
    exact fin _ _ _ 0 _ hS (by decide) rfl dJ0_coder_7d493_14)
theorem j_isLatin1 : Js l yJ0_isLatin1_aae02 cJ0_isLatin1_aae02 1 (some .boolean) (rmJ 0 0) [.ref a] j a t 1 :=
  mk_j (own := RJ0) (by decide) rfl (Nat.le_of_ble_eq_true rfl) (fun p e s m args below meth c Q ls hx hb hml hown hts hP hl fin => by
    have hl : lv_has ls 1 [(0, .ref a)] := hl
    have hS : va_S (fun z => s.heap.size ≤ z) s.heap s.heap [] := va_S.rf
    refine va_gets hx hb hP.2.2.2.2 hS hown (hts _ jl_38) (fun _ h => h) dJ0_isLatin1_aae02_0 ?_
    refine lv_if_eq (tgt := 17) hx hb dJ0_isLatin1_aae02_3 rfl (fun c1 => absurd c1 (by decide)) (fun c1 => ?_)
    refine lv_aload_n hx hb dJ0_isLatin1_aae02_6 rfl (lv_at hl 0 rfl) ?_
    refine kj_get hx hb hown hts hP.2.1 hS jl_15 dJ0_isLatin1_aae02_7 ?_
    refine lv_if_ne (tgt := 17) hx hb dJ0_isLatin1_aae02_10 rfl (fun c1 => absurd rfl c1) (fun c1 => ?_)
    refine lv_iconst (v := 1) hx hb dJ0_isLatin1_aae02_13 (by decide) ?_
    refine lv_goto (tgt := 18) hx hb dJ0_isLatin1_aae02_14 rfl ?_
    exact fin _ _ _ 1 _ hS (by decide) rfl dJ0_isLatin1_aae02_18)
theorem j_length (hj : j < 3) : Js l yJ0_length_8abf5 cJ0_length_8abf5 1 (some .int) (rmJ 1 20) [.ref a] j a t (nI (lenS.getD j 0)) :=
  mk_j (own := RJ0) (by decide) rfl (Nat.le_of_ble_eq_true rfl) (fun p e s m args below meth c Q ls hx hb hml hown hts hP hl fin => by
    have hl : lv_has ls 1 [(0, .ref a)] := hl
    have hS : va_S (fun z => s.heap.size ≤ z) s.heap s.heap [] := va_S.rf
    refine lv_aload_n hx hb dJ0_length_8abf5_0 rfl (lv_at hl 0 rfl) ?_
    refine kj_get hx hb hown hts hP.2.2.1 hS jl_9 dJ0_length_8abf5_1 ?_
    refine va_tlen hx hb hP.2.2.2.1 hS (v := nI (lenS.getD j 0)) rfl dJ0_length_8abf5_4 ?_
    refine lv_aload_n hx hb dJ0_length_8abf5_5 rfl (lv_at hl 0 rfl) ?_
    refine kj_V (rest := [.int (nI (lenS.getD j 0))]) (As := []) jk_335 hx hb hml hown hts hP hS (fun _ h => h) (j_coder l j a t) rfl rfl ⟨Nat.le_of_ble_eq_true rfl, Nat.le_of_ble_eq_true rfl⟩ rfl hl.1 rfl (Nat.le_of_ble_eq_true rfl) dJ0_length_8abf5_6 ⟨Nat.le_of_ble_eq_true rfl, Nat.le_of_ble_eq_true rfl⟩ (fun H locs hS => ?_)
    refine lv_ishr hx hb dJ0_length_8abf5_9 ?_
    exact fin _ _ _ _ _ hS rfl (sb_shr0 _) dJ0_length_8abf5_10)
theorem j_canEncode (x : Int32) : Js l yJ1_canEncode_9a6ad cJ1_canEncode_9a6ad 1 (some .boolean) (rmJ 0 0) [.int x] j a t (if x < 0 then 0 else if 255 < x then 0 else 1) :=
  mk_j (own := RJ1) (by decide) rfl (Nat.le_of_ble_eq_true rfl) (fun p e s m args below meth c Q ls hx hb hml hown hts hP hl fin => by
    have hl : lv_has ls 1 [(0, .int x)] := hl
    have hS : va_S (fun z => s.heap.size ≤ z) s.heap s.heap [] := va_S.rf
    refine lv_iload_n hx hb dJ1_canEncode_9a6ad_0 rfl (lv_at hl 0 rfl) ?_
    refine lv_if_lt (tgt := 15) hx hb dJ1_canEncode_9a6ad_1 rfl (fun c1 => ?_) (fun c1 => ?_)
    · refine lv_iconst (v := 0) hx hb dJ1_canEncode_9a6ad_15 (by decide) ?_
      exact fin _ _ _ 0 _ hS (by decide) (by rw [if_pos c1]) dJ1_canEncode_9a6ad_16
    · refine lv_iload_n hx hb dJ1_canEncode_9a6ad_4 rfl (lv_at hl 0 rfl) ?_
      refine lv_sipush (v := 255) hx hb dJ1_canEncode_9a6ad_5 (by decide) ?_
      refine lv_icmp_gt (tgt := 15) hx hb dJ1_canEncode_9a6ad_8 rfl (fun c2 => ?_) (fun c2 => ?_)
      · refine lv_iconst (v := 0) hx hb dJ1_canEncode_9a6ad_15 (by decide) ?_
        exact fin _ _ _ 0 _ hS (by decide) (by rw [if_neg c1, if_pos c2]) dJ1_canEncode_9a6ad_16
      · refine lv_iconst (v := 1) hx hb dJ1_canEncode_9a6ad_11 (by decide) ?_
        refine lv_goto (tgt := 16) hx hb dJ1_canEncode_9a6ad_12 rfl ?_
        exact fin _ _ _ 1 _ hS (by decide) (by rw [if_neg c1, if_neg c2]) dJ1_canEncode_9a6ad_16)
/-- the texts: short, of signs below 128 -/
theorem bytS_ok : ∀ j, j < 3 → lenS.getD j 0 = (bytS.getD j []).length ∧ (bytS.getD j []).length < 100 ∧ ∀ b ∈ bytS.getD j [], 0 ≤ b.toInt ∧ b.toInt < 128 := by decide +kernel
theorem ix_b8 (x b : Int32) (h1 : ¬ x < 0) (h2 : ¬ 255 < x) (hb : 0 ≤ b.toInt ∧ b.toInt < 128) : (b = x.toInt8.toInt32) ↔ b = x := by
  obtain ⟨n, hn, rfl⟩ := nI_of h1
  have hn2 : n < 256 := by
    rcases Nat.lt_or_ge n 256 with q | q
    · exact q
    · exact absurd (nI_lt (a := 255) (b := n) (by omega) hn) h2
  obtain ⟨k, hk, rfl⟩ := vp_in_of (n := 128) (vp_in_iff.mpr hb) (by decide)
  have key : ∀ n, n < 256 → ∀ k, k < 128 → ((nI k = (nI n).toInt8.toInt32) ↔ nI k = nI n) := by decide +kernel
  exact key n hn2 k hk
theorem j_ixLoop (x : Int32) (hj : j < 3) (h1 : ¬ x < 0) (h2 : ¬ 255 < x) : Js l yJ1_indexOfChar_4cfef cJ1_indexOfChar_4cfef 6 (some .int) (rmJ 0 0) [.ref t, .int x, .int 0, .int (nI (lenS.getD j 0))] j a t (sIx j x) :=
  mk_j (own := RJ1) (by decide) rfl (Nat.le_of_ble_eq_true rfl) (fun p e s m args below meth c Q ls hx hb hml hown hts hP hl fin => by
    have hl : lv_has ls 6 [(0, .ref t), (1, .int x), (2, .int 0), (3, .int (nI (lenS.getD j 0)))] := hl
    have hS : va_S (fun z => s.heap.size ≤ z) s.heap s.heap [] := va_S.rf
    obtain ⟨bl, bs, bb⟩ := bytS_ok j hj
    refine lv_iload_n hx hb dJ1_indexOfChar_4cfef_0 rfl (lv_at hl 1 rfl) ?_
    refine lv_i2b hx hb dJ1_indexOfChar_4cfef_1 rfl ?_
    refine lv_istore (lv' := [(4, .int x.toInt8.toInt32), (0, .ref t), (1, .int x), (2, .int 0), (3, .int (nI (lenS.getD j 0)))]) hx hb dJ1_indexOfChar_4cfef_2 hl (Nat.le_of_ble_eq_true rfl) rfl (fun ls hl => ?_)
    refine lv_iload_n hx hb dJ1_indexOfChar_4cfef_4 rfl (lv_at hl 3 rfl) ?_
    refine lv_istore (lv' := [(5, .int 0), (4, .int x.toInt8.toInt32), (0, .ref t), (1, .int x), (2, .int 0), (3, .int (nI (lenS.getD j 0)))]) hx hb dJ1_indexOfChar_4cfef_5 hl (Nat.le_of_ble_eq_true rfl) rfl (fun ls hl => ?_)
    have loop : ∀ (d : List Int32) (k : Nat) (ls : Array Slot), (bytS.getD j []).drop k = d → k ≤ (bytS.getD j []).length → sIx j x = ixF x d k → lv_has ls 6 [(5, .int (nI k)), (4, .int x.toInt8.toInt32), (0, .ref t), (3, .int (nI (lenS.getD j 0)))] → W p l e (rmJ 0 0) s m args below meth c s.heap [] 0 0 Q (F0 m 7 ls []) := by
      intro d
      induction d with
      | nil =>
        intro k ls hd hk hr hl
        have hk2 : (bytS.getD j []).length ≤ k := List.drop_eq_nil_iff.mp hd
        refine lv_iload hx hb dJ1_indexOfChar_4cfef_7 (lv_at hl 0 rfl) ?_
        refine lv_iload_n hx hb dJ1_indexOfChar_4cfef_9 rfl (lv_at hl 3 rfl) ?_
        refine lv_icmp_ge (tgt := 31) hx hb dJ1_indexOfChar_4cfef_10 rfl (fun c1 => ?_) (fun c1 => absurd (nI_le (by omega) (by omega)) c1)
        refine lv_iconst (v := -1) hx hb dJ1_indexOfChar_4cfef_31 (by decide) ?_
        exact fin _ _ _ _ _ hS rfl hr.symm dJ1_indexOfChar_4cfef_32
      | cons b d ih =>
        intro k ls hd hk hr hl
        obtain ⟨d1, d2, d3, d4⟩ := sc_dropC hd
        refine lv_iload hx hb dJ1_indexOfChar_4cfef_7 (lv_at hl 0 rfl) ?_
        refine lv_iload_n hx hb dJ1_indexOfChar_4cfef_9 rfl (lv_at hl 3 rfl) ?_
        refine lv_icmp_ge (tgt := 31) hx hb dJ1_indexOfChar_4cfef_10 rfl (fun c1 => absurd c1 (nI_ge (by omega) (by omega))) (fun c1 => ?_)
        refine lv_aload_n hx hb dJ1_indexOfChar_4cfef_13 rfl (lv_at hl 2 rfl) ?_
        refine lv_iload hx hb dJ1_indexOfChar_4cfef_14 (lv_at hl 0 rfl) ?_
        refine va_tb hx hb hP.2.2.2.1 hS (vp_in_nI (by omega) (by omega)) (v := .int b) (by rw [nI_clamp (by omega), d2]) dJ1_indexOfChar_4cfef_16 ?_
        refine lv_iload hx hb dJ1_indexOfChar_4cfef_17 (lv_at hl 1 rfl) ?_
        have hb8 := ix_b8 x b h1 h2 (bb b d4)
        rw [ixF] at hr
        refine lv_icmp_ne (tgt := 25) hx hb dJ1_indexOfChar_4cfef_19 rfl (fun c2 => ?_) (fun c2 => ?_)
        · rw [if_neg (fun z => c2 (hb8.mpr z))] at hr
          refine lv_iinc (v := nI (k + 1)) (lv' := [(5, .int (nI (k + 1))), (4, .int x.toInt8.toInt32), (0, .ref t), (3, .int (nI (lenS.getD j 0)))]) hx hb dJ1_indexOfChar_4cfef_25 hl (k := 0) rfl (nI_succ k).symm (Nat.le_of_ble_eq_true rfl) rfl (fun ls hl => ?_)
          refine lv_goto (tgt := 7) hx hb dJ1_indexOfChar_4cfef_28 rfl ?_
          exact ih (k + 1) ls d3 (by omega) hr hl
        · rw [if_pos (hb8.mp c2)] at hr
          refine lv_iload hx hb dJ1_indexOfChar_4cfef_22 (lv_at hl 0 rfl) ?_
          exact fin _ _ _ _ _ hS rfl hr.symm dJ1_indexOfChar_4cfef_24
    exact loop _ 0 ls rfl (Nat.zero_le _) rfl (by rw [nI_0]; exact lv_sub hl [0, 1, 2, 5] rfl))
theorem sIx_out {x : Int32} (hj : j < 3) (h : x < 0 ∨ 255 < x) : sIx j x = -1 := by
  obtain ⟨-, -, bb⟩ := bytS_ok j hj
  have key : ∀ (d : List Int32) (k : Nat), (∀ b ∈ d, 0 ≤ b.toInt ∧ b.toInt < 128) → ixF x d k = -1 := by
    intro d
    induction d with
    | nil => intro k _; rfl
    | cons b d ih =>
      intro k hb
      have h1 := hb b List.mem_cons_self
      have hne : ¬ b = x := by
        rintro rfl
        rw [fa_lt0, fa_lt1] at h
        omega
      rw [ixF, if_neg hne]
      exact ih (k + 1) (fun y hy => hb y (List.mem_cons_of_mem _ hy))
  exact key _ 0 bb
theorem j_ixL1 (x : Int32) (hj : j < 3) : Js l yJ1_indexOf_4cfef cJ1_indexOf_4cfef 4 (some .int) (rmJ 2 60) [.ref t, .int x, .int 0, .int (nI (lenS.getD j 0))] j a t (sIx j x) :=
  mk_j (own := RJ1) (by decide) rfl (Nat.le_of_ble_eq_true rfl) (fun p e s m args below meth c Q ls hx hb hml hown hts hP hl fin => by
    have hl : lv_has ls 4 [(0, .ref t), (1, .int x), (2, .int 0), (3, .int (nI (lenS.getD j 0)))] := hl
    have hS : va_S (fun z => s.heap.size ≤ z) s.heap s.heap [] := va_S.rf
    obtain ⟨bl, bs, bb⟩ := bytS_ok j hj
    have hpos : 0 < (bytS.getD j []).length := (show ∀ j, j < 3 → 0 < (bytS.getD j []).length by decide +kernel) j hj
    refine lv_iload_n hx hb dJ1_indexOf_4cfef_0 rfl (lv_at hl 1 rfl) ?_
    refine kj_S (rest := []) (As := [.int x]) jk_88 hx hb hml hown hts hP hS (fun _ h => h) (j_canEncode l j a t x) rfl rfl ⟨Nat.le_of_ble_eq_true rfl, Nat.le_of_ble_eq_true rfl⟩ rfl hl.1 rfl (Nat.le_of_ble_eq_true rfl) dJ1_indexOf_4cfef_1 ⟨Nat.le_of_ble_eq_true rfl, Nat.le_of_ble_eq_true rfl⟩ (fun H locs hS => ?_)
    by_cases h1 : x < 0
    · refine lv_if_ne (tgt := 9) hx hb dJ1_indexOf_4cfef_4 rfl (fun c1 => absurd (by rw [if_pos h1]) c1) (fun c1 => ?_)
      refine lv_iconst (v := -1) hx hb dJ1_indexOf_4cfef_7 (by decide) ?_
      exact fin _ _ _ _ _ hS rfl (sIx_out j hj (Or.inl h1)).symm dJ1_indexOf_4cfef_8
    by_cases h2 : 255 < x
    · refine lv_if_ne (tgt := 9) hx hb dJ1_indexOf_4cfef_4 rfl (fun c1 => absurd (by rw [if_neg h1, if_pos h2]) c1) (fun c1 => ?_)
      refine lv_iconst (v := -1) hx hb dJ1_indexOf_4cfef_7 (by decide) ?_
      exact fin _ _ _ _ _ hS rfl (sIx_out j hj (Or.inr h2)).symm dJ1_indexOf_4cfef_8
    refine lv_if_ne (tgt := 9) hx hb dJ1_indexOf_4cfef_4 rfl (fun c1 => ?_) (fun c1 => absurd c1 (by rw [if_neg h1, if_neg h2]; decide))
    refine lv_iload_n hx hb dJ1_indexOf_4cfef_9 rfl (lv_at hl 2 rfl) ?_
    refine lv_iconst (v := 0) hx hb dJ1_indexOf_4cfef_10 (by decide) ?_
    refine va_mmax hx hb (hml.trans hl.1.symm) hown (hts _ jk_92) (hts _ mx_st) (hts _ mx_in) (hts _ mx_co) (Nat.le_of_ble_eq_true rfl) (Nat.le_of_ble_eq_true rfl) (Nat.le_of_ble_eq_true rfl) (Nat.le_of_ble_eq_true rfl) dJ1_indexOf_4cfef_11 ?_
    rw [show (if (0 : Int32) < 0 then (0 : Int32) else 0) = 0 from rfl]
    refine lv_istore_n (lv' := [(2, .int 0), (0, .ref t), (1, .int x), (3, .int (nI (lenS.getD j 0)))]) hx hb dJ1_indexOf_4cfef_14 rfl hl (Nat.le_of_ble_eq_true rfl) rfl (fun ls hl => ?_)
    refine lv_iload_n hx hb dJ1_indexOf_4cfef_15 rfl (lv_at hl 3 rfl) ?_
    refine lv_aload_n hx hb dJ1_indexOf_4cfef_16 rfl (lv_at hl 1 rfl) ?_
    refine va_tlen hx hb hP.2.2.2.1 hS (v := nI (lenS.getD j 0)) rfl dJ1_indexOf_4cfef_17 ?_
    refine va_mmin hx hb (hml.trans hl.1.symm) hown (hts _ jk_38) (hts _ mn_st) (hts _ mx_in) (hts _ mn_co) (Nat.le_of_ble_eq_true rfl) (Nat.le_of_ble_eq_true rfl) (Nat.le_of_ble_eq_true rfl) (Nat.le_of_ble_eq_true rfl) dJ1_indexOf_4cfef_18 ?_
    rw [ite_self]
    refine lv_istore_n (lv' := [(3, .int (nI (lenS.getD j 0))), (2, .int 0), (0, .ref t), (1, .int x)]) hx hb dJ1_indexOf_4cfef_21 rfl hl (Nat.le_of_ble_eq_true rfl) rfl (fun ls hl => ?_)
    refine lv_iload_n hx hb dJ1_indexOf_4cfef_22 rfl (lv_at hl 1 rfl) ?_
    refine lv_iload_n hx hb dJ1_indexOf_4cfef_23 rfl (lv_at hl 0 rfl) ?_
    refine lv_icmp_lt (tgt := 29) hx hb dJ1_indexOf_4cfef_24 rfl (fun c2 => ?_) (fun c2 => absurd (nI_lt (a := 0) (b := lenS.getD j 0) (by omega) (by omega)) c2)
    refine lv_aload_n hx hb dJ1_indexOf_4cfef_29 rfl (lv_at hl 2 rfl) ?_
    refine lv_iload_n hx hb dJ1_indexOf_4cfef_30 rfl (lv_at hl 3 rfl) ?_
    refine lv_iload_n hx hb dJ1_indexOf_4cfef_31 rfl (lv_at hl 1 rfl) ?_
    refine lv_iload_n hx hb dJ1_indexOf_4cfef_32 rfl (lv_at hl 0 rfl) ?_
    refine kj_S (rest := []) (As := [.ref t, .int x, .int 0, .int (nI (lenS.getD j 0))]) jk_95 hx hb hml hown hts hP hS (fun _ h => h) (j_ixLoop l j a t x hj h1 h2) rfl rfl ⟨Nat.le_of_ble_eq_true rfl, Nat.le_of_ble_eq_true rfl⟩ rfl hl.1 rfl (Nat.le_of_ble_eq_true rfl) dJ1_indexOf_4cfef_33 ⟨Nat.le_of_ble_eq_true rfl, Nat.le_of_ble_eq_true rfl⟩ (fun H locs hS => ?_)
    exact fin _ _ _ _ _ hS rfl rfl dJ1_indexOf_4cfef_36)
theorem j_ixII (x : Int32) (hj : j < 3) : Js l yJ0_indexOf_7cf53 cJ0_indexOf_7cf53 3 (some .int) (rmJ 3 100) [.ref a, .int x, .int 0] j a t (sIx j x) :=
  mk_j (own := RJ0) (by decide) rfl (Nat.le_of_ble_eq_true rfl) (fun p e s m args below meth c Q ls hx hb hml hown hts hP hl fin => by
    have hl : lv_has ls 3 [(0, .ref a), (1, .int x), (2, .int 0)] := hl
    have hS : va_S (fun z => s.heap.size ≤ z) s.heap s.heap [] := va_S.rf
    refine lv_aload_n hx hb dJ0_indexOf_7cf53_0 rfl (lv_at hl 0 rfl) ?_
    refine kj_V (rest := []) (As := []) jk_492 hx hb hml hown hts hP hS (fun _ h => h) (j_isLatin1 l j a t) rfl rfl ⟨Nat.le_of_ble_eq_true rfl, Nat.le_of_ble_eq_true rfl⟩ rfl hl.1 rfl (Nat.le_of_ble_eq_true rfl) dJ0_indexOf_7cf53_1 ⟨Nat.le_of_ble_eq_true rfl, Nat.le_of_ble_eq_true rfl⟩ (fun H locs hS => ?_)
    refine lv_if_eq (tgt := 23) hx hb dJ0_indexOf_7cf53_4 rfl (fun c1 => absurd c1 (by decide)) (fun c1 => ?_)
    refine lv_aload_n hx hb dJ0_indexOf_7cf53_7 rfl (lv_at hl 0 rfl) ?_
    refine kj_get hx hb hown hts hP.2.2.1 hS jl_9 dJ0_indexOf_7cf53_8 ?_
    refine lv_iload_n hx hb dJ0_indexOf_7cf53_11 rfl (lv_at hl 1 rfl) ?_
    refine lv_iload_n hx hb dJ0_indexOf_7cf53_12 rfl (lv_at hl 2 rfl) ?_
    refine lv_aload_n hx hb dJ0_indexOf_7cf53_13 rfl (lv_at hl 0 rfl) ?_
    refine kj_V (rest := [.int 0, .int x, .ref t]) (As := []) jk_505 hx hb hml hown hts hP hS (fun _ h => h) (j_length l j a t hj) rfl rfl ⟨Nat.le_of_ble_eq_true rfl, Nat.le_of_ble_eq_true rfl⟩ rfl hl.1 rfl (Nat.le_of_ble_eq_true rfl) dJ0_indexOf_7cf53_14 ⟨Nat.le_of_ble_eq_true rfl, Nat.le_of_ble_eq_true rfl⟩ (fun H locs hS => ?_)
    refine kj_S (rest := []) (As := [.ref t, .int x, .int 0, .int (nI (lenS.getD j 0))]) jk_637 hx hb hml hown hts hP hS (fun _ h => h) (j_ixL1 l j a t x hj) rfl rfl ⟨Nat.le_of_ble_eq_true rfl, Nat.le_of_ble_eq_true rfl⟩ rfl hl.1 rfl (Nat.le_of_ble_eq_true rfl) dJ0_indexOf_7cf53_17 ⟨Nat.le_of_ble_eq_true rfl, Nat.le_of_ble_eq_true rfl⟩ (fun H locs hS => ?_)
    refine lv_goto (tgt := 36) hx hb dJ0_indexOf_7cf53_20 rfl ?_
    exact fin _ _ _ _ _ hS rfl rfl dJ0_indexOf_7cf53_36)
theorem j_ixI (x : Int32) (hj : j < 3) : Js l yJ0_indexOf_0f7a4 cJ0_indexOf_0f7a4 2 (some .int) (rmJ 4 130) [.ref a, .int x] j a t (sIx j x) :=
  mk_j (own := RJ0) (by decide) rfl (Nat.le_of_ble_eq_true rfl) (fun p e s m args below meth c Q ls hx hb hml hown hts hP hl fin => by
    have hl : lv_has ls 2 [(0, .ref a), (1, .int x)] := hl
    have hS : va_S (fun z => s.heap.size ≤ z) s.heap s.heap [] := va_S.rf
    refine lv_aload_n hx hb dJ0_indexOf_0f7a4_0 rfl (lv_at hl 0 rfl) ?_
    refine lv_iload_n hx hb dJ0_indexOf_0f7a4_1 rfl (lv_at hl 1 rfl) ?_
    refine lv_iconst (v := 0) hx hb dJ0_indexOf_0f7a4_2 (by decide) ?_
    refine kj_V (rest := []) (As := [.int x, .int 0]) jk_633 hx hb hml hown hts hP hS (fun _ h => h) (j_ixII l j a t x hj) rfl rfl ⟨Nat.le_of_ble_eq_true rfl, Nat.le_of_ble_eq_true rfl⟩ rfl hl.1 rfl (Nat.le_of_ble_eq_true rfl) dJ0_indexOf_0f7a4_3 ⟨Nat.le_of_ble_eq_true rfl, Nat.le_of_ble_eq_true rfl⟩ (fun H locs hS => ?_)
    exact fin _ _ _ _ _ hS rfl rfl dJ0_indexOf_0f7a4_6)
end JWALK
section SUP2
variable {p : Program} {l : Launch} {e : Env} {R : Room} {s : State} {m : MethodId} {args : Array Value} {below : List Frame} {meth : Method} {c : Code} {H : Heap} {locs : List Loc} {cells slots : Nat} {Q : State → Prop}
variable {K : List Kd} {D : va_G} {dA : Nat → ClassId} {q : Nat → Nat} {A : Nat → Prop} {own : String} {w : Wt} {cc : ByteArray} {pc nL : Nat} {ls : Array Slot} {rest : List Value} {index : Nat}
theorem k_ix {j : Nat} {x : Int32} (L : lkV own index "java/lang/String" yJ0_indexOf_0f7a4 cJ0_indexOf_0f7a4 2 (some .int) 1) (hx : p.tables.exec = Jvm.exec) (hb : c.code = cc) (hml : c.maxLocals = nL) (C : Cx EVc K D dA q A s m args own) (S : Sta K D dA q A s.heap w H locs) (hj : j < 3) (hf : 8 ≤ R.frames) (hlo : 200 ≤ R.locals) (hsz : ls.size = nL) (hW : (rest.map fun v => v.category).sum ≤ 8) (hcs : cells ≤ R.cells ∧ slots ≤ R.slots) (hdg : decode cc pc = .ok (.invokevirtual index, 3))
    (kk : ∀ (H1 : Heap) (locs1 : List Loc), Sta K D dA q A s.heap w H1 locs1 → W p l e R s m args below meth c H1 locs1 cells slots Q (F0 m (pc + 3) ls (.int (sIx j x) :: rest))) : W p l e R s m args below meth c H locs cells slots Q (F0 m pc ls (.int x :: .ref (sA s j) :: rest)) := by
  obtain ⟨-, -, -, ⟨adV, hvs, -⟩, -, -, hZ⟩ := C.2.2.2.2.2.2
  obtain ⟨v1, v2, v3, v4⟩ := hvs j hj
  have hP : Pst j (sA s j) (adV j) A s s.heap := ⟨v1, v2, v3, v4, hZ⟩
  have hM : Js l yJ0_indexOf_0f7a4 cJ0_indexOf_0f7a4 2 (some .int) (rmJ 4 130) [.ref (sA s j), .int x] j (sA s j) (adV j) (sIx j x) := j_ixI l j (sA s j) (adV j) x hj
  have hle : s.heap.size ≤ H.size := S.2.1
  obtain ⟨h1, h2, h3, h4, h5, h6, h7⟩ := L
  obtain ⟨g3, g4, g5, g6⟩ := kj_pre (R := R) (rm := rmJ 4 130) (n := 2) C.2.1 h5 ⟨by show 4 + 1 ≤ _; omega, by show 8 + (2 + 11) + 130 ≤ _; omega⟩
  have hrec : ∃ cellB : Cell, H[sA s j]? = some cellB ∧ cellB.vm.isStatics = false ∧ s.vm.findClass "java/lang/String" = some cellB.cls := by
    obtain ⟨cell, k1, k2, k3, k4⟩ := hP.1
    exact ⟨cell, by rw [S.2.2.1 _ (Array.getElem?_eq_some_iff.mp k1).1 k4]; exact k1, k2, k3⟩
  have hA : ∀ z, s.heap.size ≤ z → A z := C.2.2.2.2.2.1
  refine va_calli (va_runV (Ts := wall) (C := "java/lang/String") (As := [.int x]) (rest := rest) ⟨hx, hb, hml, C.1, C.2.1⟩ (hM H.size) ⟨⟨rfl, rfl, g3, g4, g5, g6, C.2.1 _ h5, C.2.1 _ h4, h6, r_len h7, C.2.1 _ h1⟩, C.2.1 _ h2, C.2.1 _ h3⟩ ⟨Js.blind, hrec, fun U hU hW => ⟨rfl, by rw [hU], by rw [hU]; exact hP.to S.2 hW (fun z hz => hA z (Nat.le_trans hle hz))⟩⟩ rfl rfl hsz rfl (lv_room hW) hdg ⟨hcs.1, hcs.2⟩) S.2 (fun z _ hz => hA z (Nat.le_trans hle hz)) (fun z hz => hA z (Nat.le_trans hle hz)) (fun r' _ t' H1 locs1 ht _ hr' _ hz hk hS1 => ?_)
  subst hr'
  exact kk H1 locs1 ⟨va_P_mono S.1 (fun z hz => hk z hz (Nat.not_le.mpr hz)), hS1⟩
end SUP2

section WALKS
variable {p : Program} {l : Launch} {e : Env} {s : State} {m : MethodId} {args : Array Value} {below : List Frame} {meth : Method} {c : Code} {Q : State → Prop} {D : va_G} {dA : Nat → ClassId} {q : Nat → Nat} {A : Nat → Prop}
/-! Ballotscript.isWithin(III)Z f_Ballotscript_isWithin -/
def f_Ballotscript_isWithin (a0 : Int32) (a1 : Int32) (a2 : Int32) : Option Int32 := (if a0 < a1 then some (0 : Int32) else (if a2 < a0 then some (0 : Int32) else some (1 : Int32)))
def RM_f_Ballotscript_isWithin : Room := { frames := 0, cells := 0, slots := 0, locals := 0 }
set_option maxHeartbeats 4000000 in
set_option maxRecDepth 20000 in
theorem k_f_Ballotscript_isWithin (a0 : Int32) (a1 : Int32) (a2 : Int32) (w : Wt) (z : Int32) (hx : p.tables.exec = Jvm.exec) (hb : c.code = cX9_isWithin) (hml : c.maxLocals = 3) (C : Cx EVc KC D dA q A s m args RX9) (fin : ∀ (H : Heap) (locs : List Loc) (ls : Array Slot) (r' : Int32) (pc : Nat) , narrow .boolean (.int r') = .int r' → Sta KC D dA q A s.heap w H locs → some r' = some z → decode cX9_isWithin pc = .ok (.ireturn, 1) → W p l e RM_f_Ballotscript_isWithin s m args below meth c H locs 0 0 Q (F0 m pc ls [.int r'])) : ∀ (H : Heap) (locs : List Loc) (ls : Array Slot), lv_has ls 3 [(0, .int a0), (1, .int a1), (2, .int a2)] → Sta KC D dA q A s.heap w H locs → f_Ballotscript_isWithin a0 a1 a2 = some z → W p l e RM_f_Ballotscript_isWithin s m args below meth c H locs 0 0 Q (F0 m 0 ls []) := by
  have ev : evOk EVc := EVc_ok
  intro H locs ls hl S h
  have h := h_0 h
  unfold f_Ballotscript_isWithin at h
  refine lv_iload_n hx hb dX9_isWithin_0 rfl (lv_at hl 0 rfl) ?_
  refine lv_iload_n hx hb dX9_isWithin_1 rfl (lv_at hl 1 rfl) ?_
  refine lv_icmp_lt (tgt := 14) hx hb dX9_isWithin_2 rfl (fun c1 => ?_) (fun c1 => ?_)
  · have h := h_t c1 h
    refine lv_iconst (v := 0) hx hb dX9_isWithin_14 (by decide) ?_
    exact fin _ _ _ (0 : Int32) _ (by decide) S h dX9_isWithin_15
  · have h := h_f c1 h
    refine lv_iload_n hx hb dX9_isWithin_5 rfl (lv_at hl 0 rfl) ?_
    refine lv_iload_n hx hb dX9_isWithin_6 rfl (lv_at hl 2 rfl) ?_
    refine lv_icmp_gt (tgt := 14) hx hb dX9_isWithin_7 rfl (fun c2 => ?_) (fun c2 => ?_)
    · have h := h_t c2 h
      refine lv_iconst (v := 0) hx hb dX9_isWithin_14 (by decide) ?_
      exact fin _ _ _ (0 : Int32) _ (by decide) S h dX9_isWithin_15
    · have h := h_f c2 h
      refine lv_iconst (v := 1) hx hb dX9_isWithin_10 (by decide) ?_
      refine lv_goto (tgt := 15) hx hb dX9_isWithin_11 rfl ?_
      exact fin _ _ _ (1 : Int32) _ (by decide) S h dX9_isWithin_15
theorem c_f_Ballotscript_isWithin (l : Launch) (D : va_G) (dA : Nat → ClassId) (q : Nat → Nat) (a0 : Int32) (a1 : Int32) (a2 : Int32) (w : Wt) (r : Int32) (h : f_Ballotscript_isWithin a0 a1 a2 = some r) : Mi l EVc KC D dA q yX9_isWithin cX9_isWithin 3 (some .boolean) RM_f_Ballotscript_isWithin [.int a0, .int a1, .int a2] w r w :=
  mk_z (by decide) rfl EVc_ok (Nat.le_of_ble_eq_true rfl) (fun p e s m args below meth c A Q ls hx hb hml C S hl fin => k_f_Ballotscript_isWithin a0 a1 a2 w r hx hb hml C (fun H locs ls r' pc hn S h d => fin H locs ls r' w pc hn S (by rw [Option.some.inj h]) d) _ _ _ hl S h)
/-! Ballotscript$Rolls.add(IIII)I f_Rolls_add -/
def f_Rolls_add (a1 : Int32) (a2 : Int32) (a3 : Int32) (a4 : Int32) (w : Wt) : Option (Int32 × Wt) := (if (60 : Int32) ≤ (w 1 5) then some (((w 1 5) - (1 : Int32)), w) else gd (inb (w 1 5) 60) (nmd (upd2 w 2 ((w 1 5)).toNatClampNeg a1) fun w3 => gd (inb (w3 1 5) 60) (nmd (upd2 w3 3 ((w3 1 5)).toNatClampNeg a2) fun w5 => gd (inb (w5 1 5) 60) (nmd (upd2 w5 4 ((w5 1 5)).toNatClampNeg a3) fun w7 => gd (inb (w7 1 5) 60) (nmd (upd2 w7 5 ((w7 1 5)).toNatClampNeg a4) fun w9 => nmd (upd2 w9 1 5 ((w9 1 5) + (1 : Int32))) fun w10 => some (((w10 1 5) - (1 : Int32)), w10))))))
def RM_f_Rolls_add : Room := { frames := 0, cells := 0, slots := 0, locals := 0 }
set_option maxHeartbeats 4000000 in
set_option maxRecDepth 20000 in
theorem k_f_Rolls_add (a1 : Int32) (a2 : Int32) (a3 : Int32) (a4 : Int32) (w : Wt) (z : (Int32 × Wt)) (hx : p.tables.exec = Jvm.exec) (hb : c.code = cX4_add) (hml : c.maxLocals = 5) (C : Cx EVc KC D dA q A s m args RX4) (fin : ∀ (H : Heap) (locs : List Loc) (ls : Array Slot) (r' : Int32) (w2 : Wt) (pc : Nat) , Sta KC D dA q A s.heap w2 H locs → some (r', w2) = some z → decode cX4_add pc = .ok (.ireturn, 1) → W p l e RM_f_Rolls_add s m args below meth c H locs 0 0 Q (F0 m pc ls [.int r'])) : ∀ (H : Heap) (locs : List Loc) (ls : Array Slot), lv_has ls 5 [(0, .ref (q 1)), (1, .int a1), (2, .int a2), (3, .int a3), (4, .int a4)] → Sta KC D dA q A s.heap w H locs → f_Rolls_add a1 a2 a3 a4 w = some z → W p l e RM_f_Rolls_add s m args below meth c H locs 0 0 Q (F0 m 0 ls []) := by
  have ev : evOk EVc := EVc_ok
  intro H locs ls hl S h
  have h := h_0 h
  unfold f_Rolls_add at h
  refine lv_aload_n hx hb dX4_add_0 rfl (lv_at hl 0 rfl) ?_
  refine g_get fl_RX4_28_X4 hx hb C S KC_1 rfl dX4_add_1 ?_
  refine lv_bipush (v := 60) hx hb dX4_add_4 (by decide) ?_
  refine lv_icmp_ge (tgt := 60) hx hb dX4_add_6 rfl (fun c1 => ?_) (fun c1 => ?_)
  · have h := h_t c1 h
    refine lv_aload_n hx hb dX4_add_60 rfl (lv_at hl 0 rfl) ?_
    refine g_get fl_RX4_28_X4 hx hb C S KC_1 rfl dX4_add_61 ?_
    refine lv_iconst (v := 1) hx hb dX4_add_64 (by decide) ?_
    refine lv_isub hx hb dX4_add_65 ?_
    exact fin _ _ _ ((w 1 5) - (1 : Int32)) w _ S h dX4_add_66
  · have h := h_f c1 h
    refine lv_aload_n hx hb dX4_add_9 rfl (lv_at hl 0 rfl) ?_
    refine g_getR fl_RX4_9_X4 hx hb C S KC_1 rfl dX4_add_10 ?_
    refine lv_aload_n hx hb dX4_add_13 rfl (lv_at hl 0 rfl) ?_
    refine g_get fl_RX4_28_X4 hx hb C S KC_1 rfl dX4_add_14 ?_
    refine lv_iload_n hx hb dX4_add_17 rfl (lv_at hl 1 rfl) ?_
    obtain ⟨g2, h⟩ := h_gd h
    refine r_iast hx hb C S KC_2 (h_in g2) dX4_add_18 (fun w3 ew3 H locs S => ?_)
    have h := h_l h w3 ew3
    refine lv_aload_n hx hb dX4_add_19 rfl (lv_at hl 0 rfl) ?_
    refine g_getR fl_RX4_15_X4 hx hb C S KC_1 rfl dX4_add_20 ?_
    refine lv_aload_n hx hb dX4_add_23 rfl (lv_at hl 0 rfl) ?_
    refine g_get fl_RX4_28_X4 hx hb C S KC_1 rfl dX4_add_24 ?_
    refine lv_iload_n hx hb dX4_add_27 rfl (lv_at hl 2 rfl) ?_
    obtain ⟨g4, h⟩ := h_gd h
    refine r_iast hx hb C S KC_3 (h_in g4) dX4_add_28 (fun w5 ew5 H locs S => ?_)
    have h := h_l h w5 ew5
    refine lv_aload_n hx hb dX4_add_29 rfl (lv_at hl 0 rfl) ?_
    refine g_getR fl_RX4_18_X4 hx hb C S KC_1 rfl dX4_add_30 ?_
    refine lv_aload_n hx hb dX4_add_33 rfl (lv_at hl 0 rfl) ?_
    refine g_get fl_RX4_28_X4 hx hb C S KC_1 rfl dX4_add_34 ?_
    refine lv_iload_n hx hb dX4_add_37 rfl (lv_at hl 3 rfl) ?_
    obtain ⟨g6, h⟩ := h_gd h
    refine r_iast hx hb C S KC_4 (h_in g6) dX4_add_38 (fun w7 ew7 H locs S => ?_)
    have h := h_l h w7 ew7
    refine lv_aload_n hx hb dX4_add_39 rfl (lv_at hl 0 rfl) ?_
    refine g_getR fl_RX4_21_X4 hx hb C S KC_1 rfl dX4_add_40 ?_
    refine lv_aload_n hx hb dX4_add_43 rfl (lv_at hl 0 rfl) ?_
    refine g_get fl_RX4_28_X4 hx hb C S KC_1 rfl dX4_add_44 ?_
    refine lv_iload hx hb dX4_add_47 (lv_at hl 4 rfl) ?_
    obtain ⟨g8, h⟩ := h_gd h
    refine r_iast hx hb C S KC_5 (h_in g8) dX4_add_49 (fun w9 ew9 H locs S => ?_)
    have h := h_l h w9 ew9
    refine lv_aload_n hx hb dX4_add_50 rfl (lv_at hl 0 rfl) ?_
    refine lv_dup hx hb dX4_add_51 rfl ?_
    refine g_get fl_RX4_28_X4 hx hb C S KC_1 rfl dX4_add_52 ?_
    refine lv_iconst (v := 1) hx hb dX4_add_55 (by decide) ?_
    refine lv_iadd hx hb dX4_add_56 ?_
    refine g_put fl_RX4_28_X4 pl_X4_5 hx hb C S KC_1 rfl ⟨rfl, rfl⟩ dX4_add_57 (fun w10 ew10 H locs S => ?_)
    have h := h_l h w10 ew10
    refine lv_aload_n hx hb dX4_add_60 rfl (lv_at hl 0 rfl) ?_
    refine g_get fl_RX4_28_X4 hx hb C S KC_1 rfl dX4_add_61 ?_
    refine lv_iconst (v := 1) hx hb dX4_add_64 (by decide) ?_
    refine lv_isub hx hb dX4_add_65 ?_
    exact fin _ _ _ ((w10 1 5) - (1 : Int32)) w10 _ S h dX4_add_66
theorem c_f_Rolls_add (l : Launch) (D : va_G) (dA : Nat → ClassId) (q : Nat → Nat) (a1 : Int32) (a2 : Int32) (a3 : Int32) (a4 : Int32) (w w' : Wt) (r : Int32) (h : f_Rolls_add a1 a2 a3 a4 w = some (r, w')) : Mi l EVc KC D dA q yX4_add cX4_add 5 (some .int) RM_f_Rolls_add [.ref (q 1), .int a1, .int a2, .int a3, .int a4] w r w' :=
  mk_i (by decide) rfl EVc_ok (Nat.le_of_ble_eq_true rfl) (fun p e s m args below meth c A Q ls hx hb hml C S hl fin => k_f_Rolls_add a1 a2 a3 a4 w (r, w') hx hb hml C (fun H locs ls r' w2 pc S h d => fin H locs ls r' w2 pc S h d) _ _ _ hl S h)
/-! Ballotscript.enter(IIII)I f_Ballotscript_enter -/
def f_Ballotscript_enter_b52 (w : Wt) : Option ((Nat ⊕ Int32) × Wt) := some (.inl 1, w)
def f_Ballotscript_enter_b19 (w : Wt) : Option ((Nat ⊕ Int32) × Wt) := some (.inl 0, w)
def f_Ballotscript_enter (a1 : Int32) (a2 : Int32) (a3 : Int32) (a4 : Int32) (w : Wt) : Option ((Nat ⊕ Int32) × Wt) := Option.bind (f_Ballotscript_isWithin a1 (0 : Int32) (2 : Int32)) fun x1 => (if x1 = (0 : Int32) then f_Ballotscript_enter_b19 w else Option.bind (f_Ballotscript_isWithin a2 (0 : Int32) (19 : Int32)) fun x3 => (if x3 = (0 : Int32) then f_Ballotscript_enter_b19 w else Option.bind (f_Ballotscript_isWithin a3 (0 : Int32) (1000 : Int32)) fun x5 => (if x5 = (0 : Int32) then f_Ballotscript_enter_b52 w else Option.bind (f_Ballotscript_isWithin a4 a3 (1000 : Int32)) fun x7 => (if x7 = (0 : Int32) then f_Ballotscript_enter_b52 w else (if (w 1 5) < (60 : Int32) then Option.bind (f_Rolls_add a1 a2 a3 a4 w) fun x10 => some (.inr x10.1, x10.2) else some (.inl 2, w))))))
def RM_f_Ballotscript_enter : Room := { frames := 10, cells := 4, slots := 24, locals := 150 }
set_option maxHeartbeats 4000000 in
set_option maxRecDepth 20000 in
theorem k_f_Ballotscript_enter (a1 : Int32) (a2 : Int32) (a3 : Int32) (a4 : Int32) (w : Wt) (z : ((Nat ⊕ Int32) × Wt)) (hfl : l.stackTraces = false) (hx : p.tables.exec = Jvm.exec) (hb : c.code = cX9_enter) (hml : c.maxLocals = 5) (C : Cx EVc KC D dA q A s m args RX9) (fin : ∀ (H : Heap) (locs : List Loc) (ls : Array Slot) (r' : Int32) (w2 : Wt) (pc : Nat) (cl sl : Nat) , cl ≤ 4 → sl ≤ 24 → Sta KC D dA q A s.heap w2 H locs → some ((.inr r' : Nat ⊕ Int32), w2) = some z → decode cX9_enter pc = .ok (.ireturn, 1) → W p l e RM_f_Ballotscript_enter s m args below meth c H locs cl sl Q (F0 m pc ls [.int r'])) (thr : ∀ (H : Heap) (locs : List Loc) (ls : Array Slot) (w2 : Wt) (k pc cl sl : Nat), cl + 1 ≤ 4 → sl + 6 ≤ 24 → ls.size = 5 → Sta KC D dA q A s.heap w2 H locs → some ((.inl k : Nat ⊕ Int32), w2) = some z → thF RX9 cX9_enter pc k → W p l e RM_f_Ballotscript_enter s m args below meth c H locs cl sl Q (F0 m pc ls [])) (pro : ∀ (H : Heap) (locs : List Loc) (ls : Array Slot) (w2 : Wt) (k pc cl sl : Nat) (rest : List Value) (q9 : Nat) (ce : Cell), cl ≤ 4 → sl ≤ 24 → Sta KC D dA q A s.heap w2 H locs → some ((.inl k : Nat ⊕ Int32), w2) = some z → H[q9]? = some ce → ce.vm = .none → s.vm.findClass (exn k) = some ce.cls → vx_W p l e RM_f_Ballotscript_enter s m args below meth c H locs cl sl Q (F0 m pc ls rest) q9) : ∀ (H : Heap) (locs : List Loc) (ls : Array Slot), lv_has ls 5 [(0, .ref (q 0)), (1, .int a1), (2, .int a2), (3, .int a3), (4, .int a4)] → Sta KC D dA q A s.heap w H locs → f_Ballotscript_enter a1 a2 a3 a4 w = some z → W p l e RM_f_Ballotscript_enter s m args below meth c H locs 0 0 Q (F0 m 0 ls []) := by
  have ev : evOk EVc := EVc_ok
  have lab52 : ∀ (w : Wt) (H : Heap) (locs : List Loc) (ls : Array Slot), lv_has ls 5 [] → Sta KC D dA q A s.heap w H locs → Option.bind (f_Ballotscript_enter_b52 w) some = some z → W p l e RM_f_Ballotscript_enter s m args below meth c H locs 0 0 Q (F0 m 52 ls []) := by
    intro  w H locs ls hl S h
    unfold f_Ballotscript_enter_b52 at h
    exact thr _ _ _ w _ _ 0 0 (Nat.le_of_ble_eq_true rfl) (Nat.le_of_ble_eq_true rfl) hl.1 S h th_X9_enter_52
  have lab19 : ∀ (w : Wt) (H : Heap) (locs : List Loc) (ls : Array Slot), lv_has ls 5 [] → Sta KC D dA q A s.heap w H locs → Option.bind (f_Ballotscript_enter_b19 w) some = some z → W p l e RM_f_Ballotscript_enter s m args below meth c H locs 0 0 Q (F0 m 19 ls []) := by
    intro  w H locs ls hl S h
    unfold f_Ballotscript_enter_b19 at h
    exact thr _ _ _ w _ _ 0 0 (Nat.le_of_ble_eq_true rfl) (Nat.le_of_ble_eq_true rfl) hl.1 S h th_X9_enter_19
  intro H locs ls hl S h
  have h := h_0 h
  unfold f_Ballotscript_enter at h
  refine lv_iload_n hx hb dX9_enter_0 rfl (lv_at hl 1 rfl) ?_
  refine lv_iconst (v := 0) hx hb dX9_enter_1 (by decide) ?_
  refine lv_iconst (v := 2) hx hb dX9_enter_2 (by decide) ?_
  obtain ⟨x1, ex1, h⟩ := h_c h
  refine k_i C S (q_S (rest := []) (As := [.int a1, .int (0 : Int32), .int (2 : Int32)]) lk_RX9_69 ev hx hb hml C S (c_f_Ballotscript_isWithin l D dA q a1 (0 : Int32) (2 : Int32) w x1 ex1 _) rfl rfl ⟨(Nat.le_of_ble_eq_true rfl), (Nat.le_of_ble_eq_true rfl)⟩ rfl hl.1 rfl (Nat.le_of_ble_eq_true rfl) dX9_enter_3 ⟨(Nat.le_of_ble_eq_true rfl), (Nat.le_of_ble_eq_true rfl)⟩) (fun H locs S => ?_)
  refine lv_if_eq (tgt := 19) hx hb dX9_enter_6 rfl (fun c2 => ?_) (fun c2 => ?_)
  · have h := h_t c2 h
    exact lab19 w _ _ _ (lv_sub hl [] rfl) S h
  · have h := h_f c2 h
    refine lv_iload_n hx hb dX9_enter_9 rfl (lv_at hl 2 rfl) ?_
    refine lv_iconst (v := 0) hx hb dX9_enter_10 (by decide) ?_
    refine lv_bipush (v := 19) hx hb dX9_enter_11 (by decide) ?_
    obtain ⟨x3, ex3, h⟩ := h_c h
    refine k_i C S (q_S (rest := []) (As := [.int a2, .int (0 : Int32), .int (19 : Int32)]) lk_RX9_69 ev hx hb hml C S (c_f_Ballotscript_isWithin l D dA q a2 (0 : Int32) (19 : Int32) w x3 ex3 _) rfl rfl ⟨(Nat.le_of_ble_eq_true rfl), (Nat.le_of_ble_eq_true rfl)⟩ rfl hl.1 rfl (Nat.le_of_ble_eq_true rfl) dX9_enter_13 ⟨(Nat.le_of_ble_eq_true rfl), (Nat.le_of_ble_eq_true rfl)⟩) (fun H locs S => ?_)
    refine lv_if_ne (tgt := 29) hx hb dX9_enter_16 rfl (fun c4 => ?_) (fun c4 => ?_)
    · have h := h_f c4 h
      refine lv_iload_n hx hb dX9_enter_29 rfl (lv_at hl 3 rfl) ?_
      refine lv_iconst (v := 0) hx hb dX9_enter_30 (by decide) ?_
      refine lv_sipush (v := 1000) hx hb dX9_enter_31 (by decide) ?_
      obtain ⟨x5, ex5, h⟩ := h_c h
      refine k_i C S (q_S (rest := []) (As := [.int a3, .int (0 : Int32), .int (1000 : Int32)]) lk_RX9_69 ev hx hb hml C S (c_f_Ballotscript_isWithin l D dA q a3 (0 : Int32) (1000 : Int32) w x5 ex5 _) rfl rfl ⟨(Nat.le_of_ble_eq_true rfl), (Nat.le_of_ble_eq_true rfl)⟩ rfl hl.1 rfl (Nat.le_of_ble_eq_true rfl) dX9_enter_34 ⟨(Nat.le_of_ble_eq_true rfl), (Nat.le_of_ble_eq_true rfl)⟩) (fun H locs S => ?_)
      refine lv_if_eq (tgt := 52) hx hb dX9_enter_37 rfl (fun c6 => ?_) (fun c6 => ?_)
      · have h := h_t c6 h
        exact lab52 w _ _ _ (lv_sub hl [] rfl) S h
      · have h := h_f c6 h
        refine lv_iload hx hb dX9_enter_40 (lv_at hl 4 rfl) ?_
        refine lv_iload_n hx hb dX9_enter_42 rfl (lv_at hl 3 rfl) ?_
        refine lv_sipush (v := 1000) hx hb dX9_enter_43 (by decide) ?_
        obtain ⟨x7, ex7, h⟩ := h_c h
        refine k_i C S (q_S (rest := []) (As := [.int a4, .int a3, .int (1000 : Int32)]) lk_RX9_69 ev hx hb hml C S (c_f_Ballotscript_isWithin l D dA q a4 a3 (1000 : Int32) w x7 ex7 _) rfl rfl ⟨(Nat.le_of_ble_eq_true rfl), (Nat.le_of_ble_eq_true rfl)⟩ rfl hl.1 rfl (Nat.le_of_ble_eq_true rfl) dX9_enter_46 ⟨(Nat.le_of_ble_eq_true rfl), (Nat.le_of_ble_eq_true rfl)⟩) (fun H locs S => ?_)
        refine lv_if_ne (tgt := 62) hx hb dX9_enter_49 rfl (fun c8 => ?_) (fun c8 => ?_)
        · have h := h_f c8 h
          refine lv_aload_n hx hb dX9_enter_62 rfl (lv_at hl 0 rfl) ?_
          refine g_getR fl_RX9_10_X9 hx hb C S KC_0 rfl dX9_enter_63 ?_
          refine g_get fl_RX9_85_X4 hx hb C S KC_1 rfl dX9_enter_66 ?_
          refine lv_bipush (v := 60) hx hb dX9_enter_69 (by decide) ?_
          refine lv_icmp_lt (tgt := 84) hx hb dX9_enter_71 rfl (fun c9 => ?_) (fun c9 => ?_)
          · have h := h_t c9 h
            refine lv_aload_n hx hb dX9_enter_84 rfl (lv_at hl 0 rfl) ?_
            refine g_getR fl_RX9_10_X9 hx hb C S KC_0 rfl dX9_enter_85 ?_
            refine lv_iload_n hx hb dX9_enter_88 rfl (lv_at hl 1 rfl) ?_
            refine lv_iload_n hx hb dX9_enter_89 rfl (lv_at hl 2 rfl) ?_
            refine lv_iload_n hx hb dX9_enter_90 rfl (lv_at hl 3 rfl) ?_
            refine lv_iload hx hb dX9_enter_91 (lv_at hl 4 rfl) ?_
            obtain ⟨x10, ex10, h⟩ := h_c h
            refine k_i C S (q_V (rest := []) (As := [.int a1, .int a2, .int a3, .int a4]) lk_RX9_94 ev hx hb hml C S KC_1 rfl (c_f_Rolls_add l D dA q a1 a2 a3 a4 w x10.2 x10.1 ex10 _) rfl rfl ⟨(Nat.le_of_ble_eq_true rfl), (Nat.le_of_ble_eq_true rfl)⟩ rfl hl.1 rfl (Nat.le_of_ble_eq_true rfl) dX9_enter_93 ⟨(Nat.le_of_ble_eq_true rfl), (Nat.le_of_ble_eq_true rfl)⟩) (fun H locs S => ?_)
            exact fin _ _ _ x10.1 x10.2 _ 0 0 (Nat.le_of_ble_eq_true rfl) (Nat.le_of_ble_eq_true rfl) S h dX9_enter_96
          · have h := h_f c9 h
            exact thr _ _ _ w _ _ 0 0 (Nat.le_of_ble_eq_true rfl) (Nat.le_of_ble_eq_true rfl) hl.1 S h th_X9_enter_74
        · have h := h_t c8 h
          exact lab52 w _ _ _ (lv_sub hl [] rfl) S h
    · have h := h_t c4 h
      exact lab19 w _ _ _ (lv_sub hl [] rfl) S h
theorem c_f_Ballotscript_enter (l : Launch) (hfl : l.stackTraces = false) (D : va_G) (dA : Nat → ClassId) (q : Nat → Nat) (a1 : Int32) (a2 : Int32) (a3 : Int32) (a4 : Int32) (w w' : Wt) (res : Nat ⊕ Int32) (h : f_Ballotscript_enter a1 a2 a3 a4 w = some (res, w')) : Xi l EVc KC D dA q yX9_enter cX9_enter 5 (some .int) RM_f_Ballotscript_enter 4 24 [.ref (q 0), .int a1, .int a2, .int a3, .int a4] w res w' :=
  mx_i (by decide) rfl hfl (Nat.le_of_ble_eq_true rfl) (Nat.le_of_ble_eq_true rfl) (Nat.le_of_ble_eq_true rfl) rfl rfl (fun p e s m args below meth c A Q ls hx hb hml C S hl fin thr pro => k_f_Ballotscript_enter a1 a2 a3 a4 w (res, w') hfl hx hb hml C (fun H locs ls r' w2 pc cl sl hc hs S h d => fin H locs ls r' w2 pc cl sl hc hs S h d) (fun H locs ls w2 k pc cl sl hc hs hz S h t => thr H locs ls w2 k pc cl sl hc hs hz S h t) (fun H locs ls w2 k pc cl sl rest q9 ce hc hs S h h1 h2 h3 => pro H locs ls w2 k pc cl sl rest q9 ce hc hs S h h1 h2 h3) _ _ _ hl S h)
/-! Ballotscript$Rolls.allows(III)Z f_Rolls_allows -/
def f_Rolls_allows_b73 (w : Wt) : Option Int32 := some (0 : Int32)
def f_Rolls_allows_L3 (l1 : Int32) (l2 : Int32) (l3 : Int32) (w : Wt) : Int32 → Option (Int32 ⊕ (Unit ⊕ Int32))
  | l4 => (if (w 1 5) ≤ l4 then some (.inr (.inl ())) else gd (inb l4 60) ((if (w 6 (l4).toNatClampNeg) = (0 : Int32) then gd (inb l4 60) ((if (w 2 (l4).toNatClampNeg) = l1 then gd (inb l4 60) ((if (w 3 (l4).toNatClampNeg) = l2 then gd (inb l4 60) (gd (inb l4 60) (Option.bind (f_Ballotscript_isWithin l3 (w 4 (l4).toNatClampNeg) (w 5 (l4).toNatClampNeg)) fun x10 => (if x10 = (0 : Int32) then some (.inl (l4 + 1)) else some (.inr (.inr (1 : Int32)))))) else some (.inl (l4 + 1)))) else some (.inl (l4 + 1)))) else some (.inl (l4 + 1)))))
def f_Rolls_allows_x3 (w : Wt) : (Unit ⊕ Int32) → Option Int32
  | .inl () => f_Rolls_allows_b73 w
  | .inr t => some t
def f_Rolls_allows (a1 : Int32) (a2 : Int32) (a3 : Int32) (w : Wt) : Option Int32 := Option.bind (lp (f_Rolls_allows_L3 a1 a2 a3 w) FU (0 : Int32)) (f_Rolls_allows_x3 w)
def RM_f_Rolls_allows : Room := { frames := 1, cells := 0, slots := 0, locals := 22 }
set_option maxHeartbeats 4000000 in
set_option maxRecDepth 20000 in
theorem k_f_Rolls_allows (a1 : Int32) (a2 : Int32) (a3 : Int32) (w : Wt) (z : Int32) (hx : p.tables.exec = Jvm.exec) (hb : c.code = cX4_allows) (hml : c.maxLocals = 5) (C : Cx EVc KC D dA q A s m args RX4) (fin : ∀ (H : Heap) (locs : List Loc) (ls : Array Slot) (r' : Int32) (pc : Nat) , narrow .boolean (.int r') = .int r' → Sta KC D dA q A s.heap w H locs → some r' = some z → decode cX4_allows pc = .ok (.ireturn, 1) → W p l e RM_f_Rolls_allows s m args below meth c H locs 0 0 Q (F0 m pc ls [.int r'])) : ∀ (H : Heap) (locs : List Loc) (ls : Array Slot), lv_has ls 5 [(0, .ref (q 1)), (1, .int a1), (2, .int a2), (3, .int a3)] → Sta KC D dA q A s.heap w H locs → f_Rolls_allows a1 a2 a3 w = some z → W p l e RM_f_Rolls_allows s m args below meth c H locs 0 0 Q (F0 m 0 ls []) := by
  have ev : evOk EVc := EVc_ok
  have lab73 : ∀ (H : Heap) (locs : List Loc) (ls : Array Slot), lv_has ls 5 [] → Sta KC D dA q A s.heap w H locs → Option.bind (f_Rolls_allows_b73 w) some = some z → W p l e RM_f_Rolls_allows s m args below meth c H locs 0 0 Q (F0 m 73 ls []) := by
    intro  H locs ls hl S h
    unfold f_Rolls_allows_b73 at h
    refine lv_iconst (v := 0) hx hb dX4_allows_73 (by decide) ?_
    exact fin _ _ _ (0 : Int32) _ (by decide) S h dX4_allows_74
  have loop3 : ∀ (l1 : Int32) (l2 : Int32) (l3 : Int32) (n3 : Nat), ∀ (l4 : Int32) (H : Heap) (locs : List Loc) (ls : Array Slot), lv_has ls 5 [(0, .ref (q 1)), (1, .int l1), (2, .int l2), (3, .int l3), (4, .int l4)] → Sta KC D dA q A s.heap w H locs → Option.bind (lp (f_Rolls_allows_L3 l1 l2 l3 w) n3 l4) (fun x9 => Option.bind (f_Rolls_allows_x3 w x9) some) = some z → W p l e RM_f_Rolls_allows s m args below meth c H locs 0 0 Q (F0 m 3 ls []) := by
    intro l1 l2 l3 n3
    induction n3 with
    | zero =>
      intro l4 H locs ls hl S h
      exact (h_lp0 h).elim
    | succ n3 ih3 =>
      intro l4 H locs ls hl S h
      have h := h_lp h
      unfold f_Rolls_allows_L3 at h
      refine lv_iload hx hb dX4_allows_3 (lv_at hl 4 rfl) ?_
      refine lv_aload_n hx hb dX4_allows_5 rfl (lv_at hl 0 rfl) ?_
      refine g_get fl_RX4_28_X4 hx hb C S KC_1 rfl dX4_allows_6 ?_
      refine lv_icmp_ge (tgt := 73) hx hb dX4_allows_9 rfl (fun c1 => ?_) (fun c1 => ?_)
      · have h := h_t c1 h
        exact lab73  _ _ _ (lv_sub hl [] rfl) S h
      · have h := h_f c1 h
        refine lv_aload_n hx hb dX4_allows_12 rfl (lv_at hl 0 rfl) ?_
        refine g_getR fl_RX4_24_X4 hx hb C S KC_1 rfl dX4_allows_13 ?_
        refine lv_iload hx hb dX4_allows_16 (lv_at hl 4 rfl) ?_
        obtain ⟨g2, h⟩ := h_gd h
        refine r_zald hx hb C S KC_6 (h_in g2) dX4_allows_18 ?_
        refine lv_if_ne (tgt := 67) hx hb dX4_allows_19 rfl (fun c3 => ?_) (fun c3 => ?_)
        · have h := h_f c3 h
          refine lv_iinc (v := (l4 + 1)) (lv' := [(4, .int (l4 + 1)), (0, .ref (q 1)), (1, .int l1), (2, .int l2), (3, .int l3)]) hx hb dX4_allows_67 hl (k := 4) rfl rfl (Nat.le_of_ble_eq_true rfl) rfl (fun ls hl => ?_)
          refine lv_goto (tgt := 3) hx hb dX4_allows_70 rfl ?_
          exact ih3 (l4 + 1) _ _ _ (lv_sub hl [1, 2, 3, 4, 0] rfl) S h
        · have h := h_t c3 h
          refine lv_aload_n hx hb dX4_allows_22 rfl (lv_at hl 0 rfl) ?_
          refine g_getR fl_RX4_9_X4 hx hb C S KC_1 rfl dX4_allows_23 ?_
          refine lv_iload hx hb dX4_allows_26 (lv_at hl 4 rfl) ?_
          obtain ⟨g4, h⟩ := h_gd h
          refine r_iald hx hb C S KC_2 (h_in g4) dX4_allows_28 ?_
          refine lv_iload_n hx hb dX4_allows_29 rfl (lv_at hl 1 rfl) ?_
          refine lv_icmp_ne (tgt := 67) hx hb dX4_allows_30 rfl (fun c5 => ?_) (fun c5 => ?_)
          · have h := h_f c5 h
            refine lv_iinc (v := (l4 + 1)) (lv' := [(4, .int (l4 + 1)), (0, .ref (q 1)), (1, .int l1), (2, .int l2), (3, .int l3)]) hx hb dX4_allows_67 hl (k := 4) rfl rfl (Nat.le_of_ble_eq_true rfl) rfl (fun ls hl => ?_)
            refine lv_goto (tgt := 3) hx hb dX4_allows_70 rfl ?_
            exact ih3 (l4 + 1) _ _ _ (lv_sub hl [1, 2, 3, 4, 0] rfl) S h
          · have h := h_t c5 h
            refine lv_aload_n hx hb dX4_allows_33 rfl (lv_at hl 0 rfl) ?_
            refine g_getR fl_RX4_15_X4 hx hb C S KC_1 rfl dX4_allows_34 ?_
            refine lv_iload hx hb dX4_allows_37 (lv_at hl 4 rfl) ?_
            obtain ⟨g6, h⟩ := h_gd h
            refine r_iald hx hb C S KC_3 (h_in g6) dX4_allows_39 ?_
            refine lv_iload_n hx hb dX4_allows_40 rfl (lv_at hl 2 rfl) ?_
            refine lv_icmp_ne (tgt := 67) hx hb dX4_allows_41 rfl (fun c7 => ?_) (fun c7 => ?_)
            · have h := h_f c7 h
              refine lv_iinc (v := (l4 + 1)) (lv' := [(4, .int (l4 + 1)), (0, .ref (q 1)), (1, .int l1), (2, .int l2), (3, .int l3)]) hx hb dX4_allows_67 hl (k := 4) rfl rfl (Nat.le_of_ble_eq_true rfl) rfl (fun ls hl => ?_)
              refine lv_goto (tgt := 3) hx hb dX4_allows_70 rfl ?_
              exact ih3 (l4 + 1) _ _ _ (lv_sub hl [1, 2, 3, 4, 0] rfl) S h
            · have h := h_t c7 h
              refine lv_iload_n hx hb dX4_allows_44 rfl (lv_at hl 3 rfl) ?_
              refine lv_aload_n hx hb dX4_allows_45 rfl (lv_at hl 0 rfl) ?_
              refine g_getR fl_RX4_18_X4 hx hb C S KC_1 rfl dX4_allows_46 ?_
              refine lv_iload hx hb dX4_allows_49 (lv_at hl 4 rfl) ?_
              obtain ⟨g8, h⟩ := h_gd h
              refine r_iald hx hb C S KC_4 (h_in g8) dX4_allows_51 ?_
              refine lv_aload_n hx hb dX4_allows_52 rfl (lv_at hl 0 rfl) ?_
              refine g_getR fl_RX4_21_X4 hx hb C S KC_1 rfl dX4_allows_53 ?_
              refine lv_iload hx hb dX4_allows_56 (lv_at hl 4 rfl) ?_
              obtain ⟨g9, h⟩ := h_gd h
              refine r_iald hx hb C S KC_5 (h_in g9) dX4_allows_58 ?_
              obtain ⟨x10, ex10, h⟩ := h_c h
              refine k_i C S (q_N (rest := []) (As := [.int l3, .int (w 4 (l4).toNatClampNeg), .int (w 5 (l4).toNatClampNeg)]) lk_RX4_32 (nm_lk_RX4_32 C) ev hx hb hml C S (c_f_Ballotscript_isWithin l D dA q l3 (w 4 (l4).toNatClampNeg) (w 5 (l4).toNatClampNeg) w x10 ex10 _) rfl rfl ⟨(Nat.le_of_ble_eq_true rfl), (Nat.le_of_ble_eq_true rfl)⟩ rfl hl.1 rfl (Nat.le_of_ble_eq_true rfl) dX4_allows_59 ⟨(Nat.le_of_ble_eq_true rfl), (Nat.le_of_ble_eq_true rfl)⟩) (fun H locs S => ?_)
              refine lv_if_eq (tgt := 67) hx hb dX4_allows_62 rfl (fun c11 => ?_) (fun c11 => ?_)
              · have h := h_t c11 h
                refine lv_iinc (v := (l4 + 1)) (lv' := [(4, .int (l4 + 1)), (0, .ref (q 1)), (1, .int l1), (2, .int l2), (3, .int l3)]) hx hb dX4_allows_67 hl (k := 4) rfl rfl (Nat.le_of_ble_eq_true rfl) rfl (fun ls hl => ?_)
                refine lv_goto (tgt := 3) hx hb dX4_allows_70 rfl ?_
                exact ih3 (l4 + 1) _ _ _ (lv_sub hl [1, 2, 3, 4, 0] rfl) S h
              · have h := h_f c11 h
                refine lv_iconst (v := 1) hx hb dX4_allows_65 (by decide) ?_
                exact fin _ _ _ (1 : Int32) _ (by decide) S h dX4_allows_66
  intro H locs ls hl S h
  have h := h_0 h
  unfold f_Rolls_allows at h
  refine lv_iconst (v := 0) hx hb dX4_allows_0 (by decide) ?_
  refine lv_istore (lv' := [(4, .int (0 : Int32)), (0, .ref (q 1)), (1, .int a1), (2, .int a2), (3, .int a3)]) hx hb dX4_allows_1 hl (Nat.le_of_ble_eq_true rfl) rfl (fun ls hl => ?_)
  exact loop3 a1 a2 a3 FU (0 : Int32) _ _ _ (lv_sub hl [1, 2, 3, 4, 0] rfl) S (h_bb h)
theorem c_f_Rolls_allows (l : Launch) (D : va_G) (dA : Nat → ClassId) (q : Nat → Nat) (a1 : Int32) (a2 : Int32) (a3 : Int32) (w : Wt) (r : Int32) (h : f_Rolls_allows a1 a2 a3 w = some r) : Mi l EVc KC D dA q yX4_allows cX4_allows 5 (some .boolean) RM_f_Rolls_allows [.ref (q 1), .int a1, .int a2, .int a3] w r w :=
  mk_z (by decide) rfl EVc_ok (Nat.le_of_ble_eq_true rfl) (fun p e s m args below meth c A Q ls hx hb hml C S hl fin => k_f_Rolls_allows a1 a2 a3 w r hx hb hml C (fun H locs ls r' pc hn S h d => fin H locs ls r' w pc hn S (by rw [Option.some.inj h]) d) _ _ _ hl S h)
/-! Ballotscript$Box.reasonOf(I)I f_Box_reasonOf -/
def f_Box_reasonOf_b50 (l1 : Int32) (w : Wt) : Option Int32 := gd (inb l1 100) (gd (inb l1 100) (gd (inb l1 100) (Option.bind (f_Rolls_allows (w 15 (l1).toNatClampNeg) (w 16 (l1).toNatClampNeg) (w 17 (l1).toNatClampNeg) w) fun x4 => (if x4 = (0 : Int32) then some (2 : Int32) else some (0 : Int32)))))
def f_Box_reasonOf_L4 (l1 : Int32) (w : Wt) : Int32 → Option (Int32 ⊕ (Unit ⊕ Int32))
  | l2 => (if (w 13 8) ≤ l2 then some (.inr (.inl ())) else gd (inb l2 100) (gd (inb l1 100) ((if (w 14 (l2).toNatClampNeg) = (w 14 (l1).toNatClampNeg) then gd (inb l2 100) (gd (inb l1 100) ((if (w 16 (l2).toNatClampNeg) = (w 16 (l1).toNatClampNeg) then some (.inr (.inr (1 : Int32))) else some (.inl (l2 + 1))))) else some (.inl (l2 + 1))))))
def f_Box_reasonOf_x4 (l1 : Int32) (w : Wt) : (Unit ⊕ Int32) → Option Int32
  | .inl () => f_Box_reasonOf_b50 l1 w
  | .inr t => some t
def f_Box_reasonOf (a1 : Int32) (w : Wt) : Option Int32 := nmd (a1 + (1 : Int32)) fun v13 => Option.bind (lp (f_Box_reasonOf_L4 a1 w) FU v13) (f_Box_reasonOf_x4 a1 w)
def RM_f_Box_reasonOf : Room := { frames := 2, cells := 0, slots := 0, locals := 46 }
set_option maxHeartbeats 4000000 in
set_option maxRecDepth 20000 in
theorem k_f_Box_reasonOf (a1 : Int32) (w : Wt) (z : Int32) (hx : p.tables.exec = Jvm.exec) (hb : c.code = cX0_reasonOf) (hml : c.maxLocals = 3) (C : Cx EVc KC D dA q A s m args RX0) (fin : ∀ (H : Heap) (locs : List Loc) (ls : Array Slot) (r' : Int32) (pc : Nat) , Sta KC D dA q A s.heap w H locs → some r' = some z → decode cX0_reasonOf pc = .ok (.ireturn, 1) → W p l e RM_f_Box_reasonOf s m args below meth c H locs 0 0 Q (F0 m pc ls [.int r'])) : ∀ (H : Heap) (locs : List Loc) (ls : Array Slot), lv_has ls 3 [(0, .ref (q 13)), (1, .int a1)] → Sta KC D dA q A s.heap w H locs → f_Box_reasonOf a1 w = some z → W p l e RM_f_Box_reasonOf s m args below meth c H locs 0 0 Q (F0 m 0 ls []) := by
  have ev : evOk EVc := EVc_ok
  have lab50 : ∀ (l1 : Int32) (H : Heap) (locs : List Loc) (ls : Array Slot), lv_has ls 3 [(0, .ref (q 13)), (1, .int l1)] → Sta KC D dA q A s.heap w H locs → Option.bind (f_Box_reasonOf_b50 l1 w) some = some z → W p l e RM_f_Box_reasonOf s m args below meth c H locs 0 0 Q (F0 m 50 ls []) := by
    intro l1 H locs ls hl S h
    unfold f_Box_reasonOf_b50 at h
    refine lv_aload_n hx hb dX0_reasonOf_50 rfl (lv_at hl 0 rfl) ?_
    refine g_getR fl_RX0_37_X0 hx hb C S KC_13 rfl dX0_reasonOf_51 ?_
    refine lv_aload_n hx hb dX0_reasonOf_54 rfl (lv_at hl 0 rfl) ?_
    refine g_getR fl_RX0_15_X0 hx hb C S KC_13 rfl dX0_reasonOf_55 ?_
    refine lv_iload_n hx hb dX0_reasonOf_58 rfl (lv_at hl 1 rfl) ?_
    obtain ⟨g1, h⟩ := h_gd h
    refine r_iald hx hb C S KC_15 (h_in g1) dX0_reasonOf_59 ?_
    refine lv_aload_n hx hb dX0_reasonOf_60 rfl (lv_at hl 0 rfl) ?_
    refine g_getR fl_RX0_18_X0 hx hb C S KC_13 rfl dX0_reasonOf_61 ?_
    refine lv_iload_n hx hb dX0_reasonOf_64 rfl (lv_at hl 1 rfl) ?_
    obtain ⟨g2, h⟩ := h_gd h
    refine r_iald hx hb C S KC_16 (h_in g2) dX0_reasonOf_65 ?_
    refine lv_aload_n hx hb dX0_reasonOf_66 rfl (lv_at hl 0 rfl) ?_
    refine g_getR fl_RX0_21_X0 hx hb C S KC_13 rfl dX0_reasonOf_67 ?_
    refine lv_iload_n hx hb dX0_reasonOf_70 rfl (lv_at hl 1 rfl) ?_
    obtain ⟨g3, h⟩ := h_gd h
    refine r_iald hx hb C S KC_17 (h_in g3) dX0_reasonOf_71 ?_
    obtain ⟨x4, ex4, h⟩ := h_c h
    refine k_i C S (q_V (rest := []) (As := [.int (w 15 (l1).toNatClampNeg), .int (w 16 (l1).toNatClampNeg), .int (w 17 (l1).toNatClampNeg)]) lk_RX0_51 ev hx hb hml C S KC_1 rfl (c_f_Rolls_allows l D dA q (w 15 (l1).toNatClampNeg) (w 16 (l1).toNatClampNeg) (w 17 (l1).toNatClampNeg) w x4 ex4 _) rfl rfl ⟨(Nat.le_of_ble_eq_true rfl), (Nat.le_of_ble_eq_true rfl)⟩ rfl hl.1 rfl (Nat.le_of_ble_eq_true rfl) dX0_reasonOf_72 ⟨(Nat.le_of_ble_eq_true rfl), (Nat.le_of_ble_eq_true rfl)⟩) (fun H locs S => ?_)
    refine lv_if_eq (tgt := 82) hx hb dX0_reasonOf_75 rfl (fun c5 => ?_) (fun c5 => ?_)
    · have h := h_t c5 h
      refine lv_iconst (v := 2) hx hb dX0_reasonOf_82 (by decide) ?_
      exact fin _ _ _ (2 : Int32) _ S h dX0_reasonOf_83
    · have h := h_f c5 h
      refine lv_iconst (v := 0) hx hb dX0_reasonOf_78 (by decide) ?_
      refine lv_goto (tgt := 83) hx hb dX0_reasonOf_79 rfl ?_
      exact fin _ _ _ (0 : Int32) _ S h dX0_reasonOf_83
  have loop4 : ∀ (l1 : Int32) (n4 : Nat), ∀ (l2 : Int32) (H : Heap) (locs : List Loc) (ls : Array Slot), lv_has ls 3 [(0, .ref (q 13)), (1, .int l1), (2, .int l2)] → Sta KC D dA q A s.heap w H locs → Option.bind (lp (f_Box_reasonOf_L4 l1 w) n4 l2) (fun x9 => Option.bind (f_Box_reasonOf_x4 l1 w x9) some) = some z → W p l e RM_f_Box_reasonOf s m args below meth c H locs 0 0 Q (F0 m 4 ls []) := by
    intro l1 n4
    induction n4 with
    | zero =>
      intro l2 H locs ls hl S h
      exact (h_lp0 h).elim
    | succ n4 ih4 =>
      intro l2 H locs ls hl S h
      have h := h_lp h
      unfold f_Box_reasonOf_L4 at h
      refine lv_iload_n hx hb dX0_reasonOf_4 rfl (lv_at hl 2 rfl) ?_
      refine lv_aload_n hx hb dX0_reasonOf_5 rfl (lv_at hl 0 rfl) ?_
      refine g_get fl_RX0_41_X0 hx hb C S KC_13 rfl dX0_reasonOf_6 ?_
      refine lv_icmp_ge (tgt := 50) hx hb dX0_reasonOf_9 rfl (fun c6 => ?_) (fun c6 => ?_)
      · have h := h_t c6 h
        exact lab50 l1 _ _ _ (lv_sub hl [0, 1] rfl) S h
      · have h := h_f c6 h
        refine lv_aload_n hx hb dX0_reasonOf_12 rfl (lv_at hl 0 rfl) ?_
        refine g_getR fl_RX0_9_X0 hx hb C S KC_13 rfl dX0_reasonOf_13 ?_
        refine lv_iload_n hx hb dX0_reasonOf_16 rfl (lv_at hl 2 rfl) ?_
        obtain ⟨g7, h⟩ := h_gd h
        refine r_iald hx hb C S KC_14 (h_in g7) dX0_reasonOf_17 ?_
        refine lv_aload_n hx hb dX0_reasonOf_18 rfl (lv_at hl 0 rfl) ?_
        refine g_getR fl_RX0_9_X0 hx hb C S KC_13 rfl dX0_reasonOf_19 ?_
        refine lv_iload_n hx hb dX0_reasonOf_22 rfl (lv_at hl 1 rfl) ?_
        obtain ⟨g8, h⟩ := h_gd h
        refine r_iald hx hb C S KC_14 (h_in g8) dX0_reasonOf_23 ?_
        refine lv_icmp_ne (tgt := 44) hx hb dX0_reasonOf_24 rfl (fun c9 => ?_) (fun c9 => ?_)
        · have h := h_f c9 h
          refine lv_iinc (v := (l2 + 1)) (lv' := [(2, .int (l2 + 1)), (0, .ref (q 13)), (1, .int l1)]) hx hb dX0_reasonOf_44 hl (k := 2) rfl rfl (Nat.le_of_ble_eq_true rfl) rfl (fun ls hl => ?_)
          refine lv_goto (tgt := 4) hx hb dX0_reasonOf_47 rfl ?_
          exact ih4 (l2 + 1) _ _ _ (lv_sub hl [1, 2, 0] rfl) S h
        · have h := h_t c9 h
          refine lv_aload_n hx hb dX0_reasonOf_27 rfl (lv_at hl 0 rfl) ?_
          refine g_getR fl_RX0_18_X0 hx hb C S KC_13 rfl dX0_reasonOf_28 ?_
          refine lv_iload_n hx hb dX0_reasonOf_31 rfl (lv_at hl 2 rfl) ?_
          obtain ⟨g10, h⟩ := h_gd h
          refine r_iald hx hb C S KC_16 (h_in g10) dX0_reasonOf_32 ?_
          refine lv_aload_n hx hb dX0_reasonOf_33 rfl (lv_at hl 0 rfl) ?_
          refine g_getR fl_RX0_18_X0 hx hb C S KC_13 rfl dX0_reasonOf_34 ?_
          refine lv_iload_n hx hb dX0_reasonOf_37 rfl (lv_at hl 1 rfl) ?_
          obtain ⟨g11, h⟩ := h_gd h
          refine r_iald hx hb C S KC_16 (h_in g11) dX0_reasonOf_38 ?_
          refine lv_icmp_ne (tgt := 44) hx hb dX0_reasonOf_39 rfl (fun c12 => ?_) (fun c12 => ?_)
          · have h := h_f c12 h
            refine lv_iinc (v := (l2 + 1)) (lv' := [(2, .int (l2 + 1)), (0, .ref (q 13)), (1, .int l1)]) hx hb dX0_reasonOf_44 hl (k := 2) rfl rfl (Nat.le_of_ble_eq_true rfl) rfl (fun ls hl => ?_)
            refine lv_goto (tgt := 4) hx hb dX0_reasonOf_47 rfl ?_
            exact ih4 (l2 + 1) _ _ _ (lv_sub hl [1, 2, 0] rfl) S h
          · have h := h_t c12 h
            refine lv_iconst (v := 1) hx hb dX0_reasonOf_42 (by decide) ?_
            exact fin _ _ _ (1 : Int32) _ S h dX0_reasonOf_43
  intro H locs ls hl S h
  have h := h_0 h
  unfold f_Box_reasonOf at h
  refine lv_iload_n hx hb dX0_reasonOf_0 rfl (lv_at hl 1 rfl) ?_
  refine lv_iconst (v := 1) hx hb dX0_reasonOf_1 (by decide) ?_
  refine lv_iadd hx hb dX0_reasonOf_2 ?_
  refine lv_topi (fun v13 ev13 => ?_)
  have h := h_l h v13 ev13
  refine lv_istore_n (lv' := [(2, .int v13), (0, .ref (q 13)), (1, .int a1)]) hx hb dX0_reasonOf_3 rfl hl (Nat.le_of_ble_eq_true rfl) rfl (fun ls hl => ?_)
  exact loop4 a1 FU v13 _ _ _ (lv_sub hl [1, 2, 0] rfl) S (h_bb h)
theorem c_f_Box_reasonOf (l : Launch) (D : va_G) (dA : Nat → ClassId) (q : Nat → Nat) (a1 : Int32) (w : Wt) (r : Int32) (h : f_Box_reasonOf a1 w = some r) : Mi l EVc KC D dA q yX0_reasonOf cX0_reasonOf 3 (some .int) RM_f_Box_reasonOf [.ref (q 13), .int a1] w r w :=
  mk_i (by decide) rfl EVc_ok (Nat.le_of_ble_eq_true rfl) (fun p e s m args below meth c A Q ls hx hb hml C S hl fin => k_f_Box_reasonOf a1 w r hx hb hml C (fun H locs ls r' pc S h d => fin H locs ls r' w pc S (by rw [Option.some.inj h]) d) _ _ _ hl S h)
/-! Ballotscript$Box.countAll()I f_Box_countAll -/
def f_Box_countAll_b29 (l1 : Int32) (w : Wt) : Option Int32 := some l1
def f_Box_countAll_L4 (w : Wt) : (Int32 × Int32) → Option ((Int32 × Int32) ⊕ Int32)
  | (l1, l2) => (if (w 13 8) ≤ l2 then some (.inr l1) else Option.bind (f_Box_reasonOf l2 w) fun x2 => (if x2 = (0 : Int32) then some (.inl ((l1 + 1), (l2 + 1))) else some (.inl (l1, (l2 + 1)))))
def f_Box_countAll_x4 (w : Wt) : Int32 → Option Int32
  | l1 => f_Box_countAll_b29 l1 w
def f_Box_countAll (w : Wt) : Option Int32 := Option.bind (lp (f_Box_countAll_L4 w) FU ((0 : Int32), (0 : Int32))) (f_Box_countAll_x4 w)
def RM_f_Box_countAll : Room := { frames := 3, cells := 0, slots := 0, locals := 68 }
set_option maxHeartbeats 4000000 in
set_option maxRecDepth 20000 in
theorem k_f_Box_countAll (w : Wt) (z : Int32) (hx : p.tables.exec = Jvm.exec) (hb : c.code = cX0_countAll) (hml : c.maxLocals = 3) (C : Cx EVc KC D dA q A s m args RX0) (fin : ∀ (H : Heap) (locs : List Loc) (ls : Array Slot) (r' : Int32) (pc : Nat) , Sta KC D dA q A s.heap w H locs → some r' = some z → decode cX0_countAll pc = .ok (.ireturn, 1) → W p l e RM_f_Box_countAll s m args below meth c H locs 0 0 Q (F0 m pc ls [.int r'])) : ∀ (H : Heap) (locs : List Loc) (ls : Array Slot), lv_has ls 3 [(0, .ref (q 13))] → Sta KC D dA q A s.heap w H locs → f_Box_countAll w = some z → W p l e RM_f_Box_countAll s m args below meth c H locs 0 0 Q (F0 m 0 ls []) := by
  have ev : evOk EVc := EVc_ok
  have lab29 : ∀ (l1 : Int32) (H : Heap) (locs : List Loc) (ls : Array Slot), lv_has ls 3 [(1, .int l1)] → Sta KC D dA q A s.heap w H locs → Option.bind (f_Box_countAll_b29 l1 w) some = some z → W p l e RM_f_Box_countAll s m args below meth c H locs 0 0 Q (F0 m 29 ls []) := by
    intro l1 H locs ls hl S h
    unfold f_Box_countAll_b29 at h
    refine lv_iload_n hx hb dX0_countAll_29 rfl (lv_at hl 0 rfl) ?_
    exact fin _ _ _ l1 _ S h dX0_countAll_30
  have loop4 : ∀ (n4 : Nat), ∀ (l1 : Int32) (l2 : Int32) (H : Heap) (locs : List Loc) (ls : Array Slot), lv_has ls 3 [(0, .ref (q 13)), (1, .int l1), (2, .int l2)] → Sta KC D dA q A s.heap w H locs → Option.bind (lp (f_Box_countAll_L4 w) n4 (l1, l2)) (fun x9 => Option.bind (f_Box_countAll_x4 w x9) some) = some z → W p l e RM_f_Box_countAll s m args below meth c H locs 0 0 Q (F0 m 4 ls []) := by
    intro  n4
    induction n4 with
    | zero =>
      intro l1 l2 H locs ls hl S h
      exact (h_lp0 h).elim
    | succ n4 ih4 =>
      intro l1 l2 H locs ls hl S h
      have h := h_lp h
      unfold f_Box_countAll_L4 at h
      refine lv_iload_n hx hb dX0_countAll_4 rfl (lv_at hl 2 rfl) ?_
      refine lv_aload_n hx hb dX0_countAll_5 rfl (lv_at hl 0 rfl) ?_
      refine g_get fl_RX0_41_X0 hx hb C S KC_13 rfl dX0_countAll_6 ?_
      refine lv_icmp_ge (tgt := 29) hx hb dX0_countAll_9 rfl (fun c1 => ?_) (fun c1 => ?_)
      · have h := h_t c1 h
        exact lab29 l1 _ _ _ (lv_sub hl [1] rfl) S h
      · have h := h_f c1 h
        refine lv_aload_n hx hb dX0_countAll_12 rfl (lv_at hl 0 rfl) ?_
        refine lv_iload_n hx hb dX0_countAll_13 rfl (lv_at hl 2 rfl) ?_
        obtain ⟨x2, ex2, h⟩ := h_c h
        refine k_i C S (q_V (rest := []) (As := [.int l2]) lk_RX0_60 ev hx hb hml C S KC_13 rfl (c_f_Box_reasonOf l D dA q l2 w x2 ex2 _) rfl rfl ⟨(Nat.le_of_ble_eq_true rfl), (Nat.le_of_ble_eq_true rfl)⟩ rfl hl.1 rfl (Nat.le_of_ble_eq_true rfl) dX0_countAll_14 ⟨(Nat.le_of_ble_eq_true rfl), (Nat.le_of_ble_eq_true rfl)⟩) (fun H locs S => ?_)
        refine lv_if_ne (tgt := 23) hx hb dX0_countAll_17 rfl (fun c3 => ?_) (fun c3 => ?_)
        · have h := h_f c3 h
          refine lv_iinc (v := (l2 + 1)) (lv' := [(2, .int (l2 + 1)), (0, .ref (q 13)), (1, .int l1)]) hx hb dX0_countAll_23 hl (k := 2) rfl rfl (Nat.le_of_ble_eq_true rfl) rfl (fun ls hl => ?_)
          refine lv_goto (tgt := 4) hx hb dX0_countAll_26 rfl ?_
          exact ih4 l1 (l2 + 1) _ _ _ (lv_sub hl [1, 2, 0] rfl) S h
        · have h := h_t c3 h
          refine lv_iinc (v := (l1 + 1)) (lv' := [(1, .int (l1 + 1)), (0, .ref (q 13)), (2, .int l2)]) hx hb dX0_countAll_20 hl (k := 1) rfl rfl (Nat.le_of_ble_eq_true rfl) rfl (fun ls hl => ?_)
          refine lv_iinc (v := (l2 + 1)) (lv' := [(2, .int (l2 + 1)), (1, .int (l1 + 1)), (0, .ref (q 13))]) hx hb dX0_countAll_23 hl (k := 2) rfl rfl (Nat.le_of_ble_eq_true rfl) rfl (fun ls hl => ?_)
          refine lv_goto (tgt := 4) hx hb dX0_countAll_26 rfl ?_
          exact ih4 (l1 + 1) (l2 + 1) _ _ _ (lv_sub hl [2, 1, 0] rfl) S h
  intro H locs ls hl S h
  have h := h_0 h
  unfold f_Box_countAll at h
  refine lv_iconst (v := 0) hx hb dX0_countAll_0 (by decide) ?_
  refine lv_istore_n (lv' := [(1, .int (0 : Int32)), (0, .ref (q 13))]) hx hb dX0_countAll_1 rfl hl (Nat.le_of_ble_eq_true rfl) rfl (fun ls hl => ?_)
  refine lv_iconst (v := 0) hx hb dX0_countAll_2 (by decide) ?_
  refine lv_istore_n (lv' := [(2, .int (0 : Int32)), (1, .int (0 : Int32)), (0, .ref (q 13))]) hx hb dX0_countAll_3 rfl hl (Nat.le_of_ble_eq_true rfl) rfl (fun ls hl => ?_)
  exact loop4  FU (0 : Int32) (0 : Int32) _ _ _ (lv_sub hl [2, 1, 0] rfl) S (h_bb h)
theorem c_f_Box_countAll (l : Launch) (D : va_G) (dA : Nat → ClassId) (q : Nat → Nat) (w : Wt) (r : Int32) (h : f_Box_countAll w = some r) : Mi l EVc KC D dA q yX0_countAll cX0_countAll 3 (some .int) RM_f_Box_countAll [.ref (q 13)] w r w :=
  mk_i (by decide) rfl EVc_ok (Nat.le_of_ble_eq_true rfl) (fun p e s m args below meth c A Q ls hx hb hml C S hl fin => k_f_Box_countAll w r hx hb hml C (fun H locs ls r' pc S h d => fin H locs ls r' w pc S (by rw [Option.some.inj h]) d) _ _ _ hl S h)
/-! Ballotscript.strike(I)I f_Ballotscript_strike -/
def f_Ballotscript_strike (a1 : Int32) (w : Wt) : Option ((Nat ⊕ Int32) × Wt) := Option.bind (f_Ballotscript_isWithin a1 (0 : Int32) ((w 1 5) - (1 : Int32))) fun x1 => (if x1 = (0 : Int32) then some (.inl 0, w) else gd (inb a1 60) ((if (w 6 (a1).toNatClampNeg) = (0 : Int32) then Option.bind (f_Box_countAll w) fun x5 => gd (inb a1 60) (nmd (upd2 w 6 (a1).toNatClampNeg (vp_nar .boolean (1 : Int32))) fun w7 => Option.bind (f_Box_countAll w7) fun x8 => some (.inr (x5 - x8), w7)) else some (.inl 2, w))))
def RM_f_Ballotscript_strike : Room := { frames := 10, cells := 4, slots := 24, locals := 150 }
set_option maxHeartbeats 4000000 in
set_option maxRecDepth 20000 in
theorem k_f_Ballotscript_strike (a1 : Int32) (w : Wt) (z : ((Nat ⊕ Int32) × Wt)) (hfl : l.stackTraces = false) (hx : p.tables.exec = Jvm.exec) (hb : c.code = cX9_strike) (hml : c.maxLocals = 3) (C : Cx EVc KC D dA q A s m args RX9) (fin : ∀ (H : Heap) (locs : List Loc) (ls : Array Slot) (r' : Int32) (w2 : Wt) (pc : Nat) (cl sl : Nat) , cl ≤ 4 → sl ≤ 24 → Sta KC D dA q A s.heap w2 H locs → some ((.inr r' : Nat ⊕ Int32), w2) = some z → decode cX9_strike pc = .ok (.ireturn, 1) → W p l e RM_f_Ballotscript_strike s m args below meth c H locs cl sl Q (F0 m pc ls [.int r'])) (thr : ∀ (H : Heap) (locs : List Loc) (ls : Array Slot) (w2 : Wt) (k pc cl sl : Nat), cl + 1 ≤ 4 → sl + 6 ≤ 24 → ls.size = 3 → Sta KC D dA q A s.heap w2 H locs → some ((.inl k : Nat ⊕ Int32), w2) = some z → thF RX9 cX9_strike pc k → W p l e RM_f_Ballotscript_strike s m args below meth c H locs cl sl Q (F0 m pc ls [])) (pro : ∀ (H : Heap) (locs : List Loc) (ls : Array Slot) (w2 : Wt) (k pc cl sl : Nat) (rest : List Value) (q9 : Nat) (ce : Cell), cl ≤ 4 → sl ≤ 24 → Sta KC D dA q A s.heap w2 H locs → some ((.inl k : Nat ⊕ Int32), w2) = some z → H[q9]? = some ce → ce.vm = .none → s.vm.findClass (exn k) = some ce.cls → vx_W p l e RM_f_Ballotscript_strike s m args below meth c H locs cl sl Q (F0 m pc ls rest) q9) : ∀ (H : Heap) (locs : List Loc) (ls : Array Slot), lv_has ls 3 [(0, .ref (q 0)), (1, .int a1)] → Sta KC D dA q A s.heap w H locs → f_Ballotscript_strike a1 w = some z → W p l e RM_f_Ballotscript_strike s m args below meth c H locs 0 0 Q (F0 m 0 ls []) := by
  have ev : evOk EVc := EVc_ok
  intro H locs ls hl S h
  have h := h_0 h
  unfold f_Ballotscript_strike at h
  refine lv_iload_n hx hb dX9_strike_0 rfl (lv_at hl 1 rfl) ?_
  refine lv_iconst (v := 0) hx hb dX9_strike_1 (by decide) ?_
  refine lv_aload_n hx hb dX9_strike_2 rfl (lv_at hl 0 rfl) ?_
  refine g_getR fl_RX9_10_X9 hx hb C S KC_0 rfl dX9_strike_3 ?_
  refine g_get fl_RX9_85_X4 hx hb C S KC_1 rfl dX9_strike_6 ?_
  refine lv_iconst (v := 1) hx hb dX9_strike_9 (by decide) ?_
  refine lv_isub hx hb dX9_strike_10 ?_
  obtain ⟨x1, ex1, h⟩ := h_c h
  refine k_i C S (q_S (rest := []) (As := [.int a1, .int (0 : Int32), .int ((w 1 5) - (1 : Int32))]) lk_RX9_69 ev hx hb hml C S (c_f_Ballotscript_isWithin l D dA q a1 (0 : Int32) ((w 1 5) - (1 : Int32)) w x1 ex1 _) rfl rfl ⟨(Nat.le_of_ble_eq_true rfl), (Nat.le_of_ble_eq_true rfl)⟩ rfl hl.1 rfl (Nat.le_of_ble_eq_true rfl) dX9_strike_11 ⟨(Nat.le_of_ble_eq_true rfl), (Nat.le_of_ble_eq_true rfl)⟩) (fun H locs S => ?_)
  refine lv_if_ne (tgt := 27) hx hb dX9_strike_14 rfl (fun c2 => ?_) (fun c2 => ?_)
  · have h := h_f c2 h
    refine lv_aload_n hx hb dX9_strike_27 rfl (lv_at hl 0 rfl) ?_
    refine g_getR fl_RX9_10_X9 hx hb C S KC_0 rfl dX9_strike_28 ?_
    refine g_getR fl_RX9_100_X4 hx hb C S KC_1 rfl dX9_strike_31 ?_
    refine lv_iload_n hx hb dX9_strike_34 rfl (lv_at hl 1 rfl) ?_
    obtain ⟨g3, h⟩ := h_gd h
    refine r_zald hx hb C S KC_6 (h_in g3) dX9_strike_35 ?_
    refine lv_if_eq (tgt := 49) hx hb dX9_strike_36 rfl (fun c4 => ?_) (fun c4 => ?_)
    · have h := h_t c4 h
      refine lv_aload_n hx hb dX9_strike_49 rfl (lv_at hl 0 rfl) ?_
      refine g_getR fl_RX9_47_X9 hx hb C S KC_0 rfl dX9_strike_50 ?_
      obtain ⟨x5, ex5, h⟩ := h_c h
      refine k_i C S (q_V (rest := []) (As := []) lk_RX9_106 ev hx hb hml C S KC_13 rfl (c_f_Box_countAll l D dA q w x5 ex5 _) rfl rfl ⟨(Nat.le_of_ble_eq_true rfl), (Nat.le_of_ble_eq_true rfl)⟩ rfl hl.1 rfl (Nat.le_of_ble_eq_true rfl) dX9_strike_53 ⟨(Nat.le_of_ble_eq_true rfl), (Nat.le_of_ble_eq_true rfl)⟩) (fun H locs S => ?_)
      refine lv_istore_n (lv' := [(2, .int x5), (0, .ref (q 0)), (1, .int a1)]) hx hb dX9_strike_56 rfl hl (Nat.le_of_ble_eq_true rfl) rfl (fun ls hl => ?_)
      refine lv_aload_n hx hb dX9_strike_57 rfl (lv_at hl 1 rfl) ?_
      refine g_getR fl_RX9_10_X9 hx hb C S KC_0 rfl dX9_strike_58 ?_
      refine g_getR fl_RX9_100_X4 hx hb C S KC_1 rfl dX9_strike_61 ?_
      refine lv_iload_n hx hb dX9_strike_64 rfl (lv_at hl 2 rfl) ?_
      refine lv_iconst (v := 1) hx hb dX9_strike_65 (by decide) ?_
      obtain ⟨g6, h⟩ := h_gd h
      refine r_zast hx hb C S KC_6 (h_in g6) dX9_strike_66 (fun w7 ew7 H locs S => ?_)
      have h := h_l h w7 ew7
      refine lv_iload_n hx hb dX9_strike_67 rfl (lv_at hl 0 rfl) ?_
      refine lv_aload_n hx hb dX9_strike_68 rfl (lv_at hl 1 rfl) ?_
      refine g_getR fl_RX9_47_X9 hx hb C S KC_0 rfl dX9_strike_69 ?_
      obtain ⟨x8, ex8, h⟩ := h_c h
      refine k_i C S (q_V (rest := [.int x5]) (As := []) lk_RX9_106 ev hx hb hml C S KC_13 rfl (c_f_Box_countAll l D dA q w7 x8 ex8 _) rfl rfl ⟨(Nat.le_of_ble_eq_true rfl), (Nat.le_of_ble_eq_true rfl)⟩ rfl hl.1 rfl (Nat.le_of_ble_eq_true rfl) dX9_strike_72 ⟨(Nat.le_of_ble_eq_true rfl), (Nat.le_of_ble_eq_true rfl)⟩) (fun H locs S => ?_)
      refine lv_isub hx hb dX9_strike_75 ?_
      exact fin _ _ _ (x5 - x8) w7 _ 0 0 (Nat.le_of_ble_eq_true rfl) (Nat.le_of_ble_eq_true rfl) S h dX9_strike_76
    · have h := h_f c4 h
      exact thr _ _ _ w _ _ 0 0 (Nat.le_of_ble_eq_true rfl) (Nat.le_of_ble_eq_true rfl) hl.1 S h th_X9_strike_39
  · have h := h_t c2 h
    exact thr _ _ _ w _ _ 0 0 (Nat.le_of_ble_eq_true rfl) (Nat.le_of_ble_eq_true rfl) hl.1 S h th_X9_strike_17
theorem c_f_Ballotscript_strike (l : Launch) (hfl : l.stackTraces = false) (D : va_G) (dA : Nat → ClassId) (q : Nat → Nat) (a1 : Int32) (w w' : Wt) (res : Nat ⊕ Int32) (h : f_Ballotscript_strike a1 w = some (res, w')) : Xi l EVc KC D dA q yX9_strike cX9_strike 3 (some .int) RM_f_Ballotscript_strike 4 24 [.ref (q 0), .int a1] w res w' :=
  mx_i (by decide) rfl hfl (Nat.le_of_ble_eq_true rfl) (Nat.le_of_ble_eq_true rfl) (Nat.le_of_ble_eq_true rfl) rfl rfl (fun p e s m args below meth c A Q ls hx hb hml C S hl fin thr pro => k_f_Ballotscript_strike a1 w (res, w') hfl hx hb hml C (fun H locs ls r' w2 pc cl sl hc hs S h d => fin H locs ls r' w2 pc cl sl hc hs S h d) (fun H locs ls w2 k pc cl sl hc hs hz S h t => thr H locs ls w2 k pc cl sl hc hs hz S h t) (fun H locs ls w2 k pc cl sl rest q9 ce hc hs S h h1 h2 h3 => pro H locs ls w2 k pc cl sl rest q9 ce hc hs S h h1 h2 h3) _ _ _ hl S h)
/-! Ballotscript.isAllowed(III)Z f_Ballotscript_isAllowed -/
def f_Ballotscript_isAllowed_b19 (w : Wt) : Option (Nat ⊕ Int32) := some (.inl 0)
def f_Ballotscript_isAllowed (a1 : Int32) (a2 : Int32) (a3 : Int32) (w : Wt) : Option (Nat ⊕ Int32) := Option.bind (f_Ballotscript_isWithin a1 (0 : Int32) (2 : Int32)) fun x1 => (if x1 = (0 : Int32) then f_Ballotscript_isAllowed_b19 w else Option.bind (f_Ballotscript_isWithin a2 (0 : Int32) (19 : Int32)) fun x3 => (if x3 = (0 : Int32) then f_Ballotscript_isAllowed_b19 w else Option.bind (f_Ballotscript_isWithin a3 (0 : Int32) (1000 : Int32)) fun x5 => (if x5 = (0 : Int32) then some (.inl 1) else Option.bind (f_Rolls_allows a1 a2 a3 w) fun x7 => gd (bob x7) (some (.inr x7)))))
def RM_f_Ballotscript_isAllowed : Room := { frames := 10, cells := 4, slots := 24, locals := 150 }
set_option maxHeartbeats 4000000 in
set_option maxRecDepth 20000 in
theorem k_f_Ballotscript_isAllowed (a1 : Int32) (a2 : Int32) (a3 : Int32) (w : Wt) (z : (Nat ⊕ Int32)) (hfl : l.stackTraces = false) (hx : p.tables.exec = Jvm.exec) (hb : c.code = cX9_isAllowed) (hml : c.maxLocals = 4) (C : Cx EVc KC D dA q A s m args RX9) (fin : ∀ (H : Heap) (locs : List Loc) (ls : Array Slot) (r' : Int32) (pc : Nat) (cl sl : Nat) , cl ≤ 4 → sl ≤ 24 → narrow .boolean (.int r') = .int r' → Sta KC D dA q A s.heap w H locs → some (.inr r' : Nat ⊕ Int32) = some z → decode cX9_isAllowed pc = .ok (.ireturn, 1) → W p l e RM_f_Ballotscript_isAllowed s m args below meth c H locs cl sl Q (F0 m pc ls [.int r'])) (thr : ∀ (H : Heap) (locs : List Loc) (ls : Array Slot) (k pc cl sl : Nat), cl + 1 ≤ 4 → sl + 6 ≤ 24 → ls.size = 4 → Sta KC D dA q A s.heap w H locs → some (.inl k : Nat ⊕ Int32) = some z → thF RX9 cX9_isAllowed pc k → W p l e RM_f_Ballotscript_isAllowed s m args below meth c H locs cl sl Q (F0 m pc ls [])) (pro : ∀ (H : Heap) (locs : List Loc) (ls : Array Slot) (k pc cl sl : Nat) (rest : List Value) (q9 : Nat) (ce : Cell), cl ≤ 4 → sl ≤ 24 → Sta KC D dA q A s.heap w H locs → some (.inl k : Nat ⊕ Int32) = some z → H[q9]? = some ce → ce.vm = .none → s.vm.findClass (exn k) = some ce.cls → vx_W p l e RM_f_Ballotscript_isAllowed s m args below meth c H locs cl sl Q (F0 m pc ls rest) q9) : ∀ (H : Heap) (locs : List Loc) (ls : Array Slot), lv_has ls 4 [(0, .ref (q 0)), (1, .int a1), (2, .int a2), (3, .int a3)] → Sta KC D dA q A s.heap w H locs → f_Ballotscript_isAllowed a1 a2 a3 w = some z → W p l e RM_f_Ballotscript_isAllowed s m args below meth c H locs 0 0 Q (F0 m 0 ls []) := by
  have ev : evOk EVc := EVc_ok
  have lab19 : ∀ (H : Heap) (locs : List Loc) (ls : Array Slot), lv_has ls 4 [] → Sta KC D dA q A s.heap w H locs → Option.bind (f_Ballotscript_isAllowed_b19 w) some = some z → W p l e RM_f_Ballotscript_isAllowed s m args below meth c H locs 0 0 Q (F0 m 19 ls []) := by
    intro  H locs ls hl S h
    unfold f_Ballotscript_isAllowed_b19 at h
    exact thr _ _ _ _ _ 0 0 (Nat.le_of_ble_eq_true rfl) (Nat.le_of_ble_eq_true rfl) hl.1 S h th_X9_isAllowed_19
  intro H locs ls hl S h
  have h := h_0 h
  unfold f_Ballotscript_isAllowed at h
  refine lv_iload_n hx hb dX9_isAllowed_0 rfl (lv_at hl 1 rfl) ?_
  refine lv_iconst (v := 0) hx hb dX9_isAllowed_1 (by decide) ?_
  refine lv_iconst (v := 2) hx hb dX9_isAllowed_2 (by decide) ?_
  obtain ⟨x1, ex1, h⟩ := h_c h
  refine k_i C S (q_S (rest := []) (As := [.int a1, .int (0 : Int32), .int (2 : Int32)]) lk_RX9_69 ev hx hb hml C S (c_f_Ballotscript_isWithin l D dA q a1 (0 : Int32) (2 : Int32) w x1 ex1 _) rfl rfl ⟨(Nat.le_of_ble_eq_true rfl), (Nat.le_of_ble_eq_true rfl)⟩ rfl hl.1 rfl (Nat.le_of_ble_eq_true rfl) dX9_isAllowed_3 ⟨(Nat.le_of_ble_eq_true rfl), (Nat.le_of_ble_eq_true rfl)⟩) (fun H locs S => ?_)
  refine lv_if_eq (tgt := 19) hx hb dX9_isAllowed_6 rfl (fun c2 => ?_) (fun c2 => ?_)
  · have h := h_t c2 h
    exact lab19  _ _ _ (lv_sub hl [] rfl) S h
  · have h := h_f c2 h
    refine lv_iload_n hx hb dX9_isAllowed_9 rfl (lv_at hl 2 rfl) ?_
    refine lv_iconst (v := 0) hx hb dX9_isAllowed_10 (by decide) ?_
    refine lv_bipush (v := 19) hx hb dX9_isAllowed_11 (by decide) ?_
    obtain ⟨x3, ex3, h⟩ := h_c h
    refine k_i C S (q_S (rest := []) (As := [.int a2, .int (0 : Int32), .int (19 : Int32)]) lk_RX9_69 ev hx hb hml C S (c_f_Ballotscript_isWithin l D dA q a2 (0 : Int32) (19 : Int32) w x3 ex3 _) rfl rfl ⟨(Nat.le_of_ble_eq_true rfl), (Nat.le_of_ble_eq_true rfl)⟩ rfl hl.1 rfl (Nat.le_of_ble_eq_true rfl) dX9_isAllowed_13 ⟨(Nat.le_of_ble_eq_true rfl), (Nat.le_of_ble_eq_true rfl)⟩) (fun H locs S => ?_)
    refine lv_if_ne (tgt := 29) hx hb dX9_isAllowed_16 rfl (fun c4 => ?_) (fun c4 => ?_)
    · have h := h_f c4 h
      refine lv_iload_n hx hb dX9_isAllowed_29 rfl (lv_at hl 3 rfl) ?_
      refine lv_iconst (v := 0) hx hb dX9_isAllowed_30 (by decide) ?_
      refine lv_sipush (v := 1000) hx hb dX9_isAllowed_31 (by decide) ?_
      obtain ⟨x5, ex5, h⟩ := h_c h
      refine k_i C S (q_S (rest := []) (As := [.int a3, .int (0 : Int32), .int (1000 : Int32)]) lk_RX9_69 ev hx hb hml C S (c_f_Ballotscript_isWithin l D dA q a3 (0 : Int32) (1000 : Int32) w x5 ex5 _) rfl rfl ⟨(Nat.le_of_ble_eq_true rfl), (Nat.le_of_ble_eq_true rfl)⟩ rfl hl.1 rfl (Nat.le_of_ble_eq_true rfl) dX9_isAllowed_34 ⟨(Nat.le_of_ble_eq_true rfl), (Nat.le_of_ble_eq_true rfl)⟩) (fun H locs S => ?_)
      refine lv_if_ne (tgt := 50) hx hb dX9_isAllowed_37 rfl (fun c6 => ?_) (fun c6 => ?_)
      · have h := h_f c6 h
        refine lv_aload_n hx hb dX9_isAllowed_50 rfl (lv_at hl 0 rfl) ?_
        refine g_getR fl_RX9_10_X9 hx hb C S KC_0 rfl dX9_isAllowed_51 ?_
        refine lv_iload_n hx hb dX9_isAllowed_54 rfl (lv_at hl 1 rfl) ?_
        refine lv_iload_n hx hb dX9_isAllowed_55 rfl (lv_at hl 2 rfl) ?_
        refine lv_iload_n hx hb dX9_isAllowed_56 rfl (lv_at hl 3 rfl) ?_
        obtain ⟨x7, ex7, h⟩ := h_c h
        refine k_i C S (q_V (rest := []) (As := [.int a1, .int a2, .int a3]) lk_RX9_112 ev hx hb hml C S KC_1 rfl (c_f_Rolls_allows l D dA q a1 a2 a3 w x7 ex7 _) rfl rfl ⟨(Nat.le_of_ble_eq_true rfl), (Nat.le_of_ble_eq_true rfl)⟩ rfl hl.1 rfl (Nat.le_of_ble_eq_true rfl) dX9_isAllowed_57 ⟨(Nat.le_of_ble_eq_true rfl), (Nat.le_of_ble_eq_true rfl)⟩) (fun H locs S => ?_)
        obtain ⟨g8, h⟩ := h_gd h
        exact fin _ _ _ x7 _ 0 0 (Nat.le_of_ble_eq_true rfl) (Nat.le_of_ble_eq_true rfl) (bo_of g8).1 S h dX9_isAllowed_60
      · have h := h_t c6 h
        exact thr _ _ _ _ _ 0 0 (Nat.le_of_ble_eq_true rfl) (Nat.le_of_ble_eq_true rfl) hl.1 S h th_X9_isAllowed_40
    · have h := h_t c4 h
      exact lab19  _ _ _ (lv_sub hl [] rfl) S h
theorem c_f_Ballotscript_isAllowed (l : Launch) (hfl : l.stackTraces = false) (D : va_G) (dA : Nat → ClassId) (q : Nat → Nat) (a1 : Int32) (a2 : Int32) (a3 : Int32) (w : Wt) (res : Nat ⊕ Int32) (h : f_Ballotscript_isAllowed a1 a2 a3 w = some res) : Xi l EVc KC D dA q yX9_isAllowed cX9_isAllowed 4 (some .boolean) RM_f_Ballotscript_isAllowed 4 24 [.ref (q 0), .int a1, .int a2, .int a3] w res w :=
  mx_z (by decide) rfl hfl (Nat.le_of_ble_eq_true rfl) (Nat.le_of_ble_eq_true rfl) (Nat.le_of_ble_eq_true rfl) rfl rfl (fun p e s m args below meth c A Q ls hx hb hml C S hl fin thr pro => k_f_Ballotscript_isAllowed a1 a2 a3 w res hfl hx hb hml C (fun H locs ls r' pc cl sl hc hs hn S h d => fin H locs ls r' w pc cl sl hc hs hn S (by rw [Option.some.inj h]) d) (fun H locs ls k pc cl sl hc hs hz S h t => thr H locs ls w k pc cl sl hc hs hz S (by rw [Option.some.inj h]) t) (fun H locs ls k pc cl sl rest q9 ce hc hs S h h1 h2 h3 => pro H locs ls w k pc cl sl rest q9 ce hc hs S (by rw [Option.some.inj h]) h1 h2 h3) _ _ _ hl S h)
/-! Ballotscript.pass(I)I f_Ballotscript_pass -/
def f_Ballotscript_pass (a1 : Int32) (w : Wt) : Option ((Nat ⊕ Int32) × Wt) := Option.bind (f_Ballotscript_isWithin a1 (1 : Int32) (100 : Int32)) fun x1 => (if x1 = (0 : Int32) then some (.inl 1, w) else (if ((w 0 8) + a1) ≤ (1000 : Int32) then nmd (upd2 w 0 8 ((w 0 8) + a1)) fun w4 => some (.inr (w4 0 8), w4) else some (.inl 2, w)))
def RM_f_Ballotscript_pass : Room := { frames := 10, cells := 4, slots := 24, locals := 150 }
set_option maxHeartbeats 4000000 in
set_option maxRecDepth 20000 in
theorem k_f_Ballotscript_pass (a1 : Int32) (w : Wt) (z : ((Nat ⊕ Int32) × Wt)) (hfl : l.stackTraces = false) (hx : p.tables.exec = Jvm.exec) (hb : c.code = cX9_pass) (hml : c.maxLocals = 2) (C : Cx EVc KC D dA q A s m args RX9) (fin : ∀ (H : Heap) (locs : List Loc) (ls : Array Slot) (r' : Int32) (w2 : Wt) (pc : Nat) (cl sl : Nat) , cl ≤ 4 → sl ≤ 24 → Sta KC D dA q A s.heap w2 H locs → some ((.inr r' : Nat ⊕ Int32), w2) = some z → decode cX9_pass pc = .ok (.ireturn, 1) → W p l e RM_f_Ballotscript_pass s m args below meth c H locs cl sl Q (F0 m pc ls [.int r'])) (thr : ∀ (H : Heap) (locs : List Loc) (ls : Array Slot) (w2 : Wt) (k pc cl sl : Nat), cl + 1 ≤ 4 → sl + 6 ≤ 24 → ls.size = 2 → Sta KC D dA q A s.heap w2 H locs → some ((.inl k : Nat ⊕ Int32), w2) = some z → thF RX9 cX9_pass pc k → W p l e RM_f_Ballotscript_pass s m args below meth c H locs cl sl Q (F0 m pc ls [])) (pro : ∀ (H : Heap) (locs : List Loc) (ls : Array Slot) (w2 : Wt) (k pc cl sl : Nat) (rest : List Value) (q9 : Nat) (ce : Cell), cl ≤ 4 → sl ≤ 24 → Sta KC D dA q A s.heap w2 H locs → some ((.inl k : Nat ⊕ Int32), w2) = some z → H[q9]? = some ce → ce.vm = .none → s.vm.findClass (exn k) = some ce.cls → vx_W p l e RM_f_Ballotscript_pass s m args below meth c H locs cl sl Q (F0 m pc ls rest) q9) : ∀ (H : Heap) (locs : List Loc) (ls : Array Slot), lv_has ls 2 [(0, .ref (q 0)), (1, .int a1)] → Sta KC D dA q A s.heap w H locs → f_Ballotscript_pass a1 w = some z → W p l e RM_f_Ballotscript_pass s m args below meth c H locs 0 0 Q (F0 m 0 ls []) := by
  have ev : evOk EVc := EVc_ok
  intro H locs ls hl S h
  have h := h_0 h
  unfold f_Ballotscript_pass at h
  refine lv_iload_n hx hb dX9_pass_0 rfl (lv_at hl 1 rfl) ?_
  refine lv_iconst (v := 1) hx hb dX9_pass_1 (by decide) ?_
  refine lv_bipush (v := 100) hx hb dX9_pass_2 (by decide) ?_
  obtain ⟨x1, ex1, h⟩ := h_c h
  refine k_i C S (q_S (rest := []) (As := [.int a1, .int (1 : Int32), .int (100 : Int32)]) lk_RX9_69 ev hx hb hml C S (c_f_Ballotscript_isWithin l D dA q a1 (1 : Int32) (100 : Int32) w x1 ex1 _) rfl rfl ⟨(Nat.le_of_ble_eq_true rfl), (Nat.le_of_ble_eq_true rfl)⟩ rfl hl.1 rfl (Nat.le_of_ble_eq_true rfl) dX9_pass_4 ⟨(Nat.le_of_ble_eq_true rfl), (Nat.le_of_ble_eq_true rfl)⟩) (fun H locs S => ?_)
  refine lv_if_ne (tgt := 20) hx hb dX9_pass_7 rfl (fun c2 => ?_) (fun c2 => ?_)
  · have h := h_f c2 h
    refine lv_aload_n hx hb dX9_pass_20 rfl (lv_at hl 0 rfl) ?_
    refine g_get fl_RX9_117_X9 hx hb C S KC_0 rfl dX9_pass_21 ?_
    refine lv_iload_n hx hb dX9_pass_24 rfl (lv_at hl 1 rfl) ?_
    refine lv_iadd hx hb dX9_pass_25 ?_
    refine lv_sipush (v := 1000) hx hb dX9_pass_26 (by decide) ?_
    refine lv_icmp_le (tgt := 42) hx hb dX9_pass_29 rfl (fun c3 => ?_) (fun c3 => ?_)
    · have h := h_t c3 h
      refine lv_aload_n hx hb dX9_pass_42 rfl (lv_at hl 0 rfl) ?_
      refine lv_dup hx hb dX9_pass_43 rfl ?_
      refine g_get fl_RX9_117_X9 hx hb C S KC_0 rfl dX9_pass_44 ?_
      refine lv_iload_n hx hb dX9_pass_47 rfl (lv_at hl 1 rfl) ?_
      refine lv_iadd hx hb dX9_pass_48 ?_
      refine g_put fl_RX9_117_X9 pl_X9_8 hx hb C S KC_0 rfl ⟨rfl, rfl⟩ dX9_pass_49 (fun w4 ew4 H locs S => ?_)
      have h := h_l h w4 ew4
      refine lv_aload_n hx hb dX9_pass_52 rfl (lv_at hl 0 rfl) ?_
      refine g_get fl_RX9_117_X9 hx hb C S KC_0 rfl dX9_pass_53 ?_
      exact fin _ _ _ (w4 0 8) w4 _ 0 0 (Nat.le_of_ble_eq_true rfl) (Nat.le_of_ble_eq_true rfl) S h dX9_pass_56
    · have h := h_f c3 h
      exact thr _ _ _ w _ _ 0 0 (Nat.le_of_ble_eq_true rfl) (Nat.le_of_ble_eq_true rfl) hl.1 S h th_X9_pass_32
  · have h := h_t c2 h
    exact thr _ _ _ w _ _ 0 0 (Nat.le_of_ble_eq_true rfl) (Nat.le_of_ble_eq_true rfl) hl.1 S h th_X9_pass_10
theorem c_f_Ballotscript_pass (l : Launch) (hfl : l.stackTraces = false) (D : va_G) (dA : Nat → ClassId) (q : Nat → Nat) (a1 : Int32) (w w' : Wt) (res : Nat ⊕ Int32) (h : f_Ballotscript_pass a1 w = some (res, w')) : Xi l EVc KC D dA q yX9_pass cX9_pass 2 (some .int) RM_f_Ballotscript_pass 4 24 [.ref (q 0), .int a1] w res w' :=
  mx_i (by decide) rfl hfl (Nat.le_of_ble_eq_true rfl) (Nat.le_of_ble_eq_true rfl) (Nat.le_of_ble_eq_true rfl) rfl rfl (fun p e s m args below meth c A Q ls hx hb hml C S hl fin thr pro => k_f_Ballotscript_pass a1 w (res, w') hfl hx hb hml C (fun H locs ls r' w2 pc cl sl hc hs S h d => fin H locs ls r' w2 pc cl sl hc hs S h d) (fun H locs ls w2 k pc cl sl hc hs hz S h t => thr H locs ls w2 k pc cl sl hc hs hz S h t) (fun H locs ls w2 k pc cl sl rest q9 ce hc hs S h h1 h2 h3 => pro H locs ls w2 k pc cl sl rest q9 ce hc hs S h h1 h2 h3) _ _ _ hl S h)
end WALKS

section WALKS
variable {p : Program} {l : Launch} {e : Env} {s : State} {m : MethodId} {args : Array Value} {below : List Frame} {meth : Method} {c : Code} {Q : State → Prop} {D : va_G} {dA : Nat → ClassId} {q : Nat → Nat} {A : Nat → Prop}
/-! Ballotscript.isDigit(C)Z f_Ballotscript_isDigit -/
def f_Ballotscript_isDigit (a0 : Int32) : Option Int32 := (if a0 < (48 : Int32) then some (0 : Int32) else (if (57 : Int32) < a0 then some (0 : Int32) else some (1 : Int32)))
def RM_f_Ballotscript_isDigit : Room := { frames := 0, cells := 0, slots := 0, locals := 0 }
set_option maxHeartbeats 4000000 in
set_option maxRecDepth 20000 in
theorem k_f_Ballotscript_isDigit (a0 : Int32) (w : Wt) (z : Int32) (hx : p.tables.exec = Jvm.exec) (hb : c.code = cX9_isDigit) (hml : c.maxLocals = 1) (C : Cx EVc KC D dA q A s m args RX9) (fin : ∀ (H : Heap) (locs : List Loc) (ls : Array Slot) (r' : Int32) (pc : Nat) , narrow .boolean (.int r') = .int r' → Sta KC D dA q A s.heap w H locs → some r' = some z → decode cX9_isDigit pc = .ok (.ireturn, 1) → W p l e RM_f_Ballotscript_isDigit s m args below meth c H locs 0 0 Q (F0 m pc ls [.int r'])) : ∀ (H : Heap) (locs : List Loc) (ls : Array Slot), lv_has ls 1 [(0, .int a0)] → Sta KC D dA q A s.heap w H locs → f_Ballotscript_isDigit a0 = some z → W p l e RM_f_Ballotscript_isDigit s m args below meth c H locs 0 0 Q (F0 m 0 ls []) := by
  have ev : evOk EVc := EVc_ok
  intro H locs ls hl S h
  have h := h_0 h
  unfold f_Ballotscript_isDigit at h
  refine lv_iload_n hx hb dX9_isDigit_0 rfl (lv_at hl 0 rfl) ?_
  refine lv_bipush (v := 48) hx hb dX9_isDigit_1 (by decide) ?_
  refine lv_icmp_lt (tgt := 16) hx hb dX9_isDigit_3 rfl (fun c1 => ?_) (fun c1 => ?_)
  · have h := h_t c1 h
    refine lv_iconst (v := 0) hx hb dX9_isDigit_16 (by decide) ?_
    exact fin _ _ _ (0 : Int32) _ (by decide) S h dX9_isDigit_17
  · have h := h_f c1 h
    refine lv_iload_n hx hb dX9_isDigit_6 rfl (lv_at hl 0 rfl) ?_
    refine lv_bipush (v := 57) hx hb dX9_isDigit_7 (by decide) ?_
    refine lv_icmp_gt (tgt := 16) hx hb dX9_isDigit_9 rfl (fun c2 => ?_) (fun c2 => ?_)
    · have h := h_t c2 h
      refine lv_iconst (v := 0) hx hb dX9_isDigit_16 (by decide) ?_
      exact fin _ _ _ (0 : Int32) _ (by decide) S h dX9_isDigit_17
    · have h := h_f c2 h
      refine lv_iconst (v := 1) hx hb dX9_isDigit_12 (by decide) ?_
      refine lv_goto (tgt := 17) hx hb dX9_isDigit_13 rfl ?_
      exact fin _ _ _ (1 : Int32) _ (by decide) S h dX9_isDigit_17
theorem c_f_Ballotscript_isDigit (l : Launch) (D : va_G) (dA : Nat → ClassId) (q : Nat → Nat) (a0 : Int32) (w : Wt) (r : Int32) (h : f_Ballotscript_isDigit a0 = some r) : Mi l EVc KC D dA q yX9_isDigit cX9_isDigit 1 (some .boolean) RM_f_Ballotscript_isDigit [.int a0] w r w :=
  mk_z (by decide) rfl EVc_ok (Nat.le_of_ble_eq_true rfl) (fun p e s m args below meth c A Q ls hx hb hml C S hl fin => k_f_Ballotscript_isDigit a0 w r hx hb hml C (fun H locs ls r' pc hn S h d => fin H locs ls r' w pc hn S (by rw [Option.some.inj h]) d) _ _ _ hl S h)
/-! Ballotscript.isTypable(C)Z f_Ballotscript_isTypable -/
def f_Ballotscript_isTypable_b12 (l0 : Int32) : Option Int32 := Option.bind (f_Ballotscript_isDigit l0) fun x1 => (if x1 = (0 : Int32) then (if l0 = (59 : Int32) then some (1 : Int32) else (if l0 = (40 : Int32) then some (1 : Int32) else (if l0 = (41 : Int32) then some (1 : Int32) else some (0 : Int32)))) else some (1 : Int32))
def f_Ballotscript_isTypable (a0 : Int32) : Option Int32 := (if a0 < (97 : Int32) then f_Ballotscript_isTypable_b12 a0 else (if a0 ≤ (122 : Int32) then some (1 : Int32) else f_Ballotscript_isTypable_b12 a0))
def RM_f_Ballotscript_isTypable : Room := { frames := 1, cells := 0, slots := 0, locals := 20 }
set_option maxHeartbeats 4000000 in
set_option maxRecDepth 20000 in
theorem k_f_Ballotscript_isTypable (a0 : Int32) (w : Wt) (z : Int32) (hx : p.tables.exec = Jvm.exec) (hb : c.code = cX9_isTypable) (hml : c.maxLocals = 1) (C : Cx EVc KC D dA q A s m args RX9) (fin : ∀ (H : Heap) (locs : List Loc) (ls : Array Slot) (r' : Int32) (pc : Nat) , narrow .boolean (.int r') = .int r' → Sta KC D dA q A s.heap w H locs → some r' = some z → decode cX9_isTypable pc = .ok (.ireturn, 1) → W p l e RM_f_Ballotscript_isTypable s m args below meth c H locs 0 0 Q (F0 m pc ls [.int r'])) : ∀ (H : Heap) (locs : List Loc) (ls : Array Slot), lv_has ls 1 [(0, .int a0)] → Sta KC D dA q A s.heap w H locs → f_Ballotscript_isTypable a0 = some z → W p l e RM_f_Ballotscript_isTypable s m args below meth c H locs 0 0 Q (F0 m 0 ls []) := by
  have ev : evOk EVc := EVc_ok
  have lab12 : ∀ (l0 : Int32) (H : Heap) (locs : List Loc) (ls : Array Slot), lv_has ls 1 [(0, .int l0)] → Sta KC D dA q A s.heap w H locs → Option.bind (f_Ballotscript_isTypable_b12 l0) some = some z → W p l e RM_f_Ballotscript_isTypable s m args below meth c H locs 0 0 Q (F0 m 12 ls []) := by
    intro l0 H locs ls hl S h
    unfold f_Ballotscript_isTypable_b12 at h
    refine lv_iload_n hx hb dX9_isTypable_12 rfl (lv_at hl 0 rfl) ?_
    obtain ⟨x1, ex1, h⟩ := h_c h
    refine k_i C S (q_S (rest := []) (As := [.int l0]) lk_RX9_301 ev hx hb hml C S (c_f_Ballotscript_isDigit l D dA q l0 w x1 ex1 _) rfl rfl ⟨(Nat.le_of_ble_eq_true rfl), (Nat.le_of_ble_eq_true rfl)⟩ rfl hl.1 rfl (Nat.le_of_ble_eq_true rfl) dX9_isTypable_13 ⟨(Nat.le_of_ble_eq_true rfl), (Nat.le_of_ble_eq_true rfl)⟩) (fun H locs S => ?_)
    refine lv_if_ne (tgt := 37) hx hb dX9_isTypable_16 rfl (fun c2 => ?_) (fun c2 => ?_)
    · have h := h_f c2 h
      refine lv_iconst (v := 1) hx hb dX9_isTypable_37 (by decide) ?_
      refine lv_goto (tgt := 42) hx hb dX9_isTypable_38 rfl ?_
      exact fin _ _ _ (1 : Int32) _ (by decide) S h dX9_isTypable_42
    · have h := h_t c2 h
      refine lv_iload_n hx hb dX9_isTypable_19 rfl (lv_at hl 0 rfl) ?_
      refine lv_bipush (v := 59) hx hb dX9_isTypable_20 (by decide) ?_
      refine lv_icmp_eq (tgt := 37) hx hb dX9_isTypable_22 rfl (fun c3 => ?_) (fun c3 => ?_)
      · have h := h_t c3 h
        refine lv_iconst (v := 1) hx hb dX9_isTypable_37 (by decide) ?_
        refine lv_goto (tgt := 42) hx hb dX9_isTypable_38 rfl ?_
        exact fin _ _ _ (1 : Int32) _ (by decide) S h dX9_isTypable_42
      · have h := h_f c3 h
        refine lv_iload_n hx hb dX9_isTypable_25 rfl (lv_at hl 0 rfl) ?_
        refine lv_bipush (v := 40) hx hb dX9_isTypable_26 (by decide) ?_
        refine lv_icmp_eq (tgt := 37) hx hb dX9_isTypable_28 rfl (fun c4 => ?_) (fun c4 => ?_)
        · have h := h_t c4 h
          refine lv_iconst (v := 1) hx hb dX9_isTypable_37 (by decide) ?_
          refine lv_goto (tgt := 42) hx hb dX9_isTypable_38 rfl ?_
          exact fin _ _ _ (1 : Int32) _ (by decide) S h dX9_isTypable_42
        · have h := h_f c4 h
          refine lv_iload_n hx hb dX9_isTypable_31 rfl (lv_at hl 0 rfl) ?_
          refine lv_bipush (v := 41) hx hb dX9_isTypable_32 (by decide) ?_
          refine lv_icmp_ne (tgt := 41) hx hb dX9_isTypable_34 rfl (fun c5 => ?_) (fun c5 => ?_)
          · have h := h_f c5 h
            refine lv_iconst (v := 0) hx hb dX9_isTypable_41 (by decide) ?_
            exact fin _ _ _ (0 : Int32) _ (by decide) S h dX9_isTypable_42
          · have h := h_t c5 h
            refine lv_iconst (v := 1) hx hb dX9_isTypable_37 (by decide) ?_
            refine lv_goto (tgt := 42) hx hb dX9_isTypable_38 rfl ?_
            exact fin _ _ _ (1 : Int32) _ (by decide) S h dX9_isTypable_42
  intro H locs ls hl S h
  have h := h_0 h
  unfold f_Ballotscript_isTypable at h
  refine lv_iload_n hx hb dX9_isTypable_0 rfl (lv_at hl 0 rfl) ?_
  refine lv_bipush (v := 97) hx hb dX9_isTypable_1 (by decide) ?_
  refine lv_icmp_lt (tgt := 12) hx hb dX9_isTypable_3 rfl (fun c6 => ?_) (fun c6 => ?_)
  · have h := h_t c6 h
    exact lab12 a0 _ _ _ (lv_sub hl [0] rfl) S h
  · have h := h_f c6 h
    refine lv_iload_n hx hb dX9_isTypable_6 rfl (lv_at hl 0 rfl) ?_
    refine lv_bipush (v := 122) hx hb dX9_isTypable_7 (by decide) ?_
    refine lv_icmp_le (tgt := 37) hx hb dX9_isTypable_9 rfl (fun c7 => ?_) (fun c7 => ?_)
    · have h := h_t c7 h
      refine lv_iconst (v := 1) hx hb dX9_isTypable_37 (by decide) ?_
      refine lv_goto (tgt := 42) hx hb dX9_isTypable_38 rfl ?_
      exact fin _ _ _ (1 : Int32) _ (by decide) S h dX9_isTypable_42
    · have h := h_f c7 h
      exact lab12 a0 _ _ _ (lv_sub hl [0] rfl) S h
theorem c_f_Ballotscript_isTypable (l : Launch) (D : va_G) (dA : Nat → ClassId) (q : Nat → Nat) (a0 : Int32) (w : Wt) (r : Int32) (h : f_Ballotscript_isTypable a0 = some r) : Mi l EVc KC D dA q yX9_isTypable cX9_isTypable 1 (some .boolean) RM_f_Ballotscript_isTypable [.int a0] w r w :=
  mk_z (by decide) rfl EVc_ok (Nat.le_of_ble_eq_true rfl) (fun p e s m args below meth c A Q ls hx hb hml C S hl fin => k_f_Ballotscript_isTypable a0 w r hx hb hml C (fun H locs ls r' pc hn S h d => fin H locs ls r' w pc hn S (by rw [Option.some.inj h]) d) _ _ _ hl S h)
/-! Ballotscript$Text.add(C)I f_Text_add -/
def f_Text_add (a1 : Int32) (w : Wt) : Option (Int32 × Wt) := (if (24 : Int32) ≤ (w 7 1) then some ((w 7 1), w) else gd (inb (w 7 1) 24) (nmd (upd2 w 8 ((w 7 1)).toNatClampNeg (vp_nar .char a1)) fun w3 => nmd (upd2 w3 7 1 ((w3 7 1) + (1 : Int32))) fun w4 => some ((w4 7 1), w4)))
def RM_f_Text_add : Room := { frames := 0, cells := 0, slots := 0, locals := 0 }
set_option maxHeartbeats 4000000 in
set_option maxRecDepth 20000 in
theorem k_f_Text_add (a1 : Int32) (w : Wt) (z : (Int32 × Wt)) (hx : p.tables.exec = Jvm.exec) (hb : c.code = cX7_add) (hml : c.maxLocals = 2) (C : Cx EVc KC D dA q A s m args RX7) (fin : ∀ (H : Heap) (locs : List Loc) (ls : Array Slot) (r' : Int32) (w2 : Wt) (pc : Nat) , Sta KC D dA q A s.heap w2 H locs → some (r', w2) = some z → decode cX7_add pc = .ok (.ireturn, 1) → W p l e RM_f_Text_add s m args below meth c H locs 0 0 Q (F0 m pc ls [.int r'])) : ∀ (H : Heap) (locs : List Loc) (ls : Array Slot), lv_has ls 2 [(0, .ref (q 7)), (1, .int a1)] → Sta KC D dA q A s.heap w H locs → f_Text_add a1 w = some z → W p l e RM_f_Text_add s m args below meth c H locs 0 0 Q (F0 m 0 ls []) := by
  have ev : evOk EVc := EVc_ok
  intro H locs ls hl S h
  have h := h_0 h
  unfold f_Text_add at h
  refine lv_aload_n hx hb dX7_add_0 rfl (lv_at hl 0 rfl) ?_
  refine g_get fl_RX7_15_X7 hx hb C S KC_7 rfl dX7_add_1 ?_
  refine lv_bipush (v := 24) hx hb dX7_add_4 (by decide) ?_
  refine lv_icmp_ge (tgt := 29) hx hb dX7_add_6 rfl (fun c1 => ?_) (fun c1 => ?_)
  · have h := h_t c1 h
    refine lv_aload_n hx hb dX7_add_29 rfl (lv_at hl 0 rfl) ?_
    refine g_get fl_RX7_15_X7 hx hb C S KC_7 rfl dX7_add_30 ?_
    exact fin _ _ _ (w 7 1) w _ S h dX7_add_33
  · have h := h_f c1 h
    refine lv_aload_n hx hb dX7_add_9 rfl (lv_at hl 0 rfl) ?_
    refine g_getR fl_RX7_9_X7 hx hb C S KC_7 rfl dX7_add_10 ?_
    refine lv_aload_n hx hb dX7_add_13 rfl (lv_at hl 0 rfl) ?_
    refine g_get fl_RX7_15_X7 hx hb C S KC_7 rfl dX7_add_14 ?_
    refine lv_iload_n hx hb dX7_add_17 rfl (lv_at hl 1 rfl) ?_
    obtain ⟨g2, h⟩ := h_gd h
    refine r_cast hx hb C S KC_8 (h_in g2) dX7_add_18 (fun w3 ew3 H locs S => ?_)
    have h := h_l h w3 ew3
    refine lv_aload_n hx hb dX7_add_19 rfl (lv_at hl 0 rfl) ?_
    refine lv_dup hx hb dX7_add_20 rfl ?_
    refine g_get fl_RX7_15_X7 hx hb C S KC_7 rfl dX7_add_21 ?_
    refine lv_iconst (v := 1) hx hb dX7_add_24 (by decide) ?_
    refine lv_iadd hx hb dX7_add_25 ?_
    refine g_put fl_RX7_15_X7 pl_X7_1 hx hb C S KC_7 rfl ⟨rfl, rfl⟩ dX7_add_26 (fun w4 ew4 H locs S => ?_)
    have h := h_l h w4 ew4
    refine lv_aload_n hx hb dX7_add_29 rfl (lv_at hl 0 rfl) ?_
    refine g_get fl_RX7_15_X7 hx hb C S KC_7 rfl dX7_add_30 ?_
    exact fin _ _ _ (w4 7 1) w4 _ S h dX7_add_33
theorem c_f_Text_add (l : Launch) (D : va_G) (dA : Nat → ClassId) (q : Nat → Nat) (a1 : Int32) (w w' : Wt) (r : Int32) (h : f_Text_add a1 w = some (r, w')) : Mi l EVc KC D dA q yX7_add cX7_add 2 (some .int) RM_f_Text_add [.ref (q 7), .int a1] w r w' :=
  mk_i (by decide) rfl EVc_ok (Nat.le_of_ble_eq_true rfl) (fun p e s m args below meth c A Q ls hx hb hml C S hl fin => k_f_Text_add a1 w (r, w') hx hb hml C (fun H locs ls r' w2 pc S h d => fin H locs ls r' w2 pc S h d) _ _ _ hl S h)
/-! Ballotscript.type(C)I f_Ballotscript_type -/
def f_Ballotscript_type (a1 : Int32) (w : Wt) : Option ((Nat ⊕ Int32) × Wt) := Option.bind (f_Ballotscript_isTypable a1) fun x1 => (if x1 = (0 : Int32) then some (.inl 1, w) else (if (w 7 1) < (24 : Int32) then Option.bind (f_Text_add a1 w) fun x4 => some (.inr x4.1, x4.2) else some (.inl 2, w)))
def RM_f_Ballotscript_type : Room := { frames := 10, cells := 4, slots := 24, locals := 150 }
set_option maxHeartbeats 4000000 in
set_option maxRecDepth 20000 in
theorem k_f_Ballotscript_type (a1 : Int32) (w : Wt) (z : ((Nat ⊕ Int32) × Wt)) (hfl : l.stackTraces = false) (hx : p.tables.exec = Jvm.exec) (hb : c.code = cX9_type) (hml : c.maxLocals = 2) (C : Cx EVc KC D dA q A s m args RX9) (fin : ∀ (H : Heap) (locs : List Loc) (ls : Array Slot) (r' : Int32) (w2 : Wt) (pc : Nat) (cl sl : Nat) , cl ≤ 4 → sl ≤ 24 → Sta KC D dA q A s.heap w2 H locs → some ((.inr r' : Nat ⊕ Int32), w2) = some z → decode cX9_type pc = .ok (.ireturn, 1) → W p l e RM_f_Ballotscript_type s m args below meth c H locs cl sl Q (F0 m pc ls [.int r'])) (thr : ∀ (H : Heap) (locs : List Loc) (ls : Array Slot) (w2 : Wt) (k pc cl sl : Nat), cl + 1 ≤ 4 → sl + 6 ≤ 24 → ls.size = 2 → Sta KC D dA q A s.heap w2 H locs → some ((.inl k : Nat ⊕ Int32), w2) = some z → thF RX9 cX9_type pc k → W p l e RM_f_Ballotscript_type s m args below meth c H locs cl sl Q (F0 m pc ls [])) (pro : ∀ (H : Heap) (locs : List Loc) (ls : Array Slot) (w2 : Wt) (k pc cl sl : Nat) (rest : List Value) (q9 : Nat) (ce : Cell), cl ≤ 4 → sl ≤ 24 → Sta KC D dA q A s.heap w2 H locs → some ((.inl k : Nat ⊕ Int32), w2) = some z → H[q9]? = some ce → ce.vm = .none → s.vm.findClass (exn k) = some ce.cls → vx_W p l e RM_f_Ballotscript_type s m args below meth c H locs cl sl Q (F0 m pc ls rest) q9) : ∀ (H : Heap) (locs : List Loc) (ls : Array Slot), lv_has ls 2 [(0, .ref (q 0)), (1, .int a1)] → Sta KC D dA q A s.heap w H locs → f_Ballotscript_type a1 w = some z → W p l e RM_f_Ballotscript_type s m args below meth c H locs 0 0 Q (F0 m 0 ls []) := by
  have ev : evOk EVc := EVc_ok
  intro H locs ls hl S h
  have h := h_0 h
  unfold f_Ballotscript_type at h
  refine lv_iload_n hx hb dX9_type_0 rfl (lv_at hl 1 rfl) ?_
  obtain ⟨x1, ex1, h⟩ := h_c h
  refine k_i C S (q_S (rest := []) (As := [.int a1]) lk_RX9_122 ev hx hb hml C S (c_f_Ballotscript_isTypable l D dA q a1 w x1 ex1 _) rfl rfl ⟨(Nat.le_of_ble_eq_true rfl), (Nat.le_of_ble_eq_true rfl)⟩ rfl hl.1 rfl (Nat.le_of_ble_eq_true rfl) dX9_type_1 ⟨(Nat.le_of_ble_eq_true rfl), (Nat.le_of_ble_eq_true rfl)⟩) (fun H locs S => ?_)
  refine lv_if_ne (tgt := 17) hx hb dX9_type_4 rfl (fun c2 => ?_) (fun c2 => ?_)
  · have h := h_f c2 h
    refine lv_aload_n hx hb dX9_type_17 rfl (lv_at hl 0 rfl) ?_
    refine g_getR fl_RX9_19_X9 hx hb C S KC_0 rfl dX9_type_18 ?_
    refine g_get fl_RX9_128_X7 hx hb C S KC_7 rfl dX9_type_21 ?_
    refine lv_bipush (v := 24) hx hb dX9_type_24 (by decide) ?_
    refine lv_icmp_lt (tgt := 39) hx hb dX9_type_26 rfl (fun c3 => ?_) (fun c3 => ?_)
    · have h := h_t c3 h
      refine lv_aload_n hx hb dX9_type_39 rfl (lv_at hl 0 rfl) ?_
      refine g_getR fl_RX9_19_X9 hx hb C S KC_0 rfl dX9_type_40 ?_
      refine lv_iload_n hx hb dX9_type_43 rfl (lv_at hl 1 rfl) ?_
      obtain ⟨x4, ex4, h⟩ := h_c h
      refine k_i C S (q_V (rest := []) (As := [.int a1]) lk_RX9_131 ev hx hb hml C S KC_7 rfl (c_f_Text_add l D dA q a1 w x4.2 x4.1 ex4 _) rfl rfl ⟨(Nat.le_of_ble_eq_true rfl), (Nat.le_of_ble_eq_true rfl)⟩ rfl hl.1 rfl (Nat.le_of_ble_eq_true rfl) dX9_type_44 ⟨(Nat.le_of_ble_eq_true rfl), (Nat.le_of_ble_eq_true rfl)⟩) (fun H locs S => ?_)
      exact fin _ _ _ x4.1 x4.2 _ 0 0 (Nat.le_of_ble_eq_true rfl) (Nat.le_of_ble_eq_true rfl) S h dX9_type_47
    · have h := h_f c3 h
      exact thr _ _ _ w _ _ 0 0 (Nat.le_of_ble_eq_true rfl) (Nat.le_of_ble_eq_true rfl) hl.1 S h th_X9_type_29
  · have h := h_t c2 h
    exact thr _ _ _ w _ _ 0 0 (Nat.le_of_ble_eq_true rfl) (Nat.le_of_ble_eq_true rfl) hl.1 S h th_X9_type_7
theorem c_f_Ballotscript_type (l : Launch) (hfl : l.stackTraces = false) (D : va_G) (dA : Nat → ClassId) (q : Nat → Nat) (a1 : Int32) (w w' : Wt) (res : Nat ⊕ Int32) (h : f_Ballotscript_type a1 w = some (res, w')) : Xi l EVc KC D dA q yX9_type cX9_type 2 (some .int) RM_f_Ballotscript_type 4 24 [.ref (q 0), .int a1] w res w' :=
  mx_i (by decide) rfl hfl (Nat.le_of_ble_eq_true rfl) (Nat.le_of_ble_eq_true rfl) (Nat.le_of_ble_eq_true rfl) rfl rfl (fun p e s m args below meth c A Q ls hx hb hml C S hl fin thr pro => k_f_Ballotscript_type a1 w (res, w') hfl hx hb hml C (fun H locs ls r' w2 pc cl sl hc hs S h d => fin H locs ls r' w2 pc cl sl hc hs S h d) (fun H locs ls w2 k pc cl sl hc hs hz S h t => thr H locs ls w2 k pc cl sl hc hs hz S h t) (fun H locs ls w2 k pc cl sl rest q9 ce hc hs S h h1 h2 h3 => pro H locs ls w2 k pc cl sl rest q9 ce hc hs S h h1 h2 h3) _ _ _ hl S h)
/-! Ballotscript.wipe()I f_Ballotscript_wipe -/
def f_Ballotscript_wipe (w : Wt) : Option (Int32 × Wt) := nmd (w 7 1) fun v1 => nmd (upd2 w 7 1 (0 : Int32)) fun w2 => some (v1, w2)
def RM_f_Ballotscript_wipe : Room := { frames := 0, cells := 0, slots := 0, locals := 0 }
set_option maxHeartbeats 4000000 in
set_option maxRecDepth 20000 in
theorem k_f_Ballotscript_wipe (w : Wt) (z : (Int32 × Wt)) (hx : p.tables.exec = Jvm.exec) (hb : c.code = cX9_wipe) (hml : c.maxLocals = 2) (C : Cx EVc KC D dA q A s m args RX9) (fin : ∀ (H : Heap) (locs : List Loc) (ls : Array Slot) (r' : Int32) (w2 : Wt) (pc : Nat) , Sta KC D dA q A s.heap w2 H locs → some (r', w2) = some z → decode cX9_wipe pc = .ok (.ireturn, 1) → W p l e RM_f_Ballotscript_wipe s m args below meth c H locs 0 0 Q (F0 m pc ls [.int r'])) : ∀ (H : Heap) (locs : List Loc) (ls : Array Slot), lv_has ls 2 [(0, .ref (q 0))] → Sta KC D dA q A s.heap w H locs → f_Ballotscript_wipe w = some z → W p l e RM_f_Ballotscript_wipe s m args below meth c H locs 0 0 Q (F0 m 0 ls []) := by
  have ev : evOk EVc := EVc_ok
  intro H locs ls hl S h
  have h := h_0 h
  unfold f_Ballotscript_wipe at h
  refine lv_aload_n hx hb dX9_wipe_0 rfl (lv_at hl 0 rfl) ?_
  refine g_getR fl_RX9_19_X9 hx hb C S KC_0 rfl dX9_wipe_1 ?_
  refine g_get fl_RX9_128_X7 hx hb C S KC_7 rfl dX9_wipe_4 ?_
  refine lv_topi (fun v1 ev1 => ?_)
  have h := h_l h v1 ev1
  refine lv_istore_n (lv' := [(1, .int v1), (0, .ref (q 0))]) hx hb dX9_wipe_7 rfl hl (Nat.le_of_ble_eq_true rfl) rfl (fun ls hl => ?_)
  refine lv_aload_n hx hb dX9_wipe_8 rfl (lv_at hl 1 rfl) ?_
  refine g_getR fl_RX9_19_X9 hx hb C S KC_0 rfl dX9_wipe_9 ?_
  refine lv_iconst (v := 0) hx hb dX9_wipe_12 (by decide) ?_
  refine g_put fl_RX9_128_X7 pl_X7_1 hx hb C S KC_7 rfl ⟨rfl, rfl⟩ dX9_wipe_13 (fun w2 ew2 H locs S => ?_)
  have h := h_l h w2 ew2
  refine lv_iload_n hx hb dX9_wipe_16 rfl (lv_at hl 0 rfl) ?_
  exact fin _ _ _ v1 w2 _ S h dX9_wipe_17
theorem c_f_Ballotscript_wipe (l : Launch) (D : va_G) (dA : Nat → ClassId) (q : Nat → Nat) (w w' : Wt) (r : Int32) (h : f_Ballotscript_wipe w = some (r, w')) : Mi l EVc KC D dA q yX9_wipe cX9_wipe 2 (some .int) RM_f_Ballotscript_wipe [.ref (q 0)] w r w' :=
  mk_i (by decide) rfl EVc_ok (Nat.le_of_ble_eq_true rfl) (fun p e s m args below meth c A Q ls hx hb hml C S hl fin => k_f_Ballotscript_wipe w (r, w') hx hb hml C (fun H locs ls r' w2 pc S h d => fin H locs ls r' w2 pc S h d) _ _ _ hl S h)
/-! Ballotscript$Text.stateAfter(CII)I f_Text_stateAfter -/
def f_Text_stateAfter (a0 : Int32) (a1 : Int32) (a2 : Int32) : Option Int32 := (if a1 = (2 : Int32) then (if a0 = (59 : Int32) then some (1 : Int32) else some (5 : Int32)) else (if a1 = (3 : Int32) then Option.bind (f_Ballotscript_isDigit a0) fun x13 => (if x13 = (0 : Int32) then some (5 : Int32) else some (4 : Int32)) else (if a1 = (4 : Int32) then (if a0 = (59 : Int32) then some (1 : Int32) else Option.bind (f_Ballotscript_isDigit a0) fun x11 => (if x11 = (0 : Int32) then some (5 : Int32) else some (2 : Int32))) else (if a0 = (41 : Int32) then (if a1 = (1 : Int32) then (if a2 ≤ (0 : Int32) then some (5 : Int32) else some (1 : Int32)) else some (5 : Int32)) else (if a0 = (40 : Int32) then some (0 : Int32) else (if a0 = (101 : Int32) then some (3 : Int32) else (if (sIx 0 a0) < (0 : Int32) then some (5 : Int32) else some (2 : Int32))))))))
def RM_f_Text_stateAfter : Room := { frames := 8, cells := 0, slots := 0, locals := 200 }
set_option maxHeartbeats 4000000 in
set_option maxRecDepth 20000 in
theorem k_f_Text_stateAfter (a0 : Int32) (a1 : Int32) (a2 : Int32) (w : Wt) (z : Int32) (hx : p.tables.exec = Jvm.exec) (hb : c.code = cX7_stateAfter) (hml : c.maxLocals = 3) (C : Cx EVc KC D dA q A s m args RX7) (fin : ∀ (H : Heap) (locs : List Loc) (ls : Array Slot) (r' : Int32) (pc : Nat) , Sta KC D dA q A s.heap w H locs → some r' = some z → decode cX7_stateAfter pc = .ok (.ireturn, 1) → W p l e RM_f_Text_stateAfter s m args below meth c H locs 0 0 Q (F0 m pc ls [.int r'])) : ∀ (H : Heap) (locs : List Loc) (ls : Array Slot), lv_has ls 3 [(0, .int a0), (1, .int a1), (2, .int a2)] → Sta KC D dA q A s.heap w H locs → f_Text_stateAfter a0 a1 a2 = some z → W p l e RM_f_Text_stateAfter s m args below meth c H locs 0 0 Q (F0 m 0 ls []) := by
  have ev : evOk EVc := EVc_ok
  intro H locs ls hl S h
  have h := h_0 h
  unfold f_Text_stateAfter at h
  refine lv_iload_n hx hb dX7_stateAfter_0 rfl (lv_at hl 1 rfl) ?_
  refine lv_iconst (v := 2) hx hb dX7_stateAfter_1 (by decide) ?_
  refine lv_icmp_ne (tgt := 17) hx hb dX7_stateAfter_2 rfl (fun c1 => ?_) (fun c1 => ?_)
  · have h := h_f c1 h
    refine lv_iload_n hx hb dX7_stateAfter_17 rfl (lv_at hl 1 rfl) ?_
    refine lv_iconst (v := 3) hx hb dX7_stateAfter_18 (by decide) ?_
    refine lv_icmp_ne (tgt := 35) hx hb dX7_stateAfter_19 rfl (fun c2 => ?_) (fun c2 => ?_)
    · have h := h_f c2 h
      refine lv_iload_n hx hb dX7_stateAfter_35 rfl (lv_at hl 1 rfl) ?_
      refine lv_iconst (v := 4) hx hb dX7_stateAfter_36 (by decide) ?_
      refine lv_icmp_ne (tgt := 63) hx hb dX7_stateAfter_37 rfl (fun c3 => ?_) (fun c3 => ?_)
      · have h := h_f c3 h
        refine lv_iload_n hx hb dX7_stateAfter_63 rfl (lv_at hl 0 rfl) ?_
        refine lv_bipush (v := 41) hx hb dX7_stateAfter_64 (by decide) ?_
        refine lv_icmp_ne (tgt := 84) hx hb dX7_stateAfter_66 rfl (fun c4 => ?_) (fun c4 => ?_)
        · have h := h_f c4 h
          refine lv_iload_n hx hb dX7_stateAfter_84 rfl (lv_at hl 0 rfl) ?_
          refine lv_bipush (v := 40) hx hb dX7_stateAfter_85 (by decide) ?_
          refine lv_icmp_ne (tgt := 92) hx hb dX7_stateAfter_87 rfl (fun c5 => ?_) (fun c5 => ?_)
          · have h := h_f c5 h
            refine lv_iload_n hx hb dX7_stateAfter_92 rfl (lv_at hl 0 rfl) ?_
            refine lv_bipush (v := 101) hx hb dX7_stateAfter_93 (by decide) ?_
            refine lv_icmp_ne (tgt := 100) hx hb dX7_stateAfter_95 rfl (fun c6 => ?_) (fun c6 => ?_)
            · have h := h_f c6 h
              refine va_ldcS hx hb C.1 (sk_0 C) dX7_stateAfter_100 ?_
              refine lv_iload_n hx hb dX7_stateAfter_102 rfl (lv_at hl 0 rfl) ?_
              refine k_ix (j := 0) ix_RX7_29 hx hb hml C S (Nat.le_of_ble_eq_true rfl) (Nat.le_of_ble_eq_true rfl) (Nat.le_of_ble_eq_true rfl) hl.1 (rest := []) (Nat.le_of_ble_eq_true rfl) ⟨(Nat.le_of_ble_eq_true rfl), (Nat.le_of_ble_eq_true rfl)⟩ dX7_stateAfter_103 (fun H locs S => ?_)
              refine lv_if_lt (tgt := 113) hx hb dX7_stateAfter_106 rfl (fun c7 => ?_) (fun c7 => ?_)
              · have h := h_t c7 h
                refine lv_iconst (v := 5) hx hb dX7_stateAfter_113 (by decide) ?_
                exact fin _ _ _ (5 : Int32) _ S h dX7_stateAfter_114
              · have h := h_f c7 h
                refine lv_iconst (v := 2) hx hb dX7_stateAfter_109 (by decide) ?_
                refine lv_goto (tgt := 114) hx hb dX7_stateAfter_110 rfl ?_
                exact fin _ _ _ (2 : Int32) _ S h dX7_stateAfter_114
            · have h := h_t c6 h
              refine lv_iconst (v := 3) hx hb dX7_stateAfter_98 (by decide) ?_
              exact fin _ _ _ (3 : Int32) _ S h dX7_stateAfter_99
          · have h := h_t c5 h
            refine lv_iconst (v := 0) hx hb dX7_stateAfter_90 (by decide) ?_
            exact fin _ _ _ (0 : Int32) _ S h dX7_stateAfter_91
        · have h := h_t c4 h
          refine lv_iload_n hx hb dX7_stateAfter_69 rfl (lv_at hl 1 rfl) ?_
          refine lv_iconst (v := 1) hx hb dX7_stateAfter_70 (by decide) ?_
          refine lv_icmp_ne (tgt := 82) hx hb dX7_stateAfter_71 rfl (fun c8 => ?_) (fun c8 => ?_)
          · have h := h_f c8 h
            refine lv_iconst (v := 5) hx hb dX7_stateAfter_82 (by decide) ?_
            exact fin _ _ _ (5 : Int32) _ S h dX7_stateAfter_83
          · have h := h_t c8 h
            refine lv_iload_n hx hb dX7_stateAfter_74 rfl (lv_at hl 2 rfl) ?_
            refine lv_if_le (tgt := 82) hx hb dX7_stateAfter_75 rfl (fun c9 => ?_) (fun c9 => ?_)
            · have h := h_t c9 h
              refine lv_iconst (v := 5) hx hb dX7_stateAfter_82 (by decide) ?_
              exact fin _ _ _ (5 : Int32) _ S h dX7_stateAfter_83
            · have h := h_f c9 h
              refine lv_iconst (v := 1) hx hb dX7_stateAfter_78 (by decide) ?_
              refine lv_goto (tgt := 83) hx hb dX7_stateAfter_79 rfl ?_
              exact fin _ _ _ (1 : Int32) _ S h dX7_stateAfter_83
      · have h := h_t c3 h
        refine lv_iload_n hx hb dX7_stateAfter_40 rfl (lv_at hl 0 rfl) ?_
        refine lv_bipush (v := 59) hx hb dX7_stateAfter_41 (by decide) ?_
        refine lv_icmp_ne (tgt := 50) hx hb dX7_stateAfter_43 rfl (fun c10 => ?_) (fun c10 => ?_)
        · have h := h_f c10 h
          refine lv_iload_n hx hb dX7_stateAfter_50 rfl (lv_at hl 0 rfl) ?_
          obtain ⟨x11, ex11, h⟩ := h_c h
          refine k_i C S (q_N (rest := []) (As := [.int a0]) lk_RX7_23 (nm_lk_RX7_23 C) ev hx hb hml C S (c_f_Ballotscript_isDigit l D dA q a0 w x11 ex11 _) rfl rfl ⟨(Nat.le_of_ble_eq_true rfl), (Nat.le_of_ble_eq_true rfl)⟩ rfl hl.1 rfl (Nat.le_of_ble_eq_true rfl) dX7_stateAfter_51 ⟨(Nat.le_of_ble_eq_true rfl), (Nat.le_of_ble_eq_true rfl)⟩) (fun H locs S => ?_)
          refine lv_if_eq (tgt := 61) hx hb dX7_stateAfter_54 rfl (fun c12 => ?_) (fun c12 => ?_)
          · have h := h_t c12 h
            refine lv_iconst (v := 5) hx hb dX7_stateAfter_61 (by decide) ?_
            exact fin _ _ _ (5 : Int32) _ S h dX7_stateAfter_62
          · have h := h_f c12 h
            refine lv_iconst (v := 2) hx hb dX7_stateAfter_57 (by decide) ?_
            refine lv_goto (tgt := 62) hx hb dX7_stateAfter_58 rfl ?_
            exact fin _ _ _ (2 : Int32) _ S h dX7_stateAfter_62
        · have h := h_t c10 h
          refine lv_iconst (v := 1) hx hb dX7_stateAfter_46 (by decide) ?_
          refine lv_goto (tgt := 62) hx hb dX7_stateAfter_47 rfl ?_
          exact fin _ _ _ (1 : Int32) _ S h dX7_stateAfter_62
    · have h := h_t c2 h
      refine lv_iload_n hx hb dX7_stateAfter_22 rfl (lv_at hl 0 rfl) ?_
      obtain ⟨x13, ex13, h⟩ := h_c h
      refine k_i C S (q_N (rest := []) (As := [.int a0]) lk_RX7_23 (nm_lk_RX7_23 C) ev hx hb hml C S (c_f_Ballotscript_isDigit l D dA q a0 w x13 ex13 _) rfl rfl ⟨(Nat.le_of_ble_eq_true rfl), (Nat.le_of_ble_eq_true rfl)⟩ rfl hl.1 rfl (Nat.le_of_ble_eq_true rfl) dX7_stateAfter_23 ⟨(Nat.le_of_ble_eq_true rfl), (Nat.le_of_ble_eq_true rfl)⟩) (fun H locs S => ?_)
      refine lv_if_eq (tgt := 33) hx hb dX7_stateAfter_26 rfl (fun c14 => ?_) (fun c14 => ?_)
      · have h := h_t c14 h
        refine lv_iconst (v := 5) hx hb dX7_stateAfter_33 (by decide) ?_
        exact fin _ _ _ (5 : Int32) _ S h dX7_stateAfter_34
      · have h := h_f c14 h
        refine lv_iconst (v := 4) hx hb dX7_stateAfter_29 (by decide) ?_
        refine lv_goto (tgt := 34) hx hb dX7_stateAfter_30 rfl ?_
        exact fin _ _ _ (4 : Int32) _ S h dX7_stateAfter_34
  · have h := h_t c1 h
    refine lv_iload_n hx hb dX7_stateAfter_5 rfl (lv_at hl 0 rfl) ?_
    refine lv_bipush (v := 59) hx hb dX7_stateAfter_6 (by decide) ?_
    refine lv_icmp_ne (tgt := 15) hx hb dX7_stateAfter_8 rfl (fun c15 => ?_) (fun c15 => ?_)
    · have h := h_f c15 h
      refine lv_iconst (v := 5) hx hb dX7_stateAfter_15 (by decide) ?_
      exact fin _ _ _ (5 : Int32) _ S h dX7_stateAfter_16
    · have h := h_t c15 h
      refine lv_iconst (v := 1) hx hb dX7_stateAfter_11 (by decide) ?_
      refine lv_goto (tgt := 16) hx hb dX7_stateAfter_12 rfl ?_
      exact fin _ _ _ (1 : Int32) _ S h dX7_stateAfter_16
theorem c_f_Text_stateAfter (l : Launch) (D : va_G) (dA : Nat → ClassId) (q : Nat → Nat) (a0 : Int32) (a1 : Int32) (a2 : Int32) (w : Wt) (r : Int32) (h : f_Text_stateAfter a0 a1 a2 = some r) : Mi l EVc KC D dA q yX7_stateAfter cX7_stateAfter 3 (some .int) RM_f_Text_stateAfter [.int a0, .int a1, .int a2] w r w :=
  mk_i (by decide) rfl EVc_ok (Nat.le_of_ble_eq_true rfl) (fun p e s m args below meth c A Q ls hx hb hml C S hl fin => k_f_Text_stateAfter a0 a1 a2 w r hx hb hml C (fun H locs ls r' pc S h d => fin H locs ls r' w pc S (by rw [Option.some.inj h]) d) _ _ _ hl S h)
/-! Ballotscript$Text.firstFault()I f_Text_firstFault -/
def f_Text_firstFault_b66 (l1 : Int32) (l2 : Int32) (w : Wt) : Option Int32 := (if l1 = (1 : Int32) then (if l2 = (0 : Int32) then some (-1 : Int32) else some (w 7 1)) else some (w 7 1))
def f_Text_firstFault_L6 (w : Wt) : (Int32 × Int32 × Int32) → Option ((Int32 × Int32 × Int32) ⊕ ((Int32 × Int32) ⊕ Int32))
  | (l1, l2, l3) => (if (w 7 1) ≤ l3 then some (.inr (.inl (l1, l2))) else gd (inb l3 24) (nmd (w 8 (l3).toNatClampNeg) fun v5 => Option.bind (f_Text_stateAfter v5 l1 l2) fun x6 => (if x6 = (5 : Int32) then some (.inr (.inr l3)) else (if v5 = (40 : Int32) then some (.inl (x6, (l2 + 1), (l3 + 1))) else (if v5 = (41 : Int32) then some (.inl (x6, (l2 + (-1)), (l3 + 1))) else some (.inl (x6, l2, (l3 + 1))))))))
def f_Text_firstFault_x6 (w : Wt) : ((Int32 × Int32) ⊕ Int32) → Option Int32
  | .inl (l1, l2) => f_Text_firstFault_b66 l1 l2 w
  | .inr t => some t
def f_Text_firstFault (w : Wt) : Option Int32 := Option.bind (lp (f_Text_firstFault_L6 w) FU ((0 : Int32), (0 : Int32), (0 : Int32))) (f_Text_firstFault_x6 w)
def RM_f_Text_firstFault : Room := { frames := 9, cells := 0, slots := 0, locals := 222 }
set_option maxHeartbeats 4000000 in
set_option maxRecDepth 20000 in
theorem k_f_Text_firstFault (w : Wt) (z : Int32) (hx : p.tables.exec = Jvm.exec) (hb : c.code = cX7_firstFault) (hml : c.maxLocals = 5) (C : Cx EVc KC D dA q A s m args RX7) (fin : ∀ (H : Heap) (locs : List Loc) (ls : Array Slot) (r' : Int32) (pc : Nat) , Sta KC D dA q A s.heap w H locs → some r' = some z → decode cX7_firstFault pc = .ok (.ireturn, 1) → W p l e RM_f_Text_firstFault s m args below meth c H locs 0 0 Q (F0 m pc ls [.int r'])) : ∀ (H : Heap) (locs : List Loc) (ls : Array Slot), lv_has ls 5 [(0, .ref (q 7))] → Sta KC D dA q A s.heap w H locs → f_Text_firstFault w = some z → W p l e RM_f_Text_firstFault s m args below meth c H locs 0 0 Q (F0 m 0 ls []) := by
  have ev : evOk EVc := EVc_ok
  have lab66 : ∀ (l1 : Int32) (l2 : Int32) (H : Heap) (locs : List Loc) (ls : Array Slot), lv_has ls 5 [(0, .ref (q 7)), (1, .int l1), (2, .int l2)] → Sta KC D dA q A s.heap w H locs → Option.bind (f_Text_firstFault_b66 l1 l2 w) some = some z → W p l e RM_f_Text_firstFault s m args below meth c H locs 0 0 Q (F0 m 66 ls []) := by
    intro l1 l2 H locs ls hl S h
    unfold f_Text_firstFault_b66 at h
    refine lv_iload_n hx hb dX7_firstFault_66 rfl (lv_at hl 1 rfl) ?_
    refine lv_iconst (v := 1) hx hb dX7_firstFault_67 (by decide) ?_
    refine lv_icmp_ne (tgt := 79) hx hb dX7_firstFault_68 rfl (fun c1 => ?_) (fun c1 => ?_)
    · have h := h_f c1 h
      refine lv_aload_n hx hb dX7_firstFault_79 rfl (lv_at hl 0 rfl) ?_
      refine g_get fl_RX7_15_X7 hx hb C S KC_7 rfl dX7_firstFault_80 ?_
      exact fin _ _ _ (w 7 1) _ S h dX7_firstFault_83
    · have h := h_t c1 h
      refine lv_iload_n hx hb dX7_firstFault_71 rfl (lv_at hl 2 rfl) ?_
      refine lv_if_ne (tgt := 79) hx hb dX7_firstFault_72 rfl (fun c2 => ?_) (fun c2 => ?_)
      · have h := h_f c2 h
        refine lv_aload_n hx hb dX7_firstFault_79 rfl (lv_at hl 0 rfl) ?_
        refine g_get fl_RX7_15_X7 hx hb C S KC_7 rfl dX7_firstFault_80 ?_
        exact fin _ _ _ (w 7 1) _ S h dX7_firstFault_83
      · have h := h_t c2 h
        refine lv_iconst (v := -1) hx hb dX7_firstFault_75 (by decide) ?_
        refine lv_goto (tgt := 83) hx hb dX7_firstFault_76 rfl ?_
        exact fin _ _ _ (-1 : Int32) _ S h dX7_firstFault_83
  have loop6 : ∀ (n6 : Nat), ∀ (l1 : Int32) (l2 : Int32) (l3 : Int32) (H : Heap) (locs : List Loc) (ls : Array Slot), lv_has ls 5 [(0, .ref (q 7)), (1, .int l1), (2, .int l2), (3, .int l3)] → Sta KC D dA q A s.heap w H locs → Option.bind (lp (f_Text_firstFault_L6 w) n6 (l1, l2, l3)) (fun x9 => Option.bind (f_Text_firstFault_x6 w x9) some) = some z → W p l e RM_f_Text_firstFault s m args below meth c H locs 0 0 Q (F0 m 6 ls []) := by
    intro  n6
    induction n6 with
    | zero =>
      intro l1 l2 l3 H locs ls hl S h
      exact (h_lp0 h).elim
    | succ n6 ih6 =>
      intro l1 l2 l3 H locs ls hl S h
      have h := h_lp h
      unfold f_Text_firstFault_L6 at h
      refine lv_iload_n hx hb dX7_firstFault_6 rfl (lv_at hl 3 rfl) ?_
      refine lv_aload_n hx hb dX7_firstFault_7 rfl (lv_at hl 0 rfl) ?_
      refine g_get fl_RX7_15_X7 hx hb C S KC_7 rfl dX7_firstFault_8 ?_
      refine lv_icmp_ge (tgt := 66) hx hb dX7_firstFault_11 rfl (fun c3 => ?_) (fun c3 => ?_)
      · have h := h_t c3 h
        exact lab66 l1 l2 _ _ _ (lv_sub hl [0, 1, 2] rfl) S h
      · have h := h_f c3 h
        refine lv_aload_n hx hb dX7_firstFault_14 rfl (lv_at hl 0 rfl) ?_
        refine g_getR fl_RX7_9_X7 hx hb C S KC_7 rfl dX7_firstFault_15 ?_
        refine lv_iload_n hx hb dX7_firstFault_18 rfl (lv_at hl 3 rfl) ?_
        obtain ⟨g4, h⟩ := h_gd h
        refine r_cald hx hb C S KC_8 (h_in g4) dX7_firstFault_19 ?_
        refine lv_topi (fun v5 ev5 => ?_)
        have h := h_l h v5 ev5
        refine lv_istore (lv' := [(4, .int v5), (0, .ref (q 7)), (1, .int l1), (2, .int l2), (3, .int l3)]) hx hb dX7_firstFault_20 hl (Nat.le_of_ble_eq_true rfl) rfl (fun ls hl => ?_)
        refine lv_iload hx hb dX7_firstFault_22 (lv_at hl 0 rfl) ?_
        refine lv_iload_n hx hb dX7_firstFault_24 rfl (lv_at hl 2 rfl) ?_
        refine lv_iload_n hx hb dX7_firstFault_25 rfl (lv_at hl 3 rfl) ?_
        obtain ⟨x6, ex6, h⟩ := h_c h
        refine k_i C S (q_S (rest := []) (As := [.int v5, .int l1, .int l2]) lk_RX7_19 ev hx hb hml C S (c_f_Text_stateAfter l D dA q v5 l1 l2 w x6 ex6 _) rfl rfl ⟨(Nat.le_of_ble_eq_true rfl), (Nat.le_of_ble_eq_true rfl)⟩ rfl hl.1 rfl (Nat.le_of_ble_eq_true rfl) dX7_firstFault_26 ⟨(Nat.le_of_ble_eq_true rfl), (Nat.le_of_ble_eq_true rfl)⟩) (fun H locs S => ?_)
        refine lv_istore_n (lv' := [(1, .int x6), (4, .int v5), (0, .ref (q 7)), (2, .int l2), (3, .int l3)]) hx hb dX7_firstFault_29 rfl hl (Nat.le_of_ble_eq_true rfl) rfl (fun ls hl => ?_)
        refine lv_iload_n hx hb dX7_firstFault_30 rfl (lv_at hl 0 rfl) ?_
        refine lv_iconst (v := 5) hx hb dX7_firstFault_31 (by decide) ?_
        refine lv_icmp_ne (tgt := 37) hx hb dX7_firstFault_32 rfl (fun c7 => ?_) (fun c7 => ?_)
        · have h := h_f c7 h
          refine lv_iload hx hb dX7_firstFault_37 (lv_at hl 1 rfl) ?_
          refine lv_bipush (v := 40) hx hb dX7_firstFault_39 (by decide) ?_
          refine lv_icmp_ne (tgt := 50) hx hb dX7_firstFault_41 rfl (fun c8 => ?_) (fun c8 => ?_)
          · have h := h_f c8 h
            refine lv_iload hx hb dX7_firstFault_50 (lv_at hl 1 rfl) ?_
            refine lv_bipush (v := 41) hx hb dX7_firstFault_52 (by decide) ?_
            refine lv_icmp_ne (tgt := 60) hx hb dX7_firstFault_54 rfl (fun c9 => ?_) (fun c9 => ?_)
            · have h := h_f c9 h
              refine lv_iinc (v := (l3 + 1)) (lv' := [(3, .int (l3 + 1)), (1, .int x6), (4, .int v5), (0, .ref (q 7)), (2, .int l2)]) hx hb dX7_firstFault_60 hl (k := 4) rfl rfl (Nat.le_of_ble_eq_true rfl) rfl (fun ls hl => ?_)
              refine lv_goto (tgt := 6) hx hb dX7_firstFault_63 rfl ?_
              exact ih6 x6 l2 (l3 + 1) _ _ _ (lv_sub hl [3, 1, 4, 0] rfl) S h
            · have h := h_t c9 h
              refine lv_iinc (v := (l2 + (-1))) (lv' := [(2, .int (l2 + (-1))), (1, .int x6), (4, .int v5), (0, .ref (q 7)), (3, .int l3)]) hx hb dX7_firstFault_57 hl (k := 3) rfl rfl (Nat.le_of_ble_eq_true rfl) rfl (fun ls hl => ?_)
              refine lv_iinc (v := (l3 + 1)) (lv' := [(3, .int (l3 + 1)), (2, .int (l2 + (-1))), (1, .int x6), (4, .int v5), (0, .ref (q 7))]) hx hb dX7_firstFault_60 hl (k := 4) rfl rfl (Nat.le_of_ble_eq_true rfl) rfl (fun ls hl => ?_)
              refine lv_goto (tgt := 6) hx hb dX7_firstFault_63 rfl ?_
              exact ih6 x6 (l2 + (-1)) (l3 + 1) _ _ _ (lv_sub hl [4, 2, 1, 0] rfl) S h
          · have h := h_t c8 h
            refine lv_iinc (v := (l2 + 1)) (lv' := [(2, .int (l2 + 1)), (1, .int x6), (4, .int v5), (0, .ref (q 7)), (3, .int l3)]) hx hb dX7_firstFault_44 hl (k := 3) rfl rfl (Nat.le_of_ble_eq_true rfl) rfl (fun ls hl => ?_)
            refine lv_goto (tgt := 60) hx hb dX7_firstFault_47 rfl ?_
            refine lv_iinc (v := (l3 + 1)) (lv' := [(3, .int (l3 + 1)), (2, .int (l2 + 1)), (1, .int x6), (4, .int v5), (0, .ref (q 7))]) hx hb dX7_firstFault_60 hl (k := 4) rfl rfl (Nat.le_of_ble_eq_true rfl) rfl (fun ls hl => ?_)
            refine lv_goto (tgt := 6) hx hb dX7_firstFault_63 rfl ?_
            exact ih6 x6 (l2 + 1) (l3 + 1) _ _ _ (lv_sub hl [4, 2, 1, 0] rfl) S h
        · have h := h_t c7 h
          refine lv_iload_n hx hb dX7_firstFault_35 rfl (lv_at hl 4 rfl) ?_
          exact fin _ _ _ l3 _ S h dX7_firstFault_36
  intro H locs ls hl S h
  have h := h_0 h
  unfold f_Text_firstFault at h
  refine lv_iconst (v := 0) hx hb dX7_firstFault_0 (by decide) ?_
  refine lv_istore_n (lv' := [(1, .int (0 : Int32)), (0, .ref (q 7))]) hx hb dX7_firstFault_1 rfl hl (Nat.le_of_ble_eq_true rfl) rfl (fun ls hl => ?_)
  refine lv_iconst (v := 0) hx hb dX7_firstFault_2 (by decide) ?_
  refine lv_istore_n (lv' := [(2, .int (0 : Int32)), (1, .int (0 : Int32)), (0, .ref (q 7))]) hx hb dX7_firstFault_3 rfl hl (Nat.le_of_ble_eq_true rfl) rfl (fun ls hl => ?_)
  refine lv_iconst (v := 0) hx hb dX7_firstFault_4 (by decide) ?_
  refine lv_istore_n (lv' := [(3, .int (0 : Int32)), (2, .int (0 : Int32)), (1, .int (0 : Int32)), (0, .ref (q 7))]) hx hb dX7_firstFault_5 rfl hl (Nat.le_of_ble_eq_true rfl) rfl (fun ls hl => ?_)
  exact loop6  FU (0 : Int32) (0 : Int32) (0 : Int32) _ _ _ (lv_sub hl [3, 2, 1, 0] rfl) S (h_bb h)
theorem c_f_Text_firstFault (l : Launch) (D : va_G) (dA : Nat → ClassId) (q : Nat → Nat) (w : Wt) (r : Int32) (h : f_Text_firstFault w = some r) : Mi l EVc KC D dA q yX7_firstFault cX7_firstFault 5 (some .int) RM_f_Text_firstFault [.ref (q 7)] w r w :=
  mk_i (by decide) rfl EVc_ok (Nat.le_of_ble_eq_true rfl) (fun p e s m args below meth c A Q ls hx hb hml C S hl fin => k_f_Text_firstFault w r hx hb hml C (fun H locs ls r' pc S h d => fin H locs ls r' w pc S (by rw [Option.some.inj h]) d) _ _ _ hl S h)
/-! Ballotscript.fault()I f_Ballotscript_fault -/
def f_Ballotscript_fault (w : Wt) : Option Int32 := Option.bind (f_Text_firstFault w) fun x1 => some x1
def RM_f_Ballotscript_fault : Room := { frames := 10, cells := 0, slots := 0, locals := 246 }
set_option maxHeartbeats 4000000 in
set_option maxRecDepth 20000 in
theorem k_f_Ballotscript_fault (w : Wt) (z : Int32) (hx : p.tables.exec = Jvm.exec) (hb : c.code = cX9_fault) (hml : c.maxLocals = 1) (C : Cx EVc KC D dA q A s m args RX9) (fin : ∀ (H : Heap) (locs : List Loc) (ls : Array Slot) (r' : Int32) (pc : Nat) , Sta KC D dA q A s.heap w H locs → some r' = some z → decode cX9_fault pc = .ok (.ireturn, 1) → W p l e RM_f_Ballotscript_fault s m args below meth c H locs 0 0 Q (F0 m pc ls [.int r'])) : ∀ (H : Heap) (locs : List Loc) (ls : Array Slot), lv_has ls 1 [(0, .ref (q 0))] → Sta KC D dA q A s.heap w H locs → f_Ballotscript_fault w = some z → W p l e RM_f_Ballotscript_fault s m args below meth c H locs 0 0 Q (F0 m 0 ls []) := by
  have ev : evOk EVc := EVc_ok
  intro H locs ls hl S h
  have h := h_0 h
  unfold f_Ballotscript_fault at h
  refine lv_aload_n hx hb dX9_fault_0 rfl (lv_at hl 0 rfl) ?_
  refine g_getR fl_RX9_19_X9 hx hb C S KC_0 rfl dX9_fault_1 ?_
  obtain ⟨x1, ex1, h⟩ := h_c h
  refine k_i C S (q_V (rest := []) (As := []) lk_RX9_134 ev hx hb hml C S KC_7 rfl (c_f_Text_firstFault l D dA q w x1 ex1 _) rfl rfl ⟨(Nat.le_of_ble_eq_true rfl), (Nat.le_of_ble_eq_true rfl)⟩ rfl hl.1 rfl (Nat.le_of_ble_eq_true rfl) dX9_fault_4 ⟨(Nat.le_of_ble_eq_true rfl), (Nat.le_of_ble_eq_true rfl)⟩) (fun H locs S => ?_)
  exact fin _ _ _ x1 _ S h dX9_fault_7
theorem c_f_Ballotscript_fault (l : Launch) (D : va_G) (dA : Nat → ClassId) (q : Nat → Nat) (w : Wt) (r : Int32) (h : f_Ballotscript_fault w = some r) : Mi l EVc KC D dA q yX9_fault cX9_fault 1 (some .int) RM_f_Ballotscript_fault [.ref (q 0)] w r w :=
  mk_i (by decide) rfl EVc_ok (Nat.le_of_ble_eq_true rfl) (fun p e s m args below meth c A Q ls hx hb hml C S hl fin => k_f_Ballotscript_fault w r hx hb hml C (fun H locs ls r' pc S h d => fin H locs ls r' w pc S (by rw [Option.some.inj h]) d) _ _ _ hl S h)
/-! Ballotscript$Rule.addStep(CI)I f_Rule_addStep -/
def f_Rule_addStep_b52 (ro : Nat) (l1 : Int32) (l2 : Int32) (l3 : Int32) (t0 : Int32) (t1 : Int32) (w : Wt) : Option (Int32 × Wt) := gd (inb t1 24) (nmd (upd2 w (56 + ro) (t1).toNatClampNeg t0) fun w2 => (if l1 = (40 : Int32) then some (l3, w2) else (if l1 = (41 : Int32) then (if l2 < (0 : Int32) then some (l2, w2) else gd (inb l2 24) (some ((w2 (56 + ro) (l2).toNatClampNeg), w2))) else some (l2, w2))))
def f_Rule_addStep_b47 (ro : Nat) (l1 : Int32) (l2 : Int32) (l3 : Int32) (t0 : Int32) (w : Wt) : Option (Int32 × Wt) := f_Rule_addStep_b52 ro l1 l2 l3 l2 t0 w
def f_Rule_addStep (ro : Nat) (a1 : Int32) (a2 : Int32) (w : Wt) : Option (Int32 × Wt) := nmd (w (32 + ro) 4) fun v7 => (if v7 < (24 : Int32) then nmd (upd2 w (32 + ro) 4 ((w (32 + ro) 4) + (1 : Int32))) fun w9 => gd (inb v7 24) (nmd (upd2 w9 (48 + ro) (v7).toNatClampNeg (vp_nar .char a1)) fun w11 => (if a1 = (40 : Int32) then f_Rule_addStep_b47 ro a1 a2 v7 v7 w11 else (if a1 = (41 : Int32) then f_Rule_addStep_b47 ro a1 a2 v7 v7 w11 else f_Rule_addStep_b52 ro a1 a2 v7 (0 : Int32) v7 w11))) else some (a2, w))
def RM_f_Rule_addStep : Room := { frames := 0, cells := 0, slots := 0, locals := 0 }
set_option maxHeartbeats 4000000 in
set_option maxRecDepth 20000 in
theorem k_f_Rule_addStep (ro : Nat) (hro : ro < 8) (a1 : Int32) (a2 : Int32) (w : Wt) (z : (Int32 × Wt)) (hx : p.tables.exec = Jvm.exec) (hb : c.code = cX5_addStep) (hml : c.maxLocals = 4) (C : Cx EVc KC D dA q A s m args RX5) (fin : ∀ (H : Heap) (locs : List Loc) (ls : Array Slot) (r' : Int32) (w2 : Wt) (pc : Nat) , Sta KC D dA q A s.heap w2 H locs → some (r', w2) = some z → decode cX5_addStep pc = .ok (.ireturn, 1) → W p l e RM_f_Rule_addStep s m args below meth c H locs 0 0 Q (F0 m pc ls [.int r'])) : ∀ (H : Heap) (locs : List Loc) (ls : Array Slot), lv_has ls 4 [(0, .ref (q (32 + ro))), (1, .int a1), (2, .int a2)] → Sta KC D dA q A s.heap w H locs → f_Rule_addStep ro a1 a2 w = some z → W p l e RM_f_Rule_addStep s m args below meth c H locs 0 0 Q (F0 m 0 ls []) := by
  have ev : evOk EVc := EVc_ok
  have lab52 : ∀ (l1 : Int32) (l2 : Int32) (l3 : Int32) (t0 : Int32) (t1 : Int32) (w : Wt) (H : Heap) (locs : List Loc) (ls : Array Slot), lv_has ls 4 [(0, .ref (q (32 + ro))), (1, .int l1), (2, .int l2), (3, .int l3)] → Sta KC D dA q A s.heap w H locs → Option.bind (f_Rule_addStep_b52 ro l1 l2 l3 t0 t1 w) some = some z → W p l e RM_f_Rule_addStep s m args below meth c H locs 0 0 Q (F0 m 52 ls [.int t0, .int t1, .ref (q (56 + ro))]) := by
    intro l1 l2 l3 t0 t1 w H locs ls hl S h
    unfold f_Rule_addStep_b52 at h
    obtain ⟨g1, h⟩ := h_gd h
    refine r_iast hx hb C S (KC_56 hro) (h_in g1) dX5_addStep_52 (fun w2 ew2 H locs S => ?_)
    have h := h_l h w2 ew2
    refine lv_iload_n hx hb dX5_addStep_53 rfl (lv_at hl 1 rfl) ?_
    refine lv_bipush (v := 40) hx hb dX5_addStep_54 (by decide) ?_
    refine lv_icmp_ne (tgt := 61) hx hb dX5_addStep_56 rfl (fun c3 => ?_) (fun c3 => ?_)
    · have h := h_f c3 h
      refine lv_iload_n hx hb dX5_addStep_61 rfl (lv_at hl 1 rfl) ?_
      refine lv_bipush (v := 41) hx hb dX5_addStep_62 (by decide) ?_
      refine lv_icmp_ne (tgt := 80) hx hb dX5_addStep_64 rfl (fun c4 => ?_) (fun c4 => ?_)
      · have h := h_f c4 h
        refine lv_iload_n hx hb dX5_addStep_80 rfl (lv_at hl 2 rfl) ?_
        exact fin _ _ _ l2 w2 _ S h dX5_addStep_81
      · have h := h_t c4 h
        refine lv_iload_n hx hb dX5_addStep_67 rfl (lv_at hl 2 rfl) ?_
        refine lv_if_lt (tgt := 80) hx hb dX5_addStep_68 rfl (fun c5 => ?_) (fun c5 => ?_)
        · have h := h_t c5 h
          refine lv_iload_n hx hb dX5_addStep_80 rfl (lv_at hl 2 rfl) ?_
          exact fin _ _ _ l2 w2 _ S h dX5_addStep_81
        · have h := h_f c5 h
          refine lv_aload_n hx hb dX5_addStep_71 rfl (lv_at hl 0 rfl) ?_
          refine g_getR fl_RX5_18_X5 hx hb C S (KC_32 hro) rfl dX5_addStep_72 ?_
          refine lv_iload_n hx hb dX5_addStep_75 rfl (lv_at hl 2 rfl) ?_
          obtain ⟨g6, h⟩ := h_gd h
          refine r_iald hx hb C S (KC_56 hro) (h_in g6) dX5_addStep_76 ?_
          refine lv_goto (tgt := 81) hx hb dX5_addStep_77 rfl ?_
          exact fin _ _ _ (w2 (56 + ro) (l2).toNatClampNeg) w2 _ S h dX5_addStep_81
    · have h := h_t c3 h
      refine lv_iload_n hx hb dX5_addStep_59 rfl (lv_at hl 3 rfl) ?_
      exact fin _ _ _ l3 w2 _ S h dX5_addStep_60
  have lab47 : ∀ (l1 : Int32) (l2 : Int32) (l3 : Int32) (t0 : Int32) (w : Wt) (H : Heap) (locs : List Loc) (ls : Array Slot), lv_has ls 4 [(0, .ref (q (32 + ro))), (1, .int l1), (2, .int l2), (3, .int l3)] → Sta KC D dA q A s.heap w H locs → Option.bind (f_Rule_addStep_b47 ro l1 l2 l3 t0 w) some = some z → W p l e RM_f_Rule_addStep s m args below meth c H locs 0 0 Q (F0 m 47 ls [.int t0, .ref (q (56 + ro))]) := by
    intro l1 l2 l3 t0 w H locs ls hl S h
    unfold f_Rule_addStep_b47 at h
    refine lv_iload_n hx hb dX5_addStep_47 rfl (lv_at hl 2 rfl) ?_
    refine lv_goto (tgt := 52) hx hb dX5_addStep_48 rfl ?_
    exact lab52 l1 l2 l3 l2 t0 w _ _ _ (lv_sub hl [0, 1, 2, 3] rfl) S h
  intro H locs ls hl S h
  have h := h_0 h
  unfold f_Rule_addStep at h
  refine lv_aload_n hx hb dX5_addStep_0 rfl (lv_at hl 0 rfl) ?_
  refine g_get fl_RX5_29_X5 hx hb C S (KC_32 hro) rfl dX5_addStep_1 ?_
  refine lv_topi (fun v7 ev7 => ?_)
  have h := h_l h v7 ev7
  refine lv_istore_n (lv' := [(3, .int v7), (0, .ref (q (32 + ro))), (1, .int a1), (2, .int a2)]) hx hb dX5_addStep_4 rfl hl (Nat.le_of_ble_eq_true rfl) rfl (fun ls hl => ?_)
  refine lv_iload_n hx hb dX5_addStep_5 rfl (lv_at hl 0 rfl) ?_
  refine lv_bipush (v := 24) hx hb dX5_addStep_6 (by decide) ?_
  refine lv_icmp_lt (tgt := 13) hx hb dX5_addStep_8 rfl (fun c8 => ?_) (fun c8 => ?_)
  · have h := h_t c8 h
    refine lv_aload_n hx hb dX5_addStep_13 rfl (lv_at hl 1 rfl) ?_
    refine lv_dup hx hb dX5_addStep_14 rfl ?_
    refine g_get fl_RX5_29_X5 hx hb C S (KC_32 hro) rfl dX5_addStep_15 ?_
    refine lv_iconst (v := 1) hx hb dX5_addStep_18 (by decide) ?_
    refine lv_iadd hx hb dX5_addStep_19 ?_
    refine g_put fl_RX5_29_X5 pl_X5_4 hx hb C S (KC_32 hro) rfl ⟨rfl, rfl⟩ dX5_addStep_20 (fun w9 ew9 H locs S => ?_)
    have h := h_l h w9 ew9
    refine lv_aload_n hx hb dX5_addStep_23 rfl (lv_at hl 1 rfl) ?_
    refine g_getR fl_RX5_15_X5 hx hb C S (KC_32 hro) rfl dX5_addStep_24 ?_
    refine lv_iload_n hx hb dX5_addStep_27 rfl (lv_at hl 0 rfl) ?_
    refine lv_iload_n hx hb dX5_addStep_28 rfl (lv_at hl 2 rfl) ?_
    obtain ⟨g10, h⟩ := h_gd h
    refine r_cast hx hb C S (KC_48 hro) (h_in g10) dX5_addStep_29 (fun w11 ew11 H locs S => ?_)
    have h := h_l h w11 ew11
    refine lv_aload_n hx hb dX5_addStep_30 rfl (lv_at hl 1 rfl) ?_
    refine g_getR fl_RX5_18_X5 hx hb C S (KC_32 hro) rfl dX5_addStep_31 ?_
    refine lv_iload_n hx hb dX5_addStep_34 rfl (lv_at hl 0 rfl) ?_
    refine lv_iload_n hx hb dX5_addStep_35 rfl (lv_at hl 2 rfl) ?_
    refine lv_bipush (v := 40) hx hb dX5_addStep_36 (by decide) ?_
    refine lv_icmp_eq (tgt := 47) hx hb dX5_addStep_38 rfl (fun c12 => ?_) (fun c12 => ?_)
    · have h := h_t c12 h
      exact lab47 a1 a2 v7 v7 w11 _ _ _ (lv_sub hl [1, 2, 3, 0] rfl) S h
    · have h := h_f c12 h
      refine lv_iload_n hx hb dX5_addStep_41 rfl (lv_at hl 2 rfl) ?_
      refine lv_bipush (v := 41) hx hb dX5_addStep_42 (by decide) ?_
      refine lv_icmp_ne (tgt := 51) hx hb dX5_addStep_44 rfl (fun c13 => ?_) (fun c13 => ?_)
      · have h := h_f c13 h
        refine lv_iconst (v := 0) hx hb dX5_addStep_51 (by decide) ?_
        exact lab52 a1 a2 v7 (0 : Int32) v7 w11 _ _ _ (lv_sub hl [1, 2, 3, 0] rfl) S h
      · have h := h_t c13 h
        exact lab47 a1 a2 v7 v7 w11 _ _ _ (lv_sub hl [1, 2, 3, 0] rfl) S h
  · have h := h_f c8 h
    refine lv_iload_n hx hb dX5_addStep_11 rfl (lv_at hl 3 rfl) ?_
    exact fin _ _ _ a2 w _ S h dX5_addStep_12
theorem c_f_Rule_addStep (l : Launch) (D : va_G) (dA : Nat → ClassId) (q : Nat → Nat) (ro : Nat) (hro : ro < 8) (a1 : Int32) (a2 : Int32) (w w' : Wt) (r : Int32) (h : f_Rule_addStep ro a1 a2 w = some (r, w')) : Mi l EVc KC D dA q yX5_addStep cX5_addStep 4 (some .int) RM_f_Rule_addStep [.ref (q (32 + ro)), .int a1, .int a2] w r w' :=
  mk_i (by decide) rfl EVc_ok (Nat.le_of_ble_eq_true rfl) (fun p e s m args below meth c A Q ls hx hb hml C S hl fin => k_f_Rule_addStep ro hro a1 a2 w (r, w') hx hb hml C (fun H locs ls r' w2 pc S h d => fin H locs ls r' w2 pc S h d) _ _ _ hl S h)
/-! Ballotscript$Rule.take(LBallotscript$Text;)V f_Rule_take -/
def f_Rule_take_b129 (ro : Nat) (w : Wt) : Option Wt := some w
def f_Rule_take_L22 (ro : Nat) : (Int32 × Int32 × Wt) → Option ((Int32 × Int32 × Wt) ⊕ Wt)
  | (l2, l3, w) => (if (w (32 + ro) 3) ≤ l3 then some (.inr w) else gd (inb l3 24) (nmd (w 8 (l3).toNatClampNeg) fun v3 => gd (inb l3 24) (nmd (upd2 w (40 + ro) (l3).toNatClampNeg (vp_nar .char v3)) fun w5 => (if v3 = (59 : Int32) then nmd (upd2 w5 (32 + ro) 5 ((w5 (32 + ro) 5) + (1 : Int32))) fun w15 => some (.inl (l2, (l3 + 1), w15)) else Option.bind (f_Ballotscript_isDigit v3) fun x7 => (if x7 = (0 : Int32) then Option.bind (f_Rule_addStep ro v3 l2 w5) fun x13 => nmd x13.1 fun v14 => some (.inl (v14, (l3 + 1), x13.2)) else (if (w5 (32 + ro) 4) ≤ (0 : Int32) then some (.inl (l2, (l3 + 1), w5)) else gd (inb ((w5 (32 + ro) 4) - (1 : Int32)) 24) (gd (inb ((w5 (32 + ro) 4) - (1 : Int32)) 24) (nmd (upd2 w5 (56 + ro) (((w5 (32 + ro) 4) - (1 : Int32))).toNatClampNeg (((10 : Int32) * (w5 (56 + ro) (((w5 (32 + ro) 4) - (1 : Int32))).toNatClampNeg)) + (v3 - (48 : Int32)))) fun w12 => some (.inl (l2, (l3 + 1), w12))))))))))
def f_Rule_take_x22 (ro : Nat) : Wt → Option Wt
  | w => f_Rule_take_b129 ro w
def f_Rule_take (ro : Nat) (w : Wt) : Option Wt := nmd (upd2 w (32 + ro) 3 (w 7 1)) fun w16 => nmd (upd2 w16 (32 + ro) 4 (0 : Int32)) fun w17 => nmd (upd2 w17 (32 + ro) 5 (0 : Int32)) fun w18 => Option.bind (lp (f_Rule_take_L22 ro) FU ((-1 : Int32), (0 : Int32), w18)) (f_Rule_take_x22 ro)
def RM_f_Rule_take : Room := { frames := 1, cells := 0, slots := 0, locals := 23 }
set_option maxHeartbeats 4000000 in
set_option maxRecDepth 20000 in
theorem k_f_Rule_take (ro : Nat) (hro : ro < 8) (w : Wt) (z : Wt) (hx : p.tables.exec = Jvm.exec) (hb : c.code = cX5_take) (hml : c.maxLocals = 5) (C : Cx EVc KC D dA q A s m args RX5) (fin : ∀ (H : Heap) (locs : List Loc) (ls : Array Slot) (w2 : Wt) (pc : Nat) , Sta KC D dA q A s.heap w2 H locs → some w2 = some z → decode cX5_take pc = .ok (.return_, 1) → W p l e RM_f_Rule_take s m args below meth c H locs 0 0 Q (F0 m pc ls [])) : ∀ (H : Heap) (locs : List Loc) (ls : Array Slot), lv_has ls 5 [(0, .ref (q (32 + ro))), (1, .ref (q 7))] → Sta KC D dA q A s.heap w H locs → f_Rule_take ro w = some z → W p l e RM_f_Rule_take s m args below meth c H locs 0 0 Q (F0 m 0 ls []) := by
  have ev : evOk EVc := EVc_ok
  have lab129 : ∀ (w : Wt) (H : Heap) (locs : List Loc) (ls : Array Slot), lv_has ls 5 [] → Sta KC D dA q A s.heap w H locs → Option.bind (f_Rule_take_b129 ro w) some = some z → W p l e RM_f_Rule_take s m args below meth c H locs 0 0 Q (F0 m 129 ls []) := by
    intro  w H locs ls hl S h
    unfold f_Rule_take_b129 at h
    exact fin _ _ _ w _ S h dX5_take_129
  have loop22 : ∀ (n22 : Nat), ∀ (l2 : Int32) (l3 : Int32) (w : Wt) (H : Heap) (locs : List Loc) (ls : Array Slot), lv_has ls 5 [(0, .ref (q (32 + ro))), (1, .ref (q 7)), (2, .int l2), (3, .int l3)] → Sta KC D dA q A s.heap w H locs → Option.bind (lp (f_Rule_take_L22 ro) n22 (l2, l3, w)) (fun x9 => Option.bind (f_Rule_take_x22 ro x9) some) = some z → W p l e RM_f_Rule_take s m args below meth c H locs 0 0 Q (F0 m 22 ls []) := by
    intro  n22
    induction n22 with
    | zero =>
      intro l2 l3 w H locs ls hl S h
      exact (h_lp0 h).elim
    | succ n22 ih22 =>
      intro l2 l3 w H locs ls hl S h
      have h := h_lp h
      unfold f_Rule_take_L22 at h
      refine lv_iload_n hx hb dX5_take_22 rfl (lv_at hl 3 rfl) ?_
      refine lv_aload_n hx hb dX5_take_23 rfl (lv_at hl 0 rfl) ?_
      refine g_get fl_RX5_28_X5 hx hb C S (KC_32 hro) rfl dX5_take_24 ?_
      refine lv_icmp_ge (tgt := 129) hx hb dX5_take_27 rfl (fun c1 => ?_) (fun c1 => ?_)
      · have h := h_t c1 h
        exact lab129 w _ _ _ (lv_sub hl [] rfl) S h
      · have h := h_f c1 h
        refine lv_aload_n hx hb dX5_take_30 rfl (lv_at hl 1 rfl) ?_
        refine g_getR fl_RX5_35_X7 hx hb C S KC_7 rfl dX5_take_31 ?_
        refine lv_iload_n hx hb dX5_take_34 rfl (lv_at hl 3 rfl) ?_
        obtain ⟨g2, h⟩ := h_gd h
        refine r_cald hx hb C S KC_8 (h_in g2) dX5_take_35 ?_
        refine lv_topi (fun v3 ev3 => ?_)
        have h := h_l h v3 ev3
        refine lv_istore (lv' := [(4, .int v3), (0, .ref (q (32 + ro))), (1, .ref (q 7)), (2, .int l2), (3, .int l3)]) hx hb dX5_take_36 hl (Nat.le_of_ble_eq_true rfl) rfl (fun ls hl => ?_)
        refine lv_aload_n hx hb dX5_take_38 rfl (lv_at hl 1 rfl) ?_
        refine g_getR fl_RX5_9_X5 hx hb C S (KC_32 hro) rfl dX5_take_39 ?_
        refine lv_iload_n hx hb dX5_take_42 rfl (lv_at hl 4 rfl) ?_
        refine lv_iload hx hb dX5_take_43 (lv_at hl 0 rfl) ?_
        obtain ⟨g4, h⟩ := h_gd h
        refine r_cast hx hb C S (KC_40 hro) (h_in g4) dX5_take_45 (fun w5 ew5 H locs S => ?_)
        have h := h_l h w5 ew5
        refine lv_iload hx hb dX5_take_46 (lv_at hl 0 rfl) ?_
        refine lv_bipush (v := 59) hx hb dX5_take_48 (by decide) ?_
        refine lv_icmp_ne (tgt := 66) hx hb dX5_take_50 rfl (fun c6 => ?_) (fun c6 => ?_)
        · have h := h_f c6 h
          refine lv_iload hx hb dX5_take_66 (lv_at hl 0 rfl) ?_
          obtain ⟨x7, ex7, h⟩ := h_c h
          refine k_i C S (q_N (rest := []) (As := [.int v3]) lk_RX5_36 (nm_lk_RX5_36 C) ev hx hb hml C S (c_f_Ballotscript_isDigit l D dA q v3 w5 x7 ex7 _) rfl rfl ⟨(Nat.le_of_ble_eq_true rfl), (Nat.le_of_ble_eq_true rfl)⟩ rfl hl.1 rfl (Nat.le_of_ble_eq_true rfl) dX5_take_68 ⟨(Nat.le_of_ble_eq_true rfl), (Nat.le_of_ble_eq_true rfl)⟩) (fun H locs S => ?_)
          refine lv_if_ne (tgt := 85) hx hb dX5_take_71 rfl (fun c8 => ?_) (fun c8 => ?_)
          · have h := h_f c8 h
            refine lv_aload_n hx hb dX5_take_85 rfl (lv_at hl 1 rfl) ?_
            refine g_get fl_RX5_29_X5 hx hb C S (KC_32 hro) rfl dX5_take_86 ?_
            refine lv_if_le (tgt := 123) hx hb dX5_take_89 rfl (fun c9 => ?_) (fun c9 => ?_)
            · have h := h_t c9 h
              refine lv_iinc (v := (l3 + 1)) (lv' := [(3, .int (l3 + 1)), (4, .int v3), (0, .ref (q (32 + ro))), (1, .ref (q 7)), (2, .int l2)]) hx hb dX5_take_123 hl (k := 4) rfl rfl (Nat.le_of_ble_eq_true rfl) rfl (fun ls hl => ?_)
              refine lv_goto (tgt := 22) hx hb dX5_take_126 rfl ?_
              exact ih22 l2 (l3 + 1) w5 _ _ _ (lv_sub hl [2, 3, 4, 0] rfl) S h
            · have h := h_f c9 h
              refine lv_aload_n hx hb dX5_take_92 rfl (lv_at hl 1 rfl) ?_
              refine g_getR fl_RX5_18_X5 hx hb C S (KC_32 hro) rfl dX5_take_93 ?_
              refine lv_aload_n hx hb dX5_take_96 rfl (lv_at hl 1 rfl) ?_
              refine g_get fl_RX5_29_X5 hx hb C S (KC_32 hro) rfl dX5_take_97 ?_
              refine lv_iconst (v := 1) hx hb dX5_take_100 (by decide) ?_
              refine lv_isub hx hb dX5_take_101 ?_
              refine lv_bipush (v := 10) hx hb dX5_take_102 (by decide) ?_
              refine lv_aload_n hx hb dX5_take_104 rfl (lv_at hl 1 rfl) ?_
              refine g_getR fl_RX5_18_X5 hx hb C S (KC_32 hro) rfl dX5_take_105 ?_
              refine lv_aload_n hx hb dX5_take_108 rfl (lv_at hl 1 rfl) ?_
              refine g_get fl_RX5_29_X5 hx hb C S (KC_32 hro) rfl dX5_take_109 ?_
              refine lv_iconst (v := 1) hx hb dX5_take_112 (by decide) ?_
              refine lv_isub hx hb dX5_take_113 ?_
              obtain ⟨g10, h⟩ := h_gd h
              refine r_iald hx hb C S (KC_56 hro) (h_in g10) dX5_take_114 ?_
              refine lv_imul hx hb dX5_take_115 ?_
              refine lv_iload hx hb dX5_take_116 (lv_at hl 0 rfl) ?_
              refine lv_bipush (v := 48) hx hb dX5_take_118 (by decide) ?_
              refine lv_isub hx hb dX5_take_120 ?_
              refine lv_iadd hx hb dX5_take_121 ?_
              obtain ⟨g11, h⟩ := h_gd h
              refine r_iast hx hb C S (KC_56 hro) (h_in g11) dX5_take_122 (fun w12 ew12 H locs S => ?_)
              have h := h_l h w12 ew12
              refine lv_iinc (v := (l3 + 1)) (lv' := [(3, .int (l3 + 1)), (4, .int v3), (0, .ref (q (32 + ro))), (1, .ref (q 7)), (2, .int l2)]) hx hb dX5_take_123 hl (k := 4) rfl rfl (Nat.le_of_ble_eq_true rfl) rfl (fun ls hl => ?_)
              refine lv_goto (tgt := 22) hx hb dX5_take_126 rfl ?_
              exact ih22 l2 (l3 + 1) w12 _ _ _ (lv_sub hl [2, 3, 4, 0] rfl) S h
          · have h := h_t c8 h
            refine lv_aload_n hx hb dX5_take_74 rfl (lv_at hl 1 rfl) ?_
            refine lv_iload hx hb dX5_take_75 (lv_at hl 0 rfl) ?_
            refine lv_iload_n hx hb dX5_take_77 rfl (lv_at hl 3 rfl) ?_
            obtain ⟨x13, ex13, h⟩ := h_c h
            refine k_i C S (q_V (rest := []) (As := [.int v3, .int l2]) lk_RX5_40 ev hx hb hml C S (KC_32 hro) rfl (c_f_Rule_addStep l D dA q ro hro v3 l2 w5 x13.2 x13.1 ex13 _) rfl rfl ⟨(Nat.le_of_ble_eq_true rfl), (Nat.le_of_ble_eq_true rfl)⟩ rfl hl.1 rfl (Nat.le_of_ble_eq_true rfl) dX5_take_78 ⟨(Nat.le_of_ble_eq_true rfl), (Nat.le_of_ble_eq_true rfl)⟩) (fun H locs S => ?_)
            refine lv_topi (fun v14 ev14 => ?_)
            have h := h_l h v14 ev14
            refine lv_istore_n (lv' := [(2, .int v14), (4, .int v3), (0, .ref (q (32 + ro))), (1, .ref (q 7)), (3, .int l3)]) hx hb dX5_take_81 rfl hl (Nat.le_of_ble_eq_true rfl) rfl (fun ls hl => ?_)
            refine lv_goto (tgt := 123) hx hb dX5_take_82 rfl ?_
            refine lv_iinc (v := (l3 + 1)) (lv' := [(3, .int (l3 + 1)), (2, .int v14), (4, .int v3), (0, .ref (q (32 + ro))), (1, .ref (q 7))]) hx hb dX5_take_123 hl (k := 4) rfl rfl (Nat.le_of_ble_eq_true rfl) rfl (fun ls hl => ?_)
            refine lv_goto (tgt := 22) hx hb dX5_take_126 rfl ?_
            exact ih22 v14 (l3 + 1) x13.2 _ _ _ (lv_sub hl [3, 4, 1, 0] rfl) S h
        · have h := h_t c6 h
          refine lv_aload_n hx hb dX5_take_53 rfl (lv_at hl 1 rfl) ?_
          refine lv_dup hx hb dX5_take_54 rfl ?_
          refine g_get fl_RX5_32_X5 hx hb C S (KC_32 hro) rfl dX5_take_55 ?_
          refine lv_iconst (v := 1) hx hb dX5_take_58 (by decide) ?_
          refine lv_iadd hx hb dX5_take_59 ?_
          refine g_put fl_RX5_32_X5 pl_X5_5 hx hb C S (KC_32 hro) rfl ⟨rfl, rfl⟩ dX5_take_60 (fun w15 ew15 H locs S => ?_)
          have h := h_l h w15 ew15
          refine lv_goto (tgt := 123) hx hb dX5_take_63 rfl ?_
          refine lv_iinc (v := (l3 + 1)) (lv' := [(3, .int (l3 + 1)), (4, .int v3), (0, .ref (q (32 + ro))), (1, .ref (q 7)), (2, .int l2)]) hx hb dX5_take_123 hl (k := 4) rfl rfl (Nat.le_of_ble_eq_true rfl) rfl (fun ls hl => ?_)
          refine lv_goto (tgt := 22) hx hb dX5_take_126 rfl ?_
          exact ih22 l2 (l3 + 1) w15 _ _ _ (lv_sub hl [2, 3, 4, 0] rfl) S h
  intro H locs ls hl S h
  have h := h_0 h
  unfold f_Rule_take at h
  refine lv_aload_n hx hb dX5_take_0 rfl (lv_at hl 0 rfl) ?_
  refine lv_aload_n hx hb dX5_take_1 rfl (lv_at hl 1 rfl) ?_
  refine g_get fl_RX5_22_X7 hx hb C S KC_7 rfl dX5_take_2 ?_
  refine g_put fl_RX5_28_X5 pl_X5_3 hx hb C S (KC_32 hro) rfl ⟨rfl, rfl⟩ dX5_take_5 (fun w16 ew16 H locs S => ?_)
  have h := h_l h w16 ew16
  refine lv_aload_n hx hb dX5_take_8 rfl (lv_at hl 0 rfl) ?_
  refine lv_iconst (v := 0) hx hb dX5_take_9 (by decide) ?_
  refine g_put fl_RX5_29_X5 pl_X5_4 hx hb C S (KC_32 hro) rfl ⟨rfl, rfl⟩ dX5_take_10 (fun w17 ew17 H locs S => ?_)
  have h := h_l h w17 ew17
  refine lv_aload_n hx hb dX5_take_13 rfl (lv_at hl 0 rfl) ?_
  refine lv_iconst (v := 0) hx hb dX5_take_14 (by decide) ?_
  refine g_put fl_RX5_32_X5 pl_X5_5 hx hb C S (KC_32 hro) rfl ⟨rfl, rfl⟩ dX5_take_15 (fun w18 ew18 H locs S => ?_)
  have h := h_l h w18 ew18
  refine lv_iconst (v := -1) hx hb dX5_take_18 (by decide) ?_
  refine lv_istore_n (lv' := [(2, .int (-1 : Int32)), (0, .ref (q (32 + ro))), (1, .ref (q 7))]) hx hb dX5_take_19 rfl hl (Nat.le_of_ble_eq_true rfl) rfl (fun ls hl => ?_)
  refine lv_iconst (v := 0) hx hb dX5_take_20 (by decide) ?_
  refine lv_istore_n (lv' := [(3, .int (0 : Int32)), (2, .int (-1 : Int32)), (0, .ref (q (32 + ro))), (1, .ref (q 7))]) hx hb dX5_take_21 rfl hl (Nat.le_of_ble_eq_true rfl) rfl (fun ls hl => ?_)
  exact loop22  FU (-1 : Int32) (0 : Int32) w18 _ _ _ (lv_sub hl [2, 3, 1, 0] rfl) S (h_bb h)
theorem c_f_Rule_take (l : Launch) (D : va_G) (dA : Nat → ClassId) (q : Nat → Nat) (ro : Nat) (hro : ro < 8) (w w' : Wt) (h : f_Rule_take ro w = some w') : Mv l EVc KC D dA q yX5_take cX5_take 5 none RM_f_Rule_take [.ref (q (32 + ro)), .ref (q 7)] w w' :=
  mk_v (by decide) rfl EVc_ok (Nat.le_of_ble_eq_true rfl) (fun p e s m args below meth c A Q ls hx hb hml C S hl fin => k_f_Rule_take ro hro w w' hx hb hml C (fun H locs ls w2 pc S h d => fin H locs ls w2 pc S h d) _ _ _ hl S h)
end WALKS

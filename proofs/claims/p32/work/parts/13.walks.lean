section WALKS
variable {p : Program} {l : Launch} {e : Env} {s : State} {m : MethodId} {args : Array Value} {below : List Frame} {meth : Method} {c : Code} {Q : State → Prop} {D : va_G} {dA : Nat → ClassId} {q : Nat → Nat} {A : Nat → Prop}
/-! Ballotscript.rule()I f_Ballotscript_rule -/
def f_Ballotscript_rule (w : Wt) : Option ((Nat ⊕ Int32) × Wt) := Option.bind (f_Text_firstFault w) fun x1 => (if x1 = (-1 : Int32) then (if (w 0 9) < (8 : Int32) then gd (inb (w 0 9) 8) (Option.bind (f_Rule_take (((w 0 9)).toNatClampNeg) w) fun x5 => nmd (upd2 x5 0 9 ((x5 0 9) + (1 : Int32))) fun w6 => some (.inr ((w6 0 9) - (1 : Int32)), w6)) else some (.inl 2, w)) else some (.inl 1, w))
def RM_f_Ballotscript_rule : Room := { frames := 10, cells := 4, slots := 24, locals := 246 }
set_option maxHeartbeats 4000000 in
set_option maxRecDepth 20000 in
theorem k_f_Ballotscript_rule (w : Wt) (z : ((Nat ⊕ Int32) × Wt)) (hfl : l.stackTraces = false) (hx : p.tables.exec = Jvm.exec) (hb : c.code = cX9_rule) (hml : c.maxLocals = 1) (C : Cx EVc KC D dA q A s m args RX9) (fin : ∀ (H : Heap) (locs : List Loc) (ls : Array Slot) (r' : Int32) (w2 : Wt) (pc : Nat) (cl sl : Nat) , cl ≤ 4 → sl ≤ 24 → Sta KC D dA q A s.heap w2 H locs → some ((.inr r' : Nat ⊕ Int32), w2) = some z → decode cX9_rule pc = .ok (.ireturn, 1) → W p l e RM_f_Ballotscript_rule s m args below meth c H locs cl sl Q (F0 m pc ls [.int r'])) (thr : ∀ (H : Heap) (locs : List Loc) (ls : Array Slot) (w2 : Wt) (k pc cl sl : Nat), cl + 1 ≤ 4 → sl + 6 ≤ 24 → ls.size = 1 → Sta KC D dA q A s.heap w2 H locs → some ((.inl k : Nat ⊕ Int32), w2) = some z → thF RX9 cX9_rule pc k → W p l e RM_f_Ballotscript_rule s m args below meth c H locs cl sl Q (F0 m pc ls [])) (pro : ∀ (H : Heap) (locs : List Loc) (ls : Array Slot) (w2 : Wt) (k pc cl sl : Nat) (rest : List Value) (q9 : Nat) (ce : Cell), cl ≤ 4 → sl ≤ 24 → Sta KC D dA q A s.heap w2 H locs → some ((.inl k : Nat ⊕ Int32), w2) = some z → H[q9]? = some ce → ce.vm = .none → s.vm.findClass (exn k) = some ce.cls → vx_W p l e RM_f_Ballotscript_rule s m args below meth c H locs cl sl Q (F0 m pc ls rest) q9) : ∀ (H : Heap) (locs : List Loc) (ls : Array Slot), lv_has ls 1 [(0, .ref (q 0))] → Sta KC D dA q A s.heap w H locs → f_Ballotscript_rule w = some z → W p l e RM_f_Ballotscript_rule s m args below meth c H locs 0 0 Q (F0 m 0 ls []) := by
  have ev : evOk EVc := EVc_ok
  intro H locs ls hl S h
  have h := h_0 h
  unfold f_Ballotscript_rule at h
  refine lv_aload_n hx hb dX9_rule_0 rfl (lv_at hl 0 rfl) ?_
  refine g_getR fl_RX9_19_X9 hx hb C S KC_0 rfl dX9_rule_1 ?_
  obtain ⟨x1, ex1, h⟩ := h_c h
  refine k_i C S (q_V (rest := []) (As := []) lk_RX9_134 ev hx hb hml C S KC_7 rfl (c_f_Text_firstFault l D dA q w x1 ex1 _) rfl rfl ⟨(Nat.le_of_ble_eq_true rfl), (Nat.le_of_ble_eq_true rfl)⟩ rfl hl.1 rfl (Nat.le_of_ble_eq_true rfl) dX9_rule_4 ⟨(Nat.le_of_ble_eq_true rfl), (Nat.le_of_ble_eq_true rfl)⟩) (fun H locs S => ?_)
  refine lv_iconst (v := -1) hx hb dX9_rule_7 (by decide) ?_
  refine lv_icmp_eq (tgt := 21) hx hb dX9_rule_8 rfl (fun c2 => ?_) (fun c2 => ?_)
  · have h := h_t c2 h
    refine lv_aload_n hx hb dX9_rule_21 rfl (lv_at hl 0 rfl) ?_
    refine g_get fl_RX9_139_X9 hx hb C S KC_0 rfl dX9_rule_22 ?_
    refine lv_bipush (v := 8) hx hb dX9_rule_25 (by decide) ?_
    refine lv_icmp_lt (tgt := 40) hx hb dX9_rule_27 rfl (fun c3 => ?_) (fun c3 => ?_)
    · have h := h_t c3 h
      refine lv_aload_n hx hb dX9_rule_40 rfl (lv_at hl 0 rfl) ?_
      refine g_getR fl_RX9_25_X9 hx hb C S KC_0 rfl dX9_rule_41 ?_
      refine lv_aload_n hx hb dX9_rule_44 rfl (lv_at hl 0 rfl) ?_
      refine g_get fl_RX9_139_X9 hx hb C S KC_0 rfl dX9_rule_45 ?_
      obtain ⟨g4, h⟩ := h_gd h
      refine r_aald (t := 3) rfl hx hb C S KC_9 (h_in g4) dX9_rule_48 ?_
      refine lv_aload_n hx hb dX9_rule_49 rfl (lv_at hl 0 rfl) ?_
      refine g_getR fl_RX9_19_X9 hx hb C S KC_0 rfl dX9_rule_50 ?_
      obtain ⟨x5, ex5, h⟩ := h_c h
      refine k_v C S (q_V (rest := []) (As := [.ref (q 7)]) lk_RX9_144 ev hx hb hml C S (KC_32 (nt_lt (h_in g4))) rfl (c_f_Rule_take l D dA q (((w 0 9)).toNatClampNeg) (nt_lt (h_in g4)) w x5 ex5 _) rfl rfl ⟨(Nat.le_of_ble_eq_true rfl), (Nat.le_of_ble_eq_true rfl)⟩ rfl hl.1 rfl (Nat.le_of_ble_eq_true rfl) dX9_rule_53 ⟨(Nat.le_of_ble_eq_true rfl), (Nat.le_of_ble_eq_true rfl)⟩) (fun H locs S => ?_)
      refine lv_aload_n hx hb dX9_rule_56 rfl (lv_at hl 0 rfl) ?_
      refine lv_dup hx hb dX9_rule_57 rfl ?_
      refine g_get fl_RX9_139_X9 hx hb C S KC_0 rfl dX9_rule_58 ?_
      refine lv_iconst (v := 1) hx hb dX9_rule_61 (by decide) ?_
      refine lv_iadd hx hb dX9_rule_62 ?_
      refine g_put fl_RX9_139_X9 pl_X9_9 hx hb C S KC_0 rfl ⟨rfl, rfl⟩ dX9_rule_63 (fun w6 ew6 H locs S => ?_)
      have h := h_l h w6 ew6
      refine lv_aload_n hx hb dX9_rule_66 rfl (lv_at hl 0 rfl) ?_
      refine g_get fl_RX9_139_X9 hx hb C S KC_0 rfl dX9_rule_67 ?_
      refine lv_iconst (v := 1) hx hb dX9_rule_70 (by decide) ?_
      refine lv_isub hx hb dX9_rule_71 ?_
      exact fin _ _ _ ((w6 0 9) - (1 : Int32)) w6 _ 0 0 (Nat.le_of_ble_eq_true rfl) (Nat.le_of_ble_eq_true rfl) S h dX9_rule_72
    · have h := h_f c3 h
      exact thr _ _ _ w _ _ 0 0 (Nat.le_of_ble_eq_true rfl) (Nat.le_of_ble_eq_true rfl) hl.1 S h th_X9_rule_30
  · have h := h_f c2 h
    exact thr _ _ _ w _ _ 0 0 (Nat.le_of_ble_eq_true rfl) (Nat.le_of_ble_eq_true rfl) hl.1 S h th_X9_rule_11
theorem c_f_Ballotscript_rule (l : Launch) (hfl : l.stackTraces = false) (D : va_G) (dA : Nat → ClassId) (q : Nat → Nat) (w w' : Wt) (res : Nat ⊕ Int32) (h : f_Ballotscript_rule w = some (res, w')) : Xi l EVc KC D dA q yX9_rule cX9_rule 1 (some .int) RM_f_Ballotscript_rule 4 24 [.ref (q 0)] w res w' :=
  mx_i (by decide) rfl hfl (Nat.le_of_ble_eq_true rfl) (Nat.le_of_ble_eq_true rfl) (Nat.le_of_ble_eq_true rfl) rfl rfl (fun p e s m args below meth c A Q ls hx hb hml C S hl fin thr pro => k_f_Ballotscript_rule w (res, w') hfl hx hb hml C (fun H locs ls r' w2 pc cl sl hc hs S h d => fin H locs ls r' w2 pc cl sl hc hs S h d) (fun H locs ls w2 k pc cl sl hc hs hz S h t => thr H locs ls w2 k pc cl sl hc hs hz S h t) (fun H locs ls w2 k pc cl sl rest q9 ce hc hs S h h1 h2 h3 => pro H locs ls w2 k pc cl sl rest q9 ce hc hs S h h1 h2 h3) _ _ _ hl S h)
/-! Ballotscript$Box.gather(I)V f_Box_gather -/
def f_Box_gather_b59 (w : Wt) : Option Wt := some w
def f_Box_gather_L7 (l1 : Int32) : (Int32 × Wt) → Option ((Int32 × Wt) ⊕ Wt)
  | (l2, w) => (if (w 13 8) ≤ l2 then some (.inr w) else gd (inb l2 100) ((if (w 14 (l2).toNatClampNeg) = l1 then Option.bind (f_Box_reasonOf l2 w) fun x4 => (if x4 = (0 : Int32) then gd (inb (w 13 10) 100) (nmd (upd2 w 21 ((w 13 10)).toNatClampNeg l2) fun w7 => nmd (upd2 w7 13 10 ((w7 13 10) + (1 : Int32))) fun w8 => some (.inl ((l2 + 1), w8))) else some (.inl ((l2 + 1), w))) else some (.inl ((l2 + 1), w)))))
def f_Box_gather_x7 : Wt → Option Wt
  | w => f_Box_gather_b59 w
def f_Box_gather (a1 : Int32) (w : Wt) : Option Wt := nmd (upd2 w 13 10 (0 : Int32)) fun w9 => Option.bind (lp (f_Box_gather_L7 a1) FU ((0 : Int32), w9)) (f_Box_gather_x7)
def RM_f_Box_gather : Room := { frames := 3, cells := 0, slots := 0, locals := 68 }
set_option maxHeartbeats 4000000 in
set_option maxRecDepth 20000 in
theorem k_f_Box_gather (a1 : Int32) (w : Wt) (z : Wt) (hx : p.tables.exec = Jvm.exec) (hb : c.code = cX0_gather) (hml : c.maxLocals = 3) (C : Cx EVc KC D dA q A s m args RX0) (fin : ∀ (H : Heap) (locs : List Loc) (ls : Array Slot) (w2 : Wt) (pc : Nat) , Sta KC D dA q A s.heap w2 H locs → some w2 = some z → decode cX0_gather pc = .ok (.return_, 1) → W p l e RM_f_Box_gather s m args below meth c H locs 0 0 Q (F0 m pc ls [])) : ∀ (H : Heap) (locs : List Loc) (ls : Array Slot), lv_has ls 3 [(0, .ref (q 13)), (1, .int a1)] → Sta KC D dA q A s.heap w H locs → f_Box_gather a1 w = some z → W p l e RM_f_Box_gather s m args below meth c H locs 0 0 Q (F0 m 0 ls []) := by
  have ev : evOk EVc := EVc_ok
  have lab59 : ∀ (w : Wt) (H : Heap) (locs : List Loc) (ls : Array Slot), lv_has ls 3 [] → Sta KC D dA q A s.heap w H locs → Option.bind (f_Box_gather_b59 w) some = some z → W p l e RM_f_Box_gather s m args below meth c H locs 0 0 Q (F0 m 59 ls []) := by
    intro  w H locs ls hl S h
    unfold f_Box_gather_b59 at h
    exact fin _ _ _ w _ S h dX0_gather_59
  have loop7 : ∀ (l1 : Int32) (n7 : Nat), ∀ (l2 : Int32) (w : Wt) (H : Heap) (locs : List Loc) (ls : Array Slot), lv_has ls 3 [(0, .ref (q 13)), (1, .int l1), (2, .int l2)] → Sta KC D dA q A s.heap w H locs → Option.bind (lp (f_Box_gather_L7 l1) n7 (l2, w)) (fun x9 => Option.bind (f_Box_gather_x7 x9) some) = some z → W p l e RM_f_Box_gather s m args below meth c H locs 0 0 Q (F0 m 7 ls []) := by
    intro l1 n7
    induction n7 with
    | zero =>
      intro l2 w H locs ls hl S h
      exact (h_lp0 h).elim
    | succ n7 ih7 =>
      intro l2 w H locs ls hl S h
      have h := h_lp h
      unfold f_Box_gather_L7 at h
      refine lv_iload_n hx hb dX0_gather_7 rfl (lv_at hl 2 rfl) ?_
      refine lv_aload_n hx hb dX0_gather_8 rfl (lv_at hl 0 rfl) ?_
      refine g_get fl_RX0_41_X0 hx hb C S KC_13 rfl dX0_gather_9 ?_
      refine lv_icmp_ge (tgt := 59) hx hb dX0_gather_12 rfl (fun c1 => ?_) (fun c1 => ?_)
      · have h := h_t c1 h
        exact lab59 w _ _ _ (lv_sub hl [] rfl) S h
      · have h := h_f c1 h
        refine lv_aload_n hx hb dX0_gather_15 rfl (lv_at hl 0 rfl) ?_
        refine g_getR fl_RX0_9_X0 hx hb C S KC_13 rfl dX0_gather_16 ?_
        refine lv_iload_n hx hb dX0_gather_19 rfl (lv_at hl 2 rfl) ?_
        obtain ⟨g2, h⟩ := h_gd h
        refine r_iald hx hb C S KC_14 (h_in g2) dX0_gather_20 ?_
        refine lv_iload_n hx hb dX0_gather_21 rfl (lv_at hl 1 rfl) ?_
        refine lv_icmp_ne (tgt := 53) hx hb dX0_gather_22 rfl (fun c3 => ?_) (fun c3 => ?_)
        · have h := h_f c3 h
          refine lv_iinc (v := (l2 + 1)) (lv' := [(2, .int (l2 + 1)), (0, .ref (q 13)), (1, .int l1)]) hx hb dX0_gather_53 hl (k := 2) rfl rfl (Nat.le_of_ble_eq_true rfl) rfl (fun ls hl => ?_)
          refine lv_goto (tgt := 7) hx hb dX0_gather_56 rfl ?_
          exact ih7 (l2 + 1) w _ _ _ (lv_sub hl [1, 2, 0] rfl) S h
        · have h := h_t c3 h
          refine lv_aload_n hx hb dX0_gather_25 rfl (lv_at hl 0 rfl) ?_
          refine lv_iload_n hx hb dX0_gather_26 rfl (lv_at hl 2 rfl) ?_
          obtain ⟨x4, ex4, h⟩ := h_c h
          refine k_i C S (q_V (rest := []) (As := [.int l2]) lk_RX0_60 ev hx hb hml C S KC_13 rfl (c_f_Box_reasonOf l D dA q l2 w x4 ex4 _) rfl rfl ⟨(Nat.le_of_ble_eq_true rfl), (Nat.le_of_ble_eq_true rfl)⟩ rfl hl.1 rfl (Nat.le_of_ble_eq_true rfl) dX0_gather_27 ⟨(Nat.le_of_ble_eq_true rfl), (Nat.le_of_ble_eq_true rfl)⟩) (fun H locs S => ?_)
          refine lv_if_ne (tgt := 53) hx hb dX0_gather_30 rfl (fun c5 => ?_) (fun c5 => ?_)
          · have h := h_f c5 h
            refine lv_iinc (v := (l2 + 1)) (lv' := [(2, .int (l2 + 1)), (0, .ref (q 13)), (1, .int l1)]) hx hb dX0_gather_53 hl (k := 2) rfl rfl (Nat.le_of_ble_eq_true rfl) rfl (fun ls hl => ?_)
            refine lv_goto (tgt := 7) hx hb dX0_gather_56 rfl ?_
            exact ih7 (l2 + 1) w _ _ _ (lv_sub hl [1, 2, 0] rfl) S h
          · have h := h_t c5 h
            refine lv_aload_n hx hb dX0_gather_33 rfl (lv_at hl 0 rfl) ?_
            refine g_getR fl_RX0_34_X0 hx hb C S KC_13 rfl dX0_gather_34 ?_
            refine lv_aload_n hx hb dX0_gather_37 rfl (lv_at hl 0 rfl) ?_
            refine g_get fl_RX0_57_X0 hx hb C S KC_13 rfl dX0_gather_38 ?_
            refine lv_iload_n hx hb dX0_gather_41 rfl (lv_at hl 2 rfl) ?_
            obtain ⟨g6, h⟩ := h_gd h
            refine r_iast hx hb C S KC_21 (h_in g6) dX0_gather_42 (fun w7 ew7 H locs S => ?_)
            have h := h_l h w7 ew7
            refine lv_aload_n hx hb dX0_gather_43 rfl (lv_at hl 0 rfl) ?_
            refine lv_dup hx hb dX0_gather_44 rfl ?_
            refine g_get fl_RX0_57_X0 hx hb C S KC_13 rfl dX0_gather_45 ?_
            refine lv_iconst (v := 1) hx hb dX0_gather_48 (by decide) ?_
            refine lv_iadd hx hb dX0_gather_49 ?_
            refine g_put fl_RX0_57_X0 pl_X0_10 hx hb C S KC_13 rfl ⟨rfl, rfl⟩ dX0_gather_50 (fun w8 ew8 H locs S => ?_)
            have h := h_l h w8 ew8
            refine lv_iinc (v := (l2 + 1)) (lv' := [(2, .int (l2 + 1)), (0, .ref (q 13)), (1, .int l1)]) hx hb dX0_gather_53 hl (k := 2) rfl rfl (Nat.le_of_ble_eq_true rfl) rfl (fun ls hl => ?_)
            refine lv_goto (tgt := 7) hx hb dX0_gather_56 rfl ?_
            exact ih7 (l2 + 1) w8 _ _ _ (lv_sub hl [1, 2, 0] rfl) S h
  intro H locs ls hl S h
  have h := h_0 h
  unfold f_Box_gather at h
  refine lv_aload_n hx hb dX0_gather_0 rfl (lv_at hl 0 rfl) ?_
  refine lv_iconst (v := 0) hx hb dX0_gather_1 (by decide) ?_
  refine g_put fl_RX0_57_X0 pl_X0_10 hx hb C S KC_13 rfl ⟨rfl, rfl⟩ dX0_gather_2 (fun w9 ew9 H locs S => ?_)
  have h := h_l h w9 ew9
  refine lv_iconst (v := 0) hx hb dX0_gather_5 (by decide) ?_
  refine lv_istore_n (lv' := [(2, .int (0 : Int32)), (0, .ref (q 13)), (1, .int a1)]) hx hb dX0_gather_6 rfl hl (Nat.le_of_ble_eq_true rfl) rfl (fun ls hl => ?_)
  exact loop7 a1 FU (0 : Int32) w9 _ _ _ (lv_sub hl [1, 2, 0] rfl) S (h_bb h)
theorem c_f_Box_gather (l : Launch) (D : va_G) (dA : Nat → ClassId) (q : Nat → Nat) (a1 : Int32) (w w' : Wt) (h : f_Box_gather a1 w = some w') : Mv l EVc KC D dA q yX0_gather cX0_gather 3 none RM_f_Box_gather [.ref (q 13), .int a1] w w' :=
  mk_v (by decide) rfl EVc_ok (Nat.le_of_ble_eq_true rfl) (fun p e s m args below meth c A Q ls hx hb hml C S hl fin => k_f_Box_gather a1 w w' hx hb hml C (fun H locs ls w2 pc S h d => fin H locs ls w2 pc S h d) _ _ _ hl S h)
/-! Ballotscript$Count.begin(II)V f_Count_begin_M -/
def f_Count_begin_M (a1 : Int32) (a2 : Int32) (w : Wt) : Option Wt := nmd (upd2 w 22 2 (0 : Int32)) fun w1 => nmd (upd2 w1 22 3 (0 : Int32)) fun w2 => nmd (upd2 w2 22 4 a2) fun w3 => nmd (upd2 w3 22 5 (((1 : Int32) <<< (a1 &&& 31)) - (1 : Int32))) fun w4 => nmd (upd2 w4 22 6 (0 : Int32)) fun w5 => nmd (upd2 w5 22 7 (108 : Int32)) fun w6 => some w6
def RM_f_Count_begin_M : Room := { frames := 0, cells := 0, slots := 0, locals := 0 }
set_option maxHeartbeats 4000000 in
set_option maxRecDepth 20000 in
theorem k_f_Count_begin_M (a1 : Int32) (a2 : Int32) (w : Wt) (z : Wt) (hx : p.tables.exec = Jvm.exec) (hb : c.code = cX1_begin) (hml : c.maxLocals = 3) (C : Cx EVc KC D dA q A s m args RX1) (fin : ∀ (H : Heap) (locs : List Loc) (ls : Array Slot) (w2 : Wt) (pc : Nat) , Sta KC D dA q A s.heap w2 H locs → some w2 = some z → decode cX1_begin pc = .ok (.return_, 1) → W p l e RM_f_Count_begin_M s m args below meth c H locs 0 0 Q (F0 m pc ls [])) : ∀ (H : Heap) (locs : List Loc) (ls : Array Slot), lv_has ls 3 [(0, .ref (q 22)), (1, .int a1), (2, .int a2)] → Sta KC D dA q A s.heap w H locs → f_Count_begin_M a1 a2 w = some z → W p l e RM_f_Count_begin_M s m args below meth c H locs 0 0 Q (F0 m 0 ls []) := by
  have ev : evOk EVc := EVc_ok
  intro H locs ls hl S h
  have h := h_0 h
  unfold f_Count_begin_M at h
  refine lv_aload_n hx hb dX1_begin_0 rfl (lv_at hl 0 rfl) ?_
  refine lv_iconst (v := 0) hx hb dX1_begin_1 (by decide) ?_
  refine g_put fl_RX1_19_X3 pl_X3_2 hx hb C S KC_22 rfl ⟨rfl, rfl⟩ dX1_begin_2 (fun w1 ew1 H locs S => ?_)
  have h := h_l h w1 ew1
  refine lv_aload_n hx hb dX1_begin_5 rfl (lv_at hl 0 rfl) ?_
  refine lv_iconst (v := 0) hx hb dX1_begin_6 (by decide) ?_
  refine g_put fl_RX1_23_X3 pl_X3_3 hx hb C S KC_22 rfl ⟨rfl, rfl⟩ dX1_begin_7 (fun w2 ew2 H locs S => ?_)
  have h := h_l h w2 ew2
  refine lv_aload_n hx hb dX1_begin_10 rfl (lv_at hl 0 rfl) ?_
  refine lv_iload_n hx hb dX1_begin_11 rfl (lv_at hl 2 rfl) ?_
  refine g_put fl_RX1_26_X3 pl_X3_4 hx hb C S KC_22 rfl ⟨rfl, rfl⟩ dX1_begin_12 (fun w3 ew3 H locs S => ?_)
  have h := h_l h w3 ew3
  refine lv_aload_n hx hb dX1_begin_15 rfl (lv_at hl 0 rfl) ?_
  refine lv_iconst (v := 1) hx hb dX1_begin_16 (by decide) ?_
  refine lv_iload_n hx hb dX1_begin_17 rfl (lv_at hl 1 rfl) ?_
  refine lv_ishl hx hb dX1_begin_18 ?_
  refine lv_iconst (v := 1) hx hb dX1_begin_19 (by decide) ?_
  refine lv_isub hx hb dX1_begin_20 ?_
  refine g_put fl_RX1_29_X3 pl_X3_5 hx hb C S KC_22 rfl ⟨rfl, rfl⟩ dX1_begin_21 (fun w4 ew4 H locs S => ?_)
  have h := h_l h w4 ew4
  refine lv_aload_n hx hb dX1_begin_24 rfl (lv_at hl 0 rfl) ?_
  refine lv_iconst (v := 0) hx hb dX1_begin_25 (by decide) ?_
  refine g_put fl_RX1_32_X3 pl_X3_6 hx hb C S KC_22 rfl ⟨rfl, rfl⟩ dX1_begin_26 (fun w5 ew5 H locs S => ?_)
  have h := h_l h w5 ew5
  refine lv_aload_n hx hb dX1_begin_29 rfl (lv_at hl 0 rfl) ?_
  refine lv_bipush (v := 108) hx hb dX1_begin_30 (by decide) ?_
  refine g_put fl_RX1_35_X3 pl_X3_7 hx hb C S KC_22 rfl (by decide) dX1_begin_32 (fun w6 ew6 H locs S => ?_)
  have h := h_l h w6 ew6
  exact fin _ _ _ w6 _ S h dX1_begin_35
theorem c_f_Count_begin_M (l : Launch) (D : va_G) (dA : Nat → ClassId) (q : Nat → Nat) (a1 : Int32) (a2 : Int32) (w w' : Wt) (h : f_Count_begin_M a1 a2 w = some w') : Mv l EVc KC D dA q yX1_begin cX1_begin 3 none RM_f_Count_begin_M [.ref (q 22), .int a1, .int a2] w w' :=
  mk_v (by decide) rfl EVc_ok (Nat.le_of_ble_eq_true rfl) (fun p e s m args below meth c A Q ls hx hb hml C S hl fin => k_f_Count_begin_M a1 a2 w w' hx hb hml C (fun H locs ls w2 pc S h d => fin H locs ls w2 pc S h d) _ _ _ hl S h)
/-! Ballotscript$Count.remove(IZ)V f_Count_remove_M -/
def f_Count_remove_M (a1 : Int32) (a2 : Int32) (w : Wt) : Option Wt := nmd (upd2 w 22 5 ((w 22 5) &&& (((1 : Int32) <<< (a1 &&& 31)) ^^^ (-1 : Int32)))) fun w1 => (if a2 = (0 : Int32) then some w1 else nmd (upd2 w1 22 6 ((w1 22 6) ||| ((1 : Int32) <<< (a1 &&& 31)))) fun w3 => nmd (upd2 w3 22 4 ((w3 22 4) - (1 : Int32))) fun w4 => some w4)
def RM_f_Count_remove_M : Room := { frames := 0, cells := 0, slots := 0, locals := 0 }
set_option maxHeartbeats 4000000 in
set_option maxRecDepth 20000 in
theorem k_f_Count_remove_M (a1 : Int32) (a2 : Int32) (w : Wt) (z : Wt) (hx : p.tables.exec = Jvm.exec) (hb : c.code = cX1_remove) (hml : c.maxLocals = 3) (C : Cx EVc KC D dA q A s m args RX1) (fin : ∀ (H : Heap) (locs : List Loc) (ls : Array Slot) (w2 : Wt) (pc : Nat) , Sta KC D dA q A s.heap w2 H locs → some w2 = some z → decode cX1_remove pc = .ok (.return_, 1) → W p l e RM_f_Count_remove_M s m args below meth c H locs 0 0 Q (F0 m pc ls [])) : ∀ (H : Heap) (locs : List Loc) (ls : Array Slot), lv_has ls 3 [(0, .ref (q 22)), (1, .int a1), (2, .int a2)] → Sta KC D dA q A s.heap w H locs → f_Count_remove_M a1 a2 w = some z → W p l e RM_f_Count_remove_M s m args below meth c H locs 0 0 Q (F0 m 0 ls []) := by
  have ev : evOk EVc := EVc_ok
  intro H locs ls hl S h
  have h := h_0 h
  unfold f_Count_remove_M at h
  refine lv_aload_n hx hb dX1_remove_0 rfl (lv_at hl 0 rfl) ?_
  refine lv_dup hx hb dX1_remove_1 rfl ?_
  refine g_get fl_RX1_29_X3 hx hb C S KC_22 rfl dX1_remove_2 ?_
  refine lv_iconst (v := 1) hx hb dX1_remove_5 (by decide) ?_
  refine lv_iload_n hx hb dX1_remove_6 rfl (lv_at hl 1 rfl) ?_
  refine lv_ishl hx hb dX1_remove_7 ?_
  refine lv_iconst (v := -1) hx hb dX1_remove_8 (by decide) ?_
  refine lv_ixor hx hb dX1_remove_9 ?_
  refine lv_iand hx hb dX1_remove_10 ?_
  refine g_put fl_RX1_29_X3 pl_X3_5 hx hb C S KC_22 rfl ⟨rfl, rfl⟩ dX1_remove_11 (fun w1 ew1 H locs S => ?_)
  have h := h_l h w1 ew1
  refine lv_iload_n hx hb dX1_remove_14 rfl (lv_at hl 2 rfl) ?_
  refine lv_if_eq (tgt := 40) hx hb dX1_remove_15 rfl (fun c2 => ?_) (fun c2 => ?_)
  · have h := h_t c2 h
    exact fin _ _ _ w1 _ S h dX1_remove_40
  · have h := h_f c2 h
    refine lv_aload_n hx hb dX1_remove_18 rfl (lv_at hl 0 rfl) ?_
    refine lv_dup hx hb dX1_remove_19 rfl ?_
    refine g_get fl_RX1_32_X3 hx hb C S KC_22 rfl dX1_remove_20 ?_
    refine lv_iconst (v := 1) hx hb dX1_remove_23 (by decide) ?_
    refine lv_iload_n hx hb dX1_remove_24 rfl (lv_at hl 1 rfl) ?_
    refine lv_ishl hx hb dX1_remove_25 ?_
    refine lv_ior hx hb dX1_remove_26 ?_
    refine g_put fl_RX1_32_X3 pl_X3_6 hx hb C S KC_22 rfl ⟨rfl, rfl⟩ dX1_remove_27 (fun w3 ew3 H locs S => ?_)
    have h := h_l h w3 ew3
    refine lv_aload_n hx hb dX1_remove_30 rfl (lv_at hl 0 rfl) ?_
    refine lv_dup hx hb dX1_remove_31 rfl ?_
    refine g_get fl_RX1_26_X3 hx hb C S KC_22 rfl dX1_remove_32 ?_
    refine lv_iconst (v := 1) hx hb dX1_remove_35 (by decide) ?_
    refine lv_isub hx hb dX1_remove_36 ?_
    refine g_put fl_RX1_26_X3 pl_X3_4 hx hb C S KC_22 rfl ⟨rfl, rfl⟩ dX1_remove_37 (fun w4 ew4 H locs S => ?_)
    have h := h_l h w4 ew4
    exact fin _ _ _ w4 _ S h dX1_remove_40
theorem c_f_Count_remove_M (l : Launch) (D : va_G) (dA : Nat → ClassId) (q : Nat → Nat) (a1 : Int32) (a2 : Int32) (w w' : Wt) (h : f_Count_remove_M a1 a2 w = some w') : Mv l EVc KC D dA q yX1_remove cX1_remove 3 none RM_f_Count_remove_M [.ref (q 22), .int a1, .int a2] w w' :=
  mk_v (by decide) rfl EVc_ok (Nat.le_of_ble_eq_true rfl) (fun p e s m args below meth c A Q ls hx hb hml C S hl fin => k_f_Count_remove_M a1 a2 w w' hx hb hml C (fun H locs ls w2 pc S h d => fin H locs ls w2 pc S h d) _ _ _ hl S h)
/-! Ballotscript$Count.hasBit(II)Z f_Count_hasBit -/
def f_Count_hasBit (a0 : Int32) (a1 : Int32) : Option Int32 := (if ((a0 >>> (a1 &&& 31)) &&& (1 : Int32)) = (0 : Int32) then some (0 : Int32) else some (1 : Int32))
def RM_f_Count_hasBit : Room := { frames := 0, cells := 0, slots := 0, locals := 0 }
set_option maxHeartbeats 4000000 in
set_option maxRecDepth 20000 in
theorem k_f_Count_hasBit (a0 : Int32) (a1 : Int32) (w : Wt) (z : Int32) (hx : p.tables.exec = Jvm.exec) (hb : c.code = cX1_hasBit) (hml : c.maxLocals = 2) (C : Cx EVc KC D dA q A s m args RX1) (fin : ∀ (H : Heap) (locs : List Loc) (ls : Array Slot) (r' : Int32) (pc : Nat) , narrow .boolean (.int r') = .int r' → Sta KC D dA q A s.heap w H locs → some r' = some z → decode cX1_hasBit pc = .ok (.ireturn, 1) → W p l e RM_f_Count_hasBit s m args below meth c H locs 0 0 Q (F0 m pc ls [.int r'])) : ∀ (H : Heap) (locs : List Loc) (ls : Array Slot), lv_has ls 2 [(0, .int a0), (1, .int a1)] → Sta KC D dA q A s.heap w H locs → f_Count_hasBit a0 a1 = some z → W p l e RM_f_Count_hasBit s m args below meth c H locs 0 0 Q (F0 m 0 ls []) := by
  have ev : evOk EVc := EVc_ok
  intro H locs ls hl S h
  have h := h_0 h
  unfold f_Count_hasBit at h
  refine lv_iload_n hx hb dX1_hasBit_0 rfl (lv_at hl 0 rfl) ?_
  refine lv_iload_n hx hb dX1_hasBit_1 rfl (lv_at hl 1 rfl) ?_
  refine lv_ishr hx hb dX1_hasBit_2 ?_
  refine lv_iconst (v := 1) hx hb dX1_hasBit_3 (by decide) ?_
  refine lv_iand hx hb dX1_hasBit_4 ?_
  refine lv_if_eq (tgt := 12) hx hb dX1_hasBit_5 rfl (fun c1 => ?_) (fun c1 => ?_)
  · have h := h_t c1 h
    refine lv_iconst (v := 0) hx hb dX1_hasBit_12 (by decide) ?_
    exact fin _ _ _ (0 : Int32) _ (by decide) S h dX1_hasBit_13
  · have h := h_f c1 h
    refine lv_iconst (v := 1) hx hb dX1_hasBit_8 (by decide) ?_
    refine lv_goto (tgt := 13) hx hb dX1_hasBit_9 rfl ?_
    exact fin _ _ _ (1 : Int32) _ (by decide) S h dX1_hasBit_13
theorem c_f_Count_hasBit (l : Launch) (D : va_G) (dA : Nat → ClassId) (q : Nat → Nat) (a0 : Int32) (a1 : Int32) (w : Wt) (r : Int32) (h : f_Count_hasBit a0 a1 = some r) : Mi l EVc KC D dA q yX1_hasBit cX1_hasBit 2 (some .boolean) RM_f_Count_hasBit [.int a0, .int a1] w r w :=
  mk_z (by decide) rfl EVc_ok (Nat.le_of_ble_eq_true rfl) (fun p e s m args below meth c A Q ls hx hb hml C S hl fin => k_f_Count_hasBit a0 a1 w r hx hb hml C (fun H locs ls r' pc hn S h d => fin H locs ls r' w pc hn S (by rw [Option.some.inj h]) d) _ _ _ hl S h)
/-! Ballotscript$Count.lowest(I)I f_Count_lowest -/
def f_Count_lowest_b24 : Option Int32 := some (0 : Int32)
def f_Count_lowest_L2 (l0 : Int32) : Int32 → Option (Int32 ⊕ (Unit ⊕ Int32))
  | l1 => (if (6 : Int32) ≤ l1 then some (.inr (.inl ())) else Option.bind (f_Count_hasBit l0 l1) fun x2 => (if x2 = (0 : Int32) then some (.inl (l1 + 1)) else some (.inr (.inr l1))))
def f_Count_lowest_x2 : (Unit ⊕ Int32) → Option Int32
  | .inl () => f_Count_lowest_b24
  | .inr t => some t
def f_Count_lowest (a0 : Int32) : Option Int32 := Option.bind (lp (f_Count_lowest_L2 a0) FU (0 : Int32)) (f_Count_lowest_x2)
def RM_f_Count_lowest : Room := { frames := 1, cells := 0, slots := 0, locals := 21 }
set_option maxHeartbeats 4000000 in
set_option maxRecDepth 20000 in
theorem k_f_Count_lowest (a0 : Int32) (w : Wt) (z : Int32) (hx : p.tables.exec = Jvm.exec) (hb : c.code = cX1_lowest) (hml : c.maxLocals = 2) (C : Cx EVc KC D dA q A s m args RX1) (fin : ∀ (H : Heap) (locs : List Loc) (ls : Array Slot) (r' : Int32) (pc : Nat) , Sta KC D dA q A s.heap w H locs → some r' = some z → decode cX1_lowest pc = .ok (.ireturn, 1) → W p l e RM_f_Count_lowest s m args below meth c H locs 0 0 Q (F0 m pc ls [.int r'])) : ∀ (H : Heap) (locs : List Loc) (ls : Array Slot), lv_has ls 2 [(0, .int a0)] → Sta KC D dA q A s.heap w H locs → f_Count_lowest a0 = some z → W p l e RM_f_Count_lowest s m args below meth c H locs 0 0 Q (F0 m 0 ls []) := by
  have ev : evOk EVc := EVc_ok
  have lab24 : ∀ (H : Heap) (locs : List Loc) (ls : Array Slot), lv_has ls 2 [] → Sta KC D dA q A s.heap w H locs → Option.bind (f_Count_lowest_b24) some = some z → W p l e RM_f_Count_lowest s m args below meth c H locs 0 0 Q (F0 m 24 ls []) := by
    intro  H locs ls hl S h
    unfold f_Count_lowest_b24 at h
    refine lv_iconst (v := 0) hx hb dX1_lowest_24 (by decide) ?_
    exact fin _ _ _ (0 : Int32) _ S h dX1_lowest_25
  have loop2 : ∀ (l0 : Int32) (n2 : Nat), ∀ (l1 : Int32) (H : Heap) (locs : List Loc) (ls : Array Slot), lv_has ls 2 [(0, .int l0), (1, .int l1)] → Sta KC D dA q A s.heap w H locs → Option.bind (lp (f_Count_lowest_L2 l0) n2 l1) (fun x9 => Option.bind (f_Count_lowest_x2 x9) some) = some z → W p l e RM_f_Count_lowest s m args below meth c H locs 0 0 Q (F0 m 2 ls []) := by
    intro l0 n2
    induction n2 with
    | zero =>
      intro l1 H locs ls hl S h
      exact (h_lp0 h).elim
    | succ n2 ih2 =>
      intro l1 H locs ls hl S h
      have h := h_lp h
      unfold f_Count_lowest_L2 at h
      refine lv_iload_n hx hb dX1_lowest_2 rfl (lv_at hl 1 rfl) ?_
      refine lv_bipush (v := 6) hx hb dX1_lowest_3 (by decide) ?_
      refine lv_icmp_ge (tgt := 24) hx hb dX1_lowest_5 rfl (fun c1 => ?_) (fun c1 => ?_)
      · have h := h_t c1 h
        exact lab24  _ _ _ (lv_sub hl [] rfl) S h
      · have h := h_f c1 h
        refine lv_iload_n hx hb dX1_lowest_8 rfl (lv_at hl 0 rfl) ?_
        refine lv_iload_n hx hb dX1_lowest_9 rfl (lv_at hl 1 rfl) ?_
        obtain ⟨x2, ex2, h⟩ := h_c h
        refine k_i C S (q_S (rest := []) (As := [.int l0, .int l1]) lk_RX1_91 ev hx hb hml C S (c_f_Count_hasBit l D dA q l0 l1 w x2 ex2 _) rfl rfl ⟨(Nat.le_of_ble_eq_true rfl), (Nat.le_of_ble_eq_true rfl)⟩ rfl hl.1 rfl (Nat.le_of_ble_eq_true rfl) dX1_lowest_10 ⟨(Nat.le_of_ble_eq_true rfl), (Nat.le_of_ble_eq_true rfl)⟩) (fun H locs S => ?_)
        refine lv_if_eq (tgt := 18) hx hb dX1_lowest_13 rfl (fun c3 => ?_) (fun c3 => ?_)
        · have h := h_t c3 h
          refine lv_iinc (v := (l1 + 1)) (lv' := [(1, .int (l1 + 1)), (0, .int l0)]) hx hb dX1_lowest_18 hl (k := 1) rfl rfl (Nat.le_of_ble_eq_true rfl) rfl (fun ls hl => ?_)
          refine lv_goto (tgt := 2) hx hb dX1_lowest_21 rfl ?_
          exact ih2 (l1 + 1) _ _ _ (lv_sub hl [1, 0] rfl) S h
        · have h := h_f c3 h
          refine lv_iload_n hx hb dX1_lowest_16 rfl (lv_at hl 1 rfl) ?_
          exact fin _ _ _ l1 _ S h dX1_lowest_17
  intro H locs ls hl S h
  have h := h_0 h
  unfold f_Count_lowest at h
  refine lv_iconst (v := 0) hx hb dX1_lowest_0 (by decide) ?_
  refine lv_istore_n (lv' := [(1, .int (0 : Int32)), (0, .int a0)]) hx hb dX1_lowest_1 rfl hl (Nat.le_of_ble_eq_true rfl) rfl (fun ls hl => ?_)
  exact loop2 a0 FU (0 : Int32) _ _ _ (lv_sub hl [1, 0] rfl) S (h_bb h)
theorem c_f_Count_lowest (l : Launch) (D : va_G) (dA : Nat → ClassId) (q : Nat → Nat) (a0 : Int32) (w : Wt) (r : Int32) (h : f_Count_lowest a0 = some r) : Mi l EVc KC D dA q yX1_lowest cX1_lowest 2 (some .int) RM_f_Count_lowest [.int a0] w r w :=
  mk_i (by decide) rfl EVc_ok (Nat.le_of_ble_eq_true rfl) (fun p e s m args below meth c A Q ls hx hb hml C S hl fin => k_f_Count_lowest a0 w r hx hb hml C (fun H locs ls r' pc S h d => fin H locs ls r' w pc S (by rw [Option.some.inj h]) d) _ _ _ hl S h)
/-! Ballotscript$Count.highest(I)I f_Count_highest -/
def f_Count_highest_b22 : Option Int32 := some (0 : Int32)
def f_Count_highest_L2 (l0 : Int32) : Int32 → Option (Int32 ⊕ (Unit ⊕ Int32))
  | l1 => (if l1 ≤ (0 : Int32) then some (.inr (.inl ())) else Option.bind (f_Count_hasBit l0 l1) fun x2 => (if x2 = (0 : Int32) then some (.inl (l1 + (-1))) else some (.inr (.inr l1))))
def f_Count_highest_x2 : (Unit ⊕ Int32) → Option Int32
  | .inl () => f_Count_highest_b22
  | .inr t => some t
def f_Count_highest (a0 : Int32) : Option Int32 := Option.bind (lp (f_Count_highest_L2 a0) FU (5 : Int32)) (f_Count_highest_x2)
def RM_f_Count_highest : Room := { frames := 1, cells := 0, slots := 0, locals := 21 }
set_option maxHeartbeats 4000000 in
set_option maxRecDepth 20000 in
theorem k_f_Count_highest (a0 : Int32) (w : Wt) (z : Int32) (hx : p.tables.exec = Jvm.exec) (hb : c.code = cX1_highest) (hml : c.maxLocals = 2) (C : Cx EVc KC D dA q A s m args RX1) (fin : ∀ (H : Heap) (locs : List Loc) (ls : Array Slot) (r' : Int32) (pc : Nat) , Sta KC D dA q A s.heap w H locs → some r' = some z → decode cX1_highest pc = .ok (.ireturn, 1) → W p l e RM_f_Count_highest s m args below meth c H locs 0 0 Q (F0 m pc ls [.int r'])) : ∀ (H : Heap) (locs : List Loc) (ls : Array Slot), lv_has ls 2 [(0, .int a0)] → Sta KC D dA q A s.heap w H locs → f_Count_highest a0 = some z → W p l e RM_f_Count_highest s m args below meth c H locs 0 0 Q (F0 m 0 ls []) := by
  have ev : evOk EVc := EVc_ok
  have lab22 : ∀ (H : Heap) (locs : List Loc) (ls : Array Slot), lv_has ls 2 [] → Sta KC D dA q A s.heap w H locs → Option.bind (f_Count_highest_b22) some = some z → W p l e RM_f_Count_highest s m args below meth c H locs 0 0 Q (F0 m 22 ls []) := by
    intro  H locs ls hl S h
    unfold f_Count_highest_b22 at h
    refine lv_iconst (v := 0) hx hb dX1_highest_22 (by decide) ?_
    exact fin _ _ _ (0 : Int32) _ S h dX1_highest_23
  have loop2 : ∀ (l0 : Int32) (n2 : Nat), ∀ (l1 : Int32) (H : Heap) (locs : List Loc) (ls : Array Slot), lv_has ls 2 [(0, .int l0), (1, .int l1)] → Sta KC D dA q A s.heap w H locs → Option.bind (lp (f_Count_highest_L2 l0) n2 l1) (fun x9 => Option.bind (f_Count_highest_x2 x9) some) = some z → W p l e RM_f_Count_highest s m args below meth c H locs 0 0 Q (F0 m 2 ls []) := by
    intro l0 n2
    induction n2 with
    | zero =>
      intro l1 H locs ls hl S h
      exact (h_lp0 h).elim
    | succ n2 ih2 =>
      intro l1 H locs ls hl S h
      have h := h_lp h
      unfold f_Count_highest_L2 at h
      refine lv_iload_n hx hb dX1_highest_2 rfl (lv_at hl 1 rfl) ?_
      refine lv_if_le (tgt := 22) hx hb dX1_highest_3 rfl (fun c1 => ?_) (fun c1 => ?_)
      · have h := h_t c1 h
        exact lab22  _ _ _ (lv_sub hl [] rfl) S h
      · have h := h_f c1 h
        refine lv_iload_n hx hb dX1_highest_6 rfl (lv_at hl 0 rfl) ?_
        refine lv_iload_n hx hb dX1_highest_7 rfl (lv_at hl 1 rfl) ?_
        obtain ⟨x2, ex2, h⟩ := h_c h
        refine k_i C S (q_S (rest := []) (As := [.int l0, .int l1]) lk_RX1_91 ev hx hb hml C S (c_f_Count_hasBit l D dA q l0 l1 w x2 ex2 _) rfl rfl ⟨(Nat.le_of_ble_eq_true rfl), (Nat.le_of_ble_eq_true rfl)⟩ rfl hl.1 rfl (Nat.le_of_ble_eq_true rfl) dX1_highest_8 ⟨(Nat.le_of_ble_eq_true rfl), (Nat.le_of_ble_eq_true rfl)⟩) (fun H locs S => ?_)
        refine lv_if_eq (tgt := 16) hx hb dX1_highest_11 rfl (fun c3 => ?_) (fun c3 => ?_)
        · have h := h_t c3 h
          refine lv_iinc (v := (l1 + (-1))) (lv' := [(1, .int (l1 + (-1))), (0, .int l0)]) hx hb dX1_highest_16 hl (k := 1) rfl rfl (Nat.le_of_ble_eq_true rfl) rfl (fun ls hl => ?_)
          refine lv_goto (tgt := 2) hx hb dX1_highest_19 rfl ?_
          exact ih2 (l1 + (-1)) _ _ _ (lv_sub hl [1, 0] rfl) S h
        · have h := h_f c3 h
          refine lv_iload_n hx hb dX1_highest_14 rfl (lv_at hl 1 rfl) ?_
          exact fin _ _ _ l1 _ S h dX1_highest_15
  intro H locs ls hl S h
  have h := h_0 h
  unfold f_Count_highest at h
  refine lv_iconst (v := 5) hx hb dX1_highest_0 (by decide) ?_
  refine lv_istore_n (lv' := [(1, .int (5 : Int32)), (0, .int a0)]) hx hb dX1_highest_1 rfl hl (Nat.le_of_ble_eq_true rfl) rfl (fun ls hl => ?_)
  exact loop2 a0 FU (5 : Int32) _ _ _ (lv_sub hl [1, 0] rfl) S (h_bb h)
theorem c_f_Count_highest (l : Launch) (D : va_G) (dA : Nat → ClassId) (q : Nat → Nat) (a0 : Int32) (w : Wt) (r : Int32) (h : f_Count_highest a0 = some r) : Mi l EVc KC D dA q yX1_highest cX1_highest 2 (some .int) RM_f_Count_highest [.int a0] w r w :=
  mk_i (by decide) rfl EVc_ok (Nat.le_of_ble_eq_true rfl) (fun p e s m args below meth c A Q ls hx hb hml C S hl fin => k_f_Count_highest a0 w r hx hb hml C (fun H locs ls r' pc S h d => fin H locs ls r' w pc S (by rw [Option.some.inj h]) d) _ _ _ hl S h)
/-! java/lang/Integer.bitCount(I)I f_Integer_bitCount -/
def f_Integer_bitCount (a0 : Int32) : Option Int32 := nmd (a0 - (((a0.toUInt32 >>> ((1 : Int32).toUInt32 &&& Int32.toUInt32 31)).toInt32) &&& (1431655765 : Int32))) fun v1 => nmd ((v1 &&& (858993459 : Int32)) + (((v1.toUInt32 >>> ((2 : Int32).toUInt32 &&& Int32.toUInt32 31)).toInt32) &&& (858993459 : Int32))) fun v2 => nmd ((v2 + ((v2.toUInt32 >>> ((4 : Int32).toUInt32 &&& Int32.toUInt32 31)).toInt32)) &&& (252645135 : Int32)) fun v3 => nmd (v3 + ((v3.toUInt32 >>> ((8 : Int32).toUInt32 &&& Int32.toUInt32 31)).toInt32)) fun v4 => nmd (v4 + ((v4.toUInt32 >>> ((16 : Int32).toUInt32 &&& Int32.toUInt32 31)).toInt32)) fun v5 => some (v5 &&& (63 : Int32))
def RM_f_Integer_bitCount : Room := { frames := 0, cells := 0, slots := 0, locals := 0 }
set_option maxHeartbeats 4000000 in
set_option maxRecDepth 20000 in
theorem k_f_Integer_bitCount (a0 : Int32) (w : Wt) (z : Int32) (hx : p.tables.exec = Jvm.exec) (hb : c.code = cJ6_bitCount_0f7a4) (hml : c.maxLocals = 1) (C : Cx EVc KC D dA q A s m args RJ6) (fin : ∀ (H : Heap) (locs : List Loc) (ls : Array Slot) (r' : Int32) (pc : Nat) , Sta KC D dA q A s.heap w H locs → some r' = some z → decode cJ6_bitCount_0f7a4 pc = .ok (.ireturn, 1) → W p l e RM_f_Integer_bitCount s m args below meth c H locs 0 0 Q (F0 m pc ls [.int r'])) : ∀ (H : Heap) (locs : List Loc) (ls : Array Slot), lv_has ls 1 [(0, .int a0)] → Sta KC D dA q A s.heap w H locs → f_Integer_bitCount a0 = some z → W p l e RM_f_Integer_bitCount s m args below meth c H locs 0 0 Q (F0 m 0 ls []) := by
  have ev : evOk EVc := EVc_ok
  intro H locs ls hl S h
  have h := h_0 h
  unfold f_Integer_bitCount at h
  refine lv_iload_n hx hb dJ6_bitCount_0f7a4_0 rfl (lv_at hl 0 rfl) ?_
  refine lv_iload_n hx hb dJ6_bitCount_0f7a4_1 rfl (lv_at hl 0 rfl) ?_
  refine lv_iconst (v := 1) hx hb dJ6_bitCount_0f7a4_2 (by decide) ?_
  refine lv_iushr hx hb dJ6_bitCount_0f7a4_3 rfl ?_
  refine lv_ldcw hx hb C.1 (C.2.1 _ cw_RJ6_265) dJ6_bitCount_0f7a4_4 ?_
  refine lv_iand hx hb dJ6_bitCount_0f7a4_7 ?_
  refine lv_isub hx hb dJ6_bitCount_0f7a4_8 ?_
  refine lv_topi (fun v1 ev1 => ?_)
  have h := h_l h v1 ev1
  refine lv_istore_n (lv' := [(0, .int v1)]) hx hb dJ6_bitCount_0f7a4_9 rfl hl (Nat.le_of_ble_eq_true rfl) rfl (fun ls hl => ?_)
  refine lv_iload_n hx hb dJ6_bitCount_0f7a4_10 rfl (lv_at hl 0 rfl) ?_
  refine lv_ldcw hx hb C.1 (C.2.1 _ cw_RJ6_266) dJ6_bitCount_0f7a4_11 ?_
  refine lv_iand hx hb dJ6_bitCount_0f7a4_14 ?_
  refine lv_iload_n hx hb dJ6_bitCount_0f7a4_15 rfl (lv_at hl 0 rfl) ?_
  refine lv_iconst (v := 2) hx hb dJ6_bitCount_0f7a4_16 (by decide) ?_
  refine lv_iushr hx hb dJ6_bitCount_0f7a4_17 rfl ?_
  refine lv_ldcw hx hb C.1 (C.2.1 _ cw_RJ6_266) dJ6_bitCount_0f7a4_18 ?_
  refine lv_iand hx hb dJ6_bitCount_0f7a4_21 ?_
  refine lv_iadd hx hb dJ6_bitCount_0f7a4_22 ?_
  refine lv_topi (fun v2 ev2 => ?_)
  have h := h_l h v2 ev2
  refine lv_istore_n (lv' := [(0, .int v2)]) hx hb dJ6_bitCount_0f7a4_23 rfl hl (Nat.le_of_ble_eq_true rfl) rfl (fun ls hl => ?_)
  refine lv_iload_n hx hb dJ6_bitCount_0f7a4_24 rfl (lv_at hl 0 rfl) ?_
  refine lv_iload_n hx hb dJ6_bitCount_0f7a4_25 rfl (lv_at hl 0 rfl) ?_
  refine lv_iconst (v := 4) hx hb dJ6_bitCount_0f7a4_26 (by decide) ?_
  refine lv_iushr hx hb dJ6_bitCount_0f7a4_27 rfl ?_
  refine lv_iadd hx hb dJ6_bitCount_0f7a4_28 ?_
  refine lv_ldcw hx hb C.1 (C.2.1 _ cw_RJ6_267) dJ6_bitCount_0f7a4_29 ?_
  refine lv_iand hx hb dJ6_bitCount_0f7a4_32 ?_
  refine lv_topi (fun v3 ev3 => ?_)
  have h := h_l h v3 ev3
  refine lv_istore_n (lv' := [(0, .int v3)]) hx hb dJ6_bitCount_0f7a4_33 rfl hl (Nat.le_of_ble_eq_true rfl) rfl (fun ls hl => ?_)
  refine lv_iload_n hx hb dJ6_bitCount_0f7a4_34 rfl (lv_at hl 0 rfl) ?_
  refine lv_iload_n hx hb dJ6_bitCount_0f7a4_35 rfl (lv_at hl 0 rfl) ?_
  refine lv_bipush (v := 8) hx hb dJ6_bitCount_0f7a4_36 (by decide) ?_
  refine lv_iushr hx hb dJ6_bitCount_0f7a4_38 rfl ?_
  refine lv_iadd hx hb dJ6_bitCount_0f7a4_39 ?_
  refine lv_topi (fun v4 ev4 => ?_)
  have h := h_l h v4 ev4
  refine lv_istore_n (lv' := [(0, .int v4)]) hx hb dJ6_bitCount_0f7a4_40 rfl hl (Nat.le_of_ble_eq_true rfl) rfl (fun ls hl => ?_)
  refine lv_iload_n hx hb dJ6_bitCount_0f7a4_41 rfl (lv_at hl 0 rfl) ?_
  refine lv_iload_n hx hb dJ6_bitCount_0f7a4_42 rfl (lv_at hl 0 rfl) ?_
  refine lv_bipush (v := 16) hx hb dJ6_bitCount_0f7a4_43 (by decide) ?_
  refine lv_iushr hx hb dJ6_bitCount_0f7a4_45 rfl ?_
  refine lv_iadd hx hb dJ6_bitCount_0f7a4_46 ?_
  refine lv_topi (fun v5 ev5 => ?_)
  have h := h_l h v5 ev5
  refine lv_istore_n (lv' := [(0, .int v5)]) hx hb dJ6_bitCount_0f7a4_47 rfl hl (Nat.le_of_ble_eq_true rfl) rfl (fun ls hl => ?_)
  refine lv_iload_n hx hb dJ6_bitCount_0f7a4_48 rfl (lv_at hl 0 rfl) ?_
  refine lv_bipush (v := 63) hx hb dJ6_bitCount_0f7a4_49 (by decide) ?_
  refine lv_iand hx hb dJ6_bitCount_0f7a4_51 ?_
  exact fin _ _ _ (v5 &&& (63 : Int32)) _ S h dJ6_bitCount_0f7a4_52
theorem c_f_Integer_bitCount (l : Launch) (D : va_G) (dA : Nat → ClassId) (q : Nat → Nat) (a0 : Int32) (w : Wt) (r : Int32) (h : f_Integer_bitCount a0 = some r) : Mi l EVc KC D dA q yJ6_bitCount_0f7a4 cJ6_bitCount_0f7a4 1 (some .int) RM_f_Integer_bitCount [.int a0] w r w :=
  mk_i (by decide) rfl EVc_ok (Nat.le_of_ble_eq_true rfl) (fun p e s m args below meth c A Q ls hx hb hml C S hl fin => k_f_Integer_bitCount a0 w r hx hb hml C (fun H locs ls r' pc S h d => fin H locs ls r' w pc S (by rw [Option.some.inj h]) d) _ _ _ hl S h)
/-! Ballotscript$MachineCount.votesIn(II)I f_MachineCount_votesIn -/
def f_MachineCount_votesIn (a1 : Int32) (a2 : Int32) (w : Wt) : Option Int32 := (if (0 : Int32) ≤ a1 then gd (inb ((a1 * (6 : Int32)) + a2) 936) (some (w 24 (((a1 * (6 : Int32)) + a2)).toNatClampNeg)) else some (0 : Int32))
def RM_f_MachineCount_votesIn : Room := { frames := 0, cells := 0, slots := 0, locals := 0 }
set_option maxHeartbeats 4000000 in
set_option maxRecDepth 20000 in
theorem k_f_MachineCount_votesIn (a1 : Int32) (a2 : Int32) (w : Wt) (z : Int32) (hx : p.tables.exec = Jvm.exec) (hb : c.code = cX3_votesIn) (hml : c.maxLocals = 3) (C : Cx EVc KC D dA q A s m args RX3) (fin : ∀ (H : Heap) (locs : List Loc) (ls : Array Slot) (r' : Int32) (pc : Nat) , Sta KC D dA q A s.heap w H locs → some r' = some z → decode cX3_votesIn pc = .ok (.ireturn, 1) → W p l e RM_f_MachineCount_votesIn s m args below meth c H locs 0 0 Q (F0 m pc ls [.int r'])) : ∀ (H : Heap) (locs : List Loc) (ls : Array Slot), lv_has ls 3 [(0, .ref (q 22)), (1, .int a1), (2, .int a2)] → Sta KC D dA q A s.heap w H locs → f_MachineCount_votesIn a1 a2 w = some z → W p l e RM_f_MachineCount_votesIn s m args below meth c H locs 0 0 Q (F0 m 0 ls []) := by
  have ev : evOk EVc := EVc_ok
  intro H locs ls hl S h
  have h := h_0 h
  unfold f_MachineCount_votesIn at h
  refine lv_iload_n hx hb dX3_votesIn_0 rfl (lv_at hl 1 rfl) ?_
  refine lv_if_ge (tgt := 8) hx hb dX3_votesIn_1 rfl (fun c1 => ?_) (fun c1 => ?_)
  · have h := h_t c1 h
    refine lv_aload_n hx hb dX3_votesIn_8 rfl (lv_at hl 0 rfl) ?_
    refine g_getR fl_RX3_9_X3 hx hb C S KC_22 rfl dX3_votesIn_9 ?_
    refine lv_iload_n hx hb dX3_votesIn_12 rfl (lv_at hl 1 rfl) ?_
    refine lv_bipush (v := 6) hx hb dX3_votesIn_13 (by decide) ?_
    refine lv_imul hx hb dX3_votesIn_15 ?_
    refine lv_iload_n hx hb dX3_votesIn_16 rfl (lv_at hl 2 rfl) ?_
    refine lv_iadd hx hb dX3_votesIn_17 ?_
    obtain ⟨g2, h⟩ := h_gd h
    refine r_iald hx hb C S KC_24 (h_in g2) dX3_votesIn_18 ?_
    exact fin _ _ _ (w 24 (((a1 * (6 : Int32)) + a2)).toNatClampNeg) _ S h dX3_votesIn_19
  · have h := h_f c1 h
    refine lv_iconst (v := 0) hx hb dX3_votesIn_4 (by decide) ?_
    refine lv_goto (tgt := 19) hx hb dX3_votesIn_5 rfl ?_
    exact fin _ _ _ (0 : Int32) _ S h dX3_votesIn_19
theorem c_f_MachineCount_votesIn (l : Launch) (D : va_G) (dA : Nat → ClassId) (q : Nat → Nat) (a1 : Int32) (a2 : Int32) (w : Wt) (r : Int32) (h : f_MachineCount_votesIn a1 a2 w = some r) : Mi l EVc KC D dA q yX3_votesIn cX3_votesIn 3 (some .int) RM_f_MachineCount_votesIn [.ref (q 22), .int a1, .int a2] w r w :=
  mk_i (by decide) rfl EVc_ok (Nat.le_of_ble_eq_true rfl) (fun p e s m args below meth c A Q ls hx hb hml C S hl fin => k_f_MachineCount_votesIn a1 a2 w r hx hb hml C (fun H locs ls r' pc S h d => fin H locs ls r' w pc S (by rw [Option.some.inj h]) d) _ _ _ hl S h)
/-! Ballotscript$Count.leaders(IIZ)I f_Count_leaders_M -/
def f_Count_leaders_M_b98 (l4 : Int32) (w : Wt) : Option Int32 := some l4
def f_Count_leaders_M_b76 (l1 : Int32) (l2 : Int32) (l3 : Int32) (l4 : Int32) (l5 : Int32) (l6 : Int32) (l7 : Int32) (w : Wt) : Option ((Int32 × Int32 × Int32) ⊕ Int32) := (if l7 = l5 then nmd (l4 ||| ((1 : Int32) <<< (l6 &&& 31))) fun v2 => some (.inl (v2, l5, (l6 + 1))) else some (.inl (l4, l5, (l6 + 1))))
def f_Count_leaders_M_b63 (l1 : Int32) (l2 : Int32) (l3 : Int32) (l6 : Int32) (l7 : Int32) (w : Wt) : Option ((Int32 × Int32 × Int32) ⊕ Int32) := nmd ((1 : Int32) <<< (l6 &&& 31)) fun v3 => some (.inl (v3, l7, (l6 + 1)))
def f_Count_leaders_M_L9 (l1 : Int32) (l2 : Int32) (l3 : Int32) (w : Wt) : (Int32 × Int32 × Int32) → Option ((Int32 × Int32 × Int32) ⊕ Int32)
  | (l4, l5, l6) => (if (6 : Int32) ≤ l6 then some (.inr l4) else Option.bind (f_Count_hasBit l1 l6) fun x5 => (if x5 = (0 : Int32) then some (.inl (l4, l5, (l6 + 1))) else Option.bind (f_MachineCount_votesIn l2 l6 w) fun x7 => (if l4 = (0 : Int32) then f_Count_leaders_M_b63 l1 l2 l3 l6 x7 w else (if l3 = (0 : Int32) then (if l5 ≤ x7 then f_Count_leaders_M_b76 l1 l2 l3 l4 l5 l6 x7 w else f_Count_leaders_M_b63 l1 l2 l3 l6 x7 w) else (if x7 ≤ l5 then f_Count_leaders_M_b76 l1 l2 l3 l4 l5 l6 x7 w else f_Count_leaders_M_b63 l1 l2 l3 l6 x7 w)))))
def f_Count_leaders_M_x9 (w : Wt) : Int32 → Option Int32
  | l4 => f_Count_leaders_M_b98 l4 w
def f_Count_leaders_M (a1 : Int32) (a2 : Int32) (a3 : Int32) (w : Wt) : Option Int32 := Option.bind (lp (f_Count_leaders_M_L9 a1 a2 a3 w) FU ((0 : Int32), (0 : Int32), (0 : Int32))) (f_Count_leaders_M_x9 w)
def RM_f_Count_leaders_M : Room := { frames := 1, cells := 0, slots := 0, locals := 22 }
set_option maxHeartbeats 4000000 in
set_option maxRecDepth 20000 in
theorem k_f_Count_leaders_M (a1 : Int32) (a2 : Int32) (a3 : Int32) (w : Wt) (z : Int32) (hx : p.tables.exec = Jvm.exec) (hb : c.code = cX1_leaders) (hml : c.maxLocals = 8) (C : Cx EVc KC D dA q A s m args RX1) (fin : ∀ (H : Heap) (locs : List Loc) (ls : Array Slot) (r' : Int32) (pc : Nat) , Sta KC D dA q A s.heap w H locs → some r' = some z → decode cX1_leaders pc = .ok (.ireturn, 1) → W p l e RM_f_Count_leaders_M s m args below meth c H locs 0 0 Q (F0 m pc ls [.int r'])) : ∀ (H : Heap) (locs : List Loc) (ls : Array Slot), lv_has ls 8 [(0, .ref (q 22)), (1, .int a1), (2, .int a2), (3, .int a3)] → Sta KC D dA q A s.heap w H locs → f_Count_leaders_M a1 a2 a3 w = some z → W p l e RM_f_Count_leaders_M s m args below meth c H locs 0 0 Q (F0 m 0 ls []) := by
  have ev : evOk EVc := EVc_ok
  have lab98 : ∀ (l4 : Int32) (H : Heap) (locs : List Loc) (ls : Array Slot), lv_has ls 8 [(4, .int l4)] → Sta KC D dA q A s.heap w H locs → Option.bind (f_Count_leaders_M_b98 l4 w) some = some z → W p l e RM_f_Count_leaders_M s m args below meth c H locs 0 0 Q (F0 m 98 ls []) := by
    intro l4 H locs ls hl S h
    unfold f_Count_leaders_M_b98 at h
    refine lv_iload hx hb dX1_leaders_98 (lv_at hl 0 rfl) ?_
    exact fin _ _ _ l4 _ S h dX1_leaders_100
  have loop9 : ∀ (l1 : Int32) (l2 : Int32) (l3 : Int32) (n9 : Nat), ∀ (l4 : Int32) (l5 : Int32) (l6 : Int32) (H : Heap) (locs : List Loc) (ls : Array Slot), lv_has ls 8 [(0, .ref (q 22)), (1, .int l1), (2, .int l2), (3, .int l3), (4, .int l4), (5, .int l5), (6, .int l6)] → Sta KC D dA q A s.heap w H locs → Option.bind (lp (f_Count_leaders_M_L9 l1 l2 l3 w) n9 (l4, l5, l6)) (fun x9 => Option.bind (f_Count_leaders_M_x9 w x9) some) = some z → W p l e RM_f_Count_leaders_M s m args below meth c H locs 0 0 Q (F0 m 9 ls []) := by
    intro l1 l2 l3 n9
    induction n9 with
    | zero =>
      intro l4 l5 l6 H locs ls hl S h
      exact (h_lp0 h).elim
    | succ n9 ih9 =>
      have lab76 : ∀ (l4 : Int32) (l5 : Int32) (l6 : Int32) (l7 : Int32) (H : Heap) (locs : List Loc) (ls : Array Slot), lv_has ls 8 [(0, .ref (q 22)), (1, .int l1), (2, .int l2), (3, .int l3), (4, .int l4), (5, .int l5), (6, .int l6), (7, .int l7)] → Sta KC D dA q A s.heap w H locs → Option.bind (f_Count_leaders_M_b76 l1 l2 l3 l4 l5 l6 l7 w) (seqF (fun s9 => Option.bind (lp (f_Count_leaders_M_L9 l1 l2 l3 w) n9 s9) (fun x9 => Option.bind (f_Count_leaders_M_x9 w x9) some)) (fun x9 => Option.bind (f_Count_leaders_M_x9 w x9) some)) = some z → W p l e RM_f_Count_leaders_M s m args below meth c H locs 0 0 Q (F0 m 76 ls []) := by
        intro l4 l5 l6 l7 H locs ls hl S h
        unfold f_Count_leaders_M_b76 at h
        refine lv_iload hx hb dX1_leaders_76 (lv_at hl 7 rfl) ?_
        refine lv_iload hx hb dX1_leaders_78 (lv_at hl 5 rfl) ?_
        refine lv_icmp_ne (tgt := 92) hx hb dX1_leaders_80 rfl (fun c1 => ?_) (fun c1 => ?_)
        · have h := h_f c1 h
          refine lv_iinc (v := (l6 + 1)) (lv' := [(6, .int (l6 + 1)), (0, .ref (q 22)), (1, .int l1), (2, .int l2), (3, .int l3), (4, .int l4), (5, .int l5), (7, .int l7)]) hx hb dX1_leaders_92 hl (k := 6) rfl rfl (Nat.le_of_ble_eq_true rfl) rfl (fun ls hl => ?_)
          refine lv_goto (tgt := 9) hx hb dX1_leaders_95 rfl ?_
          exact ih9 l4 l5 (l6 + 1) _ _ _ (lv_sub hl [1, 2, 3, 4, 5, 6, 0] rfl) S h
        · have h := h_t c1 h
          refine lv_iload hx hb dX1_leaders_83 (lv_at hl 4 rfl) ?_
          refine lv_iconst (v := 1) hx hb dX1_leaders_85 (by decide) ?_
          refine lv_iload hx hb dX1_leaders_86 (lv_at hl 6 rfl) ?_
          refine lv_ishl hx hb dX1_leaders_88 ?_
          refine lv_ior hx hb dX1_leaders_89 ?_
          refine lv_topi (fun v2 ev2 => ?_)
          have h := h_l h v2 ev2
          refine lv_istore (lv' := [(4, .int v2), (0, .ref (q 22)), (1, .int l1), (2, .int l2), (3, .int l3), (5, .int l5), (6, .int l6), (7, .int l7)]) hx hb dX1_leaders_90 hl (Nat.le_of_ble_eq_true rfl) rfl (fun ls hl => ?_)
          refine lv_iinc (v := (l6 + 1)) (lv' := [(6, .int (l6 + 1)), (4, .int v2), (0, .ref (q 22)), (1, .int l1), (2, .int l2), (3, .int l3), (5, .int l5), (7, .int l7)]) hx hb dX1_leaders_92 hl (k := 6) rfl rfl (Nat.le_of_ble_eq_true rfl) rfl (fun ls hl => ?_)
          refine lv_goto (tgt := 9) hx hb dX1_leaders_95 rfl ?_
          exact ih9 v2 l5 (l6 + 1) _ _ _ (lv_sub hl [2, 3, 4, 5, 1, 6, 0] rfl) S h
      have lab63 : ∀ (l6 : Int32) (l7 : Int32) (H : Heap) (locs : List Loc) (ls : Array Slot), lv_has ls 8 [(0, .ref (q 22)), (1, .int l1), (2, .int l2), (3, .int l3), (6, .int l6), (7, .int l7)] → Sta KC D dA q A s.heap w H locs → Option.bind (f_Count_leaders_M_b63 l1 l2 l3 l6 l7 w) (seqF (fun s9 => Option.bind (lp (f_Count_leaders_M_L9 l1 l2 l3 w) n9 s9) (fun x9 => Option.bind (f_Count_leaders_M_x9 w x9) some)) (fun x9 => Option.bind (f_Count_leaders_M_x9 w x9) some)) = some z → W p l e RM_f_Count_leaders_M s m args below meth c H locs 0 0 Q (F0 m 63 ls []) := by
        intro l6 l7 H locs ls hl S h
        unfold f_Count_leaders_M_b63 at h
        refine lv_iconst (v := 1) hx hb dX1_leaders_63 (by decide) ?_
        refine lv_iload hx hb dX1_leaders_64 (lv_at hl 4 rfl) ?_
        refine lv_ishl hx hb dX1_leaders_66 ?_
        refine lv_topi (fun v3 ev3 => ?_)
        have h := h_l h v3 ev3
        refine lv_istore (lv' := [(4, .int v3), (0, .ref (q 22)), (1, .int l1), (2, .int l2), (3, .int l3), (6, .int l6), (7, .int l7)]) hx hb dX1_leaders_67 hl (Nat.le_of_ble_eq_true rfl) rfl (fun ls hl => ?_)
        refine lv_iload hx hb dX1_leaders_69 (lv_at hl 6 rfl) ?_
        refine lv_istore (lv' := [(5, .int l7), (4, .int v3), (0, .ref (q 22)), (1, .int l1), (2, .int l2), (3, .int l3), (6, .int l6), (7, .int l7)]) hx hb dX1_leaders_71 hl (Nat.le_of_ble_eq_true rfl) rfl (fun ls hl => ?_)
        refine lv_goto (tgt := 92) hx hb dX1_leaders_73 rfl ?_
        refine lv_iinc (v := (l6 + 1)) (lv' := [(6, .int (l6 + 1)), (5, .int l7), (4, .int v3), (0, .ref (q 22)), (1, .int l1), (2, .int l2), (3, .int l3), (7, .int l7)]) hx hb dX1_leaders_92 hl (k := 6) rfl rfl (Nat.le_of_ble_eq_true rfl) rfl (fun ls hl => ?_)
        refine lv_goto (tgt := 9) hx hb dX1_leaders_95 rfl ?_
        exact ih9 v3 l7 (l6 + 1) _ _ _ (lv_sub hl [3, 4, 5, 6, 2, 1, 0] rfl) S h
      intro l4 l5 l6 H locs ls hl S h
      have h := h_lp h
      unfold f_Count_leaders_M_L9 at h
      refine lv_iload hx hb dX1_leaders_9 (lv_at hl 6 rfl) ?_
      refine lv_bipush (v := 6) hx hb dX1_leaders_11 (by decide) ?_
      refine lv_icmp_ge (tgt := 98) hx hb dX1_leaders_13 rfl (fun c4 => ?_) (fun c4 => ?_)
      · have h := h_t c4 h
        exact lab98 l4 _ _ _ (lv_sub hl [4] rfl) S h
      · have h := h_f c4 h
        refine lv_iload_n hx hb dX1_leaders_16 rfl (lv_at hl 1 rfl) ?_
        refine lv_iload hx hb dX1_leaders_17 (lv_at hl 6 rfl) ?_
        obtain ⟨x5, ex5, h⟩ := h_c h
        refine k_i C S (q_S (rest := []) (As := [.int l1, .int l6]) lk_RX1_91 ev hx hb hml C S (c_f_Count_hasBit l D dA q l1 l6 w x5 ex5 _) rfl rfl ⟨(Nat.le_of_ble_eq_true rfl), (Nat.le_of_ble_eq_true rfl)⟩ rfl hl.1 rfl (Nat.le_of_ble_eq_true rfl) dX1_leaders_19 ⟨(Nat.le_of_ble_eq_true rfl), (Nat.le_of_ble_eq_true rfl)⟩) (fun H locs S => ?_)
        refine lv_if_ne (tgt := 28) hx hb dX1_leaders_22 rfl (fun c6 => ?_) (fun c6 => ?_)
        · have h := h_f c6 h
          refine lv_aload_n hx hb dX1_leaders_28 rfl (lv_at hl 0 rfl) ?_
          refine lv_iload_n hx hb dX1_leaders_29 rfl (lv_at hl 2 rfl) ?_
          refine lv_iload hx hb dX1_leaders_30 (lv_at hl 6 rfl) ?_
          obtain ⟨x7, ex7, h⟩ := h_c h
          refine k_i C S (q_U (rest := []) (As := [.int l2, .int l6]) lk_RX1_84_X3 (ud_lk_RX1_84_X3 C) (us_lk_RX1_84_X3 C) ev hx hb hml C S KC_22 rfl (c_f_MachineCount_votesIn l D dA q l2 l6 w x7 ex7 _) rfl rfl ⟨(Nat.le_of_ble_eq_true rfl), (Nat.le_of_ble_eq_true rfl)⟩ rfl hl.1 rfl (Nat.le_of_ble_eq_true rfl) dX1_leaders_32 ⟨(Nat.le_of_ble_eq_true rfl), (Nat.le_of_ble_eq_true rfl)⟩) (fun H locs S => ?_)
          refine lv_istore (lv' := [(7, .int x7), (0, .ref (q 22)), (1, .int l1), (2, .int l2), (3, .int l3), (4, .int l4), (5, .int l5), (6, .int l6)]) hx hb dX1_leaders_35 hl (Nat.le_of_ble_eq_true rfl) rfl (fun ls hl => ?_)
          refine lv_iload hx hb dX1_leaders_37 (lv_at hl 5 rfl) ?_
          refine lv_if_eq (tgt := 63) hx hb dX1_leaders_39 rfl (fun c8 => ?_) (fun c8 => ?_)
          · have h := h_t c8 h
            exact lab63 l6 x7 _ _ _ (lv_sub hl [1, 2, 3, 4, 7, 0] rfl) S h
          · have h := h_f c8 h
            refine lv_iload_n hx hb dX1_leaders_42 rfl (lv_at hl 4 rfl) ?_
            refine lv_if_eq (tgt := 56) hx hb dX1_leaders_43 rfl (fun c9 => ?_) (fun c9 => ?_)
            · have h := h_t c9 h
              refine lv_iload hx hb dX1_leaders_56 (lv_at hl 0 rfl) ?_
              refine lv_iload hx hb dX1_leaders_58 (lv_at hl 6 rfl) ?_
              refine lv_icmp_ge (tgt := 76) hx hb dX1_leaders_60 rfl (fun c10 => ?_) (fun c10 => ?_)
              · have h := h_t c10 h
                exact lab76 l4 l5 l6 x7 _ _ _ (lv_sub hl [1, 2, 3, 4, 5, 6, 7, 0] rfl) S h
              · have h := h_f c10 h
                exact lab63 l6 x7 _ _ _ (lv_sub hl [1, 2, 3, 4, 7, 0] rfl) S h
            · have h := h_f c9 h
              refine lv_iload hx hb dX1_leaders_46 (lv_at hl 0 rfl) ?_
              refine lv_iload hx hb dX1_leaders_48 (lv_at hl 6 rfl) ?_
              refine lv_icmp_le (tgt := 76) hx hb dX1_leaders_50 rfl (fun c11 => ?_) (fun c11 => ?_)
              · have h := h_t c11 h
                exact lab76 l4 l5 l6 x7 _ _ _ (lv_sub hl [1, 2, 3, 4, 5, 6, 7, 0] rfl) S h
              · have h := h_f c11 h
                refine lv_goto (tgt := 63) hx hb dX1_leaders_53 rfl ?_
                exact lab63 l6 x7 _ _ _ (lv_sub hl [1, 2, 3, 4, 7, 0] rfl) S h
        · have h := h_t c6 h
          refine lv_goto (tgt := 92) hx hb dX1_leaders_25 rfl ?_
          refine lv_iinc (v := (l6 + 1)) (lv' := [(6, .int (l6 + 1)), (0, .ref (q 22)), (1, .int l1), (2, .int l2), (3, .int l3), (4, .int l4), (5, .int l5)]) hx hb dX1_leaders_92 hl (k := 6) rfl rfl (Nat.le_of_ble_eq_true rfl) rfl (fun ls hl => ?_)
          refine lv_goto (tgt := 9) hx hb dX1_leaders_95 rfl ?_
          exact ih9 l4 l5 (l6 + 1) _ _ _ (lv_sub hl [1, 2, 3, 4, 5, 6, 0] rfl) S h
  intro H locs ls hl S h
  have h := h_0 h
  unfold f_Count_leaders_M at h
  refine lv_iconst (v := 0) hx hb dX1_leaders_0 (by decide) ?_
  refine lv_istore (lv' := [(4, .int (0 : Int32)), (0, .ref (q 22)), (1, .int a1), (2, .int a2), (3, .int a3)]) hx hb dX1_leaders_1 hl (Nat.le_of_ble_eq_true rfl) rfl (fun ls hl => ?_)
  refine lv_iconst (v := 0) hx hb dX1_leaders_3 (by decide) ?_
  refine lv_istore (lv' := [(5, .int (0 : Int32)), (4, .int (0 : Int32)), (0, .ref (q 22)), (1, .int a1), (2, .int a2), (3, .int a3)]) hx hb dX1_leaders_4 hl (Nat.le_of_ble_eq_true rfl) rfl (fun ls hl => ?_)
  refine lv_iconst (v := 0) hx hb dX1_leaders_6 (by decide) ?_
  refine lv_istore (lv' := [(6, .int (0 : Int32)), (5, .int (0 : Int32)), (4, .int (0 : Int32)), (0, .ref (q 22)), (1, .int a1), (2, .int a2), (3, .int a3)]) hx hb dX1_leaders_7 hl (Nat.le_of_ble_eq_true rfl) rfl (fun ls hl => ?_)
  exact loop9 a1 a2 a3 FU (0 : Int32) (0 : Int32) (0 : Int32) _ _ _ (lv_sub hl [3, 4, 5, 6, 2, 1, 0] rfl) S (h_bb h)
theorem c_f_Count_leaders_M (l : Launch) (D : va_G) (dA : Nat → ClassId) (q : Nat → Nat) (a1 : Int32) (a2 : Int32) (a3 : Int32) (w : Wt) (r : Int32) (h : f_Count_leaders_M a1 a2 a3 w = some r) : Mi l EVc KC D dA q yX1_leaders cX1_leaders 8 (some .int) RM_f_Count_leaders_M [.ref (q 22), .int a1, .int a2, .int a3] w r w :=
  mk_i (by decide) rfl EVc_ok (Nat.le_of_ble_eq_true rfl) (fun p e s m args below meth c A Q ls hx hb hml C S hl fin => k_f_Count_leaders_M a1 a2 a3 w r hx hb hml C (fun H locs ls r' pc S h d => fin H locs ls r' w pc S (by rw [Option.some.inj h]) d) _ _ _ hl S h)
/-! Ballotscript$MachineCount.weightOf(I)I f_MachineCount_weightOf -/
def f_MachineCount_weightOf (a1 : Int32) (w : Wt) : Option Int32 := (if (0 : Int32) ≤ a1 then gd (inb a1 156) (some (w 26 (a1).toNatClampNeg)) else some (0 : Int32))
def RM_f_MachineCount_weightOf : Room := { frames := 0, cells := 0, slots := 0, locals := 0 }
set_option maxHeartbeats 4000000 in
set_option maxRecDepth 20000 in
theorem k_f_MachineCount_weightOf (a1 : Int32) (w : Wt) (z : Int32) (hx : p.tables.exec = Jvm.exec) (hb : c.code = cX3_weightOf) (hml : c.maxLocals = 2) (C : Cx EVc KC D dA q A s m args RX3) (fin : ∀ (H : Heap) (locs : List Loc) (ls : Array Slot) (r' : Int32) (pc : Nat) , Sta KC D dA q A s.heap w H locs → some r' = some z → decode cX3_weightOf pc = .ok (.ireturn, 1) → W p l e RM_f_MachineCount_weightOf s m args below meth c H locs 0 0 Q (F0 m pc ls [.int r'])) : ∀ (H : Heap) (locs : List Loc) (ls : Array Slot), lv_has ls 2 [(0, .ref (q 22)), (1, .int a1)] → Sta KC D dA q A s.heap w H locs → f_MachineCount_weightOf a1 w = some z → W p l e RM_f_MachineCount_weightOf s m args below meth c H locs 0 0 Q (F0 m 0 ls []) := by
  have ev : evOk EVc := EVc_ok
  intro H locs ls hl S h
  have h := h_0 h
  unfold f_MachineCount_weightOf at h
  refine lv_iload_n hx hb dX3_weightOf_0 rfl (lv_at hl 1 rfl) ?_
  refine lv_if_ge (tgt := 8) hx hb dX3_weightOf_1 rfl (fun c1 => ?_) (fun c1 => ?_)
  · have h := h_t c1 h
    refine lv_aload_n hx hb dX3_weightOf_8 rfl (lv_at hl 0 rfl) ?_
    refine g_getR fl_RX3_18_X3 hx hb C S KC_22 rfl dX3_weightOf_9 ?_
    refine lv_iload_n hx hb dX3_weightOf_12 rfl (lv_at hl 1 rfl) ?_
    obtain ⟨g2, h⟩ := h_gd h
    refine r_iald hx hb C S KC_26 (h_in g2) dX3_weightOf_13 ?_
    exact fin _ _ _ (w 26 (a1).toNatClampNeg) _ S h dX3_weightOf_14
  · have h := h_f c1 h
    refine lv_iconst (v := 0) hx hb dX3_weightOf_4 (by decide) ?_
    refine lv_goto (tgt := 14) hx hb dX3_weightOf_5 rfl ?_
    exact fin _ _ _ (0 : Int32) _ S h dX3_weightOf_14
theorem c_f_MachineCount_weightOf (l : Launch) (D : va_G) (dA : Nat → ClassId) (q : Nat → Nat) (a1 : Int32) (w : Wt) (r : Int32) (h : f_MachineCount_weightOf a1 w = some r) : Mi l EVc KC D dA q yX3_weightOf cX3_weightOf 2 (some .int) RM_f_MachineCount_weightOf [.ref (q 22), .int a1] w r w :=
  mk_i (by decide) rfl EVc_ok (Nat.le_of_ble_eq_true rfl) (fun p e s m args below meth c A Q ls hx hb hml C S hl fin => k_f_MachineCount_weightOf a1 w r hx hb hml C (fun H locs ls r' pc S h d => fin H locs ls r' w pc S (by rw [Option.some.inj h]) d) _ _ _ hl S h)
/-! Ballotscript$Count.maySomeGo(CII)Z f_Count_maySomeGo_M -/
def f_Count_maySomeGo_M_b74 (l3 : Int32) (w : Wt) : Option Int32 := (if l3 = (0 : Int32) then some (0 : Int32) else some (1 : Int32))
def f_Count_maySomeGo_M (a1 : Int32) (a2 : Int32) (a3 : Int32) (w : Wt) : Option Int32 := (if a1 = (120 : Int32) then Option.bind (f_Integer_bitCount (w 22 5)) fun x10 => (if x10 ≤ (w 22 4) then some (0 : Int32) else some (1 : Int32)) else (if a1 = (101 : Int32) then (if a3 = (0 : Int32) then f_Count_maySomeGo_M_b74 a3 w else nmd ((w 22 3) - (1 : Int32)) fun v5 => Option.bind (f_Count_lowest a3) fun x6 => Option.bind (f_MachineCount_votesIn v5 x6 w) fun x7 => Option.bind (f_MachineCount_weightOf v5 w) fun x8 => (if ((100 : Int32) * x7) ≤ (a2 * x8) then some (0 : Int32) else some (1 : Int32))) else f_Count_maySomeGo_M_b74 a3 w))
def RM_f_Count_maySomeGo_M : Room := { frames := 2, cells := 0, slots := 0, locals := 42 }
set_option maxHeartbeats 4000000 in
set_option maxRecDepth 20000 in
theorem k_f_Count_maySomeGo_M (a1 : Int32) (a2 : Int32) (a3 : Int32) (w : Wt) (z : Int32) (hx : p.tables.exec = Jvm.exec) (hb : c.code = cX1_maySomeGo) (hml : c.maxLocals = 5) (C : Cx EVc KC D dA q A s m args RX1) (fin : ∀ (H : Heap) (locs : List Loc) (ls : Array Slot) (r' : Int32) (pc : Nat) , narrow .boolean (.int r') = .int r' → Sta KC D dA q A s.heap w H locs → some r' = some z → decode cX1_maySomeGo pc = .ok (.ireturn, 1) → W p l e RM_f_Count_maySomeGo_M s m args below meth c H locs 0 0 Q (F0 m pc ls [.int r'])) : ∀ (H : Heap) (locs : List Loc) (ls : Array Slot), lv_has ls 5 [(0, .ref (q 22)), (1, .int a1), (2, .int a2), (3, .int a3)] → Sta KC D dA q A s.heap w H locs → f_Count_maySomeGo_M a1 a2 a3 w = some z → W p l e RM_f_Count_maySomeGo_M s m args below meth c H locs 0 0 Q (F0 m 0 ls []) := by
  have ev : evOk EVc := EVc_ok
  have lab74 : ∀ (l3 : Int32) (H : Heap) (locs : List Loc) (ls : Array Slot), lv_has ls 5 [(3, .int l3)] → Sta KC D dA q A s.heap w H locs → Option.bind (f_Count_maySomeGo_M_b74 l3 w) some = some z → W p l e RM_f_Count_maySomeGo_M s m args below meth c H locs 0 0 Q (F0 m 74 ls []) := by
    intro l3 H locs ls hl S h
    unfold f_Count_maySomeGo_M_b74 at h
    refine lv_iload_n hx hb dX1_maySomeGo_74 rfl (lv_at hl 0 rfl) ?_
    refine lv_if_eq (tgt := 82) hx hb dX1_maySomeGo_75 rfl (fun c1 => ?_) (fun c1 => ?_)
    · have h := h_t c1 h
      refine lv_iconst (v := 0) hx hb dX1_maySomeGo_82 (by decide) ?_
      exact fin _ _ _ (0 : Int32) _ (by decide) S h dX1_maySomeGo_83
    · have h := h_f c1 h
      refine lv_iconst (v := 1) hx hb dX1_maySomeGo_78 (by decide) ?_
      refine lv_goto (tgt := 83) hx hb dX1_maySomeGo_79 rfl ?_
      exact fin _ _ _ (1 : Int32) _ (by decide) S h dX1_maySomeGo_83
  intro H locs ls hl S h
  have h := h_0 h
  unfold f_Count_maySomeGo_M at h
  refine lv_iload_n hx hb dX1_maySomeGo_0 rfl (lv_at hl 1 rfl) ?_
  refine lv_bipush (v := 120) hx hb dX1_maySomeGo_1 (by decide) ?_
  refine lv_icmp_ne (tgt := 26) hx hb dX1_maySomeGo_3 rfl (fun c2 => ?_) (fun c2 => ?_)
  · have h := h_f c2 h
    refine lv_iload_n hx hb dX1_maySomeGo_26 rfl (lv_at hl 1 rfl) ?_
    refine lv_bipush (v := 101) hx hb dX1_maySomeGo_27 (by decide) ?_
    refine lv_icmp_ne (tgt := 74) hx hb dX1_maySomeGo_29 rfl (fun c3 => ?_) (fun c3 => ?_)
    · have h := h_f c3 h
      exact lab74 a3 _ _ _ (lv_sub hl [3] rfl) S h
    · have h := h_t c3 h
      refine lv_iload_n hx hb dX1_maySomeGo_32 rfl (lv_at hl 3 rfl) ?_
      refine lv_if_eq (tgt := 74) hx hb dX1_maySomeGo_33 rfl (fun c4 => ?_) (fun c4 => ?_)
      · have h := h_t c4 h
        exact lab74 a3 _ _ _ (lv_sub hl [3] rfl) S h
      · have h := h_f c4 h
        refine lv_aload_n hx hb dX1_maySomeGo_36 rfl (lv_at hl 0 rfl) ?_
        refine g_get fl_RX1_23_X3 hx hb C S KC_22 rfl dX1_maySomeGo_37 ?_
        refine lv_iconst (v := 1) hx hb dX1_maySomeGo_40 (by decide) ?_
        refine lv_isub hx hb dX1_maySomeGo_41 ?_
        refine lv_topi (fun v5 ev5 => ?_)
        have h := h_l h v5 ev5
        refine lv_istore (lv' := [(4, .int v5), (0, .ref (q 22)), (1, .int a1), (2, .int a2), (3, .int a3)]) hx hb dX1_maySomeGo_42 hl (Nat.le_of_ble_eq_true rfl) rfl (fun ls hl => ?_)
        refine lv_bipush (v := 100) hx hb dX1_maySomeGo_44 (by decide) ?_
        refine lv_aload_n hx hb dX1_maySomeGo_46 rfl (lv_at hl 1 rfl) ?_
        refine lv_iload hx hb dX1_maySomeGo_47 (lv_at hl 0 rfl) ?_
        refine lv_iload_n hx hb dX1_maySomeGo_49 rfl (lv_at hl 4 rfl) ?_
        obtain ⟨x6, ex6, h⟩ := h_c h
        refine k_i C S (q_S (rest := [.int v5, .ref (q 22), .int (100 : Int32)]) (As := [.int a3]) lk_RX1_77 ev hx hb hml C S (c_f_Count_lowest l D dA q a3 w x6 ex6 _) rfl rfl ⟨(Nat.le_of_ble_eq_true rfl), (Nat.le_of_ble_eq_true rfl)⟩ rfl hl.1 rfl (Nat.le_of_ble_eq_true rfl) dX1_maySomeGo_50 ⟨(Nat.le_of_ble_eq_true rfl), (Nat.le_of_ble_eq_true rfl)⟩) (fun H locs S => ?_)
        obtain ⟨x7, ex7, h⟩ := h_c h
        refine k_i C S (q_U (rest := [.int (100 : Int32)]) (As := [.int v5, .int x6]) lk_RX1_84_X3 (ud_lk_RX1_84_X3 C) (us_lk_RX1_84_X3 C) ev hx hb hml C S KC_22 rfl (c_f_MachineCount_votesIn l D dA q v5 x6 w x7 ex7 _) rfl rfl ⟨(Nat.le_of_ble_eq_true rfl), (Nat.le_of_ble_eq_true rfl)⟩ rfl hl.1 rfl (Nat.le_of_ble_eq_true rfl) dX1_maySomeGo_53 ⟨(Nat.le_of_ble_eq_true rfl), (Nat.le_of_ble_eq_true rfl)⟩) (fun H locs S => ?_)
        refine lv_imul hx hb dX1_maySomeGo_56 ?_
        refine lv_iload_n hx hb dX1_maySomeGo_57 rfl (lv_at hl 3 rfl) ?_
        refine lv_aload_n hx hb dX1_maySomeGo_58 rfl (lv_at hl 1 rfl) ?_
        refine lv_iload hx hb dX1_maySomeGo_59 (lv_at hl 0 rfl) ?_
        obtain ⟨x8, ex8, h⟩ := h_c h
        refine k_i C S (q_U (rest := [.int a2, .int ((100 : Int32) * x7)]) (As := [.int v5]) lk_RX1_88_X3 (ud_lk_RX1_88_X3 C) (us_lk_RX1_88_X3 C) ev hx hb hml C S KC_22 rfl (c_f_MachineCount_weightOf l D dA q v5 w x8 ex8 _) rfl rfl ⟨(Nat.le_of_ble_eq_true rfl), (Nat.le_of_ble_eq_true rfl)⟩ rfl hl.1 rfl (Nat.le_of_ble_eq_true rfl) dX1_maySomeGo_61 ⟨(Nat.le_of_ble_eq_true rfl), (Nat.le_of_ble_eq_true rfl)⟩) (fun H locs S => ?_)
        refine lv_imul hx hb dX1_maySomeGo_64 ?_
        refine lv_icmp_le (tgt := 72) hx hb dX1_maySomeGo_65 rfl (fun c9 => ?_) (fun c9 => ?_)
        · have h := h_t c9 h
          refine lv_iconst (v := 0) hx hb dX1_maySomeGo_72 (by decide) ?_
          exact fin _ _ _ (0 : Int32) _ (by decide) S h dX1_maySomeGo_73
        · have h := h_f c9 h
          refine lv_iconst (v := 1) hx hb dX1_maySomeGo_68 (by decide) ?_
          refine lv_goto (tgt := 73) hx hb dX1_maySomeGo_69 rfl ?_
          exact fin _ _ _ (1 : Int32) _ (by decide) S h dX1_maySomeGo_73
  · have h := h_t c2 h
    refine lv_aload_n hx hb dX1_maySomeGo_6 rfl (lv_at hl 0 rfl) ?_
    refine g_get fl_RX1_29_X3 hx hb C S KC_22 rfl dX1_maySomeGo_7 ?_
    obtain ⟨x10, ex10, h⟩ := h_c h
    refine k_i C S (q_S (rest := []) (As := [.int (w 22 5)]) lk_RX1_69 ev hx hb hml C S (c_f_Integer_bitCount l D dA q (w 22 5) w x10 ex10 _) rfl rfl ⟨(Nat.le_of_ble_eq_true rfl), (Nat.le_of_ble_eq_true rfl)⟩ rfl hl.1 rfl (Nat.le_of_ble_eq_true rfl) dX1_maySomeGo_10 ⟨(Nat.le_of_ble_eq_true rfl), (Nat.le_of_ble_eq_true rfl)⟩) (fun H locs S => ?_)
    refine lv_aload_n hx hb dX1_maySomeGo_13 rfl (lv_at hl 0 rfl) ?_
    refine g_get fl_RX1_26_X3 hx hb C S KC_22 rfl dX1_maySomeGo_14 ?_
    refine lv_icmp_le (tgt := 24) hx hb dX1_maySomeGo_17 rfl (fun c11 => ?_) (fun c11 => ?_)
    · have h := h_t c11 h
      refine lv_iconst (v := 0) hx hb dX1_maySomeGo_24 (by decide) ?_
      exact fin _ _ _ (0 : Int32) _ (by decide) S h dX1_maySomeGo_25
    · have h := h_f c11 h
      refine lv_iconst (v := 1) hx hb dX1_maySomeGo_20 (by decide) ?_
      refine lv_goto (tgt := 25) hx hb dX1_maySomeGo_21 rfl ?_
      exact fin _ _ _ (1 : Int32) _ (by decide) S h dX1_maySomeGo_25
theorem c_f_Count_maySomeGo_M (l : Launch) (D : va_G) (dA : Nat → ClassId) (q : Nat → Nat) (a1 : Int32) (a2 : Int32) (a3 : Int32) (w : Wt) (r : Int32) (h : f_Count_maySomeGo_M a1 a2 a3 w = some r) : Mi l EVc KC D dA q yX1_maySomeGo cX1_maySomeGo 5 (some .boolean) RM_f_Count_maySomeGo_M [.ref (q 22), .int a1, .int a2, .int a3] w r w :=
  mk_z (by decide) rfl EVc_ok (Nat.le_of_ble_eq_true rfl) (fun p e s m args below meth c A Q ls hx hb hml C S hl fin => k_f_Count_maySomeGo_M a1 a2 a3 w r hx hb hml C (fun H locs ls r' pc hn S h d => fin H locs ls r' w pc hn S (by rw [Option.some.inj h]) d) _ _ _ hl S h)
end WALKS

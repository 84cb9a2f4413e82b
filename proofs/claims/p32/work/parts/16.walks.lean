section WALKS
variable {p : Program} {l : Launch} {e : Env} {s : State} {m : MethodId} {args : Array Value} {below : List Frame} {meth : Method} {c : Code} {Q : State → Prop} {D : va_G} {dA : Nat → ClassId} {q : Nat → Nat} {A : Nat → Prop}
/-! Ballotscript.close(I)I f_Ballotscript_close -/
def f_Ballotscript_close (a1 : Int32) (w : Wt) : Option ((Nat ⊕ Int32) × Wt) := Option.bind (f_Ballotscript_needVote a1 w) fun x1 => onX x1 (fun k2 => some (.inl k2, w)) (fun _ => gd (inb a1 8) ((if (w (64 + (a1).toNatClampNeg) 4) = (0 : Int32) then gd (inb a1 8) (nmd (upd2 w (64 + (a1).toNatClampNeg) 4 (1 : Int32)) fun w5 => Option.bind (f_Box_gather a1 w5) fun x6 => some (.inr (x6 13 10), x6)) else some (.inl 2, w))))
def RM_f_Ballotscript_close : Room := { frames := 11, cells := 4, slots := 24, locals := 171 }
set_option maxHeartbeats 4000000 in
set_option maxRecDepth 20000 in
theorem k_f_Ballotscript_close (a1 : Int32) (w : Wt) (z : ((Nat ⊕ Int32) × Wt)) (hfl : l.stackTraces = false) (hx : p.tables.exec = Jvm.exec) (hb : c.code = cX9_close) (hml : c.maxLocals = 2) (C : Cx EVc KC D dA q A s m args RX9) (fin : ∀ (H : Heap) (locs : List Loc) (ls : Array Slot) (r' : Int32) (w2 : Wt) (pc : Nat) (cl sl : Nat) , cl ≤ 4 → sl ≤ 24 → Sta KC D dA q A s.heap w2 H locs → some ((.inr r' : Nat ⊕ Int32), w2) = some z → decode cX9_close pc = .ok (.ireturn, 1) → W p l e RM_f_Ballotscript_close s m args below meth c H locs cl sl Q (F0 m pc ls [.int r'])) (thr : ∀ (H : Heap) (locs : List Loc) (ls : Array Slot) (w2 : Wt) (k pc cl sl : Nat), cl + 1 ≤ 4 → sl + 6 ≤ 24 → ls.size = 2 → Sta KC D dA q A s.heap w2 H locs → some ((.inl k : Nat ⊕ Int32), w2) = some z → thF RX9 cX9_close pc k → W p l e RM_f_Ballotscript_close s m args below meth c H locs cl sl Q (F0 m pc ls [])) (pro : ∀ (H : Heap) (locs : List Loc) (ls : Array Slot) (w2 : Wt) (k pc cl sl : Nat) (rest : List Value) (q9 : Nat) (ce : Cell), cl ≤ 4 → sl ≤ 24 → Sta KC D dA q A s.heap w2 H locs → some ((.inl k : Nat ⊕ Int32), w2) = some z → H[q9]? = some ce → ce.vm = .none → s.vm.findClass (exn k) = some ce.cls → vx_W p l e RM_f_Ballotscript_close s m args below meth c H locs cl sl Q (F0 m pc ls rest) q9) : ∀ (H : Heap) (locs : List Loc) (ls : Array Slot), lv_has ls 2 [(0, .ref (q 0)), (1, .int a1)] → Sta KC D dA q A s.heap w H locs → f_Ballotscript_close a1 w = some z → W p l e RM_f_Ballotscript_close s m args below meth c H locs 0 0 Q (F0 m 0 ls []) := by
  have ev : evOk EVc := EVc_ok
  intro H locs ls hl S h
  have h := h_0 h
  unfold f_Ballotscript_close at h
  refine lv_aload_n hx hb dX9_close_0 rfl (lv_at hl 0 rfl) ?_
  refine lv_iload_n hx hb dX9_close_1 rfl (lv_at hl 1 rfl) ?_
  obtain ⟨x1, ex1, h⟩ := h_c h
  refine k_x C S (x_V (rest := []) (As := [.int a1]) lk_RX9_176 ev hx hb hml C S KC_0 rfl (c_f_Ballotscript_needVote l hfl D dA q a1 w x1 ex1 _) rfl rfl ⟨(Nat.le_of_ble_eq_true rfl), (Nat.le_of_ble_eq_true rfl)⟩ rfl hl.1 rfl (Nat.le_of_ble_eq_true rfl) dX9_close_2 ⟨(Nat.le_of_ble_eq_true rfl), (Nat.le_of_ble_eq_true rfl)⟩) (fun k2 er H locs q9 ce S h1 h2 h3 => ?_) (fun r2 er H locs S => ?_)
  · exact pro _ _ _ w _ _ 1 6 _ _ _ (Nat.le_of_ble_eq_true rfl) (Nat.le_of_ble_eq_true rfl) S (h_xl er h) h1 h2 h3
  · have h := h_xr er h
    refine lv_aload_n hx hb dX9_close_5 rfl (lv_at hl 0 rfl) ?_
    refine g_getR fl_RX9_31_X9 hx hb C S KC_0 rfl dX9_close_6 ?_
    refine lv_iload_n hx hb dX9_close_9 rfl (lv_at hl 1 rfl) ?_
    obtain ⟨g2, h⟩ := h_gd h
    refine r_aald (t := 4) rfl hx hb C S KC_10 (h_in g2) dX9_close_10 ?_
    refine g_get fl_RX9_180_X8 hx hb C S (KC_64 (nt_lt (h_in g2))) rfl dX9_close_11 ?_
    refine lv_if_eq (tgt := 27) hx hb dX9_close_14 rfl (fun c3 => ?_) (fun c3 => ?_)
    · have h := h_t c3 h
      refine lv_aload_n hx hb dX9_close_27 rfl (lv_at hl 0 rfl) ?_
      refine g_getR fl_RX9_31_X9 hx hb C S KC_0 rfl dX9_close_28 ?_
      refine lv_iload_n hx hb dX9_close_31 rfl (lv_at hl 1 rfl) ?_
      obtain ⟨g4, h⟩ := h_gd h
      refine r_aald (t := 4) rfl hx hb C S KC_10 (h_in g4) dX9_close_32 ?_
      refine lv_iconst (v := 1) hx hb dX9_close_33 (by decide) ?_
      refine g_put fl_RX9_180_X8 pl_X8_4 hx hb C S (KC_64 (nt_lt (h_in g4))) rfl (by decide) dX9_close_34 (fun w5 ew5 H locs S => ?_)
      have h := h_l h w5 ew5
      refine lv_aload_n hx hb dX9_close_37 rfl (lv_at hl 0 rfl) ?_
      refine g_getR fl_RX9_47_X9 hx hb C S KC_0 rfl dX9_close_38 ?_
      refine lv_iload_n hx hb dX9_close_41 rfl (lv_at hl 1 rfl) ?_
      obtain ⟨x6, ex6, h⟩ := h_c h
      refine k_v C S (q_V (rest := []) (As := [.int a1]) lk_RX9_186 ev hx hb hml C S KC_13 rfl (c_f_Box_gather l D dA q a1 w5 x6 ex6 _) rfl rfl ⟨(Nat.le_of_ble_eq_true rfl), (Nat.le_of_ble_eq_true rfl)⟩ rfl hl.1 rfl (Nat.le_of_ble_eq_true rfl) dX9_close_42 ⟨(Nat.le_of_ble_eq_true rfl), (Nat.le_of_ble_eq_true rfl)⟩) (fun H locs S => ?_)
      refine lv_aload_n hx hb dX9_close_45 rfl (lv_at hl 0 rfl) ?_
      refine g_getR fl_RX9_47_X9 hx hb C S KC_0 rfl dX9_close_46 ?_
      refine g_get fl_RX9_189_X0 hx hb C S KC_13 rfl dX9_close_49 ?_
      exact fin _ _ _ (x6 13 10) x6 _ 1 6 (Nat.le_of_ble_eq_true rfl) (Nat.le_of_ble_eq_true rfl) S h dX9_close_52
    · have h := h_f c3 h
      exact thr _ _ _ w _ _ 1 6 (Nat.le_of_ble_eq_true rfl) (Nat.le_of_ble_eq_true rfl) hl.1 S h th_X9_close_17
theorem c_f_Ballotscript_close (l : Launch) (hfl : l.stackTraces = false) (D : va_G) (dA : Nat → ClassId) (q : Nat → Nat) (a1 : Int32) (w w' : Wt) (res : Nat ⊕ Int32) (h : f_Ballotscript_close a1 w = some (res, w')) : Xi l EVc KC D dA q yX9_close cX9_close 2 (some .int) RM_f_Ballotscript_close 4 24 [.ref (q 0), .int a1] w res w' :=
  mx_i (by decide) rfl hfl (Nat.le_of_ble_eq_true rfl) (Nat.le_of_ble_eq_true rfl) (Nat.le_of_ble_eq_true rfl) rfl rfl (fun p e s m args below meth c A Q ls hx hb hml C S hl fin thr pro => k_f_Ballotscript_close a1 w (res, w') hfl hx hb hml C (fun H locs ls r' w2 pc cl sl hc hs S h d => fin H locs ls r' w2 pc cl sl hc hs S h d) (fun H locs ls w2 k pc cl sl hc hs hz S h t => thr H locs ls w2 k pc cl sl hc hs hz S h t) (fun H locs ls w2 k pc cl sl rest q9 ce hc hs S h h1 h2 h3 => pro H locs ls w2 k pc cl sl rest q9 ce hc hs S h h1 h2 h3) _ _ _ hl S h)
/-! Ballotscript$Slip.has(I)Z f_Slip_has -/
def f_Slip_has_b28 (w : Wt) : Option Int32 := some (0 : Int32)
def f_Slip_has_L2 (l1 : Int32) (w : Wt) : Int32 → Option (Int32 ⊕ (Unit ⊕ Int32))
  | l2 => (if (w 11 1) ≤ l2 then some (.inr (.inl ())) else gd (inb l2 6) ((if (w 12 (l2).toNatClampNeg) = l1 then some (.inr (.inr (1 : Int32))) else some (.inl (l2 + 1)))))
def f_Slip_has_x2 (w : Wt) : (Unit ⊕ Int32) → Option Int32
  | .inl () => f_Slip_has_b28 w
  | .inr t => some t
def f_Slip_has (a1 : Int32) (w : Wt) : Option Int32 := Option.bind (lp (f_Slip_has_L2 a1 w) FU (0 : Int32)) (f_Slip_has_x2 w)
def RM_f_Slip_has : Room := { frames := 0, cells := 0, slots := 0, locals := 0 }
set_option maxHeartbeats 4000000 in
set_option maxRecDepth 20000 in
theorem k_f_Slip_has (a1 : Int32) (w : Wt) (z : Int32) (hx : p.tables.exec = Jvm.exec) (hb : c.code = cX6_has) (hml : c.maxLocals = 3) (C : Cx EVc KC D dA q A s m args RX6) (fin : ∀ (H : Heap) (locs : List Loc) (ls : Array Slot) (r' : Int32) (pc : Nat) , narrow .boolean (.int r') = .int r' → Sta KC D dA q A s.heap w H locs → some r' = some z → decode cX6_has pc = .ok (.ireturn, 1) → W p l e RM_f_Slip_has s m args below meth c H locs 0 0 Q (F0 m pc ls [.int r'])) : ∀ (H : Heap) (locs : List Loc) (ls : Array Slot), lv_has ls 3 [(0, .ref (q 11)), (1, .int a1)] → Sta KC D dA q A s.heap w H locs → f_Slip_has a1 w = some z → W p l e RM_f_Slip_has s m args below meth c H locs 0 0 Q (F0 m 0 ls []) := by
  have ev : evOk EVc := EVc_ok
  have lab28 : ∀ (H : Heap) (locs : List Loc) (ls : Array Slot), lv_has ls 3 [] → Sta KC D dA q A s.heap w H locs → Option.bind (f_Slip_has_b28 w) some = some z → W p l e RM_f_Slip_has s m args below meth c H locs 0 0 Q (F0 m 28 ls []) := by
    intro  H locs ls hl S h
    unfold f_Slip_has_b28 at h
    refine lv_iconst (v := 0) hx hb dX6_has_28 (by decide) ?_
    exact fin _ _ _ (0 : Int32) _ (by decide) S h dX6_has_29
  have loop2 : ∀ (l1 : Int32) (n2 : Nat), ∀ (l2 : Int32) (H : Heap) (locs : List Loc) (ls : Array Slot), lv_has ls 3 [(0, .ref (q 11)), (1, .int l1), (2, .int l2)] → Sta KC D dA q A s.heap w H locs → Option.bind (lp (f_Slip_has_L2 l1 w) n2 l2) (fun x9 => Option.bind (f_Slip_has_x2 w x9) some) = some z → W p l e RM_f_Slip_has s m args below meth c H locs 0 0 Q (F0 m 2 ls []) := by
    intro l1 n2
    induction n2 with
    | zero =>
      intro l2 H locs ls hl S h
      exact (h_lp0 h).elim
    | succ n2 ih2 =>
      intro l2 H locs ls hl S h
      have h := h_lp h
      unfold f_Slip_has_L2 at h
      refine lv_iload_n hx hb dX6_has_2 rfl (lv_at hl 2 rfl) ?_
      refine lv_aload_n hx hb dX6_has_3 rfl (lv_at hl 0 rfl) ?_
      refine g_get fl_RX6_15_X6 hx hb C S KC_11 rfl dX6_has_4 ?_
      refine lv_icmp_ge (tgt := 28) hx hb dX6_has_7 rfl (fun c1 => ?_) (fun c1 => ?_)
      · have h := h_t c1 h
        exact lab28  _ _ _ (lv_sub hl [] rfl) S h
      · have h := h_f c1 h
        refine lv_aload_n hx hb dX6_has_10 rfl (lv_at hl 0 rfl) ?_
        refine g_getR fl_RX6_9_X6 hx hb C S KC_11 rfl dX6_has_11 ?_
        refine lv_iload_n hx hb dX6_has_14 rfl (lv_at hl 2 rfl) ?_
        obtain ⟨g2, h⟩ := h_gd h
        refine r_iald hx hb C S KC_12 (h_in g2) dX6_has_15 ?_
        refine lv_iload_n hx hb dX6_has_16 rfl (lv_at hl 1 rfl) ?_
        refine lv_icmp_ne (tgt := 22) hx hb dX6_has_17 rfl (fun c3 => ?_) (fun c3 => ?_)
        · have h := h_f c3 h
          refine lv_iinc (v := (l2 + 1)) (lv' := [(2, .int (l2 + 1)), (0, .ref (q 11)), (1, .int l1)]) hx hb dX6_has_22 hl (k := 2) rfl rfl (Nat.le_of_ble_eq_true rfl) rfl (fun ls hl => ?_)
          refine lv_goto (tgt := 2) hx hb dX6_has_25 rfl ?_
          exact ih2 (l2 + 1) _ _ _ (lv_sub hl [1, 2, 0] rfl) S h
        · have h := h_t c3 h
          refine lv_iconst (v := 1) hx hb dX6_has_20 (by decide) ?_
          exact fin _ _ _ (1 : Int32) _ (by decide) S h dX6_has_21
  intro H locs ls hl S h
  have h := h_0 h
  unfold f_Slip_has at h
  refine lv_iconst (v := 0) hx hb dX6_has_0 (by decide) ?_
  refine lv_istore_n (lv' := [(2, .int (0 : Int32)), (0, .ref (q 11)), (1, .int a1)]) hx hb dX6_has_1 rfl hl (Nat.le_of_ble_eq_true rfl) rfl (fun ls hl => ?_)
  exact loop2 a1 FU (0 : Int32) _ _ _ (lv_sub hl [1, 2, 0] rfl) S (h_bb h)
theorem c_f_Slip_has (l : Launch) (D : va_G) (dA : Nat → ClassId) (q : Nat → Nat) (a1 : Int32) (w : Wt) (r : Int32) (h : f_Slip_has a1 w = some r) : Mi l EVc KC D dA q yX6_has cX6_has 3 (some .boolean) RM_f_Slip_has [.ref (q 11), .int a1] w r w :=
  mk_z (by decide) rfl EVc_ok (Nat.le_of_ble_eq_true rfl) (fun p e s m args below meth c A Q ls hx hb hml C S hl fin => k_f_Slip_has a1 w r hx hb hml C (fun H locs ls r' pc hn S h d => fin H locs ls r' w pc hn S (by rw [Option.some.inj h]) d) _ _ _ hl S h)
/-! Ballotscript$Slip.add(I)I f_Slip_add -/
def f_Slip_add (a1 : Int32) (w : Wt) : Option (Int32 × Wt) := (if (6 : Int32) ≤ (w 11 1) then some ((w 11 1), w) else gd (inb (w 11 1) 6) (nmd (upd2 w 12 ((w 11 1)).toNatClampNeg a1) fun w3 => nmd (upd2 w3 11 1 ((w3 11 1) + (1 : Int32))) fun w4 => some ((w4 11 1), w4)))
def RM_f_Slip_add : Room := { frames := 0, cells := 0, slots := 0, locals := 0 }
set_option maxHeartbeats 4000000 in
set_option maxRecDepth 20000 in
theorem k_f_Slip_add (a1 : Int32) (w : Wt) (z : (Int32 × Wt)) (hx : p.tables.exec = Jvm.exec) (hb : c.code = cX6_add) (hml : c.maxLocals = 2) (C : Cx EVc KC D dA q A s m args RX6) (fin : ∀ (H : Heap) (locs : List Loc) (ls : Array Slot) (r' : Int32) (w2 : Wt) (pc : Nat) , Sta KC D dA q A s.heap w2 H locs → some (r', w2) = some z → decode cX6_add pc = .ok (.ireturn, 1) → W p l e RM_f_Slip_add s m args below meth c H locs 0 0 Q (F0 m pc ls [.int r'])) : ∀ (H : Heap) (locs : List Loc) (ls : Array Slot), lv_has ls 2 [(0, .ref (q 11)), (1, .int a1)] → Sta KC D dA q A s.heap w H locs → f_Slip_add a1 w = some z → W p l e RM_f_Slip_add s m args below meth c H locs 0 0 Q (F0 m 0 ls []) := by
  have ev : evOk EVc := EVc_ok
  intro H locs ls hl S h
  have h := h_0 h
  unfold f_Slip_add at h
  refine lv_aload_n hx hb dX6_add_0 rfl (lv_at hl 0 rfl) ?_
  refine g_get fl_RX6_15_X6 hx hb C S KC_11 rfl dX6_add_1 ?_
  refine lv_bipush (v := 6) hx hb dX6_add_4 (by decide) ?_
  refine lv_icmp_ge (tgt := 29) hx hb dX6_add_6 rfl (fun c1 => ?_) (fun c1 => ?_)
  · have h := h_t c1 h
    refine lv_aload_n hx hb dX6_add_29 rfl (lv_at hl 0 rfl) ?_
    refine g_get fl_RX6_15_X6 hx hb C S KC_11 rfl dX6_add_30 ?_
    exact fin _ _ _ (w 11 1) w _ S h dX6_add_33
  · have h := h_f c1 h
    refine lv_aload_n hx hb dX6_add_9 rfl (lv_at hl 0 rfl) ?_
    refine g_getR fl_RX6_9_X6 hx hb C S KC_11 rfl dX6_add_10 ?_
    refine lv_aload_n hx hb dX6_add_13 rfl (lv_at hl 0 rfl) ?_
    refine g_get fl_RX6_15_X6 hx hb C S KC_11 rfl dX6_add_14 ?_
    refine lv_iload_n hx hb dX6_add_17 rfl (lv_at hl 1 rfl) ?_
    obtain ⟨g2, h⟩ := h_gd h
    refine r_iast hx hb C S KC_12 (h_in g2) dX6_add_18 (fun w3 ew3 H locs S => ?_)
    have h := h_l h w3 ew3
    refine lv_aload_n hx hb dX6_add_19 rfl (lv_at hl 0 rfl) ?_
    refine lv_dup hx hb dX6_add_20 rfl ?_
    refine g_get fl_RX6_15_X6 hx hb C S KC_11 rfl dX6_add_21 ?_
    refine lv_iconst (v := 1) hx hb dX6_add_24 (by decide) ?_
    refine lv_iadd hx hb dX6_add_25 ?_
    refine g_put fl_RX6_15_X6 pl_X6_1 hx hb C S KC_11 rfl ⟨rfl, rfl⟩ dX6_add_26 (fun w4 ew4 H locs S => ?_)
    have h := h_l h w4 ew4
    refine lv_aload_n hx hb dX6_add_29 rfl (lv_at hl 0 rfl) ?_
    refine g_get fl_RX6_15_X6 hx hb C S KC_11 rfl dX6_add_30 ?_
    exact fin _ _ _ (w4 11 1) w4 _ S h dX6_add_33
theorem c_f_Slip_add (l : Launch) (D : va_G) (dA : Nat → ClassId) (q : Nat → Nat) (a1 : Int32) (w w' : Wt) (r : Int32) (h : f_Slip_add a1 w = some (r, w')) : Mi l EVc KC D dA q yX6_add cX6_add 2 (some .int) RM_f_Slip_add [.ref (q 11), .int a1] w r w' :=
  mk_i (by decide) rfl EVc_ok (Nat.le_of_ble_eq_true rfl) (fun p e s m args below meth c A Q ls hx hb hml C S hl fin => k_f_Slip_add a1 w (r, w') hx hb hml C (fun H locs ls r' w2 pc S h d => fin H locs ls r' w2 pc S h d) _ _ _ hl S h)
/-! Ballotscript.mark(I)I f_Ballotscript_mark -/
def f_Ballotscript_mark (a1 : Int32) (w : Wt) : Option ((Nat ⊕ Int32) × Wt) := Option.bind (f_Ballotscript_isWithin a1 (0 : Int32) (5 : Int32)) fun x1 => (if x1 = (0 : Int32) then some (.inl 0, w) else Option.bind (f_Slip_has a1 w) fun x3 => (if x3 = (0 : Int32) then Option.bind (f_Slip_add a1 w) fun x5 => some (.inr x5.1, x5.2) else some (.inl 2, w)))
def RM_f_Ballotscript_mark : Room := { frames := 10, cells := 4, slots := 24, locals := 150 }
set_option maxHeartbeats 4000000 in
set_option maxRecDepth 20000 in
theorem k_f_Ballotscript_mark (a1 : Int32) (w : Wt) (z : ((Nat ⊕ Int32) × Wt)) (hfl : l.stackTraces = false) (hx : p.tables.exec = Jvm.exec) (hb : c.code = cX9_mark) (hml : c.maxLocals = 2) (C : Cx EVc KC D dA q A s m args RX9) (fin : ∀ (H : Heap) (locs : List Loc) (ls : Array Slot) (r' : Int32) (w2 : Wt) (pc : Nat) (cl sl : Nat) , cl ≤ 4 → sl ≤ 24 → Sta KC D dA q A s.heap w2 H locs → some ((.inr r' : Nat ⊕ Int32), w2) = some z → decode cX9_mark pc = .ok (.ireturn, 1) → W p l e RM_f_Ballotscript_mark s m args below meth c H locs cl sl Q (F0 m pc ls [.int r'])) (thr : ∀ (H : Heap) (locs : List Loc) (ls : Array Slot) (w2 : Wt) (k pc cl sl : Nat), cl + 1 ≤ 4 → sl + 6 ≤ 24 → ls.size = 2 → Sta KC D dA q A s.heap w2 H locs → some ((.inl k : Nat ⊕ Int32), w2) = some z → thF RX9 cX9_mark pc k → W p l e RM_f_Ballotscript_mark s m args below meth c H locs cl sl Q (F0 m pc ls [])) (pro : ∀ (H : Heap) (locs : List Loc) (ls : Array Slot) (w2 : Wt) (k pc cl sl : Nat) (rest : List Value) (q9 : Nat) (ce : Cell), cl ≤ 4 → sl ≤ 24 → Sta KC D dA q A s.heap w2 H locs → some ((.inl k : Nat ⊕ Int32), w2) = some z → H[q9]? = some ce → ce.vm = .none → s.vm.findClass (exn k) = some ce.cls → vx_W p l e RM_f_Ballotscript_mark s m args below meth c H locs cl sl Q (F0 m pc ls rest) q9) : ∀ (H : Heap) (locs : List Loc) (ls : Array Slot), lv_has ls 2 [(0, .ref (q 0)), (1, .int a1)] → Sta KC D dA q A s.heap w H locs → f_Ballotscript_mark a1 w = some z → W p l e RM_f_Ballotscript_mark s m args below meth c H locs 0 0 Q (F0 m 0 ls []) := by
  have ev : evOk EVc := EVc_ok
  intro H locs ls hl S h
  have h := h_0 h
  unfold f_Ballotscript_mark at h
  refine lv_iload_n hx hb dX9_mark_0 rfl (lv_at hl 1 rfl) ?_
  refine lv_iconst (v := 0) hx hb dX9_mark_1 (by decide) ?_
  refine lv_iconst (v := 5) hx hb dX9_mark_2 (by decide) ?_
  obtain ⟨x1, ex1, h⟩ := h_c h
  refine k_i C S (q_S (rest := []) (As := [.int a1, .int (0 : Int32), .int (5 : Int32)]) lk_RX9_69 ev hx hb hml C S (c_f_Ballotscript_isWithin l D dA q a1 (0 : Int32) (5 : Int32) w x1 ex1 _) rfl rfl ⟨(Nat.le_of_ble_eq_true rfl), (Nat.le_of_ble_eq_true rfl)⟩ rfl hl.1 rfl (Nat.le_of_ble_eq_true rfl) dX9_mark_3 ⟨(Nat.le_of_ble_eq_true rfl), (Nat.le_of_ble_eq_true rfl)⟩) (fun H locs S => ?_)
  refine lv_if_ne (tgt := 19) hx hb dX9_mark_6 rfl (fun c2 => ?_) (fun c2 => ?_)
  · have h := h_f c2 h
    refine lv_aload_n hx hb dX9_mark_19 rfl (lv_at hl 0 rfl) ?_
    refine g_getR fl_RX9_38_X9 hx hb C S KC_0 rfl dX9_mark_20 ?_
    refine lv_iload_n hx hb dX9_mark_23 rfl (lv_at hl 1 rfl) ?_
    obtain ⟨x3, ex3, h⟩ := h_c h
    refine k_i C S (q_V (rest := []) (As := [.int a1]) lk_RX9_194 ev hx hb hml C S KC_11 rfl (c_f_Slip_has l D dA q a1 w x3 ex3 _) rfl rfl ⟨(Nat.le_of_ble_eq_true rfl), (Nat.le_of_ble_eq_true rfl)⟩ rfl hl.1 rfl (Nat.le_of_ble_eq_true rfl) dX9_mark_24 ⟨(Nat.le_of_ble_eq_true rfl), (Nat.le_of_ble_eq_true rfl)⟩) (fun H locs S => ?_)
    refine lv_if_eq (tgt := 40) hx hb dX9_mark_27 rfl (fun c4 => ?_) (fun c4 => ?_)
    · have h := h_t c4 h
      refine lv_aload_n hx hb dX9_mark_40 rfl (lv_at hl 0 rfl) ?_
      refine g_getR fl_RX9_38_X9 hx hb C S KC_0 rfl dX9_mark_41 ?_
      refine lv_iload_n hx hb dX9_mark_44 rfl (lv_at hl 1 rfl) ?_
      obtain ⟨x5, ex5, h⟩ := h_c h
      refine k_i C S (q_V (rest := []) (As := [.int a1]) lk_RX9_200 ev hx hb hml C S KC_11 rfl (c_f_Slip_add l D dA q a1 w x5.2 x5.1 ex5 _) rfl rfl ⟨(Nat.le_of_ble_eq_true rfl), (Nat.le_of_ble_eq_true rfl)⟩ rfl hl.1 rfl (Nat.le_of_ble_eq_true rfl) dX9_mark_45 ⟨(Nat.le_of_ble_eq_true rfl), (Nat.le_of_ble_eq_true rfl)⟩) (fun H locs S => ?_)
      exact fin _ _ _ x5.1 x5.2 _ 0 0 (Nat.le_of_ble_eq_true rfl) (Nat.le_of_ble_eq_true rfl) S h dX9_mark_48
    · have h := h_f c4 h
      exact thr _ _ _ w _ _ 0 0 (Nat.le_of_ble_eq_true rfl) (Nat.le_of_ble_eq_true rfl) hl.1 S h th_X9_mark_30
  · have h := h_t c2 h
    exact thr _ _ _ w _ _ 0 0 (Nat.le_of_ble_eq_true rfl) (Nat.le_of_ble_eq_true rfl) hl.1 S h th_X9_mark_9
theorem c_f_Ballotscript_mark (l : Launch) (hfl : l.stackTraces = false) (D : va_G) (dA : Nat → ClassId) (q : Nat → Nat) (a1 : Int32) (w w' : Wt) (res : Nat ⊕ Int32) (h : f_Ballotscript_mark a1 w = some (res, w')) : Xi l EVc KC D dA q yX9_mark cX9_mark 2 (some .int) RM_f_Ballotscript_mark 4 24 [.ref (q 0), .int a1] w res w' :=
  mx_i (by decide) rfl hfl (Nat.le_of_ble_eq_true rfl) (Nat.le_of_ble_eq_true rfl) (Nat.le_of_ble_eq_true rfl) rfl rfl (fun p e s m args below meth c A Q ls hx hb hml C S hl fin thr pro => k_f_Ballotscript_mark a1 w (res, w') hfl hx hb hml C (fun H locs ls r' w2 pc cl sl hc hs S h d => fin H locs ls r' w2 pc cl sl hc hs S h d) (fun H locs ls w2 k pc cl sl hc hs hz S h t => thr H locs ls w2 k pc cl sl hc hs hz S h t) (fun H locs ls w2 k pc cl sl rest q9 ce hc hs S h h1 h2 h3 => pro H locs ls w2 k pc cl sl rest q9 ce hc hs S h h1 h2 h3) _ _ _ hl S h)
/-! Ballotscript$Slip.highest()I f_Slip_highest -/
def f_Slip_highest_b29 (l1 : Int32) (w : Wt) : Option Int32 := some l1
def f_Slip_highest_L4 (w : Wt) : (Int32 × Int32) → Option ((Int32 × Int32) ⊕ Int32)
  | (l1, l2) => (if (w 11 1) ≤ l2 then some (.inr l1) else gd (inb l2 6) (nmd (if l1 < (w 12 (l2).toNatClampNeg) then (w 12 (l2).toNatClampNeg) else l1) fun v3 => some (.inl (v3, (l2 + 1)))))
def f_Slip_highest_x4 (w : Wt) : Int32 → Option Int32
  | l1 => f_Slip_highest_b29 l1 w
def f_Slip_highest (w : Wt) : Option Int32 := Option.bind (lp (f_Slip_highest_L4 w) FU ((-1 : Int32), (0 : Int32))) (f_Slip_highest_x4 w)
def RM_f_Slip_highest : Room := { frames := 1, cells := 0, slots := 0, locals := 30 }
set_option maxHeartbeats 4000000 in
set_option maxRecDepth 20000 in
theorem k_f_Slip_highest (w : Wt) (z : Int32) (hx : p.tables.exec = Jvm.exec) (hb : c.code = cX6_highest) (hml : c.maxLocals = 3) (C : Cx EVc KC D dA q A s m args RX6) (fin : ∀ (H : Heap) (locs : List Loc) (ls : Array Slot) (r' : Int32) (pc : Nat) , Sta KC D dA q A s.heap w H locs → some r' = some z → decode cX6_highest pc = .ok (.ireturn, 1) → W p l e RM_f_Slip_highest s m args below meth c H locs 0 0 Q (F0 m pc ls [.int r'])) : ∀ (H : Heap) (locs : List Loc) (ls : Array Slot), lv_has ls 3 [(0, .ref (q 11))] → Sta KC D dA q A s.heap w H locs → f_Slip_highest w = some z → W p l e RM_f_Slip_highest s m args below meth c H locs 0 0 Q (F0 m 0 ls []) := by
  have ev : evOk EVc := EVc_ok
  have lab29 : ∀ (l1 : Int32) (H : Heap) (locs : List Loc) (ls : Array Slot), lv_has ls 3 [(1, .int l1)] → Sta KC D dA q A s.heap w H locs → Option.bind (f_Slip_highest_b29 l1 w) some = some z → W p l e RM_f_Slip_highest s m args below meth c H locs 0 0 Q (F0 m 29 ls []) := by
    intro l1 H locs ls hl S h
    unfold f_Slip_highest_b29 at h
    refine lv_iload_n hx hb dX6_highest_29 rfl (lv_at hl 0 rfl) ?_
    exact fin _ _ _ l1 _ S h dX6_highest_30
  have loop4 : ∀ (n4 : Nat), ∀ (l1 : Int32) (l2 : Int32) (H : Heap) (locs : List Loc) (ls : Array Slot), lv_has ls 3 [(0, .ref (q 11)), (1, .int l1), (2, .int l2)] → Sta KC D dA q A s.heap w H locs → Option.bind (lp (f_Slip_highest_L4 w) n4 (l1, l2)) (fun x9 => Option.bind (f_Slip_highest_x4 w x9) some) = some z → W p l e RM_f_Slip_highest s m args below meth c H locs 0 0 Q (F0 m 4 ls []) := by
    intro  n4
    induction n4 with
    | zero =>
      intro l1 l2 H locs ls hl S h
      exact (h_lp0 h).elim
    | succ n4 ih4 =>
      intro l1 l2 H locs ls hl S h
      have h := h_lp h
      unfold f_Slip_highest_L4 at h
      refine lv_iload_n hx hb dX6_highest_4 rfl (lv_at hl 2 rfl) ?_
      refine lv_aload_n hx hb dX6_highest_5 rfl (lv_at hl 0 rfl) ?_
      refine g_get fl_RX6_15_X6 hx hb C S KC_11 rfl dX6_highest_6 ?_
      refine lv_icmp_ge (tgt := 29) hx hb dX6_highest_9 rfl (fun c1 => ?_) (fun c1 => ?_)
      · have h := h_t c1 h
        exact lab29 l1 _ _ _ (lv_sub hl [1] rfl) S h
      · have h := h_f c1 h
        refine lv_iload_n hx hb dX6_highest_12 rfl (lv_at hl 1 rfl) ?_
        refine lv_aload_n hx hb dX6_highest_13 rfl (lv_at hl 0 rfl) ?_
        refine g_getR fl_RX6_9_X6 hx hb C S KC_11 rfl dX6_highest_14 ?_
        refine lv_iload_n hx hb dX6_highest_17 rfl (lv_at hl 2 rfl) ?_
        obtain ⟨g2, h⟩ := h_gd h
        refine r_iald hx hb C S KC_12 (h_in g2) dX6_highest_18 ?_
        refine va_mmax hx hb (hml.trans hl.1.symm) C.1 (C.2.1 _ mx_RX6_19) (C.2.1 _ mx_st) (C.2.1 _ mx_in) (C.2.1 _ mx_co) (Nat.le_of_ble_eq_true rfl) (Nat.le_of_ble_eq_true rfl) (Nat.le_of_ble_eq_true rfl) (Nat.le_of_ble_eq_true rfl) dX6_highest_19 ?_
        refine lv_topi (fun v3 ev3 => ?_)
        have h := h_l h v3 ev3
        refine lv_istore_n (lv' := [(1, .int v3), (0, .ref (q 11)), (2, .int l2)]) hx hb dX6_highest_22 rfl hl (Nat.le_of_ble_eq_true rfl) rfl (fun ls hl => ?_)
        refine lv_iinc (v := (l2 + 1)) (lv' := [(2, .int (l2 + 1)), (1, .int v3), (0, .ref (q 11))]) hx hb dX6_highest_23 hl (k := 2) rfl rfl (Nat.le_of_ble_eq_true rfl) rfl (fun ls hl => ?_)
        refine lv_goto (tgt := 4) hx hb dX6_highest_26 rfl ?_
        exact ih4 v3 (l2 + 1) _ _ _ (lv_sub hl [2, 1, 0] rfl) S h
  intro H locs ls hl S h
  have h := h_0 h
  unfold f_Slip_highest at h
  refine lv_iconst (v := -1) hx hb dX6_highest_0 (by decide) ?_
  refine lv_istore_n (lv' := [(1, .int (-1 : Int32)), (0, .ref (q 11))]) hx hb dX6_highest_1 rfl hl (Nat.le_of_ble_eq_true rfl) rfl (fun ls hl => ?_)
  refine lv_iconst (v := 0) hx hb dX6_highest_2 (by decide) ?_
  refine lv_istore_n (lv' := [(2, .int (0 : Int32)), (1, .int (-1 : Int32)), (0, .ref (q 11))]) hx hb dX6_highest_3 rfl hl (Nat.le_of_ble_eq_true rfl) rfl (fun ls hl => ?_)
  exact loop4  FU (-1 : Int32) (0 : Int32) _ _ _ (lv_sub hl [2, 1, 0] rfl) S (h_bb h)
theorem c_f_Slip_highest (l : Launch) (D : va_G) (dA : Nat → ClassId) (q : Nat → Nat) (w : Wt) (r : Int32) (h : f_Slip_highest w = some r) : Mi l EVc KC D dA q yX6_highest cX6_highest 3 (some .int) RM_f_Slip_highest [.ref (q 11)] w r w :=
  mk_i (by decide) rfl EVc_ok (Nat.le_of_ble_eq_true rfl) (fun p e s m args below meth c A Q ls hx hb hml C S hl fin => k_f_Slip_highest w r hx hb hml C (fun H locs ls r' pc S h d => fin H locs ls r' w pc S (by rw [Option.some.inj h]) d) _ _ _ hl S h)
/-! Ballotscript$Box.add(IIIILBallotscript$Slip;)I f_Box_add -/
def f_Box_add_b106 (w : Wt) : Option (Int32 × Wt) := nmd (upd2 w 13 8 ((w 13 8) + (1 : Int32))) fun w1 => some (((w1 13 8) - (1 : Int32)), w1)
def f_Box_add_L67 : (Int32 × Wt) → Option ((Int32 × Wt) ⊕ Wt)
  | (l6, w) => (if (w 11 1) ≤ l6 then some (.inr w) else gd (inb l6 6) (gd (inb (((w 13 8) * (6 : Int32)) + l6) 600) (nmd (upd2 w 19 ((((w 13 8) * (6 : Int32)) + l6)).toNatClampNeg (w 12 (l6).toNatClampNeg)) fun w5 => some (.inl ((l6 + 1), w5)))))
def f_Box_add_x67 : Wt → Option (Int32 × Wt)
  | w => f_Box_add_b106 w
def f_Box_add (a1 : Int32) (a2 : Int32) (a3 : Int32) (a4 : Int32) (w : Wt) : Option (Int32 × Wt) := (if (100 : Int32) ≤ (w 13 8) then some (((w 13 8) - (1 : Int32)), w) else gd (inb (w 13 8) 100) (nmd (upd2 w 14 ((w 13 8)).toNatClampNeg a1) fun w8 => gd (inb (w8 13 8) 100) (nmd (upd2 w8 15 ((w8 13 8)).toNatClampNeg a2) fun w10 => gd (inb (w10 13 8) 100) (nmd (upd2 w10 16 ((w10 13 8)).toNatClampNeg a3) fun w12 => gd (inb (w12 13 8) 100) (nmd (upd2 w12 17 ((w12 13 8)).toNatClampNeg a4) fun w14 => gd (inb (w14 13 8) 100) (nmd (upd2 w14 18 ((w14 13 8)).toNatClampNeg (w14 11 1)) fun w16 => Option.bind (lp (f_Box_add_L67) FU ((0 : Int32), w16)) (f_Box_add_x67)))))))
def RM_f_Box_add : Room := { frames := 0, cells := 0, slots := 0, locals := 0 }
set_option maxHeartbeats 4000000 in
set_option maxRecDepth 20000 in
theorem k_f_Box_add (a1 : Int32) (a2 : Int32) (a3 : Int32) (a4 : Int32) (w : Wt) (z : (Int32 × Wt)) (hx : p.tables.exec = Jvm.exec) (hb : c.code = cX0_add) (hml : c.maxLocals = 7) (C : Cx EVc KC D dA q A s m args RX0) (fin : ∀ (H : Heap) (locs : List Loc) (ls : Array Slot) (r' : Int32) (w2 : Wt) (pc : Nat) , Sta KC D dA q A s.heap w2 H locs → some (r', w2) = some z → decode cX0_add pc = .ok (.ireturn, 1) → W p l e RM_f_Box_add s m args below meth c H locs 0 0 Q (F0 m pc ls [.int r'])) : ∀ (H : Heap) (locs : List Loc) (ls : Array Slot), lv_has ls 7 [(0, .ref (q 13)), (1, .int a1), (2, .int a2), (3, .int a3), (4, .int a4), (5, .ref (q 11))] → Sta KC D dA q A s.heap w H locs → f_Box_add a1 a2 a3 a4 w = some z → W p l e RM_f_Box_add s m args below meth c H locs 0 0 Q (F0 m 0 ls []) := by
  have ev : evOk EVc := EVc_ok
  have lab106 : ∀ (w : Wt) (H : Heap) (locs : List Loc) (ls : Array Slot), lv_has ls 7 [(0, .ref (q 13))] → Sta KC D dA q A s.heap w H locs → Option.bind (f_Box_add_b106 w) some = some z → W p l e RM_f_Box_add s m args below meth c H locs 0 0 Q (F0 m 106 ls []) := by
    intro  w H locs ls hl S h
    unfold f_Box_add_b106 at h
    refine lv_aload_n hx hb dX0_add_106 rfl (lv_at hl 0 rfl) ?_
    refine lv_dup hx hb dX0_add_107 rfl ?_
    refine g_get fl_RX0_41_X0 hx hb C S KC_13 rfl dX0_add_108 ?_
    refine lv_iconst (v := 1) hx hb dX0_add_111 (by decide) ?_
    refine lv_iadd hx hb dX0_add_112 ?_
    refine g_put fl_RX0_41_X0 pl_X0_8 hx hb C S KC_13 rfl ⟨rfl, rfl⟩ dX0_add_113 (fun w1 ew1 H locs S => ?_)
    have h := h_l h w1 ew1
    refine lv_aload_n hx hb dX0_add_116 rfl (lv_at hl 0 rfl) ?_
    refine g_get fl_RX0_41_X0 hx hb C S KC_13 rfl dX0_add_117 ?_
    refine lv_iconst (v := 1) hx hb dX0_add_120 (by decide) ?_
    refine lv_isub hx hb dX0_add_121 ?_
    exact fin _ _ _ ((w1 13 8) - (1 : Int32)) w1 _ S h dX0_add_122
  have loop67 : ∀ (n67 : Nat), ∀ (l6 : Int32) (w : Wt) (H : Heap) (locs : List Loc) (ls : Array Slot), lv_has ls 7 [(0, .ref (q 13)), (5, .ref (q 11)), (6, .int l6)] → Sta KC D dA q A s.heap w H locs → Option.bind (lp (f_Box_add_L67) n67 (l6, w)) (fun x9 => Option.bind (f_Box_add_x67 x9) some) = some z → W p l e RM_f_Box_add s m args below meth c H locs 0 0 Q (F0 m 67 ls []) := by
    intro  n67
    induction n67 with
    | zero =>
      intro l6 w H locs ls hl S h
      exact (h_lp0 h).elim
    | succ n67 ih67 =>
      intro l6 w H locs ls hl S h
      have h := h_lp h
      unfold f_Box_add_L67 at h
      refine lv_iload hx hb dX0_add_67 (lv_at hl 2 rfl) ?_
      refine lv_aload hx hb dX0_add_69 (lv_at hl 1 rfl) ?_
      refine g_get fl_RX0_45_X6 hx hb C S KC_11 rfl dX0_add_71 ?_
      refine lv_icmp_ge (tgt := 106) hx hb dX0_add_74 rfl (fun c2 => ?_) (fun c2 => ?_)
      · have h := h_t c2 h
        exact lab106 w _ _ _ (lv_sub hl [0] rfl) S h
      · have h := h_f c2 h
        refine lv_aload_n hx hb dX0_add_77 rfl (lv_at hl 0 rfl) ?_
        refine g_getR fl_RX0_27_X0 hx hb C S KC_13 rfl dX0_add_78 ?_
        refine lv_aload_n hx hb dX0_add_81 rfl (lv_at hl 0 rfl) ?_
        refine g_get fl_RX0_41_X0 hx hb C S KC_13 rfl dX0_add_82 ?_
        refine lv_bipush (v := 6) hx hb dX0_add_85 (by decide) ?_
        refine lv_imul hx hb dX0_add_87 ?_
        refine lv_iload hx hb dX0_add_88 (lv_at hl 2 rfl) ?_
        refine lv_iadd hx hb dX0_add_90 ?_
        refine lv_aload hx hb dX0_add_91 (lv_at hl 1 rfl) ?_
        refine g_getR fl_RX0_48_X6 hx hb C S KC_11 rfl dX0_add_93 ?_
        refine lv_iload hx hb dX0_add_96 (lv_at hl 2 rfl) ?_
        obtain ⟨g3, h⟩ := h_gd h
        refine r_iald hx hb C S KC_12 (h_in g3) dX0_add_98 ?_
        obtain ⟨g4, h⟩ := h_gd h
        refine r_iast hx hb C S KC_19 (h_in g4) dX0_add_99 (fun w5 ew5 H locs S => ?_)
        have h := h_l h w5 ew5
        refine lv_iinc (v := (l6 + 1)) (lv' := [(6, .int (l6 + 1)), (0, .ref (q 13)), (5, .ref (q 11))]) hx hb dX0_add_100 hl (k := 2) rfl rfl (Nat.le_of_ble_eq_true rfl) rfl (fun ls hl => ?_)
        refine lv_goto (tgt := 67) hx hb dX0_add_103 rfl ?_
        exact ih67 (l6 + 1) w5 _ _ _ (lv_sub hl [1, 2, 0] rfl) S h
  intro H locs ls hl S h
  have h := h_0 h
  unfold f_Box_add at h
  refine lv_aload_n hx hb dX0_add_0 rfl (lv_at hl 0 rfl) ?_
  refine g_get fl_RX0_41_X0 hx hb C S KC_13 rfl dX0_add_1 ?_
  refine lv_bipush (v := 100) hx hb dX0_add_4 (by decide) ?_
  refine lv_icmp_ge (tgt := 116) hx hb dX0_add_6 rfl (fun c6 => ?_) (fun c6 => ?_)
  · have h := h_t c6 h
    refine lv_aload_n hx hb dX0_add_116 rfl (lv_at hl 0 rfl) ?_
    refine g_get fl_RX0_41_X0 hx hb C S KC_13 rfl dX0_add_117 ?_
    refine lv_iconst (v := 1) hx hb dX0_add_120 (by decide) ?_
    refine lv_isub hx hb dX0_add_121 ?_
    exact fin _ _ _ ((w 13 8) - (1 : Int32)) w _ S h dX0_add_122
  · have h := h_f c6 h
    refine lv_aload_n hx hb dX0_add_9 rfl (lv_at hl 0 rfl) ?_
    refine g_getR fl_RX0_9_X0 hx hb C S KC_13 rfl dX0_add_10 ?_
    refine lv_aload_n hx hb dX0_add_13 rfl (lv_at hl 0 rfl) ?_
    refine g_get fl_RX0_41_X0 hx hb C S KC_13 rfl dX0_add_14 ?_
    refine lv_iload_n hx hb dX0_add_17 rfl (lv_at hl 1 rfl) ?_
    obtain ⟨g7, h⟩ := h_gd h
    refine r_iast hx hb C S KC_14 (h_in g7) dX0_add_18 (fun w8 ew8 H locs S => ?_)
    have h := h_l h w8 ew8
    refine lv_aload_n hx hb dX0_add_19 rfl (lv_at hl 0 rfl) ?_
    refine g_getR fl_RX0_15_X0 hx hb C S KC_13 rfl dX0_add_20 ?_
    refine lv_aload_n hx hb dX0_add_23 rfl (lv_at hl 0 rfl) ?_
    refine g_get fl_RX0_41_X0 hx hb C S KC_13 rfl dX0_add_24 ?_
    refine lv_iload_n hx hb dX0_add_27 rfl (lv_at hl 2 rfl) ?_
    obtain ⟨g9, h⟩ := h_gd h
    refine r_iast hx hb C S KC_15 (h_in g9) dX0_add_28 (fun w10 ew10 H locs S => ?_)
    have h := h_l h w10 ew10
    refine lv_aload_n hx hb dX0_add_29 rfl (lv_at hl 0 rfl) ?_
    refine g_getR fl_RX0_18_X0 hx hb C S KC_13 rfl dX0_add_30 ?_
    refine lv_aload_n hx hb dX0_add_33 rfl (lv_at hl 0 rfl) ?_
    refine g_get fl_RX0_41_X0 hx hb C S KC_13 rfl dX0_add_34 ?_
    refine lv_iload_n hx hb dX0_add_37 rfl (lv_at hl 3 rfl) ?_
    obtain ⟨g11, h⟩ := h_gd h
    refine r_iast hx hb C S KC_16 (h_in g11) dX0_add_38 (fun w12 ew12 H locs S => ?_)
    have h := h_l h w12 ew12
    refine lv_aload_n hx hb dX0_add_39 rfl (lv_at hl 0 rfl) ?_
    refine g_getR fl_RX0_21_X0 hx hb C S KC_13 rfl dX0_add_40 ?_
    refine lv_aload_n hx hb dX0_add_43 rfl (lv_at hl 0 rfl) ?_
    refine g_get fl_RX0_41_X0 hx hb C S KC_13 rfl dX0_add_44 ?_
    refine lv_iload hx hb dX0_add_47 (lv_at hl 4 rfl) ?_
    obtain ⟨g13, h⟩ := h_gd h
    refine r_iast hx hb C S KC_17 (h_in g13) dX0_add_49 (fun w14 ew14 H locs S => ?_)
    have h := h_l h w14 ew14
    refine lv_aload_n hx hb dX0_add_50 rfl (lv_at hl 0 rfl) ?_
    refine g_getR fl_RX0_24_X0 hx hb C S KC_13 rfl dX0_add_51 ?_
    refine lv_aload_n hx hb dX0_add_54 rfl (lv_at hl 0 rfl) ?_
    refine g_get fl_RX0_41_X0 hx hb C S KC_13 rfl dX0_add_55 ?_
    refine lv_aload hx hb dX0_add_58 (lv_at hl 5 rfl) ?_
    refine g_get fl_RX0_45_X6 hx hb C S KC_11 rfl dX0_add_60 ?_
    obtain ⟨g15, h⟩ := h_gd h
    refine r_iast hx hb C S KC_18 (h_in g15) dX0_add_63 (fun w16 ew16 H locs S => ?_)
    have h := h_l h w16 ew16
    refine lv_iconst (v := 0) hx hb dX0_add_64 (by decide) ?_
    refine lv_istore (lv' := [(6, .int (0 : Int32)), (0, .ref (q 13)), (1, .int a1), (2, .int a2), (3, .int a3), (4, .int a4), (5, .ref (q 11))]) hx hb dX0_add_65 hl (Nat.le_of_ble_eq_true rfl) rfl (fun ls hl => ?_)
    exact loop67  FU (0 : Int32) w16 _ _ _ (lv_sub hl [1, 6, 0] rfl) S (h_bb h)
theorem c_f_Box_add (l : Launch) (D : va_G) (dA : Nat → ClassId) (q : Nat → Nat) (a1 : Int32) (a2 : Int32) (a3 : Int32) (a4 : Int32) (w w' : Wt) (r : Int32) (h : f_Box_add a1 a2 a3 a4 w = some (r, w')) : Mi l EVc KC D dA q yX0_add cX0_add 7 (some .int) RM_f_Box_add [.ref (q 13), .int a1, .int a2, .int a3, .int a4, .ref (q 11)] w r w' :=
  mk_i (by decide) rfl EVc_ok (Nat.le_of_ble_eq_true rfl) (fun p e s m args below meth c A Q ls hx hb hml C S hl fin => k_f_Box_add a1 a2 a3 a4 w (r, w') hx hb hml C (fun H locs ls r' w2 pc S h d => fin H locs ls r' w2 pc S h d) _ _ _ hl S h)
/-! Ballotscript.cast(II)I f_Ballotscript_cast -/
def f_Ballotscript_cast_b78 (w : Wt) : Option ((Nat ⊕ Int32) × Wt) := some (.inl 2, w)
def f_Ballotscript_cast (a1 : Int32) (a2 : Int32) (w : Wt) : Option ((Nat ⊕ Int32) × Wt) := Option.bind (f_Ballotscript_needVote a1 w) fun x1 => onX x1 (fun k2 => some (.inl k2, w)) (fun _ => Option.bind (f_Ballotscript_isWithin a2 (0 : Int32) (19 : Int32)) fun x2 => (if x2 = (0 : Int32) then some (.inl 0, w) else gd (inb a1 8) ((if (w (64 + (a1).toNatClampNeg) 4) = (0 : Int32) then (if (w 11 1) = (0 : Int32) then f_Ballotscript_cast_b78 w else Option.bind (f_Slip_highest w) fun x7 => gd (inb a1 8) ((if (w (64 + (a1).toNatClampNeg) 1) ≤ x7 then f_Ballotscript_cast_b78 w else (if (w 13 8) < (100 : Int32) then gd (inb a1 8) (Option.bind (f_Box_add a1 (w (64 + (a1).toNatClampNeg) 0) a2 (w 0 8) w) fun x12 => nmd x12.1 fun v13 => nmd (upd2 x12.2 11 1 (0 : Int32)) fun w14 => some (.inr v13, w14)) else f_Ballotscript_cast_b78 w)))) else f_Ballotscript_cast_b78 w))))
def RM_f_Ballotscript_cast : Room := { frames := 11, cells := 4, slots := 24, locals := 171 }
set_option maxHeartbeats 4000000 in
set_option maxRecDepth 20000 in
theorem k_f_Ballotscript_cast (a1 : Int32) (a2 : Int32) (w : Wt) (z : ((Nat ⊕ Int32) × Wt)) (hfl : l.stackTraces = false) (hx : p.tables.exec = Jvm.exec) (hb : c.code = cX9_cast) (hml : c.maxLocals = 4) (C : Cx EVc KC D dA q A s m args RX9) (fin : ∀ (H : Heap) (locs : List Loc) (ls : Array Slot) (r' : Int32) (w2 : Wt) (pc : Nat) (cl sl : Nat) , cl ≤ 4 → sl ≤ 24 → Sta KC D dA q A s.heap w2 H locs → some ((.inr r' : Nat ⊕ Int32), w2) = some z → decode cX9_cast pc = .ok (.ireturn, 1) → W p l e RM_f_Ballotscript_cast s m args below meth c H locs cl sl Q (F0 m pc ls [.int r'])) (thr : ∀ (H : Heap) (locs : List Loc) (ls : Array Slot) (w2 : Wt) (k pc cl sl : Nat), cl + 1 ≤ 4 → sl + 6 ≤ 24 → ls.size = 4 → Sta KC D dA q A s.heap w2 H locs → some ((.inl k : Nat ⊕ Int32), w2) = some z → thF RX9 cX9_cast pc k → W p l e RM_f_Ballotscript_cast s m args below meth c H locs cl sl Q (F0 m pc ls [])) (pro : ∀ (H : Heap) (locs : List Loc) (ls : Array Slot) (w2 : Wt) (k pc cl sl : Nat) (rest : List Value) (q9 : Nat) (ce : Cell), cl ≤ 4 → sl ≤ 24 → Sta KC D dA q A s.heap w2 H locs → some ((.inl k : Nat ⊕ Int32), w2) = some z → H[q9]? = some ce → ce.vm = .none → s.vm.findClass (exn k) = some ce.cls → vx_W p l e RM_f_Ballotscript_cast s m args below meth c H locs cl sl Q (F0 m pc ls rest) q9) : ∀ (H : Heap) (locs : List Loc) (ls : Array Slot), lv_has ls 4 [(0, .ref (q 0)), (1, .int a1), (2, .int a2)] → Sta KC D dA q A s.heap w H locs → f_Ballotscript_cast a1 a2 w = some z → W p l e RM_f_Ballotscript_cast s m args below meth c H locs 0 0 Q (F0 m 0 ls []) := by
  have ev : evOk EVc := EVc_ok
  have lab78 : ∀ (w : Wt) (H : Heap) (locs : List Loc) (ls : Array Slot), lv_has ls 4 [] → Sta KC D dA q A s.heap w H locs → Option.bind (f_Ballotscript_cast_b78 w) some = some z → W p l e RM_f_Ballotscript_cast s m args below meth c H locs 1 6 Q (F0 m 78 ls []) := by
    intro  w H locs ls hl S h
    unfold f_Ballotscript_cast_b78 at h
    exact thr _ _ _ w _ _ 1 6 (Nat.le_of_ble_eq_true rfl) (Nat.le_of_ble_eq_true rfl) hl.1 S h th_X9_cast_78
  intro H locs ls hl S h
  have h := h_0 h
  unfold f_Ballotscript_cast at h
  refine lv_aload_n hx hb dX9_cast_0 rfl (lv_at hl 0 rfl) ?_
  refine lv_iload_n hx hb dX9_cast_1 rfl (lv_at hl 1 rfl) ?_
  obtain ⟨x1, ex1, h⟩ := h_c h
  refine k_x C S (x_V (rest := []) (As := [.int a1]) lk_RX9_176 ev hx hb hml C S KC_0 rfl (c_f_Ballotscript_needVote l hfl D dA q a1 w x1 ex1 _) rfl rfl ⟨(Nat.le_of_ble_eq_true rfl), (Nat.le_of_ble_eq_true rfl)⟩ rfl hl.1 rfl (Nat.le_of_ble_eq_true rfl) dX9_cast_2 ⟨(Nat.le_of_ble_eq_true rfl), (Nat.le_of_ble_eq_true rfl)⟩) (fun k2 er H locs q9 ce S h1 h2 h3 => ?_) (fun r2 er H locs S => ?_)
  · exact pro _ _ _ w _ _ 1 6 _ _ _ (Nat.le_of_ble_eq_true rfl) (Nat.le_of_ble_eq_true rfl) S (h_xl er h) h1 h2 h3
  · have h := h_xr er h
    refine lv_iload_n hx hb dX9_cast_5 rfl (lv_at hl 2 rfl) ?_
    refine lv_iconst (v := 0) hx hb dX9_cast_6 (by decide) ?_
    refine lv_bipush (v := 19) hx hb dX9_cast_7 (by decide) ?_
    obtain ⟨x2, ex2, h⟩ := h_c h
    refine k_i C S (q_S (rest := []) (As := [.int a2, .int (0 : Int32), .int (19 : Int32)]) lk_RX9_69 ev hx hb hml C S (c_f_Ballotscript_isWithin l D dA q a2 (0 : Int32) (19 : Int32) w x2 ex2 _) rfl rfl ⟨(Nat.le_of_ble_eq_true rfl), (Nat.le_of_ble_eq_true rfl)⟩ rfl hl.1 rfl (Nat.le_of_ble_eq_true rfl) dX9_cast_9 ⟨(Nat.le_of_ble_eq_true rfl), (Nat.le_of_ble_eq_true rfl)⟩) (fun H locs S => ?_)
    refine lv_if_ne (tgt := 25) hx hb dX9_cast_12 rfl (fun c3 => ?_) (fun c3 => ?_)
    · have h := h_f c3 h
      refine lv_aload_n hx hb dX9_cast_25 rfl (lv_at hl 0 rfl) ?_
      refine g_getR fl_RX9_31_X9 hx hb C S KC_0 rfl dX9_cast_26 ?_
      refine lv_iload_n hx hb dX9_cast_29 rfl (lv_at hl 1 rfl) ?_
      obtain ⟨g4, h⟩ := h_gd h
      refine r_aald (t := 4) rfl hx hb C S KC_10 (h_in g4) dX9_cast_30 ?_
      refine g_get fl_RX9_180_X8 hx hb C S (KC_64 (nt_lt (h_in g4))) rfl dX9_cast_31 ?_
      refine lv_if_ne (tgt := 78) hx hb dX9_cast_34 rfl (fun c5 => ?_) (fun c5 => ?_)
      · have h := h_f c5 h
        exact lab78 w _ _ _ (lv_sub hl [] rfl) S h
      · have h := h_t c5 h
        refine lv_aload_n hx hb dX9_cast_37 rfl (lv_at hl 0 rfl) ?_
        refine g_getR fl_RX9_38_X9 hx hb C S KC_0 rfl dX9_cast_38 ?_
        refine g_get fl_RX9_205_X6 hx hb C S KC_11 rfl dX9_cast_41 ?_
        refine lv_if_eq (tgt := 78) hx hb dX9_cast_44 rfl (fun c6 => ?_) (fun c6 => ?_)
        · have h := h_t c6 h
          exact lab78 w _ _ _ (lv_sub hl [] rfl) S h
        · have h := h_f c6 h
          refine lv_aload_n hx hb dX9_cast_47 rfl (lv_at hl 0 rfl) ?_
          refine g_getR fl_RX9_38_X9 hx hb C S KC_0 rfl dX9_cast_48 ?_
          obtain ⟨x7, ex7, h⟩ := h_c h
          refine k_i C S (q_V (rest := []) (As := []) lk_RX9_206 ev hx hb hml C S KC_11 rfl (c_f_Slip_highest l D dA q w x7 ex7 _) rfl rfl ⟨(Nat.le_of_ble_eq_true rfl), (Nat.le_of_ble_eq_true rfl)⟩ rfl hl.1 rfl (Nat.le_of_ble_eq_true rfl) dX9_cast_51 ⟨(Nat.le_of_ble_eq_true rfl), (Nat.le_of_ble_eq_true rfl)⟩) (fun H locs S => ?_)
          refine lv_aload_n hx hb dX9_cast_54 rfl (lv_at hl 0 rfl) ?_
          refine g_getR fl_RX9_31_X9 hx hb C S KC_0 rfl dX9_cast_55 ?_
          refine lv_iload_n hx hb dX9_cast_58 rfl (lv_at hl 1 rfl) ?_
          obtain ⟨g8, h⟩ := h_gd h
          refine r_aald (t := 4) rfl hx hb C S KC_10 (h_in g8) dX9_cast_59 ?_
          refine g_get fl_RX9_209_X8 hx hb C S (KC_64 (nt_lt (h_in g8))) rfl dX9_cast_60 ?_
          refine lv_icmp_ge (tgt := 78) hx hb dX9_cast_63 rfl (fun c9 => ?_) (fun c9 => ?_)
          · have h := h_t c9 h
            exact lab78 w _ _ _ (lv_sub hl [] rfl) S h
          · have h := h_f c9 h
            refine lv_aload_n hx hb dX9_cast_66 rfl (lv_at hl 0 rfl) ?_
            refine g_getR fl_RX9_47_X9 hx hb C S KC_0 rfl dX9_cast_67 ?_
            refine g_get fl_RX9_212_X0 hx hb C S KC_13 rfl dX9_cast_70 ?_
            refine lv_bipush (v := 100) hx hb dX9_cast_73 (by decide) ?_
            refine lv_icmp_lt (tgt := 88) hx hb dX9_cast_75 rfl (fun c10 => ?_) (fun c10 => ?_)
            · have h := h_t c10 h
              refine lv_aload_n hx hb dX9_cast_88 rfl (lv_at hl 0 rfl) ?_
              refine g_getR fl_RX9_47_X9 hx hb C S KC_0 rfl dX9_cast_89 ?_
              refine lv_iload_n hx hb dX9_cast_92 rfl (lv_at hl 1 rfl) ?_
              refine lv_aload_n hx hb dX9_cast_93 rfl (lv_at hl 0 rfl) ?_
              refine g_getR fl_RX9_31_X9 hx hb C S KC_0 rfl dX9_cast_94 ?_
              refine lv_iload_n hx hb dX9_cast_97 rfl (lv_at hl 1 rfl) ?_
              obtain ⟨g11, h⟩ := h_gd h
              refine r_aald (t := 4) rfl hx hb C S KC_10 (h_in g11) dX9_cast_98 ?_
              refine g_get fl_RX9_215_X8 hx hb C S (KC_64 (nt_lt (h_in g11))) rfl dX9_cast_99 ?_
              refine lv_iload_n hx hb dX9_cast_102 rfl (lv_at hl 2 rfl) ?_
              refine lv_aload_n hx hb dX9_cast_103 rfl (lv_at hl 0 rfl) ?_
              refine g_get fl_RX9_117_X9 hx hb C S KC_0 rfl dX9_cast_104 ?_
              refine lv_aload_n hx hb dX9_cast_107 rfl (lv_at hl 0 rfl) ?_
              refine g_getR fl_RX9_38_X9 hx hb C S KC_0 rfl dX9_cast_108 ?_
              obtain ⟨x12, ex12, h⟩ := h_c h
              refine k_i C S (q_V (rest := []) (As := [.int a1, .int (w (64 + (a1).toNatClampNeg) 0), .int a2, .int (w 0 8), .ref (q 11)]) lk_RX9_218 ev hx hb hml C S KC_13 rfl (c_f_Box_add l D dA q a1 (w (64 + (a1).toNatClampNeg) 0) a2 (w 0 8) w x12.2 x12.1 ex12 _) rfl rfl ⟨(Nat.le_of_ble_eq_true rfl), (Nat.le_of_ble_eq_true rfl)⟩ rfl hl.1 rfl (Nat.le_of_ble_eq_true rfl) dX9_cast_111 ⟨(Nat.le_of_ble_eq_true rfl), (Nat.le_of_ble_eq_true rfl)⟩) (fun H locs S => ?_)
              refine lv_topi (fun v13 ev13 => ?_)
              have h := h_l h v13 ev13
              refine lv_istore_n (lv' := [(3, .int v13), (0, .ref (q 0)), (1, .int a1), (2, .int a2)]) hx hb dX9_cast_114 rfl hl (Nat.le_of_ble_eq_true rfl) rfl (fun ls hl => ?_)
              refine lv_aload_n hx hb dX9_cast_115 rfl (lv_at hl 1 rfl) ?_
              refine g_getR fl_RX9_38_X9 hx hb C S KC_0 rfl dX9_cast_116 ?_
              refine lv_iconst (v := 0) hx hb dX9_cast_119 (by decide) ?_
              refine g_put fl_RX9_205_X6 pl_X6_1 hx hb C S KC_11 rfl ⟨rfl, rfl⟩ dX9_cast_120 (fun w14 ew14 H locs S => ?_)
              have h := h_l h w14 ew14
              refine lv_iload_n hx hb dX9_cast_123 rfl (lv_at hl 0 rfl) ?_
              exact fin _ _ _ v13 w14 _ 1 6 (Nat.le_of_ble_eq_true rfl) (Nat.le_of_ble_eq_true rfl) S h dX9_cast_124
            · have h := h_f c10 h
              exact lab78 w _ _ _ (lv_sub hl [] rfl) S h
    · have h := h_t c3 h
      exact thr _ _ _ w _ _ 1 6 (Nat.le_of_ble_eq_true rfl) (Nat.le_of_ble_eq_true rfl) hl.1 S h th_X9_cast_15
theorem c_f_Ballotscript_cast (l : Launch) (hfl : l.stackTraces = false) (D : va_G) (dA : Nat → ClassId) (q : Nat → Nat) (a1 : Int32) (a2 : Int32) (w w' : Wt) (res : Nat ⊕ Int32) (h : f_Ballotscript_cast a1 a2 w = some (res, w')) : Xi l EVc KC D dA q yX9_cast cX9_cast 4 (some .int) RM_f_Ballotscript_cast 4 24 [.ref (q 0), .int a1, .int a2] w res w' :=
  mx_i (by decide) rfl hfl (Nat.le_of_ble_eq_true rfl) (Nat.le_of_ble_eq_true rfl) (Nat.le_of_ble_eq_true rfl) rfl rfl (fun p e s m args below meth c A Q ls hx hb hml C S hl fin thr pro => k_f_Ballotscript_cast a1 a2 w (res, w') hfl hx hb hml C (fun H locs ls r' w2 pc cl sl hc hs S h d => fin H locs ls r' w2 pc cl sl hc hs S h d) (fun H locs ls w2 k pc cl sl hc hs hz S h t => thr H locs ls w2 k pc cl sl hc hs hz S h t) (fun H locs ls w2 k pc cl sl rest q9 ce hc hs S h h1 h2 h3 => pro H locs ls w2 k pc cl sl rest q9 ce hc hs S h h1 h2 h3) _ _ _ hl S h)
/-! Ballotscript.needBallot(I)V f_Ballotscript_needBallot -/
def f_Ballotscript_needBallot (a1 : Int32) (w : Wt) : Option (Nat ⊕ Int32) := Option.bind (f_Ballotscript_isWithin a1 (0 : Int32) ((w 13 8) - (1 : Int32))) fun x1 => (if x1 = (0 : Int32) then some (.inl 0) else some (.inr 0))
def RM_f_Ballotscript_needBallot : Room := { frames := 10, cells := 1, slots := 6, locals := 150 }
set_option maxHeartbeats 4000000 in
set_option maxRecDepth 20000 in
theorem k_f_Ballotscript_needBallot (a1 : Int32) (w : Wt) (z : (Nat ⊕ Int32)) (hfl : l.stackTraces = false) (hx : p.tables.exec = Jvm.exec) (hb : c.code = cX9_needBallot) (hml : c.maxLocals = 2) (C : Cx EVc KC D dA q A s m args RX9) (fin : ∀ (H : Heap) (locs : List Loc) (ls : Array Slot) (pc : Nat) (cl sl : Nat) , cl ≤ 1 → sl ≤ 6 → Sta KC D dA q A s.heap w H locs → some (.inr 0 : Nat ⊕ Int32) = some z → decode cX9_needBallot pc = .ok (.return_, 1) → W p l e RM_f_Ballotscript_needBallot s m args below meth c H locs cl sl Q (F0 m pc ls [])) (thr : ∀ (H : Heap) (locs : List Loc) (ls : Array Slot) (k pc cl sl : Nat), cl + 1 ≤ 1 → sl + 6 ≤ 6 → ls.size = 2 → Sta KC D dA q A s.heap w H locs → some (.inl k : Nat ⊕ Int32) = some z → thF RX9 cX9_needBallot pc k → W p l e RM_f_Ballotscript_needBallot s m args below meth c H locs cl sl Q (F0 m pc ls [])) (pro : ∀ (H : Heap) (locs : List Loc) (ls : Array Slot) (k pc cl sl : Nat) (rest : List Value) (q9 : Nat) (ce : Cell), cl ≤ 1 → sl ≤ 6 → Sta KC D dA q A s.heap w H locs → some (.inl k : Nat ⊕ Int32) = some z → H[q9]? = some ce → ce.vm = .none → s.vm.findClass (exn k) = some ce.cls → vx_W p l e RM_f_Ballotscript_needBallot s m args below meth c H locs cl sl Q (F0 m pc ls rest) q9) : ∀ (H : Heap) (locs : List Loc) (ls : Array Slot), lv_has ls 2 [(0, .ref (q 0)), (1, .int a1)] → Sta KC D dA q A s.heap w H locs → f_Ballotscript_needBallot a1 w = some z → W p l e RM_f_Ballotscript_needBallot s m args below meth c H locs 0 0 Q (F0 m 0 ls []) := by
  have ev : evOk EVc := EVc_ok
  intro H locs ls hl S h
  have h := h_0 h
  unfold f_Ballotscript_needBallot at h
  refine lv_iload_n hx hb dX9_needBallot_0 rfl (lv_at hl 1 rfl) ?_
  refine lv_iconst (v := 0) hx hb dX9_needBallot_1 (by decide) ?_
  refine lv_aload_n hx hb dX9_needBallot_2 rfl (lv_at hl 0 rfl) ?_
  refine g_getR fl_RX9_47_X9 hx hb C S KC_0 rfl dX9_needBallot_3 ?_
  refine g_get fl_RX9_212_X0 hx hb C S KC_13 rfl dX9_needBallot_6 ?_
  refine lv_iconst (v := 1) hx hb dX9_needBallot_9 (by decide) ?_
  refine lv_isub hx hb dX9_needBallot_10 ?_
  obtain ⟨x1, ex1, h⟩ := h_c h
  refine k_i C S (q_S (rest := []) (As := [.int a1, .int (0 : Int32), .int ((w 13 8) - (1 : Int32))]) lk_RX9_69 ev hx hb hml C S (c_f_Ballotscript_isWithin l D dA q a1 (0 : Int32) ((w 13 8) - (1 : Int32)) w x1 ex1 _) rfl rfl ⟨(Nat.le_of_ble_eq_true rfl), (Nat.le_of_ble_eq_true rfl)⟩ rfl hl.1 rfl (Nat.le_of_ble_eq_true rfl) dX9_needBallot_11 ⟨(Nat.le_of_ble_eq_true rfl), (Nat.le_of_ble_eq_true rfl)⟩) (fun H locs S => ?_)
  refine lv_if_ne (tgt := 28) hx hb dX9_needBallot_14 rfl (fun c2 => ?_) (fun c2 => ?_)
  · have h := h_f c2 h
    exact fin _ _ _ _ 0 0 (Nat.le_of_ble_eq_true rfl) (Nat.le_of_ble_eq_true rfl) S h dX9_needBallot_28
  · have h := h_t c2 h
    exact thr _ _ _ _ _ 0 0 (Nat.le_of_ble_eq_true rfl) (Nat.le_of_ble_eq_true rfl) hl.1 S h th_X9_needBallot_17
theorem c_f_Ballotscript_needBallot (l : Launch) (hfl : l.stackTraces = false) (D : va_G) (dA : Nat → ClassId) (q : Nat → Nat) (a1 : Int32) (w : Wt) (res : Nat ⊕ Int32) (h : f_Ballotscript_needBallot a1 w = some res) : Xv l EVc KC D dA q yX9_needBallot cX9_needBallot 2 none RM_f_Ballotscript_needBallot 1 6 [.ref (q 0), .int a1] w res w :=
  mx_v (by decide) rfl hfl (Nat.le_of_ble_eq_true rfl) (Nat.le_of_ble_eq_true rfl) (Nat.le_of_ble_eq_true rfl) rfl rfl (fun p e s m args below meth c A Q ls hx hb hml C S hl fin thr pro => k_f_Ballotscript_needBallot a1 w res hfl hx hb hml C (fun H locs ls pc cl sl hc hs S h d => fin H locs ls w pc cl sl hc hs S (by rw [Option.some.inj h]) d) (fun H locs ls k pc cl sl hc hs hz S h t => thr H locs ls w k pc cl sl hc hs hz S (by rw [Option.some.inj h]) t) (fun H locs ls k pc cl sl rest q9 ce hc hs S h h1 h2 h3 => pro H locs ls w k pc cl sl rest q9 ce hc hs S (by rw [Option.some.inj h]) h1 h2 h3) _ _ _ hl S h)
/-! Ballotscript.why(I)I f_Ballotscript_why -/
def f_Ballotscript_why (a1 : Int32) (w : Wt) : Option (Nat ⊕ Int32) := Option.bind (f_Ballotscript_needBallot a1 w) fun x1 => onX x1 (fun k2 => some (.inl k2)) (fun _ => Option.bind (f_Box_reasonOf a1 w) fun x2 => some (.inr x2))
def RM_f_Ballotscript_why : Room := { frames := 11, cells := 4, slots := 24, locals := 171 }
set_option maxHeartbeats 4000000 in
set_option maxRecDepth 20000 in
theorem k_f_Ballotscript_why (a1 : Int32) (w : Wt) (z : (Nat ⊕ Int32)) (hfl : l.stackTraces = false) (hx : p.tables.exec = Jvm.exec) (hb : c.code = cX9_why) (hml : c.maxLocals = 2) (C : Cx EVc KC D dA q A s m args RX9) (fin : ∀ (H : Heap) (locs : List Loc) (ls : Array Slot) (r' : Int32) (pc : Nat) (cl sl : Nat) , cl ≤ 4 → sl ≤ 24 → Sta KC D dA q A s.heap w H locs → some (.inr r' : Nat ⊕ Int32) = some z → decode cX9_why pc = .ok (.ireturn, 1) → W p l e RM_f_Ballotscript_why s m args below meth c H locs cl sl Q (F0 m pc ls [.int r'])) (thr : ∀ (H : Heap) (locs : List Loc) (ls : Array Slot) (k pc cl sl : Nat), cl + 1 ≤ 4 → sl + 6 ≤ 24 → ls.size = 2 → Sta KC D dA q A s.heap w H locs → some (.inl k : Nat ⊕ Int32) = some z → thF RX9 cX9_why pc k → W p l e RM_f_Ballotscript_why s m args below meth c H locs cl sl Q (F0 m pc ls [])) (pro : ∀ (H : Heap) (locs : List Loc) (ls : Array Slot) (k pc cl sl : Nat) (rest : List Value) (q9 : Nat) (ce : Cell), cl ≤ 4 → sl ≤ 24 → Sta KC D dA q A s.heap w H locs → some (.inl k : Nat ⊕ Int32) = some z → H[q9]? = some ce → ce.vm = .none → s.vm.findClass (exn k) = some ce.cls → vx_W p l e RM_f_Ballotscript_why s m args below meth c H locs cl sl Q (F0 m pc ls rest) q9) : ∀ (H : Heap) (locs : List Loc) (ls : Array Slot), lv_has ls 2 [(0, .ref (q 0)), (1, .int a1)] → Sta KC D dA q A s.heap w H locs → f_Ballotscript_why a1 w = some z → W p l e RM_f_Ballotscript_why s m args below meth c H locs 0 0 Q (F0 m 0 ls []) := by
  have ev : evOk EVc := EVc_ok
  intro H locs ls hl S h
  have h := h_0 h
  unfold f_Ballotscript_why at h
  refine lv_aload_n hx hb dX9_why_0 rfl (lv_at hl 0 rfl) ?_
  refine lv_iload_n hx hb dX9_why_1 rfl (lv_at hl 1 rfl) ?_
  obtain ⟨x1, ex1, h⟩ := h_c h
  refine k_x C S (x_V (rest := []) (As := [.int a1]) lk_RX9_221 ev hx hb hml C S KC_0 rfl (c_f_Ballotscript_needBallot l hfl D dA q a1 w x1 ex1 _) rfl rfl ⟨(Nat.le_of_ble_eq_true rfl), (Nat.le_of_ble_eq_true rfl)⟩ rfl hl.1 rfl (Nat.le_of_ble_eq_true rfl) dX9_why_2 ⟨(Nat.le_of_ble_eq_true rfl), (Nat.le_of_ble_eq_true rfl)⟩) (fun k2 er H locs q9 ce S h1 h2 h3 => ?_) (fun r2 er H locs S => ?_)
  · exact pro _ _ _ _ _ 1 6 _ _ _ (Nat.le_of_ble_eq_true rfl) (Nat.le_of_ble_eq_true rfl) S (h_xl er h) h1 h2 h3
  · have h := h_xr er h
    refine lv_aload_n hx hb dX9_why_5 rfl (lv_at hl 0 rfl) ?_
    refine g_getR fl_RX9_47_X9 hx hb C S KC_0 rfl dX9_why_6 ?_
    refine lv_iload_n hx hb dX9_why_9 rfl (lv_at hl 1 rfl) ?_
    obtain ⟨x2, ex2, h⟩ := h_c h
    refine k_i C S (q_V (rest := []) (As := [.int a1]) lk_RX9_224 ev hx hb hml C S KC_13 rfl (c_f_Box_reasonOf l D dA q a1 w x2 ex2 _) rfl rfl ⟨(Nat.le_of_ble_eq_true rfl), (Nat.le_of_ble_eq_true rfl)⟩ rfl hl.1 rfl (Nat.le_of_ble_eq_true rfl) dX9_why_10 ⟨(Nat.le_of_ble_eq_true rfl), (Nat.le_of_ble_eq_true rfl)⟩) (fun H locs S => ?_)
    exact fin _ _ _ x2 _ 1 6 (Nat.le_of_ble_eq_true rfl) (Nat.le_of_ble_eq_true rfl) S h dX9_why_13
theorem c_f_Ballotscript_why (l : Launch) (hfl : l.stackTraces = false) (D : va_G) (dA : Nat → ClassId) (q : Nat → Nat) (a1 : Int32) (w : Wt) (res : Nat ⊕ Int32) (h : f_Ballotscript_why a1 w = some res) : Xi l EVc KC D dA q yX9_why cX9_why 2 (some .int) RM_f_Ballotscript_why 4 24 [.ref (q 0), .int a1] w res w :=
  mx_i (by decide) rfl hfl (Nat.le_of_ble_eq_true rfl) (Nat.le_of_ble_eq_true rfl) (Nat.le_of_ble_eq_true rfl) rfl rfl (fun p e s m args below meth c A Q ls hx hb hml C S hl fin thr pro => k_f_Ballotscript_why a1 w res hfl hx hb hml C (fun H locs ls r' pc cl sl hc hs S h d => fin H locs ls r' w pc cl sl hc hs S (by rw [Option.some.inj h]) d) (fun H locs ls k pc cl sl hc hs hz S h t => thr H locs ls w k pc cl sl hc hs hz S (by rw [Option.some.inj h]) t) (fun H locs ls k pc cl sl rest q9 ce hc hs S h h1 h2 h3 => pro H locs ls w k pc cl sl rest q9 ce hc hs S (by rw [Option.some.inj h]) h1 h2 h3) _ _ _ hl S h)
/-! Ballotscript.read(II)I f_Ballotscript_read -/
def f_Ballotscript_read (a1 : Int32) (a2 : Int32) (w : Wt) : Option (Nat ⊕ Int32) := Option.bind (f_Ballotscript_needBallot a1 w) fun x1 => onX x1 (fun k2 => some (.inl k2)) (fun _ => Option.bind (f_Ballotscript_isWithin a2 (0 : Int32) (5 : Int32)) fun x2 => (if x2 = (0 : Int32) then some (.inl 0) else Option.bind (f_Box_candidateAt a1 a2 w) fun x4 => some (.inr x4)))
def RM_f_Ballotscript_read : Room := { frames := 11, cells := 4, slots := 24, locals := 171 }
set_option maxHeartbeats 4000000 in
set_option maxRecDepth 20000 in
theorem k_f_Ballotscript_read (a1 : Int32) (a2 : Int32) (w : Wt) (z : (Nat ⊕ Int32)) (hfl : l.stackTraces = false) (hx : p.tables.exec = Jvm.exec) (hb : c.code = cX9_read) (hml : c.maxLocals = 3) (C : Cx EVc KC D dA q A s m args RX9) (fin : ∀ (H : Heap) (locs : List Loc) (ls : Array Slot) (r' : Int32) (pc : Nat) (cl sl : Nat) , cl ≤ 4 → sl ≤ 24 → Sta KC D dA q A s.heap w H locs → some (.inr r' : Nat ⊕ Int32) = some z → decode cX9_read pc = .ok (.ireturn, 1) → W p l e RM_f_Ballotscript_read s m args below meth c H locs cl sl Q (F0 m pc ls [.int r'])) (thr : ∀ (H : Heap) (locs : List Loc) (ls : Array Slot) (k pc cl sl : Nat), cl + 1 ≤ 4 → sl + 6 ≤ 24 → ls.size = 3 → Sta KC D dA q A s.heap w H locs → some (.inl k : Nat ⊕ Int32) = some z → thF RX9 cX9_read pc k → W p l e RM_f_Ballotscript_read s m args below meth c H locs cl sl Q (F0 m pc ls [])) (pro : ∀ (H : Heap) (locs : List Loc) (ls : Array Slot) (k pc cl sl : Nat) (rest : List Value) (q9 : Nat) (ce : Cell), cl ≤ 4 → sl ≤ 24 → Sta KC D dA q A s.heap w H locs → some (.inl k : Nat ⊕ Int32) = some z → H[q9]? = some ce → ce.vm = .none → s.vm.findClass (exn k) = some ce.cls → vx_W p l e RM_f_Ballotscript_read s m args below meth c H locs cl sl Q (F0 m pc ls rest) q9) : ∀ (H : Heap) (locs : List Loc) (ls : Array Slot), lv_has ls 3 [(0, .ref (q 0)), (1, .int a1), (2, .int a2)] → Sta KC D dA q A s.heap w H locs → f_Ballotscript_read a1 a2 w = some z → W p l e RM_f_Ballotscript_read s m args below meth c H locs 0 0 Q (F0 m 0 ls []) := by
  have ev : evOk EVc := EVc_ok
  intro H locs ls hl S h
  have h := h_0 h
  unfold f_Ballotscript_read at h
  refine lv_aload_n hx hb dX9_read_0 rfl (lv_at hl 0 rfl) ?_
  refine lv_iload_n hx hb dX9_read_1 rfl (lv_at hl 1 rfl) ?_
  obtain ⟨x1, ex1, h⟩ := h_c h
  refine k_x C S (x_V (rest := []) (As := [.int a1]) lk_RX9_221 ev hx hb hml C S KC_0 rfl (c_f_Ballotscript_needBallot l hfl D dA q a1 w x1 ex1 _) rfl rfl ⟨(Nat.le_of_ble_eq_true rfl), (Nat.le_of_ble_eq_true rfl)⟩ rfl hl.1 rfl (Nat.le_of_ble_eq_true rfl) dX9_read_2 ⟨(Nat.le_of_ble_eq_true rfl), (Nat.le_of_ble_eq_true rfl)⟩) (fun k2 er H locs q9 ce S h1 h2 h3 => ?_) (fun r2 er H locs S => ?_)
  · exact pro _ _ _ _ _ 1 6 _ _ _ (Nat.le_of_ble_eq_true rfl) (Nat.le_of_ble_eq_true rfl) S (h_xl er h) h1 h2 h3
  · have h := h_xr er h
    refine lv_iload_n hx hb dX9_read_5 rfl (lv_at hl 2 rfl) ?_
    refine lv_iconst (v := 0) hx hb dX9_read_6 (by decide) ?_
    refine lv_iconst (v := 5) hx hb dX9_read_7 (by decide) ?_
    obtain ⟨x2, ex2, h⟩ := h_c h
    refine k_i C S (q_S (rest := []) (As := [.int a2, .int (0 : Int32), .int (5 : Int32)]) lk_RX9_69 ev hx hb hml C S (c_f_Ballotscript_isWithin l D dA q a2 (0 : Int32) (5 : Int32) w x2 ex2 _) rfl rfl ⟨(Nat.le_of_ble_eq_true rfl), (Nat.le_of_ble_eq_true rfl)⟩ rfl hl.1 rfl (Nat.le_of_ble_eq_true rfl) dX9_read_8 ⟨(Nat.le_of_ble_eq_true rfl), (Nat.le_of_ble_eq_true rfl)⟩) (fun H locs S => ?_)
    refine lv_if_ne (tgt := 24) hx hb dX9_read_11 rfl (fun c3 => ?_) (fun c3 => ?_)
    · have h := h_f c3 h
      refine lv_aload_n hx hb dX9_read_24 rfl (lv_at hl 0 rfl) ?_
      refine g_getR fl_RX9_47_X9 hx hb C S KC_0 rfl dX9_read_25 ?_
      refine lv_iload_n hx hb dX9_read_28 rfl (lv_at hl 1 rfl) ?_
      refine lv_iload_n hx hb dX9_read_29 rfl (lv_at hl 2 rfl) ?_
      obtain ⟨x4, ex4, h⟩ := h_c h
      refine k_i C S (q_V (rest := []) (As := [.int a1, .int a2]) lk_RX9_229 ev hx hb hml C S KC_13 rfl (c_f_Box_candidateAt l D dA q a1 a2 w x4 ex4 _) rfl rfl ⟨(Nat.le_of_ble_eq_true rfl), (Nat.le_of_ble_eq_true rfl)⟩ rfl hl.1 rfl (Nat.le_of_ble_eq_true rfl) dX9_read_30 ⟨(Nat.le_of_ble_eq_true rfl), (Nat.le_of_ble_eq_true rfl)⟩) (fun H locs S => ?_)
      exact fin _ _ _ x4 _ 1 6 (Nat.le_of_ble_eq_true rfl) (Nat.le_of_ble_eq_true rfl) S h dX9_read_33
    · have h := h_t c3 h
      exact thr _ _ _ _ _ 1 6 (Nat.le_of_ble_eq_true rfl) (Nat.le_of_ble_eq_true rfl) hl.1 S h th_X9_read_14
theorem c_f_Ballotscript_read (l : Launch) (hfl : l.stackTraces = false) (D : va_G) (dA : Nat → ClassId) (q : Nat → Nat) (a1 : Int32) (a2 : Int32) (w : Wt) (res : Nat ⊕ Int32) (h : f_Ballotscript_read a1 a2 w = some res) : Xi l EVc KC D dA q yX9_read cX9_read 3 (some .int) RM_f_Ballotscript_read 4 24 [.ref (q 0), .int a1, .int a2] w res w :=
  mx_i (by decide) rfl hfl (Nat.le_of_ble_eq_true rfl) (Nat.le_of_ble_eq_true rfl) (Nat.le_of_ble_eq_true rfl) rfl rfl (fun p e s m args below meth c A Q ls hx hb hml C S hl fin thr pro => k_f_Ballotscript_read a1 a2 w res hfl hx hb hml C (fun H locs ls r' pc cl sl hc hs S h d => fin H locs ls r' w pc cl sl hc hs S (by rw [Option.some.inj h]) d) (fun H locs ls k pc cl sl hc hs hz S h t => thr H locs ls w k pc cl sl hc hs hz S (by rw [Option.some.inj h]) t) (fun H locs ls k pc cl sl rest q9 ce hc hs S h h1 h2 h3 => pro H locs ls w k pc cl sl rest q9 ce hc hs S (by rw [Option.some.inj h]) h1 h2 h3) _ _ _ hl S h)
/-! Ballotscript.misread(I)V f_Ballotscript_misread -/
def f_Ballotscript_misread_b30 (w : Wt) : Option ((Nat ⊕ Int32) × Wt) := some (.inl 2, w)
def f_Ballotscript_misread (a1 : Int32) (w : Wt) : Option ((Nat ⊕ Int32) × Wt) := Option.bind (f_Ballotscript_needBallot a1 w) fun x1 => onX x1 (fun k2 => some (.inl k2, w)) (fun _ => gd (inb a1 100) ((if (w 20 (a1).toNatClampNeg) = (0 : Int32) then gd (inb a1 100) ((if (2 : Int32) ≤ (w 18 (a1).toNatClampNeg) then gd (inb a1 100) (nmd (upd2 w 20 (a1).toNatClampNeg (vp_nar .boolean (1 : Int32))) fun w7 => some (.inr 0, w7)) else f_Ballotscript_misread_b30 w)) else f_Ballotscript_misread_b30 w)))
def RM_f_Ballotscript_misread : Room := { frames := 11, cells := 4, slots := 24, locals := 171 }
set_option maxHeartbeats 4000000 in
set_option maxRecDepth 20000 in
theorem k_f_Ballotscript_misread (a1 : Int32) (w : Wt) (z : ((Nat ⊕ Int32) × Wt)) (hfl : l.stackTraces = false) (hx : p.tables.exec = Jvm.exec) (hb : c.code = cX9_misread) (hml : c.maxLocals = 2) (C : Cx EVc KC D dA q A s m args RX9) (fin : ∀ (H : Heap) (locs : List Loc) (ls : Array Slot) (w2 : Wt) (pc : Nat) (cl sl : Nat) , cl ≤ 4 → sl ≤ 24 → Sta KC D dA q A s.heap w2 H locs → some ((.inr 0 : Nat ⊕ Int32), w2) = some z → decode cX9_misread pc = .ok (.return_, 1) → W p l e RM_f_Ballotscript_misread s m args below meth c H locs cl sl Q (F0 m pc ls [])) (thr : ∀ (H : Heap) (locs : List Loc) (ls : Array Slot) (w2 : Wt) (k pc cl sl : Nat), cl + 1 ≤ 4 → sl + 6 ≤ 24 → ls.size = 2 → Sta KC D dA q A s.heap w2 H locs → some ((.inl k : Nat ⊕ Int32), w2) = some z → thF RX9 cX9_misread pc k → W p l e RM_f_Ballotscript_misread s m args below meth c H locs cl sl Q (F0 m pc ls [])) (pro : ∀ (H : Heap) (locs : List Loc) (ls : Array Slot) (w2 : Wt) (k pc cl sl : Nat) (rest : List Value) (q9 : Nat) (ce : Cell), cl ≤ 4 → sl ≤ 24 → Sta KC D dA q A s.heap w2 H locs → some ((.inl k : Nat ⊕ Int32), w2) = some z → H[q9]? = some ce → ce.vm = .none → s.vm.findClass (exn k) = some ce.cls → vx_W p l e RM_f_Ballotscript_misread s m args below meth c H locs cl sl Q (F0 m pc ls rest) q9) : ∀ (H : Heap) (locs : List Loc) (ls : Array Slot), lv_has ls 2 [(0, .ref (q 0)), (1, .int a1)] → Sta KC D dA q A s.heap w H locs → f_Ballotscript_misread a1 w = some z → W p l e RM_f_Ballotscript_misread s m args below meth c H locs 0 0 Q (F0 m 0 ls []) := by
  have ev : evOk EVc := EVc_ok
  have lab30 : ∀ (w : Wt) (H : Heap) (locs : List Loc) (ls : Array Slot), lv_has ls 2 [] → Sta KC D dA q A s.heap w H locs → Option.bind (f_Ballotscript_misread_b30 w) some = some z → W p l e RM_f_Ballotscript_misread s m args below meth c H locs 1 6 Q (F0 m 30 ls []) := by
    intro  w H locs ls hl S h
    unfold f_Ballotscript_misread_b30 at h
    exact thr _ _ _ w _ _ 1 6 (Nat.le_of_ble_eq_true rfl) (Nat.le_of_ble_eq_true rfl) hl.1 S h th_X9_misread_30
  intro H locs ls hl S h
  have h := h_0 h
  unfold f_Ballotscript_misread at h
  refine lv_aload_n hx hb dX9_misread_0 rfl (lv_at hl 0 rfl) ?_
  refine lv_iload_n hx hb dX9_misread_1 rfl (lv_at hl 1 rfl) ?_
  obtain ⟨x1, ex1, h⟩ := h_c h
  refine k_x C S (x_V (rest := []) (As := [.int a1]) lk_RX9_221 ev hx hb hml C S KC_0 rfl (c_f_Ballotscript_needBallot l hfl D dA q a1 w x1 ex1 _) rfl rfl ⟨(Nat.le_of_ble_eq_true rfl), (Nat.le_of_ble_eq_true rfl)⟩ rfl hl.1 rfl (Nat.le_of_ble_eq_true rfl) dX9_misread_2 ⟨(Nat.le_of_ble_eq_true rfl), (Nat.le_of_ble_eq_true rfl)⟩) (fun k2 er H locs q9 ce S h1 h2 h3 => ?_) (fun r2 er H locs S => ?_)
  · exact pro _ _ _ w _ _ 1 6 _ _ _ (Nat.le_of_ble_eq_true rfl) (Nat.le_of_ble_eq_true rfl) S (h_xl er h) h1 h2 h3
  · have h := h_xr er h
    refine lv_aload_n hx hb dX9_misread_5 rfl (lv_at hl 0 rfl) ?_
    refine g_getR fl_RX9_47_X9 hx hb C S KC_0 rfl dX9_misread_6 ?_
    refine g_getR fl_RX9_233_X0 hx hb C S KC_13 rfl dX9_misread_9 ?_
    refine lv_iload_n hx hb dX9_misread_12 rfl (lv_at hl 1 rfl) ?_
    obtain ⟨g2, h⟩ := h_gd h
    refine r_zald hx hb C S KC_20 (h_in g2) dX9_misread_13 ?_
    refine lv_if_ne (tgt := 30) hx hb dX9_misread_14 rfl (fun c3 => ?_) (fun c3 => ?_)
    · have h := h_f c3 h
      exact lab30 w _ _ _ (lv_sub hl [] rfl) S h
    · have h := h_t c3 h
      refine lv_aload_n hx hb dX9_misread_17 rfl (lv_at hl 0 rfl) ?_
      refine g_getR fl_RX9_47_X9 hx hb C S KC_0 rfl dX9_misread_18 ?_
      refine g_getR fl_RX9_236_X0 hx hb C S KC_13 rfl dX9_misread_21 ?_
      refine lv_iload_n hx hb dX9_misread_24 rfl (lv_at hl 1 rfl) ?_
      obtain ⟨g4, h⟩ := h_gd h
      refine r_iald hx hb C S KC_18 (h_in g4) dX9_misread_25 ?_
      refine lv_iconst (v := 2) hx hb dX9_misread_26 (by decide) ?_
      refine lv_icmp_ge (tgt := 40) hx hb dX9_misread_27 rfl (fun c5 => ?_) (fun c5 => ?_)
      · have h := h_t c5 h
        refine lv_aload_n hx hb dX9_misread_40 rfl (lv_at hl 0 rfl) ?_
        refine g_getR fl_RX9_47_X9 hx hb C S KC_0 rfl dX9_misread_41 ?_
        refine g_getR fl_RX9_233_X0 hx hb C S KC_13 rfl dX9_misread_44 ?_
        refine lv_iload_n hx hb dX9_misread_47 rfl (lv_at hl 1 rfl) ?_
        refine lv_iconst (v := 1) hx hb dX9_misread_48 (by decide) ?_
        obtain ⟨g6, h⟩ := h_gd h
        refine r_zast hx hb C S KC_20 (h_in g6) dX9_misread_49 (fun w7 ew7 H locs S => ?_)
        have h := h_l h w7 ew7
        exact fin _ _ _ w7 _ 1 6 (Nat.le_of_ble_eq_true rfl) (Nat.le_of_ble_eq_true rfl) S h dX9_misread_50
      · have h := h_f c5 h
        exact lab30 w _ _ _ (lv_sub hl [] rfl) S h
theorem c_f_Ballotscript_misread (l : Launch) (hfl : l.stackTraces = false) (D : va_G) (dA : Nat → ClassId) (q : Nat → Nat) (a1 : Int32) (w w' : Wt) (res : Nat ⊕ Int32) (h : f_Ballotscript_misread a1 w = some (res, w')) : Xv l EVc KC D dA q yX9_misread cX9_misread 2 none RM_f_Ballotscript_misread 4 24 [.ref (q 0), .int a1] w res w' :=
  mx_v (by decide) rfl hfl (Nat.le_of_ble_eq_true rfl) (Nat.le_of_ble_eq_true rfl) (Nat.le_of_ble_eq_true rfl) rfl rfl (fun p e s m args below meth c A Q ls hx hb hml C S hl fin thr pro => k_f_Ballotscript_misread a1 w (res, w') hfl hx hb hml C (fun H locs ls w2 pc cl sl hc hs S h d => fin H locs ls w2 pc cl sl hc hs S h d) (fun H locs ls w2 k pc cl sl hc hs hz S h t => thr H locs ls w2 k pc cl sl hc hs hz S h t) (fun H locs ls w2 k pc cl sl rest q9 ce hc hs S h h1 h2 h3 => pro H locs ls w2 k pc cl sl rest q9 ce hc hs S h h1 h2 h3) _ _ _ hl S h)
end WALKS

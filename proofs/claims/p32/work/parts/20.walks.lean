section WALKS
variable {p : Program} {l : Launch} {e : Env} {s : State} {m : MethodId} {args : Array Value} {below : List Frame} {meth : Method} {c : Code} {Q : State → Prop} {D : va_G} {dA : Nat → ClassId} {q : Nat → Nat} {A : Nat → Prop}
/-! Ballotscript.ties(I)I f_Ballotscript_ties -/
def f_Ballotscript_ties (a1 : Int32) (w : Wt) : Option ((Nat ⊕ Int32) × Wt) := Option.bind (f_Ballotscript_needVote a1 w) fun x1 => onX x1 (fun k2 => some (.inl k2, w)) (fun _ => Option.bind (f_Ballotscript_countVote a1 w) fun x2 => some (.inr (x2 22 2), x2))
def RM_f_Ballotscript_ties : Room := { frames := 11, cells := 4, slots := 24, locals := 267 }
set_option maxHeartbeats 4000000 in
set_option maxRecDepth 20000 in
theorem k_f_Ballotscript_ties (a1 : Int32) (w : Wt) (z : ((Nat ⊕ Int32) × Wt)) (hfl : l.stackTraces = false) (hx : p.tables.exec = Jvm.exec) (hb : c.code = cX9_ties) (hml : c.maxLocals = 2) (C : Cx EVc KC D dA q A s m args RX9) (fin : ∀ (H : Heap) (locs : List Loc) (ls : Array Slot) (r' : Int32) (w2 : Wt) (pc : Nat) (cl sl : Nat) , cl ≤ 4 → sl ≤ 24 → Sta KC D dA q A s.heap w2 H locs → some ((.inr r' : Nat ⊕ Int32), w2) = some z → decode cX9_ties pc = .ok (.ireturn, 1) → W p l e RM_f_Ballotscript_ties s m args below meth c H locs cl sl Q (F0 m pc ls [.int r'])) (thr : ∀ (H : Heap) (locs : List Loc) (ls : Array Slot) (w2 : Wt) (k pc cl sl : Nat), cl + 1 ≤ 4 → sl + 6 ≤ 24 → ls.size = 2 → Sta KC D dA q A s.heap w2 H locs → some ((.inl k : Nat ⊕ Int32), w2) = some z → thF RX9 cX9_ties pc k → W p l e RM_f_Ballotscript_ties s m args below meth c H locs cl sl Q (F0 m pc ls [])) (pro : ∀ (H : Heap) (locs : List Loc) (ls : Array Slot) (w2 : Wt) (k pc cl sl : Nat) (rest : List Value) (q9 : Nat) (ce : Cell), cl ≤ 4 → sl ≤ 24 → Sta KC D dA q A s.heap w2 H locs → some ((.inl k : Nat ⊕ Int32), w2) = some z → H[q9]? = some ce → ce.vm = .none → s.vm.findClass (exn k) = some ce.cls → vx_W p l e RM_f_Ballotscript_ties s m args below meth c H locs cl sl Q (F0 m pc ls rest) q9) : ∀ (H : Heap) (locs : List Loc) (ls : Array Slot), lv_has ls 2 [(0, .ref (q 0)), (1, .int a1)] → Sta KC D dA q A s.heap w H locs → f_Ballotscript_ties a1 w = some z → W p l e RM_f_Ballotscript_ties s m args below meth c H locs 0 0 Q (F0 m 0 ls []) := by
  have ev : evOk EVc := EVc_ok
  intro H locs ls hl S h
  have h := h_0 h
  unfold f_Ballotscript_ties at h
  refine lv_aload_n hx hb dX9_ties_0 rfl (lv_at hl 0 rfl) ?_
  refine lv_iload_n hx hb dX9_ties_1 rfl (lv_at hl 1 rfl) ?_
  obtain ⟨x1, ex1, h⟩ := h_c h
  refine k_x C S (x_V (rest := []) (As := [.int a1]) lk_RX9_176 ev hx hb hml C S KC_0 rfl (c_f_Ballotscript_needVote l hfl D dA q a1 w x1 ex1 _) rfl rfl ⟨(Nat.le_of_ble_eq_true rfl), (Nat.le_of_ble_eq_true rfl)⟩ rfl hl.1 rfl (Nat.le_of_ble_eq_true rfl) dX9_ties_2 ⟨(Nat.le_of_ble_eq_true rfl), (Nat.le_of_ble_eq_true rfl)⟩) (fun k2 er H locs q9 ce S h1 h2 h3 => ?_) (fun r2 er H locs S => ?_)
  · exact pro _ _ _ w _ _ 1 6 _ _ _ (Nat.le_of_ble_eq_true rfl) (Nat.le_of_ble_eq_true rfl) S (h_xl er h) h1 h2 h3
  · have h := h_xr er h
    refine lv_aload_n hx hb dX9_ties_5 rfl (lv_at hl 0 rfl) ?_
    refine lv_iload_n hx hb dX9_ties_6 rfl (lv_at hl 1 rfl) ?_
    obtain ⟨x2, ex2, h⟩ := h_c h
    refine k_r C S (q_V (rest := []) (As := [.int a1]) lk_RX9_153 ev hx hb hml C S KC_0 rfl (c_f_Ballotscript_countVote l D dA q a1 w x2 ex2 _) rfl rfl ⟨(Nat.le_of_ble_eq_true rfl), (Nat.le_of_ble_eq_true rfl)⟩ rfl hl.1 rfl (Nat.le_of_ble_eq_true rfl) dX9_ties_7 ⟨(Nat.le_of_ble_eq_true rfl), (Nat.le_of_ble_eq_true rfl)⟩) (fun H locs S => ?_)
    refine g_get fl_RX9_288_X3 hx hb C S KC_22 rfl dX9_ties_10 ?_
    exact fin _ _ _ (x2 22 2) x2 _ 1 6 (Nat.le_of_ble_eq_true rfl) (Nat.le_of_ble_eq_true rfl) S h dX9_ties_13
theorem c_f_Ballotscript_ties (l : Launch) (hfl : l.stackTraces = false) (D : va_G) (dA : Nat → ClassId) (q : Nat → Nat) (a1 : Int32) (w w' : Wt) (res : Nat ⊕ Int32) (h : f_Ballotscript_ties a1 w = some (res, w')) : Xi l EVc KC D dA q yX9_ties cX9_ties 2 (some .int) RM_f_Ballotscript_ties 4 24 [.ref (q 0), .int a1] w res w' :=
  mx_i (by decide) rfl hfl (Nat.le_of_ble_eq_true rfl) (Nat.le_of_ble_eq_true rfl) (Nat.le_of_ble_eq_true rfl) rfl rfl (fun p e s m args below meth c A Q ls hx hb hml C S hl fin thr pro => k_f_Ballotscript_ties a1 w (res, w') hfl hx hb hml C (fun H locs ls r' w2 pc cl sl hc hs S h d => fin H locs ls r' w2 pc cl sl hc hs S h d) (fun H locs ls w2 k pc cl sl hc hs hz S h t => thr H locs ls w2 k pc cl sl hc hs hz S h t) (fun H locs ls w2 k pc cl sl rest q9 ce hc hs S h h1 h2 h3 => pro H locs ls w2 k pc cl sl rest q9 ce hc hs S h h1 h2 h3) _ _ _ hl S h)
/-! Ballotscript.tied(II)I f_Ballotscript_tied -/
def f_Ballotscript_tied (a1 : Int32) (a2 : Int32) (w : Wt) : Option ((Nat ⊕ Int32) × Wt) := Option.bind (f_Ballotscript_needVote a1 w) fun x1 => onX x1 (fun k2 => some (.inl k2, w)) (fun _ => Option.bind (f_Ballotscript_countVote a1 w) fun x2 => Option.bind (f_Ballotscript_isWithin a2 (0 : Int32) ((x2 22 2) - (1 : Int32))) fun x3 => (if x3 = (0 : Int32) then some (.inl 0, x2) else gd (inb a2 6) (some (.inr (x2 23 (a2).toNatClampNeg), x2))))
def RM_f_Ballotscript_tied : Room := { frames := 11, cells := 4, slots := 24, locals := 267 }
set_option maxHeartbeats 4000000 in
set_option maxRecDepth 20000 in
theorem k_f_Ballotscript_tied (a1 : Int32) (a2 : Int32) (w : Wt) (z : ((Nat ⊕ Int32) × Wt)) (hfl : l.stackTraces = false) (hx : p.tables.exec = Jvm.exec) (hb : c.code = cX9_tied) (hml : c.maxLocals = 3) (C : Cx EVc KC D dA q A s m args RX9) (fin : ∀ (H : Heap) (locs : List Loc) (ls : Array Slot) (r' : Int32) (w2 : Wt) (pc : Nat) (cl sl : Nat) , cl ≤ 4 → sl ≤ 24 → Sta KC D dA q A s.heap w2 H locs → some ((.inr r' : Nat ⊕ Int32), w2) = some z → decode cX9_tied pc = .ok (.ireturn, 1) → W p l e RM_f_Ballotscript_tied s m args below meth c H locs cl sl Q (F0 m pc ls [.int r'])) (thr : ∀ (H : Heap) (locs : List Loc) (ls : Array Slot) (w2 : Wt) (k pc cl sl : Nat), cl + 1 ≤ 4 → sl + 6 ≤ 24 → ls.size = 3 → Sta KC D dA q A s.heap w2 H locs → some ((.inl k : Nat ⊕ Int32), w2) = some z → thF RX9 cX9_tied pc k → W p l e RM_f_Ballotscript_tied s m args below meth c H locs cl sl Q (F0 m pc ls [])) (pro : ∀ (H : Heap) (locs : List Loc) (ls : Array Slot) (w2 : Wt) (k pc cl sl : Nat) (rest : List Value) (q9 : Nat) (ce : Cell), cl ≤ 4 → sl ≤ 24 → Sta KC D dA q A s.heap w2 H locs → some ((.inl k : Nat ⊕ Int32), w2) = some z → H[q9]? = some ce → ce.vm = .none → s.vm.findClass (exn k) = some ce.cls → vx_W p l e RM_f_Ballotscript_tied s m args below meth c H locs cl sl Q (F0 m pc ls rest) q9) : ∀ (H : Heap) (locs : List Loc) (ls : Array Slot), lv_has ls 3 [(0, .ref (q 0)), (1, .int a1), (2, .int a2)] → Sta KC D dA q A s.heap w H locs → f_Ballotscript_tied a1 a2 w = some z → W p l e RM_f_Ballotscript_tied s m args below meth c H locs 0 0 Q (F0 m 0 ls []) := by
  have ev : evOk EVc := EVc_ok
  intro H locs ls hl S h
  have h := h_0 h
  unfold f_Ballotscript_tied at h
  refine lv_aload_n hx hb dX9_tied_0 rfl (lv_at hl 0 rfl) ?_
  refine lv_iload_n hx hb dX9_tied_1 rfl (lv_at hl 1 rfl) ?_
  obtain ⟨x1, ex1, h⟩ := h_c h
  refine k_x C S (x_V (rest := []) (As := [.int a1]) lk_RX9_176 ev hx hb hml C S KC_0 rfl (c_f_Ballotscript_needVote l hfl D dA q a1 w x1 ex1 _) rfl rfl ⟨(Nat.le_of_ble_eq_true rfl), (Nat.le_of_ble_eq_true rfl)⟩ rfl hl.1 rfl (Nat.le_of_ble_eq_true rfl) dX9_tied_2 ⟨(Nat.le_of_ble_eq_true rfl), (Nat.le_of_ble_eq_true rfl)⟩) (fun k2 er H locs q9 ce S h1 h2 h3 => ?_) (fun r2 er H locs S => ?_)
  · exact pro _ _ _ w _ _ 1 6 _ _ _ (Nat.le_of_ble_eq_true rfl) (Nat.le_of_ble_eq_true rfl) S (h_xl er h) h1 h2 h3
  · have h := h_xr er h
    refine lv_iload_n hx hb dX9_tied_5 rfl (lv_at hl 2 rfl) ?_
    refine lv_iconst (v := 0) hx hb dX9_tied_6 (by decide) ?_
    refine lv_aload_n hx hb dX9_tied_7 rfl (lv_at hl 0 rfl) ?_
    refine lv_iload_n hx hb dX9_tied_8 rfl (lv_at hl 1 rfl) ?_
    obtain ⟨x2, ex2, h⟩ := h_c h
    refine k_r C S (q_V (rest := [.int (0 : Int32), .int a2]) (As := [.int a1]) lk_RX9_153 ev hx hb hml C S KC_0 rfl (c_f_Ballotscript_countVote l D dA q a1 w x2 ex2 _) rfl rfl ⟨(Nat.le_of_ble_eq_true rfl), (Nat.le_of_ble_eq_true rfl)⟩ rfl hl.1 rfl (Nat.le_of_ble_eq_true rfl) dX9_tied_9 ⟨(Nat.le_of_ble_eq_true rfl), (Nat.le_of_ble_eq_true rfl)⟩) (fun H locs S => ?_)
    refine g_get fl_RX9_288_X3 hx hb C S KC_22 rfl dX9_tied_12 ?_
    refine lv_iconst (v := 1) hx hb dX9_tied_15 (by decide) ?_
    refine lv_isub hx hb dX9_tied_16 ?_
    obtain ⟨x3, ex3, h⟩ := h_c h
    refine k_i C S (q_S (rest := []) (As := [.int a2, .int (0 : Int32), .int ((x2 22 2) - (1 : Int32))]) lk_RX9_69 ev hx hb hml C S (c_f_Ballotscript_isWithin l D dA q a2 (0 : Int32) ((x2 22 2) - (1 : Int32)) x2 x3 ex3 _) rfl rfl ⟨(Nat.le_of_ble_eq_true rfl), (Nat.le_of_ble_eq_true rfl)⟩ rfl hl.1 rfl (Nat.le_of_ble_eq_true rfl) dX9_tied_17 ⟨(Nat.le_of_ble_eq_true rfl), (Nat.le_of_ble_eq_true rfl)⟩) (fun H locs S => ?_)
    refine lv_if_ne (tgt := 34) hx hb dX9_tied_20 rfl (fun c4 => ?_) (fun c4 => ?_)
    · have h := h_f c4 h
      refine lv_aload_n hx hb dX9_tied_34 rfl (lv_at hl 0 rfl) ?_
      refine g_getR fl_RX9_56_X9 hx hb C S KC_0 rfl dX9_tied_35 ?_
      refine g_getR fl_RX9_293_X3 hx hb C S KC_22 rfl dX9_tied_38 ?_
      refine lv_iload_n hx hb dX9_tied_41 rfl (lv_at hl 2 rfl) ?_
      obtain ⟨g5, h⟩ := h_gd h
      refine r_iald hx hb C S KC_23 (h_in g5) dX9_tied_42 ?_
      exact fin _ _ _ (x2 23 (a2).toNatClampNeg) x2 _ 1 6 (Nat.le_of_ble_eq_true rfl) (Nat.le_of_ble_eq_true rfl) S h dX9_tied_43
    · have h := h_t c4 h
      exact thr _ _ _ x2 _ _ 1 6 (Nat.le_of_ble_eq_true rfl) (Nat.le_of_ble_eq_true rfl) hl.1 S h th_X9_tied_23
theorem c_f_Ballotscript_tied (l : Launch) (hfl : l.stackTraces = false) (D : va_G) (dA : Nat → ClassId) (q : Nat → Nat) (a1 : Int32) (a2 : Int32) (w w' : Wt) (res : Nat ⊕ Int32) (h : f_Ballotscript_tied a1 a2 w = some (res, w')) : Xi l EVc KC D dA q yX9_tied cX9_tied 3 (some .int) RM_f_Ballotscript_tied 4 24 [.ref (q 0), .int a1, .int a2] w res w' :=
  mx_i (by decide) rfl hfl (Nat.le_of_ble_eq_true rfl) (Nat.le_of_ble_eq_true rfl) (Nat.le_of_ble_eq_true rfl) rfl rfl (fun p e s m args below meth c A Q ls hx hb hml C S hl fin thr pro => k_f_Ballotscript_tied a1 a2 w (res, w') hfl hx hb hml C (fun H locs ls r' w2 pc cl sl hc hs S h d => fin H locs ls r' w2 pc cl sl hc hs S h d) (fun H locs ls w2 k pc cl sl hc hs hz S h t => thr H locs ls w2 k pc cl sl hc hs hz S h t) (fun H locs ls w2 k pc cl sl rest q9 ce hc hs S h h1 h2 h3 => pro H locs ls w2 k pc cl sl rest q9 ce hc hs S h h1 h2 h3) _ _ _ hl S h)
/-! Ballotscript.certify(I)I f_Ballotscript_certify -/
def f_Ballotscript_certify (a1 : Int32) (w : Wt) : Option ((Nat ⊕ Int32) × Wt) := Option.bind (f_Ballotscript_needVote a1 w) fun x1 => onX x1 (fun k2 => some (.inl k2, w)) (fun _ => gd (inb a1 8) ((if (w (64 + (a1).toNatClampNeg) 4) = (0 : Int32) then some (.inl 2, w) else gd (inb a1 8) (Option.bind (f_Ballotscript_countVote a1 w) fun x5 => nmd (upd2 x5 (64 + (a1).toNatClampNeg) 7 (x5 22 6)) fun w6 => gd (inb a1 8) (some (.inr (w6 (64 + (a1).toNatClampNeg) 7), w6))))))
def RM_f_Ballotscript_certify : Room := { frames := 11, cells := 4, slots := 24, locals := 267 }
set_option maxHeartbeats 4000000 in
set_option maxRecDepth 20000 in
theorem k_f_Ballotscript_certify (a1 : Int32) (w : Wt) (z : ((Nat ⊕ Int32) × Wt)) (hfl : l.stackTraces = false) (hx : p.tables.exec = Jvm.exec) (hb : c.code = cX9_certify) (hml : c.maxLocals = 2) (C : Cx EVc KC D dA q A s m args RX9) (fin : ∀ (H : Heap) (locs : List Loc) (ls : Array Slot) (r' : Int32) (w2 : Wt) (pc : Nat) (cl sl : Nat) , cl ≤ 4 → sl ≤ 24 → Sta KC D dA q A s.heap w2 H locs → some ((.inr r' : Nat ⊕ Int32), w2) = some z → decode cX9_certify pc = .ok (.ireturn, 1) → W p l e RM_f_Ballotscript_certify s m args below meth c H locs cl sl Q (F0 m pc ls [.int r'])) (thr : ∀ (H : Heap) (locs : List Loc) (ls : Array Slot) (w2 : Wt) (k pc cl sl : Nat), cl + 1 ≤ 4 → sl + 6 ≤ 24 → ls.size = 2 → Sta KC D dA q A s.heap w2 H locs → some ((.inl k : Nat ⊕ Int32), w2) = some z → thF RX9 cX9_certify pc k → W p l e RM_f_Ballotscript_certify s m args below meth c H locs cl sl Q (F0 m pc ls [])) (pro : ∀ (H : Heap) (locs : List Loc) (ls : Array Slot) (w2 : Wt) (k pc cl sl : Nat) (rest : List Value) (q9 : Nat) (ce : Cell), cl ≤ 4 → sl ≤ 24 → Sta KC D dA q A s.heap w2 H locs → some ((.inl k : Nat ⊕ Int32), w2) = some z → H[q9]? = some ce → ce.vm = .none → s.vm.findClass (exn k) = some ce.cls → vx_W p l e RM_f_Ballotscript_certify s m args below meth c H locs cl sl Q (F0 m pc ls rest) q9) : ∀ (H : Heap) (locs : List Loc) (ls : Array Slot), lv_has ls 2 [(0, .ref (q 0)), (1, .int a1)] → Sta KC D dA q A s.heap w H locs → f_Ballotscript_certify a1 w = some z → W p l e RM_f_Ballotscript_certify s m args below meth c H locs 0 0 Q (F0 m 0 ls []) := by
  have ev : evOk EVc := EVc_ok
  intro H locs ls hl S h
  have h := h_0 h
  unfold f_Ballotscript_certify at h
  refine lv_aload_n hx hb dX9_certify_0 rfl (lv_at hl 0 rfl) ?_
  refine lv_iload_n hx hb dX9_certify_1 rfl (lv_at hl 1 rfl) ?_
  obtain ⟨x1, ex1, h⟩ := h_c h
  refine k_x C S (x_V (rest := []) (As := [.int a1]) lk_RX9_176 ev hx hb hml C S KC_0 rfl (c_f_Ballotscript_needVote l hfl D dA q a1 w x1 ex1 _) rfl rfl ⟨(Nat.le_of_ble_eq_true rfl), (Nat.le_of_ble_eq_true rfl)⟩ rfl hl.1 rfl (Nat.le_of_ble_eq_true rfl) dX9_certify_2 ⟨(Nat.le_of_ble_eq_true rfl), (Nat.le_of_ble_eq_true rfl)⟩) (fun k2 er H locs q9 ce S h1 h2 h3 => ?_) (fun r2 er H locs S => ?_)
  · exact pro _ _ _ w _ _ 1 6 _ _ _ (Nat.le_of_ble_eq_true rfl) (Nat.le_of_ble_eq_true rfl) S (h_xl er h) h1 h2 h3
  · have h := h_xr er h
    refine lv_aload_n hx hb dX9_certify_5 rfl (lv_at hl 0 rfl) ?_
    refine g_getR fl_RX9_31_X9 hx hb C S KC_0 rfl dX9_certify_6 ?_
    refine lv_iload_n hx hb dX9_certify_9 rfl (lv_at hl 1 rfl) ?_
    obtain ⟨g2, h⟩ := h_gd h
    refine r_aald (t := 4) rfl hx hb C S KC_10 (h_in g2) dX9_certify_10 ?_
    refine g_get fl_RX9_180_X8 hx hb C S (KC_64 (nt_lt (h_in g2))) rfl dX9_certify_11 ?_
    refine lv_if_ne (tgt := 28) hx hb dX9_certify_14 rfl (fun c3 => ?_) (fun c3 => ?_)
    · have h := h_f c3 h
      refine lv_aload_n hx hb dX9_certify_28 rfl (lv_at hl 0 rfl) ?_
      refine g_getR fl_RX9_31_X9 hx hb C S KC_0 rfl dX9_certify_29 ?_
      refine lv_iload_n hx hb dX9_certify_32 rfl (lv_at hl 1 rfl) ?_
      obtain ⟨g4, h⟩ := h_gd h
      refine r_aald (t := 4) rfl hx hb C S KC_10 (h_in g4) dX9_certify_33 ?_
      refine lv_aload_n hx hb dX9_certify_34 rfl (lv_at hl 0 rfl) ?_
      refine lv_iload_n hx hb dX9_certify_35 rfl (lv_at hl 1 rfl) ?_
      obtain ⟨x5, ex5, h⟩ := h_c h
      refine k_r C S (q_V (rest := [.ref (q (64 + (a1).toNatClampNeg))]) (As := [.int a1]) lk_RX9_153 ev hx hb hml C S KC_0 rfl (c_f_Ballotscript_countVote l D dA q a1 w x5 ex5 _) rfl rfl ⟨(Nat.le_of_ble_eq_true rfl), (Nat.le_of_ble_eq_true rfl)⟩ rfl hl.1 rfl (Nat.le_of_ble_eq_true rfl) dX9_certify_36 ⟨(Nat.le_of_ble_eq_true rfl), (Nat.le_of_ble_eq_true rfl)⟩) (fun H locs S => ?_)
      refine g_get fl_RX9_157_X3 hx hb C S KC_22 rfl dX9_certify_39 ?_
      refine g_put fl_RX9_298_X8 pl_X8_7 hx hb C S (KC_64 (nt_lt (h_in g4))) rfl ⟨rfl, rfl⟩ dX9_certify_42 (fun w6 ew6 H locs S => ?_)
      have h := h_l h w6 ew6
      refine lv_aload_n hx hb dX9_certify_45 rfl (lv_at hl 0 rfl) ?_
      refine g_getR fl_RX9_31_X9 hx hb C S KC_0 rfl dX9_certify_46 ?_
      refine lv_iload_n hx hb dX9_certify_49 rfl (lv_at hl 1 rfl) ?_
      obtain ⟨g7, h⟩ := h_gd h
      refine r_aald (t := 4) rfl hx hb C S KC_10 (h_in g7) dX9_certify_50 ?_
      refine g_get fl_RX9_298_X8 hx hb C S (KC_64 (nt_lt (h_in g7))) rfl dX9_certify_51 ?_
      exact fin _ _ _ (w6 (64 + (a1).toNatClampNeg) 7) w6 _ 1 6 (Nat.le_of_ble_eq_true rfl) (Nat.le_of_ble_eq_true rfl) S h dX9_certify_54
    · have h := h_t c3 h
      exact thr _ _ _ w _ _ 1 6 (Nat.le_of_ble_eq_true rfl) (Nat.le_of_ble_eq_true rfl) hl.1 S h th_X9_certify_17
theorem c_f_Ballotscript_certify (l : Launch) (hfl : l.stackTraces = false) (D : va_G) (dA : Nat → ClassId) (q : Nat → Nat) (a1 : Int32) (w w' : Wt) (res : Nat ⊕ Int32) (h : f_Ballotscript_certify a1 w = some (res, w')) : Xi l EVc KC D dA q yX9_certify cX9_certify 2 (some .int) RM_f_Ballotscript_certify 4 24 [.ref (q 0), .int a1] w res w' :=
  mx_i (by decide) rfl hfl (Nat.le_of_ble_eq_true rfl) (Nat.le_of_ble_eq_true rfl) (Nat.le_of_ble_eq_true rfl) rfl rfl (fun p e s m args below meth c A Q ls hx hb hml C S hl fin thr pro => k_f_Ballotscript_certify a1 w (res, w') hfl hx hb hml C (fun H locs ls r' w2 pc cl sl hc hs S h d => fin H locs ls r' w2 pc cl sl hc hs S h d) (fun H locs ls w2 k pc cl sl hc hs hz S h t => thr H locs ls w2 k pc cl sl hc hs hz S h t) (fun H locs ls w2 k pc cl sl rest q9 ce hc hs S h h1 h2 h3 => pro H locs ls w2 k pc cl sl rest q9 ce hc hs S h h1 h2 h3) _ _ _ hl S h)
/-! Ballotscript.certified(I)I f_Ballotscript_certified -/
def f_Ballotscript_certified (a1 : Int32) (w : Wt) : Option (Nat ⊕ Int32) := Option.bind (f_Ballotscript_needVote a1 w) fun x1 => onX x1 (fun k2 => some (.inl k2)) (fun _ => gd (inb a1 8) (some (.inr (w (64 + (a1).toNatClampNeg) 7))))
def RM_f_Ballotscript_certified : Room := { frames := 11, cells := 4, slots := 24, locals := 171 }
set_option maxHeartbeats 4000000 in
set_option maxRecDepth 20000 in
theorem k_f_Ballotscript_certified (a1 : Int32) (w : Wt) (z : (Nat ⊕ Int32)) (hfl : l.stackTraces = false) (hx : p.tables.exec = Jvm.exec) (hb : c.code = cX9_certified) (hml : c.maxLocals = 2) (C : Cx EVc KC D dA q A s m args RX9) (fin : ∀ (H : Heap) (locs : List Loc) (ls : Array Slot) (r' : Int32) (pc : Nat) (cl sl : Nat) , cl ≤ 4 → sl ≤ 24 → Sta KC D dA q A s.heap w H locs → some (.inr r' : Nat ⊕ Int32) = some z → decode cX9_certified pc = .ok (.ireturn, 1) → W p l e RM_f_Ballotscript_certified s m args below meth c H locs cl sl Q (F0 m pc ls [.int r'])) (thr : ∀ (H : Heap) (locs : List Loc) (ls : Array Slot) (k pc cl sl : Nat), cl + 1 ≤ 4 → sl + 6 ≤ 24 → ls.size = 2 → Sta KC D dA q A s.heap w H locs → some (.inl k : Nat ⊕ Int32) = some z → thF RX9 cX9_certified pc k → W p l e RM_f_Ballotscript_certified s m args below meth c H locs cl sl Q (F0 m pc ls [])) (pro : ∀ (H : Heap) (locs : List Loc) (ls : Array Slot) (k pc cl sl : Nat) (rest : List Value) (q9 : Nat) (ce : Cell), cl ≤ 4 → sl ≤ 24 → Sta KC D dA q A s.heap w H locs → some (.inl k : Nat ⊕ Int32) = some z → H[q9]? = some ce → ce.vm = .none → s.vm.findClass (exn k) = some ce.cls → vx_W p l e RM_f_Ballotscript_certified s m args below meth c H locs cl sl Q (F0 m pc ls rest) q9) : ∀ (H : Heap) (locs : List Loc) (ls : Array Slot), lv_has ls 2 [(0, .ref (q 0)), (1, .int a1)] → Sta KC D dA q A s.heap w H locs → f_Ballotscript_certified a1 w = some z → W p l e RM_f_Ballotscript_certified s m args below meth c H locs 0 0 Q (F0 m 0 ls []) := by
  have ev : evOk EVc := EVc_ok
  intro H locs ls hl S h
  have h := h_0 h
  unfold f_Ballotscript_certified at h
  refine lv_aload_n hx hb dX9_certified_0 rfl (lv_at hl 0 rfl) ?_
  refine lv_iload_n hx hb dX9_certified_1 rfl (lv_at hl 1 rfl) ?_
  obtain ⟨x1, ex1, h⟩ := h_c h
  refine k_x C S (x_V (rest := []) (As := [.int a1]) lk_RX9_176 ev hx hb hml C S KC_0 rfl (c_f_Ballotscript_needVote l hfl D dA q a1 w x1 ex1 _) rfl rfl ⟨(Nat.le_of_ble_eq_true rfl), (Nat.le_of_ble_eq_true rfl)⟩ rfl hl.1 rfl (Nat.le_of_ble_eq_true rfl) dX9_certified_2 ⟨(Nat.le_of_ble_eq_true rfl), (Nat.le_of_ble_eq_true rfl)⟩) (fun k2 er H locs q9 ce S h1 h2 h3 => ?_) (fun r2 er H locs S => ?_)
  · exact pro _ _ _ _ _ 1 6 _ _ _ (Nat.le_of_ble_eq_true rfl) (Nat.le_of_ble_eq_true rfl) S (h_xl er h) h1 h2 h3
  · have h := h_xr er h
    refine lv_aload_n hx hb dX9_certified_5 rfl (lv_at hl 0 rfl) ?_
    refine g_getR fl_RX9_31_X9 hx hb C S KC_0 rfl dX9_certified_6 ?_
    refine lv_iload_n hx hb dX9_certified_9 rfl (lv_at hl 1 rfl) ?_
    obtain ⟨g2, h⟩ := h_gd h
    refine r_aald (t := 4) rfl hx hb C S KC_10 (h_in g2) dX9_certified_10 ?_
    refine g_get fl_RX9_298_X8 hx hb C S (KC_64 (nt_lt (h_in g2))) rfl dX9_certified_11 ?_
    exact fin _ _ _ (w (64 + (a1).toNatClampNeg) 7) _ 1 6 (Nat.le_of_ble_eq_true rfl) (Nat.le_of_ble_eq_true rfl) S h dX9_certified_14
theorem c_f_Ballotscript_certified (l : Launch) (hfl : l.stackTraces = false) (D : va_G) (dA : Nat → ClassId) (q : Nat → Nat) (a1 : Int32) (w : Wt) (res : Nat ⊕ Int32) (h : f_Ballotscript_certified a1 w = some res) : Xi l EVc KC D dA q yX9_certified cX9_certified 2 (some .int) RM_f_Ballotscript_certified 4 24 [.ref (q 0), .int a1] w res w :=
  mx_i (by decide) rfl hfl (Nat.le_of_ble_eq_true rfl) (Nat.le_of_ble_eq_true rfl) (Nat.le_of_ble_eq_true rfl) rfl rfl (fun p e s m args below meth c A Q ls hx hb hml C S hl fin thr pro => k_f_Ballotscript_certified a1 w res hfl hx hb hml C (fun H locs ls r' pc cl sl hc hs S h d => fin H locs ls r' w pc cl sl hc hs S (by rw [Option.some.inj h]) d) (fun H locs ls k pc cl sl hc hs hz S h t => thr H locs ls w k pc cl sl hc hs hz S (by rw [Option.some.inj h]) t) (fun H locs ls k pc cl sl rest q9 ce hc hs S h h1 h2 h3 => pro H locs ls w k pc cl sl rest q9 ce hc hs S (by rw [Option.some.inj h]) h1 h2 h3) _ _ _ hl S h)
/-! Ballotscript.stale()I f_Ballotscript_stale -/
def f_Ballotscript_stale_b48 (l1 : Int32) (w : Wt) : Option (Int32 × Wt) := some (l1, w)
def f_Ballotscript_stale_L4 : (Int32 × Int32 × Wt) → Option ((Int32 × Int32 × Wt) ⊕ (Int32 × Wt))
  | (l1, l2, w) => (if (w 0 10) ≤ l2 then some (.inr (l1, w)) else gd (inb l2 8) (nmd (w (64 + (l2).toNatClampNeg) 7) fun v3 => (if v3 = (-1 : Int32) then some (.inl (l1, (l2 + 1), w)) else Option.bind (f_Ballotscript_countVote l2 w) fun x5 => (if v3 = (x5 22 6) then some (.inl (l1, (l2 + 1), x5)) else some (.inl ((l1 + 1), (l2 + 1), x5))))))
def f_Ballotscript_stale_x4 : (Int32 × Wt) → Option (Int32 × Wt)
  | (l1, w) => f_Ballotscript_stale_b48 l1 w
def f_Ballotscript_stale (w : Wt) : Option (Int32 × Wt) := Option.bind (lp (f_Ballotscript_stale_L4) FU ((0 : Int32), (0 : Int32), w)) (f_Ballotscript_stale_x4)
def RM_f_Ballotscript_stale : Room := { frames := 11, cells := 0, slots := 0, locals := 267 }
set_option maxHeartbeats 4000000 in
set_option maxRecDepth 20000 in
theorem k_f_Ballotscript_stale (w : Wt) (z : (Int32 × Wt)) (hx : p.tables.exec = Jvm.exec) (hb : c.code = cX9_stale) (hml : c.maxLocals = 4) (C : Cx EVc KC D dA q A s m args RX9) (fin : ∀ (H : Heap) (locs : List Loc) (ls : Array Slot) (r' : Int32) (w2 : Wt) (pc : Nat) , Sta KC D dA q A s.heap w2 H locs → some (r', w2) = some z → decode cX9_stale pc = .ok (.ireturn, 1) → W p l e RM_f_Ballotscript_stale s m args below meth c H locs 0 0 Q (F0 m pc ls [.int r'])) : ∀ (H : Heap) (locs : List Loc) (ls : Array Slot), lv_has ls 4 [(0, .ref (q 0))] → Sta KC D dA q A s.heap w H locs → f_Ballotscript_stale w = some z → W p l e RM_f_Ballotscript_stale s m args below meth c H locs 0 0 Q (F0 m 0 ls []) := by
  have ev : evOk EVc := EVc_ok
  have lab48 : ∀ (l1 : Int32) (w : Wt) (H : Heap) (locs : List Loc) (ls : Array Slot), lv_has ls 4 [(1, .int l1)] → Sta KC D dA q A s.heap w H locs → Option.bind (f_Ballotscript_stale_b48 l1 w) some = some z → W p l e RM_f_Ballotscript_stale s m args below meth c H locs 0 0 Q (F0 m 48 ls []) := by
    intro l1 w H locs ls hl S h
    unfold f_Ballotscript_stale_b48 at h
    refine lv_iload_n hx hb dX9_stale_48 rfl (lv_at hl 0 rfl) ?_
    exact fin _ _ _ l1 w _ S h dX9_stale_49
  have loop4 : ∀ (n4 : Nat), ∀ (l1 : Int32) (l2 : Int32) (w : Wt) (H : Heap) (locs : List Loc) (ls : Array Slot), lv_has ls 4 [(0, .ref (q 0)), (1, .int l1), (2, .int l2)] → Sta KC D dA q A s.heap w H locs → Option.bind (lp (f_Ballotscript_stale_L4) n4 (l1, l2, w)) (fun x9 => Option.bind (f_Ballotscript_stale_x4 x9) some) = some z → W p l e RM_f_Ballotscript_stale s m args below meth c H locs 0 0 Q (F0 m 4 ls []) := by
    intro  n4
    induction n4 with
    | zero =>
      intro l1 l2 w H locs ls hl S h
      exact (h_lp0 h).elim
    | succ n4 ih4 =>
      intro l1 l2 w H locs ls hl S h
      have h := h_lp h
      unfold f_Ballotscript_stale_L4 at h
      refine lv_iload_n hx hb dX9_stale_4 rfl (lv_at hl 2 rfl) ?_
      refine lv_aload_n hx hb dX9_stale_5 rfl (lv_at hl 0 rfl) ?_
      refine g_get fl_RX9_150_X9 hx hb C S KC_0 rfl dX9_stale_6 ?_
      refine lv_icmp_ge (tgt := 48) hx hb dX9_stale_9 rfl (fun c1 => ?_) (fun c1 => ?_)
      · have h := h_t c1 h
        exact lab48 l1 w _ _ _ (lv_sub hl [1] rfl) S h
      · have h := h_f c1 h
        refine lv_aload_n hx hb dX9_stale_12 rfl (lv_at hl 0 rfl) ?_
        refine g_getR fl_RX9_31_X9 hx hb C S KC_0 rfl dX9_stale_13 ?_
        refine lv_iload_n hx hb dX9_stale_16 rfl (lv_at hl 2 rfl) ?_
        obtain ⟨g2, h⟩ := h_gd h
        refine r_aald (t := 4) rfl hx hb C S KC_10 (h_in g2) dX9_stale_17 ?_
        refine g_get fl_RX9_298_X8 hx hb C S (KC_64 (nt_lt (h_in g2))) rfl dX9_stale_18 ?_
        refine lv_topi (fun v3 ev3 => ?_)
        have h := h_l h v3 ev3
        refine lv_istore_n (lv' := [(3, .int v3), (0, .ref (q 0)), (1, .int l1), (2, .int l2)]) hx hb dX9_stale_21 rfl hl (Nat.le_of_ble_eq_true rfl) rfl (fun ls hl => ?_)
        refine lv_iload_n hx hb dX9_stale_22 rfl (lv_at hl 0 rfl) ?_
        refine lv_iconst (v := -1) hx hb dX9_stale_23 (by decide) ?_
        refine lv_icmp_eq (tgt := 42) hx hb dX9_stale_24 rfl (fun c4 => ?_) (fun c4 => ?_)
        · have h := h_t c4 h
          refine lv_iinc (v := (l2 + 1)) (lv' := [(2, .int (l2 + 1)), (3, .int v3), (0, .ref (q 0)), (1, .int l1)]) hx hb dX9_stale_42 hl (k := 3) rfl rfl (Nat.le_of_ble_eq_true rfl) rfl (fun ls hl => ?_)
          refine lv_goto (tgt := 4) hx hb dX9_stale_45 rfl ?_
          exact ih4 l1 (l2 + 1) w _ _ _ (lv_sub hl [2, 3, 0] rfl) S h
        · have h := h_f c4 h
          refine lv_iload_n hx hb dX9_stale_27 rfl (lv_at hl 0 rfl) ?_
          refine lv_aload_n hx hb dX9_stale_28 rfl (lv_at hl 1 rfl) ?_
          refine lv_iload_n hx hb dX9_stale_29 rfl (lv_at hl 3 rfl) ?_
          obtain ⟨x5, ex5, h⟩ := h_c h
          refine k_r C S (q_V (rest := [.int v3]) (As := [.int l2]) lk_RX9_153 ev hx hb hml C S KC_0 rfl (c_f_Ballotscript_countVote l D dA q l2 w x5 ex5 _) rfl rfl ⟨(Nat.le_of_ble_eq_true rfl), (Nat.le_of_ble_eq_true rfl)⟩ rfl hl.1 rfl (Nat.le_of_ble_eq_true rfl) dX9_stale_30 ⟨(Nat.le_of_ble_eq_true rfl), (Nat.le_of_ble_eq_true rfl)⟩) (fun H locs S => ?_)
          refine g_get fl_RX9_157_X3 hx hb C S KC_22 rfl dX9_stale_33 ?_
          refine lv_icmp_eq (tgt := 42) hx hb dX9_stale_36 rfl (fun c6 => ?_) (fun c6 => ?_)
          · have h := h_t c6 h
            refine lv_iinc (v := (l2 + 1)) (lv' := [(2, .int (l2 + 1)), (3, .int v3), (0, .ref (q 0)), (1, .int l1)]) hx hb dX9_stale_42 hl (k := 3) rfl rfl (Nat.le_of_ble_eq_true rfl) rfl (fun ls hl => ?_)
            refine lv_goto (tgt := 4) hx hb dX9_stale_45 rfl ?_
            exact ih4 l1 (l2 + 1) x5 _ _ _ (lv_sub hl [2, 3, 0] rfl) S h
          · have h := h_f c6 h
            refine lv_iinc (v := (l1 + 1)) (lv' := [(1, .int (l1 + 1)), (3, .int v3), (0, .ref (q 0)), (2, .int l2)]) hx hb dX9_stale_39 hl (k := 2) rfl rfl (Nat.le_of_ble_eq_true rfl) rfl (fun ls hl => ?_)
            refine lv_iinc (v := (l2 + 1)) (lv' := [(2, .int (l2 + 1)), (1, .int (l1 + 1)), (3, .int v3), (0, .ref (q 0))]) hx hb dX9_stale_42 hl (k := 3) rfl rfl (Nat.le_of_ble_eq_true rfl) rfl (fun ls hl => ?_)
            refine lv_goto (tgt := 4) hx hb dX9_stale_45 rfl ?_
            exact ih4 (l1 + 1) (l2 + 1) x5 _ _ _ (lv_sub hl [3, 1, 0] rfl) S h
  intro H locs ls hl S h
  have h := h_0 h
  unfold f_Ballotscript_stale at h
  refine lv_iconst (v := 0) hx hb dX9_stale_0 (by decide) ?_
  refine lv_istore_n (lv' := [(1, .int (0 : Int32)), (0, .ref (q 0))]) hx hb dX9_stale_1 rfl hl (Nat.le_of_ble_eq_true rfl) rfl (fun ls hl => ?_)
  refine lv_iconst (v := 0) hx hb dX9_stale_2 (by decide) ?_
  refine lv_istore_n (lv' := [(2, .int (0 : Int32)), (1, .int (0 : Int32)), (0, .ref (q 0))]) hx hb dX9_stale_3 rfl hl (Nat.le_of_ble_eq_true rfl) rfl (fun ls hl => ?_)
  exact loop4  FU (0 : Int32) (0 : Int32) w _ _ _ (lv_sub hl [2, 1, 0] rfl) S (h_bb h)
theorem c_f_Ballotscript_stale (l : Launch) (D : va_G) (dA : Nat → ClassId) (q : Nat → Nat) (w w' : Wt) (r : Int32) (h : f_Ballotscript_stale w = some (r, w')) : Mi l EVc KC D dA q yX9_stale cX9_stale 4 (some .int) RM_f_Ballotscript_stale [.ref (q 0)] w r w' :=
  mk_i (by decide) rfl EVc_ok (Nat.le_of_ble_eq_true rfl) (fun p e s m args below meth c A Q ls hx hb hml C S hl fin => k_f_Ballotscript_stale w (r, w') hx hb hml C (fun H locs ls r' w2 pc S h d => fin H locs ls r' w2 pc S h d) _ _ _ hl S h)
end WALKS

section WALKS
variable {p : Program} {l : Launch} {e : Env} {s : State} {m : MethodId} {args : Array Value} {below : List Frame} {meth : Method} {c : Code} {Q : State → Prop} {D : va_G} {dA : Nat → ClassId} {q : Nat → Nat} {A : Nat → Prop}
/-! BallotscriptModel.thrown()I m_thrown -/
def m_thrown (w : Wt) : Option Int32 := some (w 0 45)
def RM_m_thrown : Room := { frames := 0, cells := 0, slots := 0, locals := 0 }
set_option maxHeartbeats 4000000 in
set_option maxRecDepth 20000 in
theorem k_m_thrown (w : Wt) (z : Int32) (hx : p.tables.exec = Jvm.exec) (hb : c.code = cX10_thrown) (hml : c.maxLocals = 1) (C : Cx EVm KM D dA q A s m args RX10) (fin : ∀ (H : Heap) (locs : List Loc) (ls : Array Slot) (r' : Int32) (pc : Nat) , Sta KM D dA q A s.heap w H locs → some r' = some z → decode cX10_thrown pc = .ok (.ireturn, 1) → W p l e RM_m_thrown s m args below meth c H locs 0 0 Q (F0 m pc ls [.int r'])) : ∀ (H : Heap) (locs : List Loc) (ls : Array Slot), lv_has ls 1 [(0, .ref (q 0))] → Sta KM D dA q A s.heap w H locs → m_thrown w = some z → W p l e RM_m_thrown s m args below meth c H locs 0 0 Q (F0 m 0 ls []) := by
  have ev : evOk EVm := EVm_ok
  intro H locs ls hl S h
  have h := h_0 h
  unfold m_thrown at h
  refine lv_aload_n hx hb dX10_thrown_0 rfl (lv_at hl 0 rfl) ?_
  refine g_get fl_RX10_98_X10 hx hb C S KM_0 rfl dX10_thrown_1 ?_
  exact fin _ _ _ (w 0 45) _ S h dX10_thrown_4
theorem c_m_thrown (l : Launch) (D : va_G) (dA : Nat → ClassId) (q : Nat → Nat) (w : Wt) (r : Int32) (h : m_thrown w = some r) : Mi l EVm KM D dA q yX10_thrown cX10_thrown 1 (some .int) RM_m_thrown [.ref (q 0)] w r w :=
  mk_i (by decide) rfl EVm_ok (Nat.le_of_ble_eq_true rfl) (fun p e s m args below meth c A Q ls hx hb hml C S hl fin => k_m_thrown w r hx hb hml C (fun H locs ls r' pc S h d => fin H locs ls r' w pc S (by rw [Option.some.inj h]) d) _ _ _ hl S h)
/-! BallotscriptModel.goes(ZZZ)Z m_goes -/
def m_goes_b26 (t0 : Int32) (w : Wt) : Option (Int32 × Wt) := nmd (upd2 w 0 45 t0) fun w1 => (if (w1 0 45) = (0 : Int32) then some ((1 : Int32), w1) else some ((0 : Int32), w1))
def m_goes (a1 : Int32) (a2 : Int32) (a3 : Int32) (w : Wt) : Option (Int32 × Wt) := (if a1 = (0 : Int32) then m_goes_b26 (1 : Int32) w else (if a2 = (0 : Int32) then m_goes_b26 (2 : Int32) w else (if a3 = (0 : Int32) then m_goes_b26 (3 : Int32) w else m_goes_b26 (0 : Int32) w)))
def RM_m_goes : Room := { frames := 0, cells := 0, slots := 0, locals := 0 }
set_option maxHeartbeats 4000000 in
set_option maxRecDepth 20000 in
theorem k_m_goes (a1 : Int32) (a2 : Int32) (a3 : Int32) (w : Wt) (z : (Int32 × Wt)) (hx : p.tables.exec = Jvm.exec) (hb : c.code = cX10_goes) (hml : c.maxLocals = 4) (C : Cx EVm KM D dA q A s m args RX10) (fin : ∀ (H : Heap) (locs : List Loc) (ls : Array Slot) (r' : Int32) (w2 : Wt) (pc : Nat) , narrow .boolean (.int r') = .int r' → Sta KM D dA q A s.heap w2 H locs → some (r', w2) = some z → decode cX10_goes pc = .ok (.ireturn, 1) → W p l e RM_m_goes s m args below meth c H locs 0 0 Q (F0 m pc ls [.int r'])) : ∀ (H : Heap) (locs : List Loc) (ls : Array Slot), lv_has ls 4 [(0, .ref (q 0)), (1, .int a1), (2, .int a2), (3, .int a3)] → Sta KM D dA q A s.heap w H locs → m_goes a1 a2 a3 w = some z → W p l e RM_m_goes s m args below meth c H locs 0 0 Q (F0 m 0 ls []) := by
  have ev : evOk EVm := EVm_ok
  have lab26 : ∀ (t0 : Int32) (w : Wt) (H : Heap) (locs : List Loc) (ls : Array Slot), lv_has ls 4 [(0, .ref (q 0))] → Sta KM D dA q A s.heap w H locs → Option.bind (m_goes_b26 t0 w) some = some z → W p l e RM_m_goes s m args below meth c H locs 0 0 Q (F0 m 26 ls [.int t0, .ref (q 0)]) := by
    intro t0 w H locs ls hl S h
    unfold m_goes_b26 at h
    refine g_put fl_RX10_98_X10 pl_X10_45 hx hb C S KM_0 rfl ⟨rfl, rfl⟩ dX10_goes_26 (fun w1 ew1 H locs S => ?_)
    have h := h_l h w1 ew1
    refine lv_aload_n hx hb dX10_goes_29 rfl (lv_at hl 0 rfl) ?_
    refine g_get fl_RX10_98_X10 hx hb C S KM_0 rfl dX10_goes_30 ?_
    refine lv_if_ne (tgt := 40) hx hb dX10_goes_33 rfl (fun c2 => ?_) (fun c2 => ?_)
    · have h := h_f c2 h
      refine lv_iconst (v := 0) hx hb dX10_goes_40 (by decide) ?_
      exact fin _ _ _ (0 : Int32) w1 _ (by decide) S h dX10_goes_41
    · have h := h_t c2 h
      refine lv_iconst (v := 1) hx hb dX10_goes_36 (by decide) ?_
      refine lv_goto (tgt := 41) hx hb dX10_goes_37 rfl ?_
      exact fin _ _ _ (1 : Int32) w1 _ (by decide) S h dX10_goes_41
  intro H locs ls hl S h
  have h := h_0 h
  unfold m_goes at h
  refine lv_aload_n hx hb dX10_goes_0 rfl (lv_at hl 0 rfl) ?_
  refine lv_iload_n hx hb dX10_goes_1 rfl (lv_at hl 1 rfl) ?_
  refine lv_if_ne (tgt := 9) hx hb dX10_goes_2 rfl (fun c3 => ?_) (fun c3 => ?_)
  · have h := h_f c3 h
    refine lv_iload_n hx hb dX10_goes_9 rfl (lv_at hl 2 rfl) ?_
    refine lv_if_ne (tgt := 17) hx hb dX10_goes_10 rfl (fun c4 => ?_) (fun c4 => ?_)
    · have h := h_f c4 h
      refine lv_iload_n hx hb dX10_goes_17 rfl (lv_at hl 3 rfl) ?_
      refine lv_if_ne (tgt := 25) hx hb dX10_goes_18 rfl (fun c5 => ?_) (fun c5 => ?_)
      · have h := h_f c5 h
        refine lv_iconst (v := 0) hx hb dX10_goes_25 (by decide) ?_
        exact lab26 (0 : Int32) w _ _ _ (lv_sub hl [0] rfl) S h
      · have h := h_t c5 h
        refine lv_iconst (v := 3) hx hb dX10_goes_21 (by decide) ?_
        refine lv_goto (tgt := 26) hx hb dX10_goes_22 rfl ?_
        exact lab26 (3 : Int32) w _ _ _ (lv_sub hl [0] rfl) S h
    · have h := h_t c4 h
      refine lv_iconst (v := 2) hx hb dX10_goes_13 (by decide) ?_
      refine lv_goto (tgt := 26) hx hb dX10_goes_14 rfl ?_
      exact lab26 (2 : Int32) w _ _ _ (lv_sub hl [0] rfl) S h
  · have h := h_t c3 h
    refine lv_iconst (v := 1) hx hb dX10_goes_5 (by decide) ?_
    refine lv_goto (tgt := 26) hx hb dX10_goes_6 rfl ?_
    exact lab26 (1 : Int32) w _ _ _ (lv_sub hl [0] rfl) S h
theorem c_m_goes (l : Launch) (D : va_G) (dA : Nat → ClassId) (q : Nat → Nat) (a1 : Int32) (a2 : Int32) (a3 : Int32) (w w' : Wt) (r : Int32) (h : m_goes a1 a2 a3 w = some (r, w')) : Mi l EVm KM D dA q yX10_goes cX10_goes 4 (some .boolean) RM_m_goes [.ref (q 0), .int a1, .int a2, .int a3] w r w' :=
  mk_z (by decide) rfl EVm_ok (Nat.le_of_ble_eq_true rfl) (fun p e s m args below meth c A Q ls hx hb hml C S hl fin => k_m_goes a1 a2 a3 w (r, w') hx hb hml C (fun H locs ls r' w2 pc hn S h d => fin H locs ls r' w2 pc hn S h d) _ _ _ hl S h)
/-! BallotscriptModel.isBelow(II)Z m_isBelow -/
def m_isBelow (a0 : Int32) (a1 : Int32) : Option Int32 := (if a0 < (0 : Int32) then some (0 : Int32) else (if a1 ≤ a0 then some (0 : Int32) else some (1 : Int32)))
def RM_m_isBelow : Room := { frames := 0, cells := 0, slots := 0, locals := 0 }
set_option maxHeartbeats 4000000 in
set_option maxRecDepth 20000 in
theorem k_m_isBelow (a0 : Int32) (a1 : Int32) (w : Wt) (z : Int32) (hx : p.tables.exec = Jvm.exec) (hb : c.code = cX10_isBelow) (hml : c.maxLocals = 2) (C : Cx EVm KM D dA q A s m args RX10) (fin : ∀ (H : Heap) (locs : List Loc) (ls : Array Slot) (r' : Int32) (pc : Nat) , narrow .boolean (.int r') = .int r' → Sta KM D dA q A s.heap w H locs → some r' = some z → decode cX10_isBelow pc = .ok (.ireturn, 1) → W p l e RM_m_isBelow s m args below meth c H locs 0 0 Q (F0 m pc ls [.int r'])) : ∀ (H : Heap) (locs : List Loc) (ls : Array Slot), lv_has ls 2 [(0, .int a0), (1, .int a1)] → Sta KM D dA q A s.heap w H locs → m_isBelow a0 a1 = some z → W p l e RM_m_isBelow s m args below meth c H locs 0 0 Q (F0 m 0 ls []) := by
  have ev : evOk EVm := EVm_ok
  intro H locs ls hl S h
  have h := h_0 h
  unfold m_isBelow at h
  refine lv_iload_n hx hb dX10_isBelow_0 rfl (lv_at hl 0 rfl) ?_
  refine lv_if_lt (tgt := 13) hx hb dX10_isBelow_1 rfl (fun c1 => ?_) (fun c1 => ?_)
  · have h := h_t c1 h
    refine lv_iconst (v := 0) hx hb dX10_isBelow_13 (by decide) ?_
    exact fin _ _ _ (0 : Int32) _ (by decide) S h dX10_isBelow_14
  · have h := h_f c1 h
    refine lv_iload_n hx hb dX10_isBelow_4 rfl (lv_at hl 0 rfl) ?_
    refine lv_iload_n hx hb dX10_isBelow_5 rfl (lv_at hl 1 rfl) ?_
    refine lv_icmp_ge (tgt := 13) hx hb dX10_isBelow_6 rfl (fun c2 => ?_) (fun c2 => ?_)
    · have h := h_t c2 h
      refine lv_iconst (v := 0) hx hb dX10_isBelow_13 (by decide) ?_
      exact fin _ _ _ (0 : Int32) _ (by decide) S h dX10_isBelow_14
    · have h := h_f c2 h
      refine lv_iconst (v := 1) hx hb dX10_isBelow_9 (by decide) ?_
      refine lv_goto (tgt := 14) hx hb dX10_isBelow_10 rfl ?_
      exact fin _ _ _ (1 : Int32) _ (by decide) S h dX10_isBelow_14
theorem c_m_isBelow (l : Launch) (D : va_G) (dA : Nat → ClassId) (q : Nat → Nat) (a0 : Int32) (a1 : Int32) (w : Wt) (r : Int32) (h : m_isBelow a0 a1 = some r) : Mi l EVm KM D dA q yX10_isBelow cX10_isBelow 2 (some .boolean) RM_m_isBelow [.int a0, .int a1] w r w :=
  mk_z (by decide) rfl EVm_ok (Nat.le_of_ble_eq_true rfl) (fun p e s m args below meth c A Q ls hx hb hml C S hl fin => k_m_isBelow a0 a1 w r hx hb hml C (fun H locs ls r' pc hn S h d => fin H locs ls r' w pc hn S (by rw [Option.some.inj h]) d) _ _ _ hl S h)
/-! BallotscriptModel.isWithin(III)Z m_isWithin -/
def m_isWithin (a0 : Int32) (a1 : Int32) (a2 : Int32) : Option Int32 := (if a0 < a1 then some (0 : Int32) else (if a2 < a0 then some (0 : Int32) else some (1 : Int32)))
def RM_m_isWithin : Room := { frames := 0, cells := 0, slots := 0, locals := 0 }
set_option maxHeartbeats 4000000 in
set_option maxRecDepth 20000 in
theorem k_m_isWithin (a0 : Int32) (a1 : Int32) (a2 : Int32) (w : Wt) (z : Int32) (hx : p.tables.exec = Jvm.exec) (hb : c.code = cX10_isWithin) (hml : c.maxLocals = 3) (C : Cx EVm KM D dA q A s m args RX10) (fin : ∀ (H : Heap) (locs : List Loc) (ls : Array Slot) (r' : Int32) (pc : Nat) , narrow .boolean (.int r') = .int r' → Sta KM D dA q A s.heap w H locs → some r' = some z → decode cX10_isWithin pc = .ok (.ireturn, 1) → W p l e RM_m_isWithin s m args below meth c H locs 0 0 Q (F0 m pc ls [.int r'])) : ∀ (H : Heap) (locs : List Loc) (ls : Array Slot), lv_has ls 3 [(0, .int a0), (1, .int a1), (2, .int a2)] → Sta KM D dA q A s.heap w H locs → m_isWithin a0 a1 a2 = some z → W p l e RM_m_isWithin s m args below meth c H locs 0 0 Q (F0 m 0 ls []) := by
  have ev : evOk EVm := EVm_ok
  intro H locs ls hl S h
  have h := h_0 h
  unfold m_isWithin at h
  refine lv_iload_n hx hb dX10_isWithin_0 rfl (lv_at hl 0 rfl) ?_
  refine lv_iload_n hx hb dX10_isWithin_1 rfl (lv_at hl 1 rfl) ?_
  refine lv_icmp_lt (tgt := 14) hx hb dX10_isWithin_2 rfl (fun c1 => ?_) (fun c1 => ?_)
  · have h := h_t c1 h
    refine lv_iconst (v := 0) hx hb dX10_isWithin_14 (by decide) ?_
    exact fin _ _ _ (0 : Int32) _ (by decide) S h dX10_isWithin_15
  · have h := h_f c1 h
    refine lv_iload_n hx hb dX10_isWithin_5 rfl (lv_at hl 0 rfl) ?_
    refine lv_iload_n hx hb dX10_isWithin_6 rfl (lv_at hl 2 rfl) ?_
    refine lv_icmp_gt (tgt := 14) hx hb dX10_isWithin_7 rfl (fun c2 => ?_) (fun c2 => ?_)
    · have h := h_t c2 h
      refine lv_iconst (v := 0) hx hb dX10_isWithin_14 (by decide) ?_
      exact fin _ _ _ (0 : Int32) _ (by decide) S h dX10_isWithin_15
    · have h := h_f c2 h
      refine lv_iconst (v := 1) hx hb dX10_isWithin_10 (by decide) ?_
      refine lv_goto (tgt := 15) hx hb dX10_isWithin_11 rfl ?_
      exact fin _ _ _ (1 : Int32) _ (by decide) S h dX10_isWithin_15
theorem c_m_isWithin (l : Launch) (D : va_G) (dA : Nat → ClassId) (q : Nat → Nat) (a0 : Int32) (a1 : Int32) (a2 : Int32) (w : Wt) (r : Int32) (h : m_isWithin a0 a1 a2 = some r) : Mi l EVm KM D dA q yX10_isWithin cX10_isWithin 3 (some .boolean) RM_m_isWithin [.int a0, .int a1, .int a2] w r w :=
  mk_z (by decide) rfl EVm_ok (Nat.le_of_ble_eq_true rfl) (fun p e s m args below meth c A Q ls hx hb hml C S hl fin => k_m_isWithin a0 a1 a2 w r hx hb hml C (fun H locs ls r' pc hn S h d => fin H locs ls r' w pc hn S (by rw [Option.some.inj h]) d) _ _ _ hl S h)
/-! BallotscriptModel.enter(IIII)I m_enter -/
def m_enter_b69 (l1 : Int32) (l2 : Int32) (l3 : Int32) (l4 : Int32) (t0 : Int32) (t1 : Int32) (t2 : Int32) (w : Wt) : Option (Int32 × Wt) := Option.bind (m_goes t2 t1 t0 w) fun x1 => (if x1.1 = (0 : Int32) then some ((0 : Int32), x1.2) else gd (inb (x1.2 0 6) 60) (nmd (upd2 x1.2 1 ((x1.2 0 6)).toNatClampNeg l1) fun w4 => gd (inb (w4 0 6) 60) (nmd (upd2 w4 2 ((w4 0 6)).toNatClampNeg l2) fun w6 => gd (inb (w6 0 6) 60) (nmd (upd2 w6 3 ((w6 0 6)).toNatClampNeg l3) fun w8 => gd (inb (w8 0 6) 60) (nmd (upd2 w8 4 ((w8 0 6)).toNatClampNeg l4) fun w10 => gd (inb (w10 0 6) 60) (nmd (upd2 w10 5 ((w10 0 6)).toNatClampNeg (vp_nar .boolean (0 : Int32))) fun w12 => nmd (upd2 w12 0 6 ((w12 0 6) + (1 : Int32))) fun w13 => some (((w13 0 6) - (1 : Int32)), w13)))))))
def m_enter_b53 (l1 : Int32) (l2 : Int32) (l3 : Int32) (l4 : Int32) (l5 : Int32) (t0 : Int32) (w : Wt) : Option (Int32 × Wt) := (if (60 : Int32) ≤ (w 0 6) then m_enter_b69 l1 l2 l3 l4 (0 : Int32) l5 t0 w else m_enter_b69 l1 l2 l3 l4 (1 : Int32) l5 t0 w)
def m_enter_b52 (l1 : Int32) (l2 : Int32) (l3 : Int32) (l4 : Int32) (l5 : Int32) (w : Wt) : Option (Int32 × Wt) := m_enter_b53 l1 l2 l3 l4 l5 (0 : Int32) w
def m_enter_b28 (l1 : Int32) (l2 : Int32) (l3 : Int32) (l4 : Int32) (t0 : Int32) (w : Wt) : Option (Int32 × Wt) := Option.bind (m_isBelow l1 (3 : Int32)) fun x15 => (if x15 = (0 : Int32) then m_enter_b52 l1 l2 l3 l4 t0 w else Option.bind (m_isBelow l2 (20 : Int32)) fun x17 => (if x17 = (0 : Int32) then m_enter_b52 l1 l2 l3 l4 t0 w else m_enter_b53 l1 l2 l3 l4 t0 (1 : Int32) w))
def m_enter_b27 (l1 : Int32) (l2 : Int32) (l3 : Int32) (l4 : Int32) (w : Wt) : Option (Int32 × Wt) := m_enter_b28 l1 l2 l3 l4 (0 : Int32) w
def m_enter (a1 : Int32) (a2 : Int32) (a3 : Int32) (a4 : Int32) (w : Wt) : Option (Int32 × Wt) := Option.bind (m_isWithin a3 (0 : Int32) (1000 : Int32)) fun x19 => (if x19 = (0 : Int32) then m_enter_b27 a1 a2 a3 a4 w else Option.bind (m_isWithin a4 a3 (1000 : Int32)) fun x21 => (if x21 = (0 : Int32) then m_enter_b27 a1 a2 a3 a4 w else m_enter_b28 a1 a2 a3 a4 (1 : Int32) w))
def RM_m_enter : Room := { frames := 1, cells := 0, slots := 0, locals := 23 }
set_option maxHeartbeats 4000000 in
set_option maxRecDepth 20000 in
theorem k_m_enter (a1 : Int32) (a2 : Int32) (a3 : Int32) (a4 : Int32) (w : Wt) (z : (Int32 × Wt)) (hx : p.tables.exec = Jvm.exec) (hb : c.code = cX10_enter) (hml : c.maxLocals = 6) (C : Cx EVm KM D dA q A s m args RX10) (fin : ∀ (H : Heap) (locs : List Loc) (ls : Array Slot) (r' : Int32) (w2 : Wt) (pc : Nat) , Sta KM D dA q A s.heap w2 H locs → some (r', w2) = some z → decode cX10_enter pc = .ok (.ireturn, 1) → W p l e RM_m_enter s m args below meth c H locs 0 0 Q (F0 m pc ls [.int r'])) : ∀ (H : Heap) (locs : List Loc) (ls : Array Slot), lv_has ls 6 [(0, .ref (q 0)), (1, .int a1), (2, .int a2), (3, .int a3), (4, .int a4)] → Sta KM D dA q A s.heap w H locs → m_enter a1 a2 a3 a4 w = some z → W p l e RM_m_enter s m args below meth c H locs 0 0 Q (F0 m 0 ls []) := by
  have ev : evOk EVm := EVm_ok
  have lab69 : ∀ (l1 : Int32) (l2 : Int32) (l3 : Int32) (l4 : Int32) (t0 : Int32) (t1 : Int32) (t2 : Int32) (w : Wt) (H : Heap) (locs : List Loc) (ls : Array Slot), lv_has ls 6 [(0, .ref (q 0)), (1, .int l1), (2, .int l2), (3, .int l3), (4, .int l4)] → Sta KM D dA q A s.heap w H locs → Option.bind (m_enter_b69 l1 l2 l3 l4 t0 t1 t2 w) some = some z → W p l e RM_m_enter s m args below meth c H locs 0 0 Q (F0 m 69 ls [.int t0, .int t1, .int t2, .ref (q 0)]) := by
    intro l1 l2 l3 l4 t0 t1 t2 w H locs ls hl S h
    unfold m_enter_b69 at h
    obtain ⟨x1, ex1, h⟩ := h_c h
    refine k_i C S (q_V (rest := []) (As := [.int t2, .int t1, .int t0]) lk_RX10_113 ev hx hb hml C S KM_0 rfl (c_m_goes l D dA q t2 t1 t0 w x1.2 x1.1 ex1 _) rfl rfl ⟨(Nat.le_of_ble_eq_true rfl), (Nat.le_of_ble_eq_true rfl)⟩ rfl hl.1 rfl (Nat.le_of_ble_eq_true rfl) dX10_enter_69 ⟨(Nat.le_of_ble_eq_true rfl), (Nat.le_of_ble_eq_true rfl)⟩) (fun H locs S => ?_)
    refine lv_if_ne (tgt := 77) hx hb dX10_enter_72 rfl (fun c2 => ?_) (fun c2 => ?_)
    · have h := h_f c2 h
      refine lv_aload_n hx hb dX10_enter_77 rfl (lv_at hl 0 rfl) ?_
      refine g_getR fl_RX10_7_X10 hx hb C S KM_0 rfl dX10_enter_78 ?_
      refine lv_aload_n hx hb dX10_enter_81 rfl (lv_at hl 0 rfl) ?_
      refine g_get fl_RX10_110_X10 hx hb C S KM_0 rfl dX10_enter_82 ?_
      refine lv_iload_n hx hb dX10_enter_85 rfl (lv_at hl 1 rfl) ?_
      obtain ⟨g3, h⟩ := h_gd h
      refine r_iast hx hb C S KM_1 (h_in g3) dX10_enter_86 (fun w4 ew4 H locs S => ?_)
      have h := h_l h w4 ew4
      refine lv_aload_n hx hb dX10_enter_87 rfl (lv_at hl 0 rfl) ?_
      refine g_getR fl_RX10_13_X10 hx hb C S KM_0 rfl dX10_enter_88 ?_
      refine lv_aload_n hx hb dX10_enter_91 rfl (lv_at hl 0 rfl) ?_
      refine g_get fl_RX10_110_X10 hx hb C S KM_0 rfl dX10_enter_92 ?_
      refine lv_iload_n hx hb dX10_enter_95 rfl (lv_at hl 2 rfl) ?_
      obtain ⟨g5, h⟩ := h_gd h
      refine r_iast hx hb C S KM_2 (h_in g5) dX10_enter_96 (fun w6 ew6 H locs S => ?_)
      have h := h_l h w6 ew6
      refine lv_aload_n hx hb dX10_enter_97 rfl (lv_at hl 0 rfl) ?_
      refine g_getR fl_RX10_16_X10 hx hb C S KM_0 rfl dX10_enter_98 ?_
      refine lv_aload_n hx hb dX10_enter_101 rfl (lv_at hl 0 rfl) ?_
      refine g_get fl_RX10_110_X10 hx hb C S KM_0 rfl dX10_enter_102 ?_
      refine lv_iload_n hx hb dX10_enter_105 rfl (lv_at hl 3 rfl) ?_
      obtain ⟨g7, h⟩ := h_gd h
      refine r_iast hx hb C S KM_3 (h_in g7) dX10_enter_106 (fun w8 ew8 H locs S => ?_)
      have h := h_l h w8 ew8
      refine lv_aload_n hx hb dX10_enter_107 rfl (lv_at hl 0 rfl) ?_
      refine g_getR fl_RX10_19_X10 hx hb C S KM_0 rfl dX10_enter_108 ?_
      refine lv_aload_n hx hb dX10_enter_111 rfl (lv_at hl 0 rfl) ?_
      refine g_get fl_RX10_110_X10 hx hb C S KM_0 rfl dX10_enter_112 ?_
      refine lv_iload hx hb dX10_enter_115 (lv_at hl 4 rfl) ?_
      obtain ⟨g9, h⟩ := h_gd h
      refine r_iast hx hb C S KM_4 (h_in g9) dX10_enter_117 (fun w10 ew10 H locs S => ?_)
      have h := h_l h w10 ew10
      refine lv_aload_n hx hb dX10_enter_118 rfl (lv_at hl 0 rfl) ?_
      refine g_getR fl_RX10_22_X10 hx hb C S KM_0 rfl dX10_enter_119 ?_
      refine lv_aload_n hx hb dX10_enter_122 rfl (lv_at hl 0 rfl) ?_
      refine g_get fl_RX10_110_X10 hx hb C S KM_0 rfl dX10_enter_123 ?_
      refine lv_iconst (v := 0) hx hb dX10_enter_126 (by decide) ?_
      obtain ⟨g11, h⟩ := h_gd h
      refine r_zast hx hb C S KM_5 (h_in g11) dX10_enter_127 (fun w12 ew12 H locs S => ?_)
      have h := h_l h w12 ew12
      refine lv_aload_n hx hb dX10_enter_128 rfl (lv_at hl 0 rfl) ?_
      refine lv_dup hx hb dX10_enter_129 rfl ?_
      refine g_get fl_RX10_110_X10 hx hb C S KM_0 rfl dX10_enter_130 ?_
      refine lv_iconst (v := 1) hx hb dX10_enter_133 (by decide) ?_
      refine lv_iadd hx hb dX10_enter_134 ?_
      refine g_put fl_RX10_110_X10 pl_X10_6 hx hb C S KM_0 rfl ⟨rfl, rfl⟩ dX10_enter_135 (fun w13 ew13 H locs S => ?_)
      have h := h_l h w13 ew13
      refine lv_aload_n hx hb dX10_enter_138 rfl (lv_at hl 0 rfl) ?_
      refine g_get fl_RX10_110_X10 hx hb C S KM_0 rfl dX10_enter_139 ?_
      refine lv_iconst (v := 1) hx hb dX10_enter_142 (by decide) ?_
      refine lv_isub hx hb dX10_enter_143 ?_
      exact fin _ _ _ ((w13 0 6) - (1 : Int32)) w13 _ S h dX10_enter_144
    · have h := h_t c2 h
      refine lv_iconst (v := 0) hx hb dX10_enter_75 (by decide) ?_
      exact fin _ _ _ (0 : Int32) x1.2 _ S h dX10_enter_76
  have lab53 : ∀ (l1 : Int32) (l2 : Int32) (l3 : Int32) (l4 : Int32) (l5 : Int32) (t0 : Int32) (w : Wt) (H : Heap) (locs : List Loc) (ls : Array Slot), lv_has ls 6 [(0, .ref (q 0)), (1, .int l1), (2, .int l2), (3, .int l3), (4, .int l4), (5, .int l5)] → Sta KM D dA q A s.heap w H locs → Option.bind (m_enter_b53 l1 l2 l3 l4 l5 t0 w) some = some z → W p l e RM_m_enter s m args below meth c H locs 0 0 Q (F0 m 53 ls [.int t0, .ref (q 0)]) := by
    intro l1 l2 l3 l4 l5 t0 w H locs ls hl S h
    unfold m_enter_b53 at h
    refine lv_iload hx hb dX10_enter_53 (lv_at hl 5 rfl) ?_
    refine lv_aload_n hx hb dX10_enter_55 rfl (lv_at hl 0 rfl) ?_
    refine g_get fl_RX10_110_X10 hx hb C S KM_0 rfl dX10_enter_56 ?_
    refine lv_bipush (v := 60) hx hb dX10_enter_59 (by decide) ?_
    refine lv_icmp_ge (tgt := 68) hx hb dX10_enter_61 rfl (fun c14 => ?_) (fun c14 => ?_)
    · have h := h_t c14 h
      refine lv_iconst (v := 0) hx hb dX10_enter_68 (by decide) ?_
      exact lab69 l1 l2 l3 l4 (0 : Int32) l5 t0 w _ _ _ (lv_sub hl [0, 1, 2, 3, 4] rfl) S h
    · have h := h_f c14 h
      refine lv_iconst (v := 1) hx hb dX10_enter_64 (by decide) ?_
      refine lv_goto (tgt := 69) hx hb dX10_enter_65 rfl ?_
      exact lab69 l1 l2 l3 l4 (1 : Int32) l5 t0 w _ _ _ (lv_sub hl [0, 1, 2, 3, 4] rfl) S h
  have lab52 : ∀ (l1 : Int32) (l2 : Int32) (l3 : Int32) (l4 : Int32) (l5 : Int32) (w : Wt) (H : Heap) (locs : List Loc) (ls : Array Slot), lv_has ls 6 [(0, .ref (q 0)), (1, .int l1), (2, .int l2), (3, .int l3), (4, .int l4), (5, .int l5)] → Sta KM D dA q A s.heap w H locs → Option.bind (m_enter_b52 l1 l2 l3 l4 l5 w) some = some z → W p l e RM_m_enter s m args below meth c H locs 0 0 Q (F0 m 52 ls [.ref (q 0)]) := by
    intro l1 l2 l3 l4 l5 w H locs ls hl S h
    unfold m_enter_b52 at h
    refine lv_iconst (v := 0) hx hb dX10_enter_52 (by decide) ?_
    exact lab53 l1 l2 l3 l4 l5 (0 : Int32) w _ _ _ (lv_sub hl [0, 1, 2, 3, 4, 5] rfl) S h
  have lab28 : ∀ (l1 : Int32) (l2 : Int32) (l3 : Int32) (l4 : Int32) (t0 : Int32) (w : Wt) (H : Heap) (locs : List Loc) (ls : Array Slot), lv_has ls 6 [(0, .ref (q 0)), (1, .int l1), (2, .int l2), (3, .int l3), (4, .int l4)] → Sta KM D dA q A s.heap w H locs → Option.bind (m_enter_b28 l1 l2 l3 l4 t0 w) some = some z → W p l e RM_m_enter s m args below meth c H locs 0 0 Q (F0 m 28 ls [.int t0]) := by
    intro l1 l2 l3 l4 t0 w H locs ls hl S h
    unfold m_enter_b28 at h
    refine lv_istore (lv' := [(5, .int t0), (0, .ref (q 0)), (1, .int l1), (2, .int l2), (3, .int l3), (4, .int l4)]) hx hb dX10_enter_28 hl (Nat.le_of_ble_eq_true rfl) rfl (fun ls hl => ?_)
    refine lv_aload_n hx hb dX10_enter_30 rfl (lv_at hl 1 rfl) ?_
    refine lv_iload_n hx hb dX10_enter_31 rfl (lv_at hl 2 rfl) ?_
    refine lv_iconst (v := 3) hx hb dX10_enter_32 (by decide) ?_
    obtain ⟨x15, ex15, h⟩ := h_c h
    refine k_i C S (q_S (rest := [.ref (q 0)]) (As := [.int l1, .int (3 : Int32)]) lk_RX10_106 ev hx hb hml C S (c_m_isBelow l D dA q l1 (3 : Int32) w x15 ex15 _) rfl rfl ⟨(Nat.le_of_ble_eq_true rfl), (Nat.le_of_ble_eq_true rfl)⟩ rfl hl.1 rfl (Nat.le_of_ble_eq_true rfl) dX10_enter_33 ⟨(Nat.le_of_ble_eq_true rfl), (Nat.le_of_ble_eq_true rfl)⟩) (fun H locs S => ?_)
    refine lv_if_eq (tgt := 52) hx hb dX10_enter_36 rfl (fun c16 => ?_) (fun c16 => ?_)
    · have h := h_t c16 h
      exact lab52 l1 l2 l3 l4 t0 w _ _ _ (lv_sub hl [1, 2, 3, 4, 5, 0] rfl) S h
    · have h := h_f c16 h
      refine lv_iload_n hx hb dX10_enter_39 rfl (lv_at hl 3 rfl) ?_
      refine lv_bipush (v := 20) hx hb dX10_enter_40 (by decide) ?_
      obtain ⟨x17, ex17, h⟩ := h_c h
      refine k_i C S (q_S (rest := [.ref (q 0)]) (As := [.int l2, .int (20 : Int32)]) lk_RX10_106 ev hx hb hml C S (c_m_isBelow l D dA q l2 (20 : Int32) w x17 ex17 _) rfl rfl ⟨(Nat.le_of_ble_eq_true rfl), (Nat.le_of_ble_eq_true rfl)⟩ rfl hl.1 rfl (Nat.le_of_ble_eq_true rfl) dX10_enter_42 ⟨(Nat.le_of_ble_eq_true rfl), (Nat.le_of_ble_eq_true rfl)⟩) (fun H locs S => ?_)
      refine lv_if_eq (tgt := 52) hx hb dX10_enter_45 rfl (fun c18 => ?_) (fun c18 => ?_)
      · have h := h_t c18 h
        exact lab52 l1 l2 l3 l4 t0 w _ _ _ (lv_sub hl [1, 2, 3, 4, 5, 0] rfl) S h
      · have h := h_f c18 h
        refine lv_iconst (v := 1) hx hb dX10_enter_48 (by decide) ?_
        refine lv_goto (tgt := 53) hx hb dX10_enter_49 rfl ?_
        exact lab53 l1 l2 l3 l4 t0 (1 : Int32) w _ _ _ (lv_sub hl [1, 2, 3, 4, 5, 0] rfl) S h
  have lab27 : ∀ (l1 : Int32) (l2 : Int32) (l3 : Int32) (l4 : Int32) (w : Wt) (H : Heap) (locs : List Loc) (ls : Array Slot), lv_has ls 6 [(0, .ref (q 0)), (1, .int l1), (2, .int l2), (3, .int l3), (4, .int l4)] → Sta KM D dA q A s.heap w H locs → Option.bind (m_enter_b27 l1 l2 l3 l4 w) some = some z → W p l e RM_m_enter s m args below meth c H locs 0 0 Q (F0 m 27 ls []) := by
    intro l1 l2 l3 l4 w H locs ls hl S h
    unfold m_enter_b27 at h
    refine lv_iconst (v := 0) hx hb dX10_enter_27 (by decide) ?_
    exact lab28 l1 l2 l3 l4 (0 : Int32) w _ _ _ (lv_sub hl [0, 1, 2, 3, 4] rfl) S h
  intro H locs ls hl S h
  have h := h_0 h
  unfold m_enter at h
  refine lv_iload_n hx hb dX10_enter_0 rfl (lv_at hl 3 rfl) ?_
  refine lv_iconst (v := 0) hx hb dX10_enter_1 (by decide) ?_
  refine lv_sipush (v := 1000) hx hb dX10_enter_2 (by decide) ?_
  obtain ⟨x19, ex19, h⟩ := h_c h
  refine k_i C S (q_S (rest := []) (As := [.int a3, .int (0 : Int32), .int (1000 : Int32)]) lk_RX10_102 ev hx hb hml C S (c_m_isWithin l D dA q a3 (0 : Int32) (1000 : Int32) w x19 ex19 _) rfl rfl ⟨(Nat.le_of_ble_eq_true rfl), (Nat.le_of_ble_eq_true rfl)⟩ rfl hl.1 rfl (Nat.le_of_ble_eq_true rfl) dX10_enter_5 ⟨(Nat.le_of_ble_eq_true rfl), (Nat.le_of_ble_eq_true rfl)⟩) (fun H locs S => ?_)
  refine lv_if_eq (tgt := 27) hx hb dX10_enter_8 rfl (fun c20 => ?_) (fun c20 => ?_)
  · have h := h_t c20 h
    exact lab27 a1 a2 a3 a4 w _ _ _ (lv_sub hl [0, 1, 2, 3, 4] rfl) S h
  · have h := h_f c20 h
    refine lv_iload hx hb dX10_enter_11 (lv_at hl 4 rfl) ?_
    refine lv_iload_n hx hb dX10_enter_13 rfl (lv_at hl 3 rfl) ?_
    refine lv_sipush (v := 1000) hx hb dX10_enter_14 (by decide) ?_
    obtain ⟨x21, ex21, h⟩ := h_c h
    refine k_i C S (q_S (rest := []) (As := [.int a4, .int a3, .int (1000 : Int32)]) lk_RX10_102 ev hx hb hml C S (c_m_isWithin l D dA q a4 a3 (1000 : Int32) w x21 ex21 _) rfl rfl ⟨(Nat.le_of_ble_eq_true rfl), (Nat.le_of_ble_eq_true rfl)⟩ rfl hl.1 rfl (Nat.le_of_ble_eq_true rfl) dX10_enter_17 ⟨(Nat.le_of_ble_eq_true rfl), (Nat.le_of_ble_eq_true rfl)⟩) (fun H locs S => ?_)
    refine lv_if_eq (tgt := 27) hx hb dX10_enter_20 rfl (fun c22 => ?_) (fun c22 => ?_)
    · have h := h_t c22 h
      exact lab27 a1 a2 a3 a4 w _ _ _ (lv_sub hl [0, 1, 2, 3, 4] rfl) S h
    · have h := h_f c22 h
      refine lv_iconst (v := 1) hx hb dX10_enter_23 (by decide) ?_
      refine lv_goto (tgt := 28) hx hb dX10_enter_24 rfl ?_
      exact lab28 a1 a2 a3 a4 (1 : Int32) w _ _ _ (lv_sub hl [0, 1, 2, 3, 4] rfl) S h
theorem c_m_enter (l : Launch) (D : va_G) (dA : Nat → ClassId) (q : Nat → Nat) (a1 : Int32) (a2 : Int32) (a3 : Int32) (a4 : Int32) (w w' : Wt) (r : Int32) (h : m_enter a1 a2 a3 a4 w = some (r, w')) : Mi l EVm KM D dA q yX10_enter cX10_enter 6 (some .int) RM_m_enter [.ref (q 0), .int a1, .int a2, .int a3, .int a4] w r w' :=
  mk_i (by decide) rfl EVm_ok (Nat.le_of_ble_eq_true rfl) (fun p e s m args below meth c A Q ls hx hb hml C S hl fin => k_m_enter a1 a2 a3 a4 w (r, w') hx hb hml C (fun H locs ls r' w2 pc S h d => fin H locs ls r' w2 pc S h d) _ _ _ hl S h)
/-! BallotscriptModel.allowed(III)Z m_allowed -/
def m_allowed_b86 (l4 : Int32) (w : Wt) : Option Int32 := gd (bob l4) (some l4)
def m_allowed_L6 (l1 : Int32) (l2 : Int32) (l3 : Int32) (w : Wt) : (Int32 × Int32) → Option ((Int32 × Int32) ⊕ Int32)
  | (l4, l5) => (if (w 0 6) ≤ l5 then some (.inr l4) else (if l4 = (0 : Int32) then gd (inb l5 60) ((if (w 5 (l5).toNatClampNeg) = (0 : Int32) then gd (inb l5 60) ((if (w 1 (l5).toNatClampNeg) = l1 then gd (inb l5 60) ((if (w 2 (l5).toNatClampNeg) = l2 then gd (inb l5 60) (gd (inb l5 60) (Option.bind (m_isWithin l3 (w 3 (l5).toNatClampNeg) (w 4 (l5).toNatClampNeg)) fun x12 => (if x12 = (0 : Int32) then some (.inl ((0 : Int32), (l5 + 1))) else some (.inl ((1 : Int32), (l5 + 1)))))) else some (.inl ((0 : Int32), (l5 + 1))))) else some (.inl ((0 : Int32), (l5 + 1))))) else some (.inl ((0 : Int32), (l5 + 1))))) else some (.inl ((1 : Int32), (l5 + 1)))))
def m_allowed_x6 (w : Wt) : Int32 → Option Int32
  | l4 => m_allowed_b86 l4 w
def m_allowed (a1 : Int32) (a2 : Int32) (a3 : Int32) (w : Wt) : Option Int32 := Option.bind (lp (m_allowed_L6 a1 a2 a3 w) FU ((0 : Int32), (0 : Int32))) (m_allowed_x6 w)
def RM_m_allowed : Room := { frames := 1, cells := 0, slots := 0, locals := 22 }
set_option maxHeartbeats 4000000 in
set_option maxRecDepth 20000 in
theorem k_m_allowed (a1 : Int32) (a2 : Int32) (a3 : Int32) (w : Wt) (z : Int32) (hx : p.tables.exec = Jvm.exec) (hb : c.code = cX10_allowed) (hml : c.maxLocals = 6) (C : Cx EVm KM D dA q A s m args RX10) (fin : ∀ (H : Heap) (locs : List Loc) (ls : Array Slot) (r' : Int32) (pc : Nat) , narrow .boolean (.int r') = .int r' → Sta KM D dA q A s.heap w H locs → some r' = some z → decode cX10_allowed pc = .ok (.ireturn, 1) → W p l e RM_m_allowed s m args below meth c H locs 0 0 Q (F0 m pc ls [.int r'])) : ∀ (H : Heap) (locs : List Loc) (ls : Array Slot), lv_has ls 6 [(0, .ref (q 0)), (1, .int a1), (2, .int a2), (3, .int a3)] → Sta KM D dA q A s.heap w H locs → m_allowed a1 a2 a3 w = some z → W p l e RM_m_allowed s m args below meth c H locs 0 0 Q (F0 m 0 ls []) := by
  have ev : evOk EVm := EVm_ok
  have lab86 : ∀ (l4 : Int32) (H : Heap) (locs : List Loc) (ls : Array Slot), lv_has ls 6 [(4, .int l4)] → Sta KM D dA q A s.heap w H locs → Option.bind (m_allowed_b86 l4 w) some = some z → W p l e RM_m_allowed s m args below meth c H locs 0 0 Q (F0 m 86 ls []) := by
    intro l4 H locs ls hl S h
    unfold m_allowed_b86 at h
    refine lv_iload hx hb dX10_allowed_86 (lv_at hl 0 rfl) ?_
    obtain ⟨g1, h⟩ := h_gd h
    exact fin _ _ _ l4 _ (bo_of g1).1 S h dX10_allowed_88
  have loop6 : ∀ (l1 : Int32) (l2 : Int32) (l3 : Int32) (n6 : Nat), ∀ (l4 : Int32) (l5 : Int32) (H : Heap) (locs : List Loc) (ls : Array Slot), lv_has ls 6 [(0, .ref (q 0)), (1, .int l1), (2, .int l2), (3, .int l3), (4, .int l4), (5, .int l5)] → Sta KM D dA q A s.heap w H locs → Option.bind (lp (m_allowed_L6 l1 l2 l3 w) n6 (l4, l5)) (fun x9 => Option.bind (m_allowed_x6 w x9) some) = some z → W p l e RM_m_allowed s m args below meth c H locs 0 0 Q (F0 m 6 ls []) := by
    intro l1 l2 l3 n6
    induction n6 with
    | zero =>
      intro l4 l5 H locs ls hl S h
      exact (h_lp0 h).elim
    | succ n6 ih6 =>
      intro l4 l5 H locs ls hl S h
      have h := h_lp h
      unfold m_allowed_L6 at h
      refine lv_iload hx hb dX10_allowed_6 (lv_at hl 5 rfl) ?_
      refine lv_aload_n hx hb dX10_allowed_8 rfl (lv_at hl 0 rfl) ?_
      refine g_get fl_RX10_110_X10 hx hb C S KM_0 rfl dX10_allowed_9 ?_
      refine lv_icmp_ge (tgt := 86) hx hb dX10_allowed_12 rfl (fun c2 => ?_) (fun c2 => ?_)
      · have h := h_t c2 h
        exact lab86 l4 _ _ _ (lv_sub hl [4] rfl) S h
      · have h := h_f c2 h
        refine lv_iload hx hb dX10_allowed_15 (lv_at hl 4 rfl) ?_
        refine lv_if_ne (tgt := 73) hx hb dX10_allowed_17 rfl (fun c3 => ?_) (fun c3 => ?_)
        · have h := h_f c3 h
          refine lv_iconst (v := 1) hx hb dX10_allowed_73 (by decide) ?_
          refine lv_goto (tgt := 78) hx hb dX10_allowed_74 rfl ?_
          refine lv_istore (lv' := [(4, .int (1 : Int32)), (0, .ref (q 0)), (1, .int l1), (2, .int l2), (3, .int l3), (5, .int l5)]) hx hb dX10_allowed_78 hl (Nat.le_of_ble_eq_true rfl) rfl (fun ls hl => ?_)
          refine lv_iinc (v := (l5 + 1)) (lv' := [(5, .int (l5 + 1)), (4, .int (1 : Int32)), (0, .ref (q 0)), (1, .int l1), (2, .int l2), (3, .int l3)]) hx hb dX10_allowed_80 hl (k := 5) rfl rfl (Nat.le_of_ble_eq_true rfl) rfl (fun ls hl => ?_)
          refine lv_goto (tgt := 6) hx hb dX10_allowed_83 rfl ?_
          exact ih6 (1 : Int32) (l5 + 1) _ _ _ (lv_sub hl [2, 3, 4, 5, 1, 0] rfl) S h
        · have h := h_t c3 h
          refine lv_aload_n hx hb dX10_allowed_20 rfl (lv_at hl 0 rfl) ?_
          refine g_getR fl_RX10_22_X10 hx hb C S KM_0 rfl dX10_allowed_21 ?_
          refine lv_iload hx hb dX10_allowed_24 (lv_at hl 5 rfl) ?_
          obtain ⟨g4, h⟩ := h_gd h
          refine r_zald hx hb C S KM_5 (h_in g4) dX10_allowed_26 ?_
          refine lv_if_ne (tgt := 77) hx hb dX10_allowed_27 rfl (fun c5 => ?_) (fun c5 => ?_)
          · have h := h_f c5 h
            refine lv_iconst (v := 0) hx hb dX10_allowed_77 (by decide) ?_
            refine lv_istore (lv' := [(4, .int (0 : Int32)), (0, .ref (q 0)), (1, .int l1), (2, .int l2), (3, .int l3), (5, .int l5)]) hx hb dX10_allowed_78 hl (Nat.le_of_ble_eq_true rfl) rfl (fun ls hl => ?_)
            refine lv_iinc (v := (l5 + 1)) (lv' := [(5, .int (l5 + 1)), (4, .int (0 : Int32)), (0, .ref (q 0)), (1, .int l1), (2, .int l2), (3, .int l3)]) hx hb dX10_allowed_80 hl (k := 5) rfl rfl (Nat.le_of_ble_eq_true rfl) rfl (fun ls hl => ?_)
            refine lv_goto (tgt := 6) hx hb dX10_allowed_83 rfl ?_
            exact ih6 (0 : Int32) (l5 + 1) _ _ _ (lv_sub hl [2, 3, 4, 5, 1, 0] rfl) S h
          · have h := h_t c5 h
            refine lv_aload_n hx hb dX10_allowed_30 rfl (lv_at hl 0 rfl) ?_
            refine g_getR fl_RX10_7_X10 hx hb C S KM_0 rfl dX10_allowed_31 ?_
            refine lv_iload hx hb dX10_allowed_34 (lv_at hl 5 rfl) ?_
            obtain ⟨g6, h⟩ := h_gd h
            refine r_iald hx hb C S KM_1 (h_in g6) dX10_allowed_36 ?_
            refine lv_iload_n hx hb dX10_allowed_37 rfl (lv_at hl 1 rfl) ?_
            refine lv_icmp_ne (tgt := 77) hx hb dX10_allowed_38 rfl (fun c7 => ?_) (fun c7 => ?_)
            · have h := h_f c7 h
              refine lv_iconst (v := 0) hx hb dX10_allowed_77 (by decide) ?_
              refine lv_istore (lv' := [(4, .int (0 : Int32)), (0, .ref (q 0)), (1, .int l1), (2, .int l2), (3, .int l3), (5, .int l5)]) hx hb dX10_allowed_78 hl (Nat.le_of_ble_eq_true rfl) rfl (fun ls hl => ?_)
              refine lv_iinc (v := (l5 + 1)) (lv' := [(5, .int (l5 + 1)), (4, .int (0 : Int32)), (0, .ref (q 0)), (1, .int l1), (2, .int l2), (3, .int l3)]) hx hb dX10_allowed_80 hl (k := 5) rfl rfl (Nat.le_of_ble_eq_true rfl) rfl (fun ls hl => ?_)
              refine lv_goto (tgt := 6) hx hb dX10_allowed_83 rfl ?_
              exact ih6 (0 : Int32) (l5 + 1) _ _ _ (lv_sub hl [2, 3, 4, 5, 1, 0] rfl) S h
            · have h := h_t c7 h
              refine lv_aload_n hx hb dX10_allowed_41 rfl (lv_at hl 0 rfl) ?_
              refine g_getR fl_RX10_13_X10 hx hb C S KM_0 rfl dX10_allowed_42 ?_
              refine lv_iload hx hb dX10_allowed_45 (lv_at hl 5 rfl) ?_
              obtain ⟨g8, h⟩ := h_gd h
              refine r_iald hx hb C S KM_2 (h_in g8) dX10_allowed_47 ?_
              refine lv_iload_n hx hb dX10_allowed_48 rfl (lv_at hl 2 rfl) ?_
              refine lv_icmp_ne (tgt := 77) hx hb dX10_allowed_49 rfl (fun c9 => ?_) (fun c9 => ?_)
              · have h := h_f c9 h
                refine lv_iconst (v := 0) hx hb dX10_allowed_77 (by decide) ?_
                refine lv_istore (lv' := [(4, .int (0 : Int32)), (0, .ref (q 0)), (1, .int l1), (2, .int l2), (3, .int l3), (5, .int l5)]) hx hb dX10_allowed_78 hl (Nat.le_of_ble_eq_true rfl) rfl (fun ls hl => ?_)
                refine lv_iinc (v := (l5 + 1)) (lv' := [(5, .int (l5 + 1)), (4, .int (0 : Int32)), (0, .ref (q 0)), (1, .int l1), (2, .int l2), (3, .int l3)]) hx hb dX10_allowed_80 hl (k := 5) rfl rfl (Nat.le_of_ble_eq_true rfl) rfl (fun ls hl => ?_)
                refine lv_goto (tgt := 6) hx hb dX10_allowed_83 rfl ?_
                exact ih6 (0 : Int32) (l5 + 1) _ _ _ (lv_sub hl [2, 3, 4, 5, 1, 0] rfl) S h
              · have h := h_t c9 h
                refine lv_iload_n hx hb dX10_allowed_52 rfl (lv_at hl 3 rfl) ?_
                refine lv_aload_n hx hb dX10_allowed_53 rfl (lv_at hl 0 rfl) ?_
                refine g_getR fl_RX10_16_X10 hx hb C S KM_0 rfl dX10_allowed_54 ?_
                refine lv_iload hx hb dX10_allowed_57 (lv_at hl 5 rfl) ?_
                obtain ⟨g10, h⟩ := h_gd h
                refine r_iald hx hb C S KM_3 (h_in g10) dX10_allowed_59 ?_
                refine lv_aload_n hx hb dX10_allowed_60 rfl (lv_at hl 0 rfl) ?_
                refine g_getR fl_RX10_19_X10 hx hb C S KM_0 rfl dX10_allowed_61 ?_
                refine lv_iload hx hb dX10_allowed_64 (lv_at hl 5 rfl) ?_
                obtain ⟨g11, h⟩ := h_gd h
                refine r_iald hx hb C S KM_4 (h_in g11) dX10_allowed_66 ?_
                obtain ⟨x12, ex12, h⟩ := h_c h
                refine k_i C S (q_S (rest := []) (As := [.int l3, .int (w 3 (l5).toNatClampNeg), .int (w 4 (l5).toNatClampNeg)]) lk_RX10_102 ev hx hb hml C S (c_m_isWithin l D dA q l3 (w 3 (l5).toNatClampNeg) (w 4 (l5).toNatClampNeg) w x12 ex12 _) rfl rfl ⟨(Nat.le_of_ble_eq_true rfl), (Nat.le_of_ble_eq_true rfl)⟩ rfl hl.1 rfl (Nat.le_of_ble_eq_true rfl) dX10_allowed_67 ⟨(Nat.le_of_ble_eq_true rfl), (Nat.le_of_ble_eq_true rfl)⟩) (fun H locs S => ?_)
                refine lv_if_eq (tgt := 77) hx hb dX10_allowed_70 rfl (fun c13 => ?_) (fun c13 => ?_)
                · have h := h_t c13 h
                  refine lv_iconst (v := 0) hx hb dX10_allowed_77 (by decide) ?_
                  refine lv_istore (lv' := [(4, .int (0 : Int32)), (0, .ref (q 0)), (1, .int l1), (2, .int l2), (3, .int l3), (5, .int l5)]) hx hb dX10_allowed_78 hl (Nat.le_of_ble_eq_true rfl) rfl (fun ls hl => ?_)
                  refine lv_iinc (v := (l5 + 1)) (lv' := [(5, .int (l5 + 1)), (4, .int (0 : Int32)), (0, .ref (q 0)), (1, .int l1), (2, .int l2), (3, .int l3)]) hx hb dX10_allowed_80 hl (k := 5) rfl rfl (Nat.le_of_ble_eq_true rfl) rfl (fun ls hl => ?_)
                  refine lv_goto (tgt := 6) hx hb dX10_allowed_83 rfl ?_
                  exact ih6 (0 : Int32) (l5 + 1) _ _ _ (lv_sub hl [2, 3, 4, 5, 1, 0] rfl) S h
                · have h := h_f c13 h
                  refine lv_iconst (v := 1) hx hb dX10_allowed_73 (by decide) ?_
                  refine lv_goto (tgt := 78) hx hb dX10_allowed_74 rfl ?_
                  refine lv_istore (lv' := [(4, .int (1 : Int32)), (0, .ref (q 0)), (1, .int l1), (2, .int l2), (3, .int l3), (5, .int l5)]) hx hb dX10_allowed_78 hl (Nat.le_of_ble_eq_true rfl) rfl (fun ls hl => ?_)
                  refine lv_iinc (v := (l5 + 1)) (lv' := [(5, .int (l5 + 1)), (4, .int (1 : Int32)), (0, .ref (q 0)), (1, .int l1), (2, .int l2), (3, .int l3)]) hx hb dX10_allowed_80 hl (k := 5) rfl rfl (Nat.le_of_ble_eq_true rfl) rfl (fun ls hl => ?_)
                  refine lv_goto (tgt := 6) hx hb dX10_allowed_83 rfl ?_
                  exact ih6 (1 : Int32) (l5 + 1) _ _ _ (lv_sub hl [2, 3, 4, 5, 1, 0] rfl) S h
  intro H locs ls hl S h
  have h := h_0 h
  unfold m_allowed at h
  refine lv_iconst (v := 0) hx hb dX10_allowed_0 (by decide) ?_
  refine lv_istore (lv' := [(4, .int (0 : Int32)), (0, .ref (q 0)), (1, .int a1), (2, .int a2), (3, .int a3)]) hx hb dX10_allowed_1 hl (Nat.le_of_ble_eq_true rfl) rfl (fun ls hl => ?_)
  refine lv_iconst (v := 0) hx hb dX10_allowed_3 (by decide) ?_
  refine lv_istore (lv' := [(5, .int (0 : Int32)), (4, .int (0 : Int32)), (0, .ref (q 0)), (1, .int a1), (2, .int a2), (3, .int a3)]) hx hb dX10_allowed_4 hl (Nat.le_of_ble_eq_true rfl) rfl (fun ls hl => ?_)
  exact loop6 a1 a2 a3 FU (0 : Int32) (0 : Int32) _ _ _ (lv_sub hl [2, 3, 4, 5, 1, 0] rfl) S (h_bb h)
theorem c_m_allowed (l : Launch) (D : va_G) (dA : Nat → ClassId) (q : Nat → Nat) (a1 : Int32) (a2 : Int32) (a3 : Int32) (w : Wt) (r : Int32) (h : m_allowed a1 a2 a3 w = some r) : Mi l EVm KM D dA q yX10_allowed cX10_allowed 6 (some .boolean) RM_m_allowed [.ref (q 0), .int a1, .int a2, .int a3] w r w :=
  mk_z (by decide) rfl EVm_ok (Nat.le_of_ble_eq_true rfl) (fun p e s m args below meth c A Q ls hx hb hml C S hl fin => k_m_allowed a1 a2 a3 w r hx hb hml C (fun H locs ls r' pc hn S h d => fin H locs ls r' w pc hn S (by rw [Option.some.inj h]) d) _ _ _ hl S h)
/-! BallotscriptModel.reason(I)I m_reason -/
def m_reason_b60 (l1 : Int32) (l2 : Int32) (w : Wt) : Option Int32 := (if l2 = (0 : Int32) then gd (inb l1 100) (gd (inb (w 19 (l1).toNatClampNeg) 8) (gd (inb l1 100) (gd (inb l1 100) (Option.bind (m_allowed (w 9 ((w 19 (l1).toNatClampNeg)).toNatClampNeg) (w 20 (l1).toNatClampNeg) (w 21 (l1).toNatClampNeg) w) fun x6 => (if x6 = (0 : Int32) then some (2 : Int32) else some (0 : Int32)))))) else some (1 : Int32))
def m_reason_L6 (l1 : Int32) (w : Wt) : (Int32 × Int32) → Option ((Int32 × Int32) ⊕ Int32)
  | (l2, l3) => (if (w 0 27) ≤ l3 then some (.inr l2) else (if l2 = (0 : Int32) then gd (inb l3 100) (gd (inb l1 100) ((if (w 19 (l3).toNatClampNeg) = (w 19 (l1).toNatClampNeg) then gd (inb l3 100) (gd (inb l1 100) ((if (w 20 (l3).toNatClampNeg) = (w 20 (l1).toNatClampNeg) then some (.inl ((1 : Int32), (l3 + 1))) else some (.inl ((0 : Int32), (l3 + 1)))))) else some (.inl ((0 : Int32), (l3 + 1)))))) else some (.inl ((1 : Int32), (l3 + 1)))))
def m_reason_x6 (l1 : Int32) (w : Wt) : Int32 → Option Int32
  | l2 => m_reason_b60 l1 l2 w
def m_reason (a1 : Int32) (w : Wt) : Option Int32 := nmd (a1 + (1 : Int32)) fun v16 => Option.bind (lp (m_reason_L6 a1 w) FU ((0 : Int32), v16)) (m_reason_x6 a1 w)
def RM_m_reason : Room := { frames := 2, cells := 0, slots := 0, locals := 47 }
set_option maxHeartbeats 4000000 in
set_option maxRecDepth 20000 in
theorem k_m_reason (a1 : Int32) (w : Wt) (z : Int32) (hx : p.tables.exec = Jvm.exec) (hb : c.code = cX10_reason) (hml : c.maxLocals = 4) (C : Cx EVm KM D dA q A s m args RX10) (fin : ∀ (H : Heap) (locs : List Loc) (ls : Array Slot) (r' : Int32) (pc : Nat) , Sta KM D dA q A s.heap w H locs → some r' = some z → decode cX10_reason pc = .ok (.ireturn, 1) → W p l e RM_m_reason s m args below meth c H locs 0 0 Q (F0 m pc ls [.int r'])) : ∀ (H : Heap) (locs : List Loc) (ls : Array Slot), lv_has ls 4 [(0, .ref (q 0)), (1, .int a1)] → Sta KM D dA q A s.heap w H locs → m_reason a1 w = some z → W p l e RM_m_reason s m args below meth c H locs 0 0 Q (F0 m 0 ls []) := by
  have ev : evOk EVm := EVm_ok
  have lab60 : ∀ (l1 : Int32) (l2 : Int32) (H : Heap) (locs : List Loc) (ls : Array Slot), lv_has ls 4 [(0, .ref (q 0)), (1, .int l1), (2, .int l2)] → Sta KM D dA q A s.heap w H locs → Option.bind (m_reason_b60 l1 l2 w) some = some z → W p l e RM_m_reason s m args below meth c H locs 0 0 Q (F0 m 60 ls []) := by
    intro l1 l2 H locs ls hl S h
    unfold m_reason_b60 at h
    refine lv_iload_n hx hb dX10_reason_60 rfl (lv_at hl 2 rfl) ?_
    refine lv_if_eq (tgt := 68) hx hb dX10_reason_61 rfl (fun c1 => ?_) (fun c1 => ?_)
    · have h := h_t c1 h
      refine lv_aload_n hx hb dX10_reason_68 rfl (lv_at hl 0 rfl) ?_
      refine lv_aload_n hx hb dX10_reason_69 rfl (lv_at hl 0 rfl) ?_
      refine g_getR fl_RX10_35_X10 hx hb C S KM_0 rfl dX10_reason_70 ?_
      refine lv_aload_n hx hb dX10_reason_73 rfl (lv_at hl 0 rfl) ?_
      refine g_getR fl_RX10_65_X10 hx hb C S KM_0 rfl dX10_reason_74 ?_
      refine lv_iload_n hx hb dX10_reason_77 rfl (lv_at hl 1 rfl) ?_
      obtain ⟨g2, h⟩ := h_gd h
      refine r_iald hx hb C S KM_19 (h_in g2) dX10_reason_78 ?_
      obtain ⟨g3, h⟩ := h_gd h
      refine r_iald hx hb C S KM_9 (h_in g3) dX10_reason_79 ?_
      refine lv_aload_n hx hb dX10_reason_80 rfl (lv_at hl 0 rfl) ?_
      refine g_getR fl_RX10_68_X10 hx hb C S KM_0 rfl dX10_reason_81 ?_
      refine lv_iload_n hx hb dX10_reason_84 rfl (lv_at hl 1 rfl) ?_
      obtain ⟨g4, h⟩ := h_gd h
      refine r_iald hx hb C S KM_20 (h_in g4) dX10_reason_85 ?_
      refine lv_aload_n hx hb dX10_reason_86 rfl (lv_at hl 0 rfl) ?_
      refine g_getR fl_RX10_71_X10 hx hb C S KM_0 rfl dX10_reason_87 ?_
      refine lv_iload_n hx hb dX10_reason_90 rfl (lv_at hl 1 rfl) ?_
      obtain ⟨g5, h⟩ := h_gd h
      refine r_iald hx hb C S KM_21 (h_in g5) dX10_reason_91 ?_
      obtain ⟨x6, ex6, h⟩ := h_c h
      refine k_i C S (q_V (rest := []) (As := [.int (w 9 ((w 19 (l1).toNatClampNeg)).toNatClampNeg), .int (w 20 (l1).toNatClampNeg), .int (w 21 (l1).toNatClampNeg)]) lk_RX10_128 ev hx hb hml C S KM_0 rfl (c_m_allowed l D dA q (w 9 ((w 19 (l1).toNatClampNeg)).toNatClampNeg) (w 20 (l1).toNatClampNeg) (w 21 (l1).toNatClampNeg) w x6 ex6 _) rfl rfl ⟨(Nat.le_of_ble_eq_true rfl), (Nat.le_of_ble_eq_true rfl)⟩ rfl hl.1 rfl (Nat.le_of_ble_eq_true rfl) dX10_reason_92 ⟨(Nat.le_of_ble_eq_true rfl), (Nat.le_of_ble_eq_true rfl)⟩) (fun H locs S => ?_)
      refine lv_if_eq (tgt := 102) hx hb dX10_reason_95 rfl (fun c7 => ?_) (fun c7 => ?_)
      · have h := h_t c7 h
        refine lv_iconst (v := 2) hx hb dX10_reason_102 (by decide) ?_
        exact fin _ _ _ (2 : Int32) _ S h dX10_reason_103
      · have h := h_f c7 h
        refine lv_iconst (v := 0) hx hb dX10_reason_98 (by decide) ?_
        refine lv_goto (tgt := 103) hx hb dX10_reason_99 rfl ?_
        exact fin _ _ _ (0 : Int32) _ S h dX10_reason_103
    · have h := h_f c1 h
      refine lv_iconst (v := 1) hx hb dX10_reason_64 (by decide) ?_
      refine lv_goto (tgt := 103) hx hb dX10_reason_65 rfl ?_
      exact fin _ _ _ (1 : Int32) _ S h dX10_reason_103
  have loop6 : ∀ (l1 : Int32) (n6 : Nat), ∀ (l2 : Int32) (l3 : Int32) (H : Heap) (locs : List Loc) (ls : Array Slot), lv_has ls 4 [(0, .ref (q 0)), (1, .int l1), (2, .int l2), (3, .int l3)] → Sta KM D dA q A s.heap w H locs → Option.bind (lp (m_reason_L6 l1 w) n6 (l2, l3)) (fun x9 => Option.bind (m_reason_x6 l1 w x9) some) = some z → W p l e RM_m_reason s m args below meth c H locs 0 0 Q (F0 m 6 ls []) := by
    intro l1 n6
    induction n6 with
    | zero =>
      intro l2 l3 H locs ls hl S h
      exact (h_lp0 h).elim
    | succ n6 ih6 =>
      intro l2 l3 H locs ls hl S h
      have h := h_lp h
      unfold m_reason_L6 at h
      refine lv_iload_n hx hb dX10_reason_6 rfl (lv_at hl 3 rfl) ?_
      refine lv_aload_n hx hb dX10_reason_7 rfl (lv_at hl 0 rfl) ?_
      refine g_get fl_RX10_117_X10 hx hb C S KM_0 rfl dX10_reason_8 ?_
      refine lv_icmp_ge (tgt := 60) hx hb dX10_reason_11 rfl (fun c8 => ?_) (fun c8 => ?_)
      · have h := h_t c8 h
        exact lab60 l1 l2 _ _ _ (lv_sub hl [0, 1, 2] rfl) S h
      · have h := h_f c8 h
        refine lv_iload_n hx hb dX10_reason_14 rfl (lv_at hl 2 rfl) ?_
        refine lv_if_ne (tgt := 48) hx hb dX10_reason_15 rfl (fun c9 => ?_) (fun c9 => ?_)
        · have h := h_f c9 h
          refine lv_iconst (v := 1) hx hb dX10_reason_48 (by decide) ?_
          refine lv_goto (tgt := 53) hx hb dX10_reason_49 rfl ?_
          refine lv_istore_n (lv' := [(2, .int (1 : Int32)), (0, .ref (q 0)), (1, .int l1), (3, .int l3)]) hx hb dX10_reason_53 rfl hl (Nat.le_of_ble_eq_true rfl) rfl (fun ls hl => ?_)
          refine lv_iinc (v := (l3 + 1)) (lv' := [(3, .int (l3 + 1)), (2, .int (1 : Int32)), (0, .ref (q 0)), (1, .int l1)]) hx hb dX10_reason_54 hl (k := 3) rfl rfl (Nat.le_of_ble_eq_true rfl) rfl (fun ls hl => ?_)
          refine lv_goto (tgt := 6) hx hb dX10_reason_57 rfl ?_
          exact ih6 (1 : Int32) (l3 + 1) _ _ _ (lv_sub hl [2, 3, 1, 0] rfl) S h
        · have h := h_t c9 h
          refine lv_aload_n hx hb dX10_reason_18 rfl (lv_at hl 0 rfl) ?_
          refine g_getR fl_RX10_65_X10 hx hb C S KM_0 rfl dX10_reason_19 ?_
          refine lv_iload_n hx hb dX10_reason_22 rfl (lv_at hl 3 rfl) ?_
          obtain ⟨g10, h⟩ := h_gd h
          refine r_iald hx hb C S KM_19 (h_in g10) dX10_reason_23 ?_
          refine lv_aload_n hx hb dX10_reason_24 rfl (lv_at hl 0 rfl) ?_
          refine g_getR fl_RX10_65_X10 hx hb C S KM_0 rfl dX10_reason_25 ?_
          refine lv_iload_n hx hb dX10_reason_28 rfl (lv_at hl 1 rfl) ?_
          obtain ⟨g11, h⟩ := h_gd h
          refine r_iald hx hb C S KM_19 (h_in g11) dX10_reason_29 ?_
          refine lv_icmp_ne (tgt := 52) hx hb dX10_reason_30 rfl (fun c12 => ?_) (fun c12 => ?_)
          · have h := h_f c12 h
            refine lv_iconst (v := 0) hx hb dX10_reason_52 (by decide) ?_
            refine lv_istore_n (lv' := [(2, .int (0 : Int32)), (0, .ref (q 0)), (1, .int l1), (3, .int l3)]) hx hb dX10_reason_53 rfl hl (Nat.le_of_ble_eq_true rfl) rfl (fun ls hl => ?_)
            refine lv_iinc (v := (l3 + 1)) (lv' := [(3, .int (l3 + 1)), (2, .int (0 : Int32)), (0, .ref (q 0)), (1, .int l1)]) hx hb dX10_reason_54 hl (k := 3) rfl rfl (Nat.le_of_ble_eq_true rfl) rfl (fun ls hl => ?_)
            refine lv_goto (tgt := 6) hx hb dX10_reason_57 rfl ?_
            exact ih6 (0 : Int32) (l3 + 1) _ _ _ (lv_sub hl [2, 3, 1, 0] rfl) S h
          · have h := h_t c12 h
            refine lv_aload_n hx hb dX10_reason_33 rfl (lv_at hl 0 rfl) ?_
            refine g_getR fl_RX10_68_X10 hx hb C S KM_0 rfl dX10_reason_34 ?_
            refine lv_iload_n hx hb dX10_reason_37 rfl (lv_at hl 3 rfl) ?_
            obtain ⟨g13, h⟩ := h_gd h
            refine r_iald hx hb C S KM_20 (h_in g13) dX10_reason_38 ?_
            refine lv_aload_n hx hb dX10_reason_39 rfl (lv_at hl 0 rfl) ?_
            refine g_getR fl_RX10_68_X10 hx hb C S KM_0 rfl dX10_reason_40 ?_
            refine lv_iload_n hx hb dX10_reason_43 rfl (lv_at hl 1 rfl) ?_
            obtain ⟨g14, h⟩ := h_gd h
            refine r_iald hx hb C S KM_20 (h_in g14) dX10_reason_44 ?_
            refine lv_icmp_ne (tgt := 52) hx hb dX10_reason_45 rfl (fun c15 => ?_) (fun c15 => ?_)
            · have h := h_f c15 h
              refine lv_iconst (v := 0) hx hb dX10_reason_52 (by decide) ?_
              refine lv_istore_n (lv' := [(2, .int (0 : Int32)), (0, .ref (q 0)), (1, .int l1), (3, .int l3)]) hx hb dX10_reason_53 rfl hl (Nat.le_of_ble_eq_true rfl) rfl (fun ls hl => ?_)
              refine lv_iinc (v := (l3 + 1)) (lv' := [(3, .int (l3 + 1)), (2, .int (0 : Int32)), (0, .ref (q 0)), (1, .int l1)]) hx hb dX10_reason_54 hl (k := 3) rfl rfl (Nat.le_of_ble_eq_true rfl) rfl (fun ls hl => ?_)
              refine lv_goto (tgt := 6) hx hb dX10_reason_57 rfl ?_
              exact ih6 (0 : Int32) (l3 + 1) _ _ _ (lv_sub hl [2, 3, 1, 0] rfl) S h
            · have h := h_t c15 h
              refine lv_iconst (v := 1) hx hb dX10_reason_48 (by decide) ?_
              refine lv_goto (tgt := 53) hx hb dX10_reason_49 rfl ?_
              refine lv_istore_n (lv' := [(2, .int (1 : Int32)), (0, .ref (q 0)), (1, .int l1), (3, .int l3)]) hx hb dX10_reason_53 rfl hl (Nat.le_of_ble_eq_true rfl) rfl (fun ls hl => ?_)
              refine lv_iinc (v := (l3 + 1)) (lv' := [(3, .int (l3 + 1)), (2, .int (1 : Int32)), (0, .ref (q 0)), (1, .int l1)]) hx hb dX10_reason_54 hl (k := 3) rfl rfl (Nat.le_of_ble_eq_true rfl) rfl (fun ls hl => ?_)
              refine lv_goto (tgt := 6) hx hb dX10_reason_57 rfl ?_
              exact ih6 (1 : Int32) (l3 + 1) _ _ _ (lv_sub hl [2, 3, 1, 0] rfl) S h
  intro H locs ls hl S h
  have h := h_0 h
  unfold m_reason at h
  refine lv_iconst (v := 0) hx hb dX10_reason_0 (by decide) ?_
  refine lv_istore_n (lv' := [(2, .int (0 : Int32)), (0, .ref (q 0)), (1, .int a1)]) hx hb dX10_reason_1 rfl hl (Nat.le_of_ble_eq_true rfl) rfl (fun ls hl => ?_)
  refine lv_iload_n hx hb dX10_reason_2 rfl (lv_at hl 2 rfl) ?_
  refine lv_iconst (v := 1) hx hb dX10_reason_3 (by decide) ?_
  refine lv_iadd hx hb dX10_reason_4 ?_
  refine lv_topi (fun v16 ev16 => ?_)
  have h := h_l h v16 ev16
  refine lv_istore_n (lv' := [(3, .int v16), (2, .int (0 : Int32)), (0, .ref (q 0)), (1, .int a1)]) hx hb dX10_reason_5 rfl hl (Nat.le_of_ble_eq_true rfl) rfl (fun ls hl => ?_)
  exact loop6 a1 FU (0 : Int32) v16 _ _ _ (lv_sub hl [2, 3, 1, 0] rfl) S (h_bb h)
theorem c_m_reason (l : Launch) (D : va_G) (dA : Nat → ClassId) (q : Nat → Nat) (a1 : Int32) (w : Wt) (r : Int32) (h : m_reason a1 w = some r) : Mi l EVm KM D dA q yX10_reason cX10_reason 4 (some .int) RM_m_reason [.ref (q 0), .int a1] w r w :=
  mk_i (by decide) rfl EVm_ok (Nat.le_of_ble_eq_true rfl) (fun p e s m args below meth c A Q ls hx hb hml C S hl fin => k_m_reason a1 w r hx hb hml C (fun H locs ls r' pc S h d => fin H locs ls r' w pc S (by rw [Option.some.inj h]) d) _ _ _ hl S h)
/-! BallotscriptModel.counting()I m_counting -/
def m_counting_b34 (l1 : Int32) (w : Wt) : Option Int32 := some l1
def m_counting_L4 (w : Wt) : (Int32 × Int32) → Option ((Int32 × Int32) ⊕ Int32)
  | (l1, l2) => (if (w 0 27) ≤ l2 then some (.inr l1) else Option.bind (m_reason l2 w) fun x2 => (if x2 = (0 : Int32) then nmd (l1 + (1 : Int32)) fun v5 => some (.inl (v5, (l2 + 1))) else nmd (l1 + (0 : Int32)) fun v4 => some (.inl (v4, (l2 + 1)))))
def m_counting_x4 (w : Wt) : Int32 → Option Int32
  | l1 => m_counting_b34 l1 w
def m_counting (w : Wt) : Option Int32 := Option.bind (lp (m_counting_L4 w) FU ((0 : Int32), (0 : Int32))) (m_counting_x4 w)
def RM_m_counting : Room := { frames := 3, cells := 0, slots := 0, locals := 70 }
set_option maxHeartbeats 4000000 in
set_option maxRecDepth 20000 in
theorem k_m_counting (w : Wt) (z : Int32) (hx : p.tables.exec = Jvm.exec) (hb : c.code = cX10_counting) (hml : c.maxLocals = 3) (C : Cx EVm KM D dA q A s m args RX10) (fin : ∀ (H : Heap) (locs : List Loc) (ls : Array Slot) (r' : Int32) (pc : Nat) , Sta KM D dA q A s.heap w H locs → some r' = some z → decode cX10_counting pc = .ok (.ireturn, 1) → W p l e RM_m_counting s m args below meth c H locs 0 0 Q (F0 m pc ls [.int r'])) : ∀ (H : Heap) (locs : List Loc) (ls : Array Slot), lv_has ls 3 [(0, .ref (q 0))] → Sta KM D dA q A s.heap w H locs → m_counting w = some z → W p l e RM_m_counting s m args below meth c H locs 0 0 Q (F0 m 0 ls []) := by
  have ev : evOk EVm := EVm_ok
  have lab34 : ∀ (l1 : Int32) (H : Heap) (locs : List Loc) (ls : Array Slot), lv_has ls 3 [(1, .int l1)] → Sta KM D dA q A s.heap w H locs → Option.bind (m_counting_b34 l1 w) some = some z → W p l e RM_m_counting s m args below meth c H locs 0 0 Q (F0 m 34 ls []) := by
    intro l1 H locs ls hl S h
    unfold m_counting_b34 at h
    refine lv_iload_n hx hb dX10_counting_34 rfl (lv_at hl 0 rfl) ?_
    exact fin _ _ _ l1 _ S h dX10_counting_35
  have loop4 : ∀ (n4 : Nat), ∀ (l1 : Int32) (l2 : Int32) (H : Heap) (locs : List Loc) (ls : Array Slot), lv_has ls 3 [(0, .ref (q 0)), (1, .int l1), (2, .int l2)] → Sta KM D dA q A s.heap w H locs → Option.bind (lp (m_counting_L4 w) n4 (l1, l2)) (fun x9 => Option.bind (m_counting_x4 w x9) some) = some z → W p l e RM_m_counting s m args below meth c H locs 0 0 Q (F0 m 4 ls []) := by
    intro  n4
    induction n4 with
    | zero =>
      intro l1 l2 H locs ls hl S h
      exact (h_lp0 h).elim
    | succ n4 ih4 =>
      intro l1 l2 H locs ls hl S h
      have h := h_lp h
      unfold m_counting_L4 at h
      refine lv_iload_n hx hb dX10_counting_4 rfl (lv_at hl 2 rfl) ?_
      refine lv_aload_n hx hb dX10_counting_5 rfl (lv_at hl 0 rfl) ?_
      refine g_get fl_RX10_117_X10 hx hb C S KM_0 rfl dX10_counting_6 ?_
      refine lv_icmp_ge (tgt := 34) hx hb dX10_counting_9 rfl (fun c1 => ?_) (fun c1 => ?_)
      · have h := h_t c1 h
        exact lab34 l1 _ _ _ (lv_sub hl [1] rfl) S h
      · have h := h_f c1 h
        refine lv_iload_n hx hb dX10_counting_12 rfl (lv_at hl 1 rfl) ?_
        refine lv_aload_n hx hb dX10_counting_13 rfl (lv_at hl 0 rfl) ?_
        refine lv_iload_n hx hb dX10_counting_14 rfl (lv_at hl 2 rfl) ?_
        obtain ⟨x2, ex2, h⟩ := h_c h
        refine k_i C S (q_V (rest := [.int l1]) (As := [.int l2]) lk_RX10_120 ev hx hb hml C S KM_0 rfl (c_m_reason l D dA q l2 w x2 ex2 _) rfl rfl ⟨(Nat.le_of_ble_eq_true rfl), (Nat.le_of_ble_eq_true rfl)⟩ rfl hl.1 rfl (Nat.le_of_ble_eq_true rfl) dX10_counting_15 ⟨(Nat.le_of_ble_eq_true rfl), (Nat.le_of_ble_eq_true rfl)⟩) (fun H locs S => ?_)
        refine lv_if_ne (tgt := 25) hx hb dX10_counting_18 rfl (fun c3 => ?_) (fun c3 => ?_)
        · have h := h_f c3 h
          refine lv_iconst (v := 0) hx hb dX10_counting_25 (by decide) ?_
          refine lv_iadd hx hb dX10_counting_26 ?_
          refine lv_topi (fun v4 ev4 => ?_)
          have h := h_l h v4 ev4
          refine lv_istore_n (lv' := [(1, .int v4), (0, .ref (q 0)), (2, .int l2)]) hx hb dX10_counting_27 rfl hl (Nat.le_of_ble_eq_true rfl) rfl (fun ls hl => ?_)
          refine lv_iinc (v := (l2 + 1)) (lv' := [(2, .int (l2 + 1)), (1, .int v4), (0, .ref (q 0))]) hx hb dX10_counting_28 hl (k := 2) rfl rfl (Nat.le_of_ble_eq_true rfl) rfl (fun ls hl => ?_)
          refine lv_goto (tgt := 4) hx hb dX10_counting_31 rfl ?_
          exact ih4 v4 (l2 + 1) _ _ _ (lv_sub hl [2, 1, 0] rfl) S h
        · have h := h_t c3 h
          refine lv_iconst (v := 1) hx hb dX10_counting_21 (by decide) ?_
          refine lv_goto (tgt := 26) hx hb dX10_counting_22 rfl ?_
          refine lv_iadd hx hb dX10_counting_26 ?_
          refine lv_topi (fun v5 ev5 => ?_)
          have h := h_l h v5 ev5
          refine lv_istore_n (lv' := [(1, .int v5), (0, .ref (q 0)), (2, .int l2)]) hx hb dX10_counting_27 rfl hl (Nat.le_of_ble_eq_true rfl) rfl (fun ls hl => ?_)
          refine lv_iinc (v := (l2 + 1)) (lv' := [(2, .int (l2 + 1)), (1, .int v5), (0, .ref (q 0))]) hx hb dX10_counting_28 hl (k := 2) rfl rfl (Nat.le_of_ble_eq_true rfl) rfl (fun ls hl => ?_)
          refine lv_goto (tgt := 4) hx hb dX10_counting_31 rfl ?_
          exact ih4 v5 (l2 + 1) _ _ _ (lv_sub hl [2, 1, 0] rfl) S h
  intro H locs ls hl S h
  have h := h_0 h
  unfold m_counting at h
  refine lv_iconst (v := 0) hx hb dX10_counting_0 (by decide) ?_
  refine lv_istore_n (lv' := [(1, .int (0 : Int32)), (0, .ref (q 0))]) hx hb dX10_counting_1 rfl hl (Nat.le_of_ble_eq_true rfl) rfl (fun ls hl => ?_)
  refine lv_iconst (v := 0) hx hb dX10_counting_2 (by decide) ?_
  refine lv_istore_n (lv' := [(2, .int (0 : Int32)), (1, .int (0 : Int32)), (0, .ref (q 0))]) hx hb dX10_counting_3 rfl hl (Nat.le_of_ble_eq_true rfl) rfl (fun ls hl => ?_)
  exact loop4  FU (0 : Int32) (0 : Int32) _ _ _ (lv_sub hl [2, 1, 0] rfl) S (h_bb h)
theorem c_m_counting (l : Launch) (D : va_G) (dA : Nat → ClassId) (q : Nat → Nat) (w : Wt) (r : Int32) (h : m_counting w = some r) : Mi l EVm KM D dA q yX10_counting cX10_counting 3 (some .int) RM_m_counting [.ref (q 0)] w r w :=
  mk_i (by decide) rfl EVm_ok (Nat.le_of_ble_eq_true rfl) (fun p e s m args below meth c A Q ls hx hb hml C S hl fin => k_m_counting w r hx hb hml C (fun H locs ls r' pc S h d => fin H locs ls r' w pc S (by rw [Option.some.inj h]) d) _ _ _ hl S h)
/-! BallotscriptModel.strike(I)I m_strike -/
def m_strike_b29 (l1 : Int32) (t0 : Int32) (t1 : Int32) (w : Wt) : Option (Int32 × Wt) := Option.bind (m_goes t1 t0 (1 : Int32) w) fun x1 => (if x1.1 = (0 : Int32) then some ((0 : Int32), x1.2) else Option.bind (m_counting x1.2) fun x3 => gd (inb l1 60) (nmd (upd2 x1.2 5 (l1).toNatClampNeg (vp_nar .boolean (1 : Int32))) fun w5 => Option.bind (m_counting w5) fun x6 => some ((x3 - x6), w5)))
def m_strike_b28 (l1 : Int32) (t0 : Int32) (w : Wt) : Option (Int32 × Wt) := m_strike_b29 l1 (0 : Int32) t0 w
def m_strike (a1 : Int32) (w : Wt) : Option (Int32 × Wt) := Option.bind (m_isBelow a1 (w 0 6)) fun x7 => (if x7 = (0 : Int32) then m_strike_b28 a1 x7 w else gd (inb a1 60) ((if (w 5 (a1).toNatClampNeg) = (0 : Int32) then m_strike_b29 a1 (1 : Int32) x7 w else m_strike_b28 a1 x7 w)))
def RM_m_strike : Room := { frames := 4, cells := 0, slots := 0, locals := 92 }
set_option maxHeartbeats 4000000 in
set_option maxRecDepth 20000 in
theorem k_m_strike (a1 : Int32) (w : Wt) (z : (Int32 × Wt)) (hx : p.tables.exec = Jvm.exec) (hb : c.code = cX10_strike) (hml : c.maxLocals = 4) (C : Cx EVm KM D dA q A s m args RX10) (fin : ∀ (H : Heap) (locs : List Loc) (ls : Array Slot) (r' : Int32) (w2 : Wt) (pc : Nat) , Sta KM D dA q A s.heap w2 H locs → some (r', w2) = some z → decode cX10_strike pc = .ok (.ireturn, 1) → W p l e RM_m_strike s m args below meth c H locs 0 0 Q (F0 m pc ls [.int r'])) : ∀ (H : Heap) (locs : List Loc) (ls : Array Slot), lv_has ls 4 [(0, .ref (q 0)), (1, .int a1)] → Sta KM D dA q A s.heap w H locs → m_strike a1 w = some z → W p l e RM_m_strike s m args below meth c H locs 0 0 Q (F0 m 0 ls []) := by
  have ev : evOk EVm := EVm_ok
  have lab29 : ∀ (l1 : Int32) (t0 : Int32) (t1 : Int32) (w : Wt) (H : Heap) (locs : List Loc) (ls : Array Slot), lv_has ls 4 [(0, .ref (q 0)), (1, .int l1)] → Sta KM D dA q A s.heap w H locs → Option.bind (m_strike_b29 l1 t0 t1 w) some = some z → W p l e RM_m_strike s m args below meth c H locs 0 0 Q (F0 m 29 ls [.int t0, .int t1, .ref (q 0)]) := by
    intro l1 t0 t1 w H locs ls hl S h
    unfold m_strike_b29 at h
    refine lv_iconst (v := 1) hx hb dX10_strike_29 (by decide) ?_
    obtain ⟨x1, ex1, h⟩ := h_c h
    refine k_i C S (q_V (rest := []) (As := [.int t1, .int t0, .int (1 : Int32)]) lk_RX10_113 ev hx hb hml C S KM_0 rfl (c_m_goes l D dA q t1 t0 (1 : Int32) w x1.2 x1.1 ex1 _) rfl rfl ⟨(Nat.le_of_ble_eq_true rfl), (Nat.le_of_ble_eq_true rfl)⟩ rfl hl.1 rfl (Nat.le_of_ble_eq_true rfl) dX10_strike_30 ⟨(Nat.le_of_ble_eq_true rfl), (Nat.le_of_ble_eq_true rfl)⟩) (fun H locs S => ?_)
    refine lv_if_ne (tgt := 38) hx hb dX10_strike_33 rfl (fun c2 => ?_) (fun c2 => ?_)
    · have h := h_f c2 h
      refine lv_aload_n hx hb dX10_strike_38 rfl (lv_at hl 0 rfl) ?_
      obtain ⟨x3, ex3, h⟩ := h_c h
      refine k_i C S (q_V (rest := []) (As := []) lk_RX10_124 ev hx hb hml C S KM_0 rfl (c_m_counting l D dA q x1.2 x3 ex3 _) rfl rfl ⟨(Nat.le_of_ble_eq_true rfl), (Nat.le_of_ble_eq_true rfl)⟩ rfl hl.1 rfl (Nat.le_of_ble_eq_true rfl) dX10_strike_39 ⟨(Nat.le_of_ble_eq_true rfl), (Nat.le_of_ble_eq_true rfl)⟩) (fun H locs S => ?_)
      refine lv_istore_n (lv' := [(3, .int x3), (0, .ref (q 0)), (1, .int l1)]) hx hb dX10_strike_42 rfl hl (Nat.le_of_ble_eq_true rfl) rfl (fun ls hl => ?_)
      refine lv_aload_n hx hb dX10_strike_43 rfl (lv_at hl 1 rfl) ?_
      refine g_getR fl_RX10_22_X10 hx hb C S KM_0 rfl dX10_strike_44 ?_
      refine lv_iload_n hx hb dX10_strike_47 rfl (lv_at hl 2 rfl) ?_
      refine lv_iconst (v := 1) hx hb dX10_strike_48 (by decide) ?_
      obtain ⟨g4, h⟩ := h_gd h
      refine r_zast hx hb C S KM_5 (h_in g4) dX10_strike_49 (fun w5 ew5 H locs S => ?_)
      have h := h_l h w5 ew5
      refine lv_iload_n hx hb dX10_strike_50 rfl (lv_at hl 0 rfl) ?_
      refine lv_aload_n hx hb dX10_strike_51 rfl (lv_at hl 1 rfl) ?_
      obtain ⟨x6, ex6, h⟩ := h_c h
      refine k_i C S (q_V (rest := [.int x3]) (As := []) lk_RX10_124 ev hx hb hml C S KM_0 rfl (c_m_counting l D dA q w5 x6 ex6 _) rfl rfl ⟨(Nat.le_of_ble_eq_true rfl), (Nat.le_of_ble_eq_true rfl)⟩ rfl hl.1 rfl (Nat.le_of_ble_eq_true rfl) dX10_strike_52 ⟨(Nat.le_of_ble_eq_true rfl), (Nat.le_of_ble_eq_true rfl)⟩) (fun H locs S => ?_)
      refine lv_isub hx hb dX10_strike_55 ?_
      exact fin _ _ _ (x3 - x6) w5 _ S h dX10_strike_56
    · have h := h_t c2 h
      refine lv_iconst (v := 0) hx hb dX10_strike_36 (by decide) ?_
      exact fin _ _ _ (0 : Int32) x1.2 _ S h dX10_strike_37
  have lab28 : ∀ (l1 : Int32) (t0 : Int32) (w : Wt) (H : Heap) (locs : List Loc) (ls : Array Slot), lv_has ls 4 [(0, .ref (q 0)), (1, .int l1)] → Sta KM D dA q A s.heap w H locs → Option.bind (m_strike_b28 l1 t0 w) some = some z → W p l e RM_m_strike s m args below meth c H locs 0 0 Q (F0 m 28 ls [.int t0, .ref (q 0)]) := by
    intro l1 t0 w H locs ls hl S h
    unfold m_strike_b28 at h
    refine lv_iconst (v := 0) hx hb dX10_strike_28 (by decide) ?_
    exact lab29 l1 (0 : Int32) t0 w _ _ _ (lv_sub hl [0, 1] rfl) S h
  intro H locs ls hl S h
  have h := h_0 h
  unfold m_strike at h
  refine lv_iload_n hx hb dX10_strike_0 rfl (lv_at hl 1 rfl) ?_
  refine lv_aload_n hx hb dX10_strike_1 rfl (lv_at hl 0 rfl) ?_
  refine g_get fl_RX10_110_X10 hx hb C S KM_0 rfl dX10_strike_2 ?_
  obtain ⟨x7, ex7, h⟩ := h_c h
  refine k_i C S (q_S (rest := []) (As := [.int a1, .int (w 0 6)]) lk_RX10_106 ev hx hb hml C S (c_m_isBelow l D dA q a1 (w 0 6) w x7 ex7 _) rfl rfl ⟨(Nat.le_of_ble_eq_true rfl), (Nat.le_of_ble_eq_true rfl)⟩ rfl hl.1 rfl (Nat.le_of_ble_eq_true rfl) dX10_strike_5 ⟨(Nat.le_of_ble_eq_true rfl), (Nat.le_of_ble_eq_true rfl)⟩) (fun H locs S => ?_)
  refine lv_istore_n (lv' := [(2, .int x7), (0, .ref (q 0)), (1, .int a1)]) hx hb dX10_strike_8 rfl hl (Nat.le_of_ble_eq_true rfl) rfl (fun ls hl => ?_)
  refine lv_aload_n hx hb dX10_strike_9 rfl (lv_at hl 1 rfl) ?_
  refine lv_iload_n hx hb dX10_strike_10 rfl (lv_at hl 0 rfl) ?_
  refine lv_iload_n hx hb dX10_strike_11 rfl (lv_at hl 0 rfl) ?_
  refine lv_if_eq (tgt := 28) hx hb dX10_strike_12 rfl (fun c8 => ?_) (fun c8 => ?_)
  · have h := h_t c8 h
    exact lab28 a1 x7 w _ _ _ (lv_sub hl [1, 2] rfl) S h
  · have h := h_f c8 h
    refine lv_aload_n hx hb dX10_strike_15 rfl (lv_at hl 1 rfl) ?_
    refine g_getR fl_RX10_22_X10 hx hb C S KM_0 rfl dX10_strike_16 ?_
    refine lv_iload_n hx hb dX10_strike_19 rfl (lv_at hl 2 rfl) ?_
    obtain ⟨g9, h⟩ := h_gd h
    refine r_zald hx hb C S KM_5 (h_in g9) dX10_strike_20 ?_
    refine lv_if_ne (tgt := 28) hx hb dX10_strike_21 rfl (fun c10 => ?_) (fun c10 => ?_)
    · have h := h_f c10 h
      exact lab28 a1 x7 w _ _ _ (lv_sub hl [1, 2] rfl) S h
    · have h := h_t c10 h
      refine lv_iconst (v := 1) hx hb dX10_strike_24 (by decide) ?_
      refine lv_goto (tgt := 29) hx hb dX10_strike_25 rfl ?_
      exact lab29 a1 (1 : Int32) x7 w _ _ _ (lv_sub hl [1, 2] rfl) S h
theorem c_m_strike (l : Launch) (D : va_G) (dA : Nat → ClassId) (q : Nat → Nat) (a1 : Int32) (w w' : Wt) (r : Int32) (h : m_strike a1 w = some (r, w')) : Mi l EVm KM D dA q yX10_strike cX10_strike 4 (some .int) RM_m_strike [.ref (q 0), .int a1] w r w' :=
  mk_i (by decide) rfl EVm_ok (Nat.le_of_ble_eq_true rfl) (fun p e s m args below meth c A Q ls hx hb hml C S hl fin => k_m_strike a1 w (r, w') hx hb hml C (fun H locs ls r' w2 pc S h d => fin H locs ls r' w2 pc S h d) _ _ _ hl S h)
/-! BallotscriptModel.isAllowed(III)Z m_isAllowed -/
def m_isAllowed_b23 (l1 : Int32) (l2 : Int32) (l3 : Int32) (t0 : Int32) (w : Wt) : Option (Int32 × Wt) := Option.bind (m_isWithin l3 (0 : Int32) (1000 : Int32)) fun x1 => Option.bind (m_goes t0 x1 (1 : Int32) w) fun x2 => (if x2.1 = (0 : Int32) then some ((0 : Int32), x2.2) else Option.bind (m_allowed l1 l2 l3 x2.2) fun x4 => (if x4 = (0 : Int32) then some ((0 : Int32), x2.2) else some ((1 : Int32), x2.2)))
def m_isAllowed_b22 (l1 : Int32) (l2 : Int32) (l3 : Int32) (w : Wt) : Option (Int32 × Wt) := m_isAllowed_b23 l1 l2 l3 (0 : Int32) w
def m_isAllowed (a1 : Int32) (a2 : Int32) (a3 : Int32) (w : Wt) : Option (Int32 × Wt) := Option.bind (m_isBelow a1 (3 : Int32)) fun x6 => (if x6 = (0 : Int32) then m_isAllowed_b22 a1 a2 a3 w else Option.bind (m_isBelow a2 (20 : Int32)) fun x8 => (if x8 = (0 : Int32) then m_isAllowed_b22 a1 a2 a3 w else m_isAllowed_b23 a1 a2 a3 (1 : Int32) w))
def RM_m_isAllowed : Room := { frames := 2, cells := 0, slots := 0, locals := 47 }
set_option maxHeartbeats 4000000 in
set_option maxRecDepth 20000 in
theorem k_m_isAllowed (a1 : Int32) (a2 : Int32) (a3 : Int32) (w : Wt) (z : (Int32 × Wt)) (hx : p.tables.exec = Jvm.exec) (hb : c.code = cX10_isAllowed) (hml : c.maxLocals = 4) (C : Cx EVm KM D dA q A s m args RX10) (fin : ∀ (H : Heap) (locs : List Loc) (ls : Array Slot) (r' : Int32) (w2 : Wt) (pc : Nat) , narrow .boolean (.int r') = .int r' → Sta KM D dA q A s.heap w2 H locs → some (r', w2) = some z → decode cX10_isAllowed pc = .ok (.ireturn, 1) → W p l e RM_m_isAllowed s m args below meth c H locs 0 0 Q (F0 m pc ls [.int r'])) : ∀ (H : Heap) (locs : List Loc) (ls : Array Slot), lv_has ls 4 [(0, .ref (q 0)), (1, .int a1), (2, .int a2), (3, .int a3)] → Sta KM D dA q A s.heap w H locs → m_isAllowed a1 a2 a3 w = some z → W p l e RM_m_isAllowed s m args below meth c H locs 0 0 Q (F0 m 0 ls []) := by
  have ev : evOk EVm := EVm_ok
  have lab23 : ∀ (l1 : Int32) (l2 : Int32) (l3 : Int32) (t0 : Int32) (w : Wt) (H : Heap) (locs : List Loc) (ls : Array Slot), lv_has ls 4 [(0, .ref (q 0)), (1, .int l1), (2, .int l2), (3, .int l3)] → Sta KM D dA q A s.heap w H locs → Option.bind (m_isAllowed_b23 l1 l2 l3 t0 w) some = some z → W p l e RM_m_isAllowed s m args below meth c H locs 0 0 Q (F0 m 23 ls [.int t0, .ref (q 0)]) := by
    intro l1 l2 l3 t0 w H locs ls hl S h
    unfold m_isAllowed_b23 at h
    refine lv_iload_n hx hb dX10_isAllowed_23 rfl (lv_at hl 3 rfl) ?_
    refine lv_iconst (v := 0) hx hb dX10_isAllowed_24 (by decide) ?_
    refine lv_sipush (v := 1000) hx hb dX10_isAllowed_25 (by decide) ?_
    obtain ⟨x1, ex1, h⟩ := h_c h
    refine k_i C S (q_S (rest := [.int t0, .ref (q 0)]) (As := [.int l3, .int (0 : Int32), .int (1000 : Int32)]) lk_RX10_102 ev hx hb hml C S (c_m_isWithin l D dA q l3 (0 : Int32) (1000 : Int32) w x1 ex1 _) rfl rfl ⟨(Nat.le_of_ble_eq_true rfl), (Nat.le_of_ble_eq_true rfl)⟩ rfl hl.1 rfl (Nat.le_of_ble_eq_true rfl) dX10_isAllowed_28 ⟨(Nat.le_of_ble_eq_true rfl), (Nat.le_of_ble_eq_true rfl)⟩) (fun H locs S => ?_)
    refine lv_iconst (v := 1) hx hb dX10_isAllowed_31 (by decide) ?_
    obtain ⟨x2, ex2, h⟩ := h_c h
    refine k_i C S (q_V (rest := []) (As := [.int t0, .int x1, .int (1 : Int32)]) lk_RX10_113 ev hx hb hml C S KM_0 rfl (c_m_goes l D dA q t0 x1 (1 : Int32) w x2.2 x2.1 ex2 _) rfl rfl ⟨(Nat.le_of_ble_eq_true rfl), (Nat.le_of_ble_eq_true rfl)⟩ rfl hl.1 rfl (Nat.le_of_ble_eq_true rfl) dX10_isAllowed_32 ⟨(Nat.le_of_ble_eq_true rfl), (Nat.le_of_ble_eq_true rfl)⟩) (fun H locs S => ?_)
    refine lv_if_eq (tgt := 52) hx hb dX10_isAllowed_35 rfl (fun c3 => ?_) (fun c3 => ?_)
    · have h := h_t c3 h
      refine lv_iconst (v := 0) hx hb dX10_isAllowed_52 (by decide) ?_
      exact fin _ _ _ (0 : Int32) x2.2 _ (by decide) S h dX10_isAllowed_53
    · have h := h_f c3 h
      refine lv_aload_n hx hb dX10_isAllowed_38 rfl (lv_at hl 0 rfl) ?_
      refine lv_iload_n hx hb dX10_isAllowed_39 rfl (lv_at hl 1 rfl) ?_
      refine lv_iload_n hx hb dX10_isAllowed_40 rfl (lv_at hl 2 rfl) ?_
      refine lv_iload_n hx hb dX10_isAllowed_41 rfl (lv_at hl 3 rfl) ?_
      obtain ⟨x4, ex4, h⟩ := h_c h
      refine k_i C S (q_V (rest := []) (As := [.int l1, .int l2, .int l3]) lk_RX10_128 ev hx hb hml C S KM_0 rfl (c_m_allowed l D dA q l1 l2 l3 x2.2 x4 ex4 _) rfl rfl ⟨(Nat.le_of_ble_eq_true rfl), (Nat.le_of_ble_eq_true rfl)⟩ rfl hl.1 rfl (Nat.le_of_ble_eq_true rfl) dX10_isAllowed_42 ⟨(Nat.le_of_ble_eq_true rfl), (Nat.le_of_ble_eq_true rfl)⟩) (fun H locs S => ?_)
      refine lv_if_eq (tgt := 52) hx hb dX10_isAllowed_45 rfl (fun c5 => ?_) (fun c5 => ?_)
      · have h := h_t c5 h
        refine lv_iconst (v := 0) hx hb dX10_isAllowed_52 (by decide) ?_
        exact fin _ _ _ (0 : Int32) x2.2 _ (by decide) S h dX10_isAllowed_53
      · have h := h_f c5 h
        refine lv_iconst (v := 1) hx hb dX10_isAllowed_48 (by decide) ?_
        refine lv_goto (tgt := 53) hx hb dX10_isAllowed_49 rfl ?_
        exact fin _ _ _ (1 : Int32) x2.2 _ (by decide) S h dX10_isAllowed_53
  have lab22 : ∀ (l1 : Int32) (l2 : Int32) (l3 : Int32) (w : Wt) (H : Heap) (locs : List Loc) (ls : Array Slot), lv_has ls 4 [(0, .ref (q 0)), (1, .int l1), (2, .int l2), (3, .int l3)] → Sta KM D dA q A s.heap w H locs → Option.bind (m_isAllowed_b22 l1 l2 l3 w) some = some z → W p l e RM_m_isAllowed s m args below meth c H locs 0 0 Q (F0 m 22 ls [.ref (q 0)]) := by
    intro l1 l2 l3 w H locs ls hl S h
    unfold m_isAllowed_b22 at h
    refine lv_iconst (v := 0) hx hb dX10_isAllowed_22 (by decide) ?_
    exact lab23 l1 l2 l3 (0 : Int32) w _ _ _ (lv_sub hl [0, 1, 2, 3] rfl) S h
  intro H locs ls hl S h
  have h := h_0 h
  unfold m_isAllowed at h
  refine lv_aload_n hx hb dX10_isAllowed_0 rfl (lv_at hl 0 rfl) ?_
  refine lv_iload_n hx hb dX10_isAllowed_1 rfl (lv_at hl 1 rfl) ?_
  refine lv_iconst (v := 3) hx hb dX10_isAllowed_2 (by decide) ?_
  obtain ⟨x6, ex6, h⟩ := h_c h
  refine k_i C S (q_S (rest := [.ref (q 0)]) (As := [.int a1, .int (3 : Int32)]) lk_RX10_106 ev hx hb hml C S (c_m_isBelow l D dA q a1 (3 : Int32) w x6 ex6 _) rfl rfl ⟨(Nat.le_of_ble_eq_true rfl), (Nat.le_of_ble_eq_true rfl)⟩ rfl hl.1 rfl (Nat.le_of_ble_eq_true rfl) dX10_isAllowed_3 ⟨(Nat.le_of_ble_eq_true rfl), (Nat.le_of_ble_eq_true rfl)⟩) (fun H locs S => ?_)
  refine lv_if_eq (tgt := 22) hx hb dX10_isAllowed_6 rfl (fun c7 => ?_) (fun c7 => ?_)
  · have h := h_t c7 h
    exact lab22 a1 a2 a3 w _ _ _ (lv_sub hl [0, 1, 2, 3] rfl) S h
  · have h := h_f c7 h
    refine lv_iload_n hx hb dX10_isAllowed_9 rfl (lv_at hl 2 rfl) ?_
    refine lv_bipush (v := 20) hx hb dX10_isAllowed_10 (by decide) ?_
    obtain ⟨x8, ex8, h⟩ := h_c h
    refine k_i C S (q_S (rest := [.ref (q 0)]) (As := [.int a2, .int (20 : Int32)]) lk_RX10_106 ev hx hb hml C S (c_m_isBelow l D dA q a2 (20 : Int32) w x8 ex8 _) rfl rfl ⟨(Nat.le_of_ble_eq_true rfl), (Nat.le_of_ble_eq_true rfl)⟩ rfl hl.1 rfl (Nat.le_of_ble_eq_true rfl) dX10_isAllowed_12 ⟨(Nat.le_of_ble_eq_true rfl), (Nat.le_of_ble_eq_true rfl)⟩) (fun H locs S => ?_)
    refine lv_if_eq (tgt := 22) hx hb dX10_isAllowed_15 rfl (fun c9 => ?_) (fun c9 => ?_)
    · have h := h_t c9 h
      exact lab22 a1 a2 a3 w _ _ _ (lv_sub hl [0, 1, 2, 3] rfl) S h
    · have h := h_f c9 h
      refine lv_iconst (v := 1) hx hb dX10_isAllowed_18 (by decide) ?_
      refine lv_goto (tgt := 23) hx hb dX10_isAllowed_19 rfl ?_
      exact lab23 a1 a2 a3 (1 : Int32) w _ _ _ (lv_sub hl [0, 1, 2, 3] rfl) S h
theorem c_m_isAllowed (l : Launch) (D : va_G) (dA : Nat → ClassId) (q : Nat → Nat) (a1 : Int32) (a2 : Int32) (a3 : Int32) (w w' : Wt) (r : Int32) (h : m_isAllowed a1 a2 a3 w = some (r, w')) : Mi l EVm KM D dA q yX10_isAllowed cX10_isAllowed 4 (some .boolean) RM_m_isAllowed [.ref (q 0), .int a1, .int a2, .int a3] w r w' :=
  mk_z (by decide) rfl EVm_ok (Nat.le_of_ble_eq_true rfl) (fun p e s m args below meth c A Q ls hx hb hml C S hl fin => k_m_isAllowed a1 a2 a3 w (r, w') hx hb hml C (fun H locs ls r' w2 pc hn S h d => fin H locs ls r' w2 pc hn S h d) _ _ _ hl S h)
/-! BallotscriptModel.pass(I)I m_pass -/
def m_pass_b31 (l1 : Int32) (t0 : Int32) (t1 : Int32) (w : Wt) : Option (Int32 × Wt) := Option.bind (m_goes t1 t0 (1 : Int32) w) fun x1 => (if x1.1 = (0 : Int32) then some ((0 : Int32), x1.2) else nmd (upd2 x1.2 0 0 ((x1.2 0 0) + l1)) fun w3 => some ((w3 0 0), w3))
def m_pass_b30 (l1 : Int32) (t0 : Int32) (w : Wt) : Option (Int32 × Wt) := m_pass_b31 l1 (0 : Int32) t0 w
def m_pass (a1 : Int32) (w : Wt) : Option (Int32 × Wt) := Option.bind (m_isWithin a1 (1 : Int32) (100 : Int32)) fun x4 => (if x4 = (0 : Int32) then m_pass_b30 a1 x4 w else (if (1000 : Int32) < ((w 0 0) + a1) then m_pass_b30 a1 x4 w else m_pass_b31 a1 (1 : Int32) x4 w))
def RM_m_pass : Room := { frames := 1, cells := 0, slots := 0, locals := 23 }
set_option maxHeartbeats 4000000 in
set_option maxRecDepth 20000 in
theorem k_m_pass (a1 : Int32) (w : Wt) (z : (Int32 × Wt)) (hx : p.tables.exec = Jvm.exec) (hb : c.code = cX10_pass) (hml : c.maxLocals = 3) (C : Cx EVm KM D dA q A s m args RX10) (fin : ∀ (H : Heap) (locs : List Loc) (ls : Array Slot) (r' : Int32) (w2 : Wt) (pc : Nat) , Sta KM D dA q A s.heap w2 H locs → some (r', w2) = some z → decode cX10_pass pc = .ok (.ireturn, 1) → W p l e RM_m_pass s m args below meth c H locs 0 0 Q (F0 m pc ls [.int r'])) : ∀ (H : Heap) (locs : List Loc) (ls : Array Slot), lv_has ls 3 [(0, .ref (q 0)), (1, .int a1)] → Sta KM D dA q A s.heap w H locs → m_pass a1 w = some z → W p l e RM_m_pass s m args below meth c H locs 0 0 Q (F0 m 0 ls []) := by
  have ev : evOk EVm := EVm_ok
  have lab31 : ∀ (l1 : Int32) (t0 : Int32) (t1 : Int32) (w : Wt) (H : Heap) (locs : List Loc) (ls : Array Slot), lv_has ls 3 [(0, .ref (q 0)), (1, .int l1)] → Sta KM D dA q A s.heap w H locs → Option.bind (m_pass_b31 l1 t0 t1 w) some = some z → W p l e RM_m_pass s m args below meth c H locs 0 0 Q (F0 m 31 ls [.int t0, .int t1, .ref (q 0)]) := by
    intro l1 t0 t1 w H locs ls hl S h
    unfold m_pass_b31 at h
    refine lv_iconst (v := 1) hx hb dX10_pass_31 (by decide) ?_
    obtain ⟨x1, ex1, h⟩ := h_c h
    refine k_i C S (q_V (rest := []) (As := [.int t1, .int t0, .int (1 : Int32)]) lk_RX10_113 ev hx hb hml C S KM_0 rfl (c_m_goes l D dA q t1 t0 (1 : Int32) w x1.2 x1.1 ex1 _) rfl rfl ⟨(Nat.le_of_ble_eq_true rfl), (Nat.le_of_ble_eq_true rfl)⟩ rfl hl.1 rfl (Nat.le_of_ble_eq_true rfl) dX10_pass_32 ⟨(Nat.le_of_ble_eq_true rfl), (Nat.le_of_ble_eq_true rfl)⟩) (fun H locs S => ?_)
    refine lv_if_ne (tgt := 40) hx hb dX10_pass_35 rfl (fun c2 => ?_) (fun c2 => ?_)
    · have h := h_f c2 h
      refine lv_aload_n hx hb dX10_pass_40 rfl (lv_at hl 0 rfl) ?_
      refine lv_dup hx hb dX10_pass_41 rfl ?_
      refine g_get fl_RX10_131_X10 hx hb C S KM_0 rfl dX10_pass_42 ?_
      refine lv_iload_n hx hb dX10_pass_45 rfl (lv_at hl 1 rfl) ?_
      refine lv_iadd hx hb dX10_pass_46 ?_
      refine g_put fl_RX10_131_X10 pl_X10_0 hx hb C S KM_0 rfl ⟨rfl, rfl⟩ dX10_pass_47 (fun w3 ew3 H locs S => ?_)
      have h := h_l h w3 ew3
      refine lv_aload_n hx hb dX10_pass_50 rfl (lv_at hl 0 rfl) ?_
      refine g_get fl_RX10_131_X10 hx hb C S KM_0 rfl dX10_pass_51 ?_
      exact fin _ _ _ (w3 0 0) w3 _ S h dX10_pass_54
    · have h := h_t c2 h
      refine lv_iconst (v := 0) hx hb dX10_pass_38 (by decide) ?_
      exact fin _ _ _ (0 : Int32) x1.2 _ S h dX10_pass_39
  have lab30 : ∀ (l1 : Int32) (t0 : Int32) (w : Wt) (H : Heap) (locs : List Loc) (ls : Array Slot), lv_has ls 3 [(0, .ref (q 0)), (1, .int l1)] → Sta KM D dA q A s.heap w H locs → Option.bind (m_pass_b30 l1 t0 w) some = some z → W p l e RM_m_pass s m args below meth c H locs 0 0 Q (F0 m 30 ls [.int t0, .ref (q 0)]) := by
    intro l1 t0 w H locs ls hl S h
    unfold m_pass_b30 at h
    refine lv_iconst (v := 0) hx hb dX10_pass_30 (by decide) ?_
    exact lab31 l1 (0 : Int32) t0 w _ _ _ (lv_sub hl [0, 1] rfl) S h
  intro H locs ls hl S h
  have h := h_0 h
  unfold m_pass at h
  refine lv_iload_n hx hb dX10_pass_0 rfl (lv_at hl 1 rfl) ?_
  refine lv_iconst (v := 1) hx hb dX10_pass_1 (by decide) ?_
  refine lv_bipush (v := 100) hx hb dX10_pass_2 (by decide) ?_
  obtain ⟨x4, ex4, h⟩ := h_c h
  refine k_i C S (q_S (rest := []) (As := [.int a1, .int (1 : Int32), .int (100 : Int32)]) lk_RX10_102 ev hx hb hml C S (c_m_isWithin l D dA q a1 (1 : Int32) (100 : Int32) w x4 ex4 _) rfl rfl ⟨(Nat.le_of_ble_eq_true rfl), (Nat.le_of_ble_eq_true rfl)⟩ rfl hl.1 rfl (Nat.le_of_ble_eq_true rfl) dX10_pass_4 ⟨(Nat.le_of_ble_eq_true rfl), (Nat.le_of_ble_eq_true rfl)⟩) (fun H locs S => ?_)
  refine lv_istore_n (lv' := [(2, .int x4), (0, .ref (q 0)), (1, .int a1)]) hx hb dX10_pass_7 rfl hl (Nat.le_of_ble_eq_true rfl) rfl (fun ls hl => ?_)
  refine lv_aload_n hx hb dX10_pass_8 rfl (lv_at hl 1 rfl) ?_
  refine lv_iload_n hx hb dX10_pass_9 rfl (lv_at hl 0 rfl) ?_
  refine lv_iload_n hx hb dX10_pass_10 rfl (lv_at hl 0 rfl) ?_
  refine lv_if_eq (tgt := 30) hx hb dX10_pass_11 rfl (fun c5 => ?_) (fun c5 => ?_)
  · have h := h_t c5 h
    exact lab30 a1 x4 w _ _ _ (lv_sub hl [1, 2] rfl) S h
  · have h := h_f c5 h
    refine lv_aload_n hx hb dX10_pass_14 rfl (lv_at hl 1 rfl) ?_
    refine g_get fl_RX10_131_X10 hx hb C S KM_0 rfl dX10_pass_15 ?_
    refine lv_iload_n hx hb dX10_pass_18 rfl (lv_at hl 2 rfl) ?_
    refine lv_iadd hx hb dX10_pass_19 ?_
    refine lv_sipush (v := 1000) hx hb dX10_pass_20 (by decide) ?_
    refine lv_icmp_gt (tgt := 30) hx hb dX10_pass_23 rfl (fun c6 => ?_) (fun c6 => ?_)
    · have h := h_t c6 h
      exact lab30 a1 x4 w _ _ _ (lv_sub hl [1, 2] rfl) S h
    · have h := h_f c6 h
      refine lv_iconst (v := 1) hx hb dX10_pass_26 (by decide) ?_
      refine lv_goto (tgt := 31) hx hb dX10_pass_27 rfl ?_
      exact lab31 a1 (1 : Int32) x4 w _ _ _ (lv_sub hl [1, 2] rfl) S h
theorem c_m_pass (l : Launch) (D : va_G) (dA : Nat → ClassId) (q : Nat → Nat) (a1 : Int32) (w w' : Wt) (r : Int32) (h : m_pass a1 w = some (r, w')) : Mi l EVm KM D dA q yX10_pass cX10_pass 3 (some .int) RM_m_pass [.ref (q 0), .int a1] w r w' :=
  mk_i (by decide) rfl EVm_ok (Nat.le_of_ble_eq_true rfl) (fun p e s m args below meth c A Q ls hx hb hml C S hl fin => k_m_pass a1 w (r, w') hx hb hml C (fun H locs ls r' w2 pc S h d => fin H locs ls r' w2 pc S h d) _ _ _ hl S h)
/-! BallotscriptModel.isFigure(I)Z m_isFigure -/
def m_isFigure (a0 : Int32) : Option Int32 := (if a0 < (48 : Int32) then some (0 : Int32) else (if (57 : Int32) < a0 then some (0 : Int32) else some (1 : Int32)))
def RM_m_isFigure : Room := { frames := 0, cells := 0, slots := 0, locals := 0 }
set_option maxHeartbeats 4000000 in
set_option maxRecDepth 20000 in
theorem k_m_isFigure (a0 : Int32) (w : Wt) (z : Int32) (hx : p.tables.exec = Jvm.exec) (hb : c.code = cX10_isFigure) (hml : c.maxLocals = 1) (C : Cx EVm KM D dA q A s m args RX10) (fin : ∀ (H : Heap) (locs : List Loc) (ls : Array Slot) (r' : Int32) (pc : Nat) , narrow .boolean (.int r') = .int r' → Sta KM D dA q A s.heap w H locs → some r' = some z → decode cX10_isFigure pc = .ok (.ireturn, 1) → W p l e RM_m_isFigure s m args below meth c H locs 0 0 Q (F0 m pc ls [.int r'])) : ∀ (H : Heap) (locs : List Loc) (ls : Array Slot), lv_has ls 1 [(0, .int a0)] → Sta KM D dA q A s.heap w H locs → m_isFigure a0 = some z → W p l e RM_m_isFigure s m args below meth c H locs 0 0 Q (F0 m 0 ls []) := by
  have ev : evOk EVm := EVm_ok
  intro H locs ls hl S h
  have h := h_0 h
  unfold m_isFigure at h
  refine lv_iload_n hx hb dX10_isFigure_0 rfl (lv_at hl 0 rfl) ?_
  refine lv_bipush (v := 48) hx hb dX10_isFigure_1 (by decide) ?_
  refine lv_icmp_lt (tgt := 16) hx hb dX10_isFigure_3 rfl (fun c1 => ?_) (fun c1 => ?_)
  · have h := h_t c1 h
    refine lv_iconst (v := 0) hx hb dX10_isFigure_16 (by decide) ?_
    exact fin _ _ _ (0 : Int32) _ (by decide) S h dX10_isFigure_17
  · have h := h_f c1 h
    refine lv_iload_n hx hb dX10_isFigure_6 rfl (lv_at hl 0 rfl) ?_
    refine lv_bipush (v := 57) hx hb dX10_isFigure_7 (by decide) ?_
    refine lv_icmp_gt (tgt := 16) hx hb dX10_isFigure_9 rfl (fun c2 => ?_) (fun c2 => ?_)
    · have h := h_t c2 h
      refine lv_iconst (v := 0) hx hb dX10_isFigure_16 (by decide) ?_
      exact fin _ _ _ (0 : Int32) _ (by decide) S h dX10_isFigure_17
    · have h := h_f c2 h
      refine lv_iconst (v := 1) hx hb dX10_isFigure_12 (by decide) ?_
      refine lv_goto (tgt := 17) hx hb dX10_isFigure_13 rfl ?_
      exact fin _ _ _ (1 : Int32) _ (by decide) S h dX10_isFigure_17
theorem c_m_isFigure (l : Launch) (D : va_G) (dA : Nat → ClassId) (q : Nat → Nat) (a0 : Int32) (w : Wt) (r : Int32) (h : m_isFigure a0 = some r) : Mi l EVm KM D dA q yX10_isFigure cX10_isFigure 1 (some .boolean) RM_m_isFigure [.int a0] w r w :=
  mk_z (by decide) rfl EVm_ok (Nat.le_of_ble_eq_true rfl) (fun p e s m args below meth c A Q ls hx hb hml C S hl fin => k_m_isFigure a0 w r hx hb hml C (fun H locs ls r' pc hn S h d => fin H locs ls r' w pc hn S (by rw [Option.some.inj h]) d) _ _ _ hl S h)
end WALKS

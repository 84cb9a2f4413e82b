section WALKS
variable {p : Program} {l : Launch} {e : Env} {s : State} {m : MethodId} {args : Array Value} {below : List Frame} {meth : Method} {c : Code} {Q : State → Prop} {D : va_G} {dA : Nat → ClassId} {q : Nat → Nat} {A : Nat → Prop}
/-! BallotscriptModel.mark(I)I m_mark -/
def m_mark_b54 (l1 : Int32) (t0 : Int32) (t1 : Int32) (w : Wt) : Option (Int32 × Wt) := Option.bind (m_goes t1 t0 (1 : Int32) w) fun x1 => (if x1.1 = (0 : Int32) then some ((0 : Int32), x1.2) else gd (inb (x1.2 0 29) 6) (nmd (upd2 x1.2 23 ((x1.2 0 29)).toNatClampNeg l1) fun w4 => nmd (upd2 w4 0 29 ((w4 0 29) + (1 : Int32))) fun w5 => some ((w5 0 29), w5)))
def m_mark_b38 (l1 : Int32) (l2 : Int32) (w : Wt) : Option (Int32 × Wt) := Option.bind (m_isBelow l1 (6 : Int32)) fun x6 => (if l2 = (0 : Int32) then m_mark_b54 l1 (1 : Int32) x6 w else m_mark_b54 l1 (0 : Int32) x6 w)
def m_mark_L4 (l1 : Int32) (w : Wt) : (Int32 × Int32) → Option ((Int32 × Int32) ⊕ Int32)
  | (l2, l3) => (if (w 0 29) ≤ l3 then some (.inr l2) else (if l2 = (0 : Int32) then gd (inb l3 6) ((if (w 23 (l3).toNatClampNeg) = l1 then some (.inl ((1 : Int32), (l3 + 1))) else some (.inl ((0 : Int32), (l3 + 1))))) else some (.inl ((1 : Int32), (l3 + 1)))))
def m_mark_x4 (l1 : Int32) (w : Wt) : Int32 → Option (Int32 × Wt)
  | l2 => m_mark_b38 l1 l2 w
def m_mark (a1 : Int32) (w : Wt) : Option (Int32 × Wt) := Option.bind (lp (m_mark_L4 a1 w) FU ((0 : Int32), (0 : Int32))) (m_mark_x4 a1 w)
def RM_m_mark : Room := { frames := 1, cells := 0, slots := 0, locals := 23 }
set_option maxHeartbeats 4000000 in
set_option maxRecDepth 20000 in
theorem k_m_mark (a1 : Int32) (w : Wt) (z : (Int32 × Wt)) (hx : p.tables.exec = Jvm.exec) (hb : c.code = cX10_mark) (hml : c.maxLocals = 4) (C : Cx EVm KM D dA q A s m args RX10) (fin : ∀ (H : Heap) (locs : List Loc) (ls : Array Slot) (r' : Int32) (w2 : Wt) (pc : Nat) , Sta KM D dA q A s.heap w2 H locs → some (r', w2) = some z → decode cX10_mark pc = .ok (.ireturn, 1) → W p l e RM_m_mark s m args below meth c H locs 0 0 Q (F0 m pc ls [.int r'])) : ∀ (H : Heap) (locs : List Loc) (ls : Array Slot), lv_has ls 4 [(0, .ref (q 0)), (1, .int a1)] → Sta KM D dA q A s.heap w H locs → m_mark a1 w = some z → W p l e RM_m_mark s m args below meth c H locs 0 0 Q (F0 m 0 ls []) := by
  have ev : evOk EVm := EVm_ok
  have lab54 : ∀ (l1 : Int32) (t0 : Int32) (t1 : Int32) (w : Wt) (H : Heap) (locs : List Loc) (ls : Array Slot), lv_has ls 4 [(0, .ref (q 0)), (1, .int l1)] → Sta KM D dA q A s.heap w H locs → Option.bind (m_mark_b54 l1 t0 t1 w) some = some z → W p l e RM_m_mark s m args below meth c H locs 0 0 Q (F0 m 54 ls [.int t0, .int t1, .ref (q 0)]) := by
    intro l1 t0 t1 w H locs ls hl S h
    unfold m_mark_b54 at h
    refine lv_iconst (v := 1) hx hb dX10_mark_54 (by decide) ?_
    obtain ⟨x1, ex1, h⟩ := h_c h
    refine k_i C S (q_V (rest := []) (As := [.int t1, .int t0, .int (1 : Int32)]) lk_RX10_113 ev hx hb hml C S KM_0 rfl (c_m_goes l D dA q t1 t0 (1 : Int32) w x1.2 x1.1 ex1 _) rfl rfl ⟨(Nat.le_of_ble_eq_true rfl), (Nat.le_of_ble_eq_true rfl)⟩ rfl hl.1 rfl (Nat.le_of_ble_eq_true rfl) dX10_mark_55 ⟨(Nat.le_of_ble_eq_true rfl), (Nat.le_of_ble_eq_true rfl)⟩) (fun H locs S => ?_)
    refine lv_if_ne (tgt := 63) hx hb dX10_mark_58 rfl (fun c2 => ?_) (fun c2 => ?_)
    · have h := h_f c2 h
      refine lv_aload_n hx hb dX10_mark_63 rfl (lv_at hl 0 rfl) ?_
      refine g_getR fl_RX10_77_X10 hx hb C S KM_0 rfl dX10_mark_64 ?_
      refine lv_aload_n hx hb dX10_mark_67 rfl (lv_at hl 0 rfl) ?_
      refine g_get fl_RX10_163_X10 hx hb C S KM_0 rfl dX10_mark_68 ?_
      refine lv_iload_n hx hb dX10_mark_71 rfl (lv_at hl 1 rfl) ?_
      obtain ⟨g3, h⟩ := h_gd h
      refine r_iast hx hb C S KM_23 (h_in g3) dX10_mark_72 (fun w4 ew4 H locs S => ?_)
      have h := h_l h w4 ew4
      refine lv_aload_n hx hb dX10_mark_73 rfl (lv_at hl 0 rfl) ?_
      refine lv_dup hx hb dX10_mark_74 rfl ?_
      refine g_get fl_RX10_163_X10 hx hb C S KM_0 rfl dX10_mark_75 ?_
      refine lv_iconst (v := 1) hx hb dX10_mark_78 (by decide) ?_
      refine lv_iadd hx hb dX10_mark_79 ?_
      refine g_put fl_RX10_163_X10 pl_X10_29 hx hb C S KM_0 rfl ⟨rfl, rfl⟩ dX10_mark_80 (fun w5 ew5 H locs S => ?_)
      have h := h_l h w5 ew5
      refine lv_aload_n hx hb dX10_mark_83 rfl (lv_at hl 0 rfl) ?_
      refine g_get fl_RX10_163_X10 hx hb C S KM_0 rfl dX10_mark_84 ?_
      exact fin _ _ _ (w5 0 29) w5 _ S h dX10_mark_87
    · have h := h_t c2 h
      refine lv_iconst (v := 0) hx hb dX10_mark_61 (by decide) ?_
      exact fin _ _ _ (0 : Int32) x1.2 _ S h dX10_mark_62
  have lab38 : ∀ (l1 : Int32) (l2 : Int32) (w : Wt) (H : Heap) (locs : List Loc) (ls : Array Slot), lv_has ls 4 [(0, .ref (q 0)), (1, .int l1), (2, .int l2)] → Sta KM D dA q A s.heap w H locs → Option.bind (m_mark_b38 l1 l2 w) some = some z → W p l e RM_m_mark s m args below meth c H locs 0 0 Q (F0 m 38 ls []) := by
    intro l1 l2 w H locs ls hl S h
    unfold m_mark_b38 at h
    refine lv_aload_n hx hb dX10_mark_38 rfl (lv_at hl 0 rfl) ?_
    refine lv_iload_n hx hb dX10_mark_39 rfl (lv_at hl 1 rfl) ?_
    refine lv_bipush (v := 6) hx hb dX10_mark_40 (by decide) ?_
    obtain ⟨x6, ex6, h⟩ := h_c h
    refine k_i C S (q_S (rest := [.ref (q 0)]) (As := [.int l1, .int (6 : Int32)]) lk_RX10_106 ev hx hb hml C S (c_m_isBelow l D dA q l1 (6 : Int32) w x6 ex6 _) rfl rfl ⟨(Nat.le_of_ble_eq_true rfl), (Nat.le_of_ble_eq_true rfl)⟩ rfl hl.1 rfl (Nat.le_of_ble_eq_true rfl) dX10_mark_42 ⟨(Nat.le_of_ble_eq_true rfl), (Nat.le_of_ble_eq_true rfl)⟩) (fun H locs S => ?_)
    refine lv_iload_n hx hb dX10_mark_45 rfl (lv_at hl 2 rfl) ?_
    refine lv_if_ne (tgt := 53) hx hb dX10_mark_46 rfl (fun c7 => ?_) (fun c7 => ?_)
    · have h := h_f c7 h
      refine lv_iconst (v := 0) hx hb dX10_mark_53 (by decide) ?_
      exact lab54 l1 (0 : Int32) x6 w _ _ _ (lv_sub hl [0, 1] rfl) S h
    · have h := h_t c7 h
      refine lv_iconst (v := 1) hx hb dX10_mark_49 (by decide) ?_
      refine lv_goto (tgt := 54) hx hb dX10_mark_50 rfl ?_
      exact lab54 l1 (1 : Int32) x6 w _ _ _ (lv_sub hl [0, 1] rfl) S h
  have loop4 : ∀ (l1 : Int32) (w : Wt) (n4 : Nat), ∀ (l2 : Int32) (l3 : Int32) (H : Heap) (locs : List Loc) (ls : Array Slot), lv_has ls 4 [(0, .ref (q 0)), (1, .int l1), (2, .int l2), (3, .int l3)] → Sta KM D dA q A s.heap w H locs → Option.bind (lp (m_mark_L4 l1 w) n4 (l2, l3)) (fun x9 => Option.bind (m_mark_x4 l1 w x9) some) = some z → W p l e RM_m_mark s m args below meth c H locs 0 0 Q (F0 m 4 ls []) := by
    intro l1 w n4
    induction n4 with
    | zero =>
      intro l2 l3 H locs ls hl S h
      exact (h_lp0 h).elim
    | succ n4 ih4 =>
      intro l2 l3 H locs ls hl S h
      have h := h_lp h
      unfold m_mark_L4 at h
      refine lv_iload_n hx hb dX10_mark_4 rfl (lv_at hl 3 rfl) ?_
      refine lv_aload_n hx hb dX10_mark_5 rfl (lv_at hl 0 rfl) ?_
      refine g_get fl_RX10_163_X10 hx hb C S KM_0 rfl dX10_mark_6 ?_
      refine lv_icmp_ge (tgt := 38) hx hb dX10_mark_9 rfl (fun c8 => ?_) (fun c8 => ?_)
      · have h := h_t c8 h
        exact lab38 l1 l2 w _ _ _ (lv_sub hl [0, 1, 2] rfl) S h
      · have h := h_f c8 h
        refine lv_iload_n hx hb dX10_mark_12 rfl (lv_at hl 2 rfl) ?_
        refine lv_if_ne (tgt := 26) hx hb dX10_mark_13 rfl (fun c9 => ?_) (fun c9 => ?_)
        · have h := h_f c9 h
          refine lv_iconst (v := 1) hx hb dX10_mark_26 (by decide) ?_
          refine lv_goto (tgt := 31) hx hb dX10_mark_27 rfl ?_
          refine lv_istore_n (lv' := [(2, .int (1 : Int32)), (0, .ref (q 0)), (1, .int l1), (3, .int l3)]) hx hb dX10_mark_31 rfl hl (Nat.le_of_ble_eq_true rfl) rfl (fun ls hl => ?_)
          refine lv_iinc (v := (l3 + 1)) (lv' := [(3, .int (l3 + 1)), (2, .int (1 : Int32)), (0, .ref (q 0)), (1, .int l1)]) hx hb dX10_mark_32 hl (k := 3) rfl rfl (Nat.le_of_ble_eq_true rfl) rfl (fun ls hl => ?_)
          refine lv_goto (tgt := 4) hx hb dX10_mark_35 rfl ?_
          exact ih4 (1 : Int32) (l3 + 1) _ _ _ (lv_sub hl [2, 3, 1, 0] rfl) S h
        · have h := h_t c9 h
          refine lv_aload_n hx hb dX10_mark_16 rfl (lv_at hl 0 rfl) ?_
          refine g_getR fl_RX10_77_X10 hx hb C S KM_0 rfl dX10_mark_17 ?_
          refine lv_iload_n hx hb dX10_mark_20 rfl (lv_at hl 3 rfl) ?_
          obtain ⟨g10, h⟩ := h_gd h
          refine r_iald hx hb C S KM_23 (h_in g10) dX10_mark_21 ?_
          refine lv_iload_n hx hb dX10_mark_22 rfl (lv_at hl 1 rfl) ?_
          refine lv_icmp_ne (tgt := 30) hx hb dX10_mark_23 rfl (fun c11 => ?_) (fun c11 => ?_)
          · have h := h_f c11 h
            refine lv_iconst (v := 0) hx hb dX10_mark_30 (by decide) ?_
            refine lv_istore_n (lv' := [(2, .int (0 : Int32)), (0, .ref (q 0)), (1, .int l1), (3, .int l3)]) hx hb dX10_mark_31 rfl hl (Nat.le_of_ble_eq_true rfl) rfl (fun ls hl => ?_)
            refine lv_iinc (v := (l3 + 1)) (lv' := [(3, .int (l3 + 1)), (2, .int (0 : Int32)), (0, .ref (q 0)), (1, .int l1)]) hx hb dX10_mark_32 hl (k := 3) rfl rfl (Nat.le_of_ble_eq_true rfl) rfl (fun ls hl => ?_)
            refine lv_goto (tgt := 4) hx hb dX10_mark_35 rfl ?_
            exact ih4 (0 : Int32) (l3 + 1) _ _ _ (lv_sub hl [2, 3, 1, 0] rfl) S h
          · have h := h_t c11 h
            refine lv_iconst (v := 1) hx hb dX10_mark_26 (by decide) ?_
            refine lv_goto (tgt := 31) hx hb dX10_mark_27 rfl ?_
            refine lv_istore_n (lv' := [(2, .int (1 : Int32)), (0, .ref (q 0)), (1, .int l1), (3, .int l3)]) hx hb dX10_mark_31 rfl hl (Nat.le_of_ble_eq_true rfl) rfl (fun ls hl => ?_)
            refine lv_iinc (v := (l3 + 1)) (lv' := [(3, .int (l3 + 1)), (2, .int (1 : Int32)), (0, .ref (q 0)), (1, .int l1)]) hx hb dX10_mark_32 hl (k := 3) rfl rfl (Nat.le_of_ble_eq_true rfl) rfl (fun ls hl => ?_)
            refine lv_goto (tgt := 4) hx hb dX10_mark_35 rfl ?_
            exact ih4 (1 : Int32) (l3 + 1) _ _ _ (lv_sub hl [2, 3, 1, 0] rfl) S h
  intro H locs ls hl S h
  have h := h_0 h
  unfold m_mark at h
  refine lv_iconst (v := 0) hx hb dX10_mark_0 (by decide) ?_
  refine lv_istore_n (lv' := [(2, .int (0 : Int32)), (0, .ref (q 0)), (1, .int a1)]) hx hb dX10_mark_1 rfl hl (Nat.le_of_ble_eq_true rfl) rfl (fun ls hl => ?_)
  refine lv_iconst (v := 0) hx hb dX10_mark_2 (by decide) ?_
  refine lv_istore_n (lv' := [(3, .int (0 : Int32)), (2, .int (0 : Int32)), (0, .ref (q 0)), (1, .int a1)]) hx hb dX10_mark_3 rfl hl (Nat.le_of_ble_eq_true rfl) rfl (fun ls hl => ?_)
  exact loop4 a1 w FU (0 : Int32) (0 : Int32) _ _ _ (lv_sub hl [2, 3, 1, 0] rfl) S (h_bb h)
theorem c_m_mark (l : Launch) (D : va_G) (dA : Nat → ClassId) (q : Nat → Nat) (a1 : Int32) (w w' : Wt) (r : Int32) (h : m_mark a1 w = some (r, w')) : Mi l EVm KM D dA q yX10_mark cX10_mark 4 (some .int) RM_m_mark [.ref (q 0), .int a1] w r w' :=
  mk_i (by decide) rfl EVm_ok (Nat.le_of_ble_eq_true rfl) (fun p e s m args below meth c A Q ls hx hb hml C S hl fin => k_m_mark a1 w (r, w') hx hb hml C (fun H locs ls r' w2 pc S h d => fin H locs ls r' w2 pc S h d) _ _ _ hl S h)
/-! BallotscriptModel.cast(II)I m_cast -/
def m_cast_b161 (l1 : Int32) (l2 : Int32) (w : Wt) : Option (Int32 × Wt) := gd (inb (w 0 27) 100) (nmd (upd2 w 18 ((w 0 27)).toNatClampNeg (w 0 29)) fun w2 => gd (inb (w2 0 27) 100) (nmd (upd2 w2 19 ((w2 0 27)).toNatClampNeg l1) fun w4 => gd (inb (w4 0 27) 100) (nmd (upd2 w4 20 ((w4 0 27)).toNatClampNeg l2) fun w6 => gd (inb (w6 0 27) 100) (nmd (upd2 w6 21 ((w6 0 27)).toNatClampNeg (w6 0 0)) fun w8 => nmd (upd2 w8 0 29 (0 : Int32)) fun w9 => nmd (upd2 w9 0 27 ((w9 0 27) + (1 : Int32))) fun w10 => some (((w10 0 27) - (1 : Int32)), w10)))))
def m_cast_L124 (l1 : Int32) (l2 : Int32) : (Int32 × Wt) → Option ((Int32 × Wt) ⊕ Wt)
  | (l5, w) => (if (w 0 29) ≤ l5 then some (.inr w) else gd (inb l5 6) (gd (inb (((6 : Int32) * (w 0 27)) + l5) 600) (nmd (upd2 w 17 ((((6 : Int32) * (w 0 27)) + l5)).toNatClampNeg (w 23 (l5).toNatClampNeg)) fun w14 => some (.inl ((l5 + 1), w14)))))
def m_cast_x124 (l1 : Int32) (l2 : Int32) : Wt → Option (Int32 × Wt)
  | w => m_cast_b161 l1 l2 w
def m_cast_b108 (l1 : Int32) (l2 : Int32) (l3 : Int32) (l4 : Int32) (w : Wt) : Option (Int32 × Wt) := Option.bind (m_goes l3 l4 (1 : Int32) w) fun x15 => (if x15.1 = (0 : Int32) then some ((0 : Int32), x15.2) else Option.bind (lp (m_cast_L124 l1 l2) FU ((0 : Int32), x15.2)) (m_cast_x124 l1 l2))
def m_cast_L65 (l1 : Int32) (l2 : Int32) (l3 : Int32) (w : Wt) : (Int32 × Int32) → Option ((Int32 × Int32) ⊕ Int32)
  | (l4, l5) => (if (w 0 29) ≤ l5 then some (.inr l4) else (if l4 = (0 : Int32) then some (.inr l4) else gd (inb l5 6) (gd (inb l1 8) ((if (w 10 (l1).toNatClampNeg) ≤ (w 23 (l5).toNatClampNeg) then some (.inl ((0 : Int32), (l5 + 1))) else some (.inl ((1 : Int32), (l5 + 1))))))))
def m_cast_x65 (l1 : Int32) (l2 : Int32) (l3 : Int32) (w : Wt) : Int32 → Option (Int32 × Wt)
  | l4 => m_cast_b108 l1 l2 l3 l4 w
def m_cast_b60 (l1 : Int32) (l2 : Int32) (l3 : Int32) (t0 : Int32) (w : Wt) : Option (Int32 × Wt) := Option.bind (lp (m_cast_L65 l1 l2 l3 w) FU (t0, (0 : Int32))) (m_cast_x65 l1 l2 l3 w)
def m_cast_b59 (l1 : Int32) (l2 : Int32) (l3 : Int32) (w : Wt) : Option (Int32 × Wt) := m_cast_b60 l1 l2 l3 (0 : Int32) w
def m_cast_b25 (l1 : Int32) (l2 : Int32) (t0 : Int32) (w : Wt) : Option (Int32 × Wt) := (if t0 = (0 : Int32) then m_cast_b59 l1 l2 t0 w else gd (inb l1 8) ((if (w 13 (l1).toNatClampNeg) = (0 : Int32) then (if (w 0 29) ≤ (0 : Int32) then m_cast_b59 l1 l2 t0 w else (if (100 : Int32) ≤ (w 0 27) then m_cast_b59 l1 l2 t0 w else m_cast_b60 l1 l2 t0 (1 : Int32) w)) else m_cast_b59 l1 l2 t0 w)))
def m_cast_b24 (l1 : Int32) (l2 : Int32) (w : Wt) : Option (Int32 × Wt) := m_cast_b25 l1 l2 (0 : Int32) w
def m_cast (a1 : Int32) (a2 : Int32) (w : Wt) : Option (Int32 × Wt) := Option.bind (m_isBelow a1 (w 0 20)) fun x27 => (if x27 = (0 : Int32) then m_cast_b24 a1 a2 w else Option.bind (m_isBelow a2 (20 : Int32)) fun x29 => (if x29 = (0 : Int32) then m_cast_b24 a1 a2 w else m_cast_b25 a1 a2 (1 : Int32) w))
def RM_m_cast : Room := { frames := 1, cells := 0, slots := 0, locals := 23 }
set_option maxHeartbeats 4000000 in
set_option maxRecDepth 20000 in
theorem k_m_cast (a1 : Int32) (a2 : Int32) (w : Wt) (z : (Int32 × Wt)) (hx : p.tables.exec = Jvm.exec) (hb : c.code = cX10_cast) (hml : c.maxLocals = 6) (C : Cx EVm KM D dA q A s m args RX10) (fin : ∀ (H : Heap) (locs : List Loc) (ls : Array Slot) (r' : Int32) (w2 : Wt) (pc : Nat) , Sta KM D dA q A s.heap w2 H locs → some (r', w2) = some z → decode cX10_cast pc = .ok (.ireturn, 1) → W p l e RM_m_cast s m args below meth c H locs 0 0 Q (F0 m pc ls [.int r'])) : ∀ (H : Heap) (locs : List Loc) (ls : Array Slot), lv_has ls 6 [(0, .ref (q 0)), (1, .int a1), (2, .int a2)] → Sta KM D dA q A s.heap w H locs → m_cast a1 a2 w = some z → W p l e RM_m_cast s m args below meth c H locs 0 0 Q (F0 m 0 ls []) := by
  have ev : evOk EVm := EVm_ok
  have lab161 : ∀ (l1 : Int32) (l2 : Int32) (w : Wt) (H : Heap) (locs : List Loc) (ls : Array Slot), lv_has ls 6 [(0, .ref (q 0)), (1, .int l1), (2, .int l2)] → Sta KM D dA q A s.heap w H locs → Option.bind (m_cast_b161 l1 l2 w) some = some z → W p l e RM_m_cast s m args below meth c H locs 0 0 Q (F0 m 161 ls []) := by
    intro l1 l2 w H locs ls hl S h
    unfold m_cast_b161 at h
    refine lv_aload_n hx hb dX10_cast_161 rfl (lv_at hl 0 rfl) ?_
    refine g_getR fl_RX10_62_X10 hx hb C S KM_0 rfl dX10_cast_162 ?_
    refine lv_aload_n hx hb dX10_cast_165 rfl (lv_at hl 0 rfl) ?_
    refine g_get fl_RX10_117_X10 hx hb C S KM_0 rfl dX10_cast_166 ?_
    refine lv_aload_n hx hb dX10_cast_169 rfl (lv_at hl 0 rfl) ?_
    refine g_get fl_RX10_163_X10 hx hb C S KM_0 rfl dX10_cast_170 ?_
    obtain ⟨g1, h⟩ := h_gd h
    refine r_iast hx hb C S KM_18 (h_in g1) dX10_cast_173 (fun w2 ew2 H locs S => ?_)
    have h := h_l h w2 ew2
    refine lv_aload_n hx hb dX10_cast_174 rfl (lv_at hl 0 rfl) ?_
    refine g_getR fl_RX10_65_X10 hx hb C S KM_0 rfl dX10_cast_175 ?_
    refine lv_aload_n hx hb dX10_cast_178 rfl (lv_at hl 0 rfl) ?_
    refine g_get fl_RX10_117_X10 hx hb C S KM_0 rfl dX10_cast_179 ?_
    refine lv_iload_n hx hb dX10_cast_182 rfl (lv_at hl 1 rfl) ?_
    obtain ⟨g3, h⟩ := h_gd h
    refine r_iast hx hb C S KM_19 (h_in g3) dX10_cast_183 (fun w4 ew4 H locs S => ?_)
    have h := h_l h w4 ew4
    refine lv_aload_n hx hb dX10_cast_184 rfl (lv_at hl 0 rfl) ?_
    refine g_getR fl_RX10_68_X10 hx hb C S KM_0 rfl dX10_cast_185 ?_
    refine lv_aload_n hx hb dX10_cast_188 rfl (lv_at hl 0 rfl) ?_
    refine g_get fl_RX10_117_X10 hx hb C S KM_0 rfl dX10_cast_189 ?_
    refine lv_iload_n hx hb dX10_cast_192 rfl (lv_at hl 2 rfl) ?_
    obtain ⟨g5, h⟩ := h_gd h
    refine r_iast hx hb C S KM_20 (h_in g5) dX10_cast_193 (fun w6 ew6 H locs S => ?_)
    have h := h_l h w6 ew6
    refine lv_aload_n hx hb dX10_cast_194 rfl (lv_at hl 0 rfl) ?_
    refine g_getR fl_RX10_71_X10 hx hb C S KM_0 rfl dX10_cast_195 ?_
    refine lv_aload_n hx hb dX10_cast_198 rfl (lv_at hl 0 rfl) ?_
    refine g_get fl_RX10_117_X10 hx hb C S KM_0 rfl dX10_cast_199 ?_
    refine lv_aload_n hx hb dX10_cast_202 rfl (lv_at hl 0 rfl) ?_
    refine g_get fl_RX10_131_X10 hx hb C S KM_0 rfl dX10_cast_203 ?_
    obtain ⟨g7, h⟩ := h_gd h
    refine r_iast hx hb C S KM_21 (h_in g7) dX10_cast_206 (fun w8 ew8 H locs S => ?_)
    have h := h_l h w8 ew8
    refine lv_aload_n hx hb dX10_cast_207 rfl (lv_at hl 0 rfl) ?_
    refine lv_iconst (v := 0) hx hb dX10_cast_208 (by decide) ?_
    refine g_put fl_RX10_163_X10 pl_X10_29 hx hb C S KM_0 rfl ⟨rfl, rfl⟩ dX10_cast_209 (fun w9 ew9 H locs S => ?_)
    have h := h_l h w9 ew9
    refine lv_aload_n hx hb dX10_cast_212 rfl (lv_at hl 0 rfl) ?_
    refine lv_dup hx hb dX10_cast_213 rfl ?_
    refine g_get fl_RX10_117_X10 hx hb C S KM_0 rfl dX10_cast_214 ?_
    refine lv_iconst (v := 1) hx hb dX10_cast_217 (by decide) ?_
    refine lv_iadd hx hb dX10_cast_218 ?_
    refine g_put fl_RX10_117_X10 pl_X10_27 hx hb C S KM_0 rfl ⟨rfl, rfl⟩ dX10_cast_219 (fun w10 ew10 H locs S => ?_)
    have h := h_l h w10 ew10
    refine lv_aload_n hx hb dX10_cast_222 rfl (lv_at hl 0 rfl) ?_
    refine g_get fl_RX10_117_X10 hx hb C S KM_0 rfl dX10_cast_223 ?_
    refine lv_iconst (v := 1) hx hb dX10_cast_226 (by decide) ?_
    refine lv_isub hx hb dX10_cast_227 ?_
    exact fin _ _ _ ((w10 0 27) - (1 : Int32)) w10 _ S h dX10_cast_228
  have loop124 : ∀ (l1 : Int32) (l2 : Int32) (n124 : Nat), ∀ (l5 : Int32) (w : Wt) (H : Heap) (locs : List Loc) (ls : Array Slot), lv_has ls 6 [(0, .ref (q 0)), (1, .int l1), (2, .int l2), (5, .int l5)] → Sta KM D dA q A s.heap w H locs → Option.bind (lp (m_cast_L124 l1 l2) n124 (l5, w)) (fun x9 => Option.bind (m_cast_x124 l1 l2 x9) some) = some z → W p l e RM_m_cast s m args below meth c H locs 0 0 Q (F0 m 124 ls []) := by
    intro l1 l2 n124
    induction n124 with
    | zero =>
      intro l5 w H locs ls hl S h
      exact (h_lp0 h).elim
    | succ n124 ih124 =>
      intro l5 w H locs ls hl S h
      have h := h_lp h
      unfold m_cast_L124 at h
      refine lv_iload hx hb dX10_cast_124 (lv_at hl 3 rfl) ?_
      refine lv_aload_n hx hb dX10_cast_126 rfl (lv_at hl 0 rfl) ?_
      refine g_get fl_RX10_163_X10 hx hb C S KM_0 rfl dX10_cast_127 ?_
      refine lv_icmp_ge (tgt := 161) hx hb dX10_cast_130 rfl (fun c11 => ?_) (fun c11 => ?_)
      · have h := h_t c11 h
        exact lab161 l1 l2 w _ _ _ (lv_sub hl [0, 1, 2] rfl) S h
      · have h := h_f c11 h
        refine lv_aload_n hx hb dX10_cast_133 rfl (lv_at hl 0 rfl) ?_
        refine g_getR fl_RX10_59_X10 hx hb C S KM_0 rfl dX10_cast_134 ?_
        refine lv_bipush (v := 6) hx hb dX10_cast_137 (by decide) ?_
        refine lv_aload_n hx hb dX10_cast_139 rfl (lv_at hl 0 rfl) ?_
        refine g_get fl_RX10_117_X10 hx hb C S KM_0 rfl dX10_cast_140 ?_
        refine lv_imul hx hb dX10_cast_143 ?_
        refine lv_iload hx hb dX10_cast_144 (lv_at hl 3 rfl) ?_
        refine lv_iadd hx hb dX10_cast_146 ?_
        refine lv_aload_n hx hb dX10_cast_147 rfl (lv_at hl 0 rfl) ?_
        refine g_getR fl_RX10_77_X10 hx hb C S KM_0 rfl dX10_cast_148 ?_
        refine lv_iload hx hb dX10_cast_151 (lv_at hl 3 rfl) ?_
        obtain ⟨g12, h⟩ := h_gd h
        refine r_iald hx hb C S KM_23 (h_in g12) dX10_cast_153 ?_
        obtain ⟨g13, h⟩ := h_gd h
        refine r_iast hx hb C S KM_17 (h_in g13) dX10_cast_154 (fun w14 ew14 H locs S => ?_)
        have h := h_l h w14 ew14
        refine lv_iinc (v := (l5 + 1)) (lv' := [(5, .int (l5 + 1)), (0, .ref (q 0)), (1, .int l1), (2, .int l2)]) hx hb dX10_cast_155 hl (k := 3) rfl rfl (Nat.le_of_ble_eq_true rfl) rfl (fun ls hl => ?_)
        refine lv_goto (tgt := 124) hx hb dX10_cast_158 rfl ?_
        exact ih124 (l5 + 1) w14 _ _ _ (lv_sub hl [1, 2, 3, 0] rfl) S h
  have lab108 : ∀ (l1 : Int32) (l2 : Int32) (l3 : Int32) (l4 : Int32) (w : Wt) (H : Heap) (locs : List Loc) (ls : Array Slot), lv_has ls 6 [(0, .ref (q 0)), (1, .int l1), (2, .int l2), (3, .int l3), (4, .int l4)] → Sta KM D dA q A s.heap w H locs → Option.bind (m_cast_b108 l1 l2 l3 l4 w) some = some z → W p l e RM_m_cast s m args below meth c H locs 0 0 Q (F0 m 108 ls []) := by
    intro l1 l2 l3 l4 w H locs ls hl S h
    unfold m_cast_b108 at h
    refine lv_aload_n hx hb dX10_cast_108 rfl (lv_at hl 0 rfl) ?_
    refine lv_iload_n hx hb dX10_cast_109 rfl (lv_at hl 3 rfl) ?_
    refine lv_iload hx hb dX10_cast_110 (lv_at hl 4 rfl) ?_
    refine lv_iconst (v := 1) hx hb dX10_cast_112 (by decide) ?_
    obtain ⟨x15, ex15, h⟩ := h_c h
    refine k_i C S (q_V (rest := []) (As := [.int l3, .int l4, .int (1 : Int32)]) lk_RX10_113 ev hx hb hml C S KM_0 rfl (c_m_goes l D dA q l3 l4 (1 : Int32) w x15.2 x15.1 ex15 _) rfl rfl ⟨(Nat.le_of_ble_eq_true rfl), (Nat.le_of_ble_eq_true rfl)⟩ rfl hl.1 rfl (Nat.le_of_ble_eq_true rfl) dX10_cast_113 ⟨(Nat.le_of_ble_eq_true rfl), (Nat.le_of_ble_eq_true rfl)⟩) (fun H locs S => ?_)
    refine lv_if_ne (tgt := 121) hx hb dX10_cast_116 rfl (fun c16 => ?_) (fun c16 => ?_)
    · have h := h_f c16 h
      refine lv_iconst (v := 0) hx hb dX10_cast_121 (by decide) ?_
      refine lv_istore (lv' := [(5, .int (0 : Int32)), (0, .ref (q 0)), (1, .int l1), (2, .int l2), (3, .int l3), (4, .int l4)]) hx hb dX10_cast_122 hl (Nat.le_of_ble_eq_true rfl) rfl (fun ls hl => ?_)
      exact loop124 l1 l2 FU (0 : Int32) x15.2 _ _ _ (lv_sub hl [1, 2, 3, 0] rfl) S (h_bb h)
    · have h := h_t c16 h
      refine lv_iconst (v := 0) hx hb dX10_cast_119 (by decide) ?_
      exact fin _ _ _ (0 : Int32) x15.2 _ S h dX10_cast_120
  have loop65 : ∀ (l1 : Int32) (l2 : Int32) (l3 : Int32) (w : Wt) (n65 : Nat), ∀ (l4 : Int32) (l5 : Int32) (H : Heap) (locs : List Loc) (ls : Array Slot), lv_has ls 6 [(0, .ref (q 0)), (1, .int l1), (2, .int l2), (3, .int l3), (4, .int l4), (5, .int l5)] → Sta KM D dA q A s.heap w H locs → Option.bind (lp (m_cast_L65 l1 l2 l3 w) n65 (l4, l5)) (fun x9 => Option.bind (m_cast_x65 l1 l2 l3 w x9) some) = some z → W p l e RM_m_cast s m args below meth c H locs 0 0 Q (F0 m 65 ls []) := by
    intro l1 l2 l3 w n65
    induction n65 with
    | zero =>
      intro l4 l5 H locs ls hl S h
      exact (h_lp0 h).elim
    | succ n65 ih65 =>
      intro l4 l5 H locs ls hl S h
      have h := h_lp h
      unfold m_cast_L65 at h
      refine lv_iload hx hb dX10_cast_65 (lv_at hl 5 rfl) ?_
      refine lv_aload_n hx hb dX10_cast_67 rfl (lv_at hl 0 rfl) ?_
      refine g_get fl_RX10_163_X10 hx hb C S KM_0 rfl dX10_cast_68 ?_
      refine lv_icmp_ge (tgt := 108) hx hb dX10_cast_71 rfl (fun c17 => ?_) (fun c17 => ?_)
      · have h := h_t c17 h
        exact lab108 l1 l2 l3 l4 w _ _ _ (lv_sub hl [0, 1, 2, 3, 4] rfl) S h
      · have h := h_f c17 h
        refine lv_iload hx hb dX10_cast_74 (lv_at hl 4 rfl) ?_
        refine lv_if_eq (tgt := 108) hx hb dX10_cast_76 rfl (fun c18 => ?_) (fun c18 => ?_)
        · have h := h_t c18 h
          exact lab108 l1 l2 l3 l4 w _ _ _ (lv_sub hl [0, 1, 2, 3, 4] rfl) S h
        · have h := h_f c18 h
          refine lv_aload_n hx hb dX10_cast_79 rfl (lv_at hl 0 rfl) ?_
          refine g_getR fl_RX10_77_X10 hx hb C S KM_0 rfl dX10_cast_80 ?_
          refine lv_iload hx hb dX10_cast_83 (lv_at hl 5 rfl) ?_
          obtain ⟨g19, h⟩ := h_gd h
          refine r_iald hx hb C S KM_23 (h_in g19) dX10_cast_85 ?_
          refine lv_aload_n hx hb dX10_cast_86 rfl (lv_at hl 0 rfl) ?_
          refine g_getR fl_RX10_38_X10 hx hb C S KM_0 rfl dX10_cast_87 ?_
          refine lv_iload_n hx hb dX10_cast_90 rfl (lv_at hl 1 rfl) ?_
          obtain ⟨g20, h⟩ := h_gd h
          refine r_iald hx hb C S KM_10 (h_in g20) dX10_cast_91 ?_
          refine lv_icmp_ge (tgt := 99) hx hb dX10_cast_92 rfl (fun c21 => ?_) (fun c21 => ?_)
          · have h := h_t c21 h
            refine lv_iconst (v := 0) hx hb dX10_cast_99 (by decide) ?_
            refine lv_istore (lv' := [(4, .int (0 : Int32)), (0, .ref (q 0)), (1, .int l1), (2, .int l2), (3, .int l3), (5, .int l5)]) hx hb dX10_cast_100 hl (Nat.le_of_ble_eq_true rfl) rfl (fun ls hl => ?_)
            refine lv_iinc (v := (l5 + 1)) (lv' := [(5, .int (l5 + 1)), (4, .int (0 : Int32)), (0, .ref (q 0)), (1, .int l1), (2, .int l2), (3, .int l3)]) hx hb dX10_cast_102 hl (k := 5) rfl rfl (Nat.le_of_ble_eq_true rfl) rfl (fun ls hl => ?_)
            refine lv_goto (tgt := 65) hx hb dX10_cast_105 rfl ?_
            exact ih65 (0 : Int32) (l5 + 1) _ _ _ (lv_sub hl [2, 3, 4, 5, 1, 0] rfl) S h
          · have h := h_f c21 h
            refine lv_iconst (v := 1) hx hb dX10_cast_95 (by decide) ?_
            refine lv_goto (tgt := 100) hx hb dX10_cast_96 rfl ?_
            refine lv_istore (lv' := [(4, .int (1 : Int32)), (0, .ref (q 0)), (1, .int l1), (2, .int l2), (3, .int l3), (5, .int l5)]) hx hb dX10_cast_100 hl (Nat.le_of_ble_eq_true rfl) rfl (fun ls hl => ?_)
            refine lv_iinc (v := (l5 + 1)) (lv' := [(5, .int (l5 + 1)), (4, .int (1 : Int32)), (0, .ref (q 0)), (1, .int l1), (2, .int l2), (3, .int l3)]) hx hb dX10_cast_102 hl (k := 5) rfl rfl (Nat.le_of_ble_eq_true rfl) rfl (fun ls hl => ?_)
            refine lv_goto (tgt := 65) hx hb dX10_cast_105 rfl ?_
            exact ih65 (1 : Int32) (l5 + 1) _ _ _ (lv_sub hl [2, 3, 4, 5, 1, 0] rfl) S h
  have lab60 : ∀ (l1 : Int32) (l2 : Int32) (l3 : Int32) (t0 : Int32) (w : Wt) (H : Heap) (locs : List Loc) (ls : Array Slot), lv_has ls 6 [(0, .ref (q 0)), (1, .int l1), (2, .int l2), (3, .int l3)] → Sta KM D dA q A s.heap w H locs → Option.bind (m_cast_b60 l1 l2 l3 t0 w) some = some z → W p l e RM_m_cast s m args below meth c H locs 0 0 Q (F0 m 60 ls [.int t0]) := by
    intro l1 l2 l3 t0 w H locs ls hl S h
    unfold m_cast_b60 at h
    refine lv_istore (lv' := [(4, .int t0), (0, .ref (q 0)), (1, .int l1), (2, .int l2), (3, .int l3)]) hx hb dX10_cast_60 hl (Nat.le_of_ble_eq_true rfl) rfl (fun ls hl => ?_)
    refine lv_iconst (v := 0) hx hb dX10_cast_62 (by decide) ?_
    refine lv_istore (lv' := [(5, .int (0 : Int32)), (4, .int t0), (0, .ref (q 0)), (1, .int l1), (2, .int l2), (3, .int l3)]) hx hb dX10_cast_63 hl (Nat.le_of_ble_eq_true rfl) rfl (fun ls hl => ?_)
    exact loop65 l1 l2 l3 w FU t0 (0 : Int32) _ _ _ (lv_sub hl [2, 3, 4, 5, 1, 0] rfl) S (h_bb h)
  have lab59 : ∀ (l1 : Int32) (l2 : Int32) (l3 : Int32) (w : Wt) (H : Heap) (locs : List Loc) (ls : Array Slot), lv_has ls 6 [(0, .ref (q 0)), (1, .int l1), (2, .int l2), (3, .int l3)] → Sta KM D dA q A s.heap w H locs → Option.bind (m_cast_b59 l1 l2 l3 w) some = some z → W p l e RM_m_cast s m args below meth c H locs 0 0 Q (F0 m 59 ls []) := by
    intro l1 l2 l3 w H locs ls hl S h
    unfold m_cast_b59 at h
    refine lv_iconst (v := 0) hx hb dX10_cast_59 (by decide) ?_
    exact lab60 l1 l2 l3 (0 : Int32) w _ _ _ (lv_sub hl [0, 1, 2, 3] rfl) S h
  have lab25 : ∀ (l1 : Int32) (l2 : Int32) (t0 : Int32) (w : Wt) (H : Heap) (locs : List Loc) (ls : Array Slot), lv_has ls 6 [(0, .ref (q 0)), (1, .int l1), (2, .int l2)] → Sta KM D dA q A s.heap w H locs → Option.bind (m_cast_b25 l1 l2 t0 w) some = some z → W p l e RM_m_cast s m args below meth c H locs 0 0 Q (F0 m 25 ls [.int t0]) := by
    intro l1 l2 t0 w H locs ls hl S h
    unfold m_cast_b25 at h
    refine lv_istore_n (lv' := [(3, .int t0), (0, .ref (q 0)), (1, .int l1), (2, .int l2)]) hx hb dX10_cast_25 rfl hl (Nat.le_of_ble_eq_true rfl) rfl (fun ls hl => ?_)
    refine lv_iload_n hx hb dX10_cast_26 rfl (lv_at hl 0 rfl) ?_
    refine lv_if_eq (tgt := 59) hx hb dX10_cast_27 rfl (fun c22 => ?_) (fun c22 => ?_)
    · have h := h_t c22 h
      exact lab59 l1 l2 t0 w _ _ _ (lv_sub hl [1, 2, 3, 0] rfl) S h
    · have h := h_f c22 h
      refine lv_aload_n hx hb dX10_cast_30 rfl (lv_at hl 1 rfl) ?_
      refine g_getR fl_RX10_47_X10 hx hb C S KM_0 rfl dX10_cast_31 ?_
      refine lv_iload_n hx hb dX10_cast_34 rfl (lv_at hl 2 rfl) ?_
      obtain ⟨g23, h⟩ := h_gd h
      refine r_zald hx hb C S KM_13 (h_in g23) dX10_cast_35 ?_
      refine lv_if_ne (tgt := 59) hx hb dX10_cast_36 rfl (fun c24 => ?_) (fun c24 => ?_)
      · have h := h_f c24 h
        exact lab59 l1 l2 t0 w _ _ _ (lv_sub hl [1, 2, 3, 0] rfl) S h
      · have h := h_t c24 h
        refine lv_aload_n hx hb dX10_cast_39 rfl (lv_at hl 1 rfl) ?_
        refine g_get fl_RX10_163_X10 hx hb C S KM_0 rfl dX10_cast_40 ?_
        refine lv_if_le (tgt := 59) hx hb dX10_cast_43 rfl (fun c25 => ?_) (fun c25 => ?_)
        · have h := h_t c25 h
          exact lab59 l1 l2 t0 w _ _ _ (lv_sub hl [1, 2, 3, 0] rfl) S h
        · have h := h_f c25 h
          refine lv_aload_n hx hb dX10_cast_46 rfl (lv_at hl 1 rfl) ?_
          refine g_get fl_RX10_117_X10 hx hb C S KM_0 rfl dX10_cast_47 ?_
          refine lv_bipush (v := 100) hx hb dX10_cast_50 (by decide) ?_
          refine lv_icmp_ge (tgt := 59) hx hb dX10_cast_52 rfl (fun c26 => ?_) (fun c26 => ?_)
          · have h := h_t c26 h
            exact lab59 l1 l2 t0 w _ _ _ (lv_sub hl [1, 2, 3, 0] rfl) S h
          · have h := h_f c26 h
            refine lv_iconst (v := 1) hx hb dX10_cast_55 (by decide) ?_
            refine lv_goto (tgt := 60) hx hb dX10_cast_56 rfl ?_
            exact lab60 l1 l2 t0 (1 : Int32) w _ _ _ (lv_sub hl [1, 2, 3, 0] rfl) S h
  have lab24 : ∀ (l1 : Int32) (l2 : Int32) (w : Wt) (H : Heap) (locs : List Loc) (ls : Array Slot), lv_has ls 6 [(0, .ref (q 0)), (1, .int l1), (2, .int l2)] → Sta KM D dA q A s.heap w H locs → Option.bind (m_cast_b24 l1 l2 w) some = some z → W p l e RM_m_cast s m args below meth c H locs 0 0 Q (F0 m 24 ls []) := by
    intro l1 l2 w H locs ls hl S h
    unfold m_cast_b24 at h
    refine lv_iconst (v := 0) hx hb dX10_cast_24 (by decide) ?_
    exact lab25 l1 l2 (0 : Int32) w _ _ _ (lv_sub hl [0, 1, 2] rfl) S h
  intro H locs ls hl S h
  have h := h_0 h
  unfold m_cast at h
  refine lv_iload_n hx hb dX10_cast_0 rfl (lv_at hl 1 rfl) ?_
  refine lv_aload_n hx hb dX10_cast_1 rfl (lv_at hl 0 rfl) ?_
  refine g_get fl_RX10_154_X10 hx hb C S KM_0 rfl dX10_cast_2 ?_
  obtain ⟨x27, ex27, h⟩ := h_c h
  refine k_i C S (q_S (rest := []) (As := [.int a1, .int (w 0 20)]) lk_RX10_106 ev hx hb hml C S (c_m_isBelow l D dA q a1 (w 0 20) w x27 ex27 _) rfl rfl ⟨(Nat.le_of_ble_eq_true rfl), (Nat.le_of_ble_eq_true rfl)⟩ rfl hl.1 rfl (Nat.le_of_ble_eq_true rfl) dX10_cast_5 ⟨(Nat.le_of_ble_eq_true rfl), (Nat.le_of_ble_eq_true rfl)⟩) (fun H locs S => ?_)
  refine lv_if_eq (tgt := 24) hx hb dX10_cast_8 rfl (fun c28 => ?_) (fun c28 => ?_)
  · have h := h_t c28 h
    exact lab24 a1 a2 w _ _ _ (lv_sub hl [0, 1, 2] rfl) S h
  · have h := h_f c28 h
    refine lv_iload_n hx hb dX10_cast_11 rfl (lv_at hl 2 rfl) ?_
    refine lv_bipush (v := 20) hx hb dX10_cast_12 (by decide) ?_
    obtain ⟨x29, ex29, h⟩ := h_c h
    refine k_i C S (q_S (rest := []) (As := [.int a2, .int (20 : Int32)]) lk_RX10_106 ev hx hb hml C S (c_m_isBelow l D dA q a2 (20 : Int32) w x29 ex29 _) rfl rfl ⟨(Nat.le_of_ble_eq_true rfl), (Nat.le_of_ble_eq_true rfl)⟩ rfl hl.1 rfl (Nat.le_of_ble_eq_true rfl) dX10_cast_14 ⟨(Nat.le_of_ble_eq_true rfl), (Nat.le_of_ble_eq_true rfl)⟩) (fun H locs S => ?_)
    refine lv_if_eq (tgt := 24) hx hb dX10_cast_17 rfl (fun c30 => ?_) (fun c30 => ?_)
    · have h := h_t c30 h
      exact lab24 a1 a2 w _ _ _ (lv_sub hl [0, 1, 2] rfl) S h
    · have h := h_f c30 h
      refine lv_iconst (v := 1) hx hb dX10_cast_20 (by decide) ?_
      refine lv_goto (tgt := 25) hx hb dX10_cast_21 rfl ?_
      exact lab25 a1 a2 (1 : Int32) w _ _ _ (lv_sub hl [0, 1, 2] rfl) S h
theorem c_m_cast (l : Launch) (D : va_G) (dA : Nat → ClassId) (q : Nat → Nat) (a1 : Int32) (a2 : Int32) (w w' : Wt) (r : Int32) (h : m_cast a1 a2 w = some (r, w')) : Mi l EVm KM D dA q yX10_cast cX10_cast 6 (some .int) RM_m_cast [.ref (q 0), .int a1, .int a2] w r w' :=
  mk_i (by decide) rfl EVm_ok (Nat.le_of_ble_eq_true rfl) (fun p e s m args below meth c A Q ls hx hb hml C S hl fin => k_m_cast a1 a2 w (r, w') hx hb hml C (fun H locs ls r' w2 pc S h d => fin H locs ls r' w2 pc S h d) _ _ _ hl S h)
/-! BallotscriptModel.why(I)I m_why -/
def m_why (a1 : Int32) (w : Wt) : Option (Int32 × Wt) := Option.bind (m_isBelow a1 (w 0 27)) fun x1 => Option.bind (m_goes x1 (1 : Int32) (1 : Int32) w) fun x2 => (if x2.1 = (0 : Int32) then some ((0 : Int32), x2.2) else Option.bind (m_reason a1 x2.2) fun x4 => some (x4, x2.2))
def RM_m_why : Room := { frames := 3, cells := 0, slots := 0, locals := 70 }
set_option maxHeartbeats 4000000 in
set_option maxRecDepth 20000 in
theorem k_m_why (a1 : Int32) (w : Wt) (z : (Int32 × Wt)) (hx : p.tables.exec = Jvm.exec) (hb : c.code = cX10_why) (hml : c.maxLocals = 2) (C : Cx EVm KM D dA q A s m args RX10) (fin : ∀ (H : Heap) (locs : List Loc) (ls : Array Slot) (r' : Int32) (w2 : Wt) (pc : Nat) , Sta KM D dA q A s.heap w2 H locs → some (r', w2) = some z → decode cX10_why pc = .ok (.ireturn, 1) → W p l e RM_m_why s m args below meth c H locs 0 0 Q (F0 m pc ls [.int r'])) : ∀ (H : Heap) (locs : List Loc) (ls : Array Slot), lv_has ls 2 [(0, .ref (q 0)), (1, .int a1)] → Sta KM D dA q A s.heap w H locs → m_why a1 w = some z → W p l e RM_m_why s m args below meth c H locs 0 0 Q (F0 m 0 ls []) := by
  have ev : evOk EVm := EVm_ok
  intro H locs ls hl S h
  have h := h_0 h
  unfold m_why at h
  refine lv_aload_n hx hb dX10_why_0 rfl (lv_at hl 0 rfl) ?_
  refine lv_iload_n hx hb dX10_why_1 rfl (lv_at hl 1 rfl) ?_
  refine lv_aload_n hx hb dX10_why_2 rfl (lv_at hl 0 rfl) ?_
  refine g_get fl_RX10_117_X10 hx hb C S KM_0 rfl dX10_why_3 ?_
  obtain ⟨x1, ex1, h⟩ := h_c h
  refine k_i C S (q_S (rest := [.ref (q 0)]) (As := [.int a1, .int (w 0 27)]) lk_RX10_106 ev hx hb hml C S (c_m_isBelow l D dA q a1 (w 0 27) w x1 ex1 _) rfl rfl ⟨(Nat.le_of_ble_eq_true rfl), (Nat.le_of_ble_eq_true rfl)⟩ rfl hl.1 rfl (Nat.le_of_ble_eq_true rfl) dX10_why_6 ⟨(Nat.le_of_ble_eq_true rfl), (Nat.le_of_ble_eq_true rfl)⟩) (fun H locs S => ?_)
  refine lv_iconst (v := 1) hx hb dX10_why_9 (by decide) ?_
  refine lv_iconst (v := 1) hx hb dX10_why_10 (by decide) ?_
  obtain ⟨x2, ex2, h⟩ := h_c h
  refine k_i C S (q_V (rest := []) (As := [.int x1, .int (1 : Int32), .int (1 : Int32)]) lk_RX10_113 ev hx hb hml C S KM_0 rfl (c_m_goes l D dA q x1 (1 : Int32) (1 : Int32) w x2.2 x2.1 ex2 _) rfl rfl ⟨(Nat.le_of_ble_eq_true rfl), (Nat.le_of_ble_eq_true rfl)⟩ rfl hl.1 rfl (Nat.le_of_ble_eq_true rfl) dX10_why_11 ⟨(Nat.le_of_ble_eq_true rfl), (Nat.le_of_ble_eq_true rfl)⟩) (fun H locs S => ?_)
  refine lv_if_eq (tgt := 25) hx hb dX10_why_14 rfl (fun c3 => ?_) (fun c3 => ?_)
  · have h := h_t c3 h
    refine lv_iconst (v := 0) hx hb dX10_why_25 (by decide) ?_
    exact fin _ _ _ (0 : Int32) x2.2 _ S h dX10_why_26
  · have h := h_f c3 h
    refine lv_aload_n hx hb dX10_why_17 rfl (lv_at hl 0 rfl) ?_
    refine lv_iload_n hx hb dX10_why_18 rfl (lv_at hl 1 rfl) ?_
    obtain ⟨x4, ex4, h⟩ := h_c h
    refine k_i C S (q_V (rest := []) (As := [.int a1]) lk_RX10_120 ev hx hb hml C S KM_0 rfl (c_m_reason l D dA q a1 x2.2 x4 ex4 _) rfl rfl ⟨(Nat.le_of_ble_eq_true rfl), (Nat.le_of_ble_eq_true rfl)⟩ rfl hl.1 rfl (Nat.le_of_ble_eq_true rfl) dX10_why_19 ⟨(Nat.le_of_ble_eq_true rfl), (Nat.le_of_ble_eq_true rfl)⟩) (fun H locs S => ?_)
    refine lv_goto (tgt := 26) hx hb dX10_why_22 rfl ?_
    exact fin _ _ _ x4 x2.2 _ S h dX10_why_26
theorem c_m_why (l : Launch) (D : va_G) (dA : Nat → ClassId) (q : Nat → Nat) (a1 : Int32) (w w' : Wt) (r : Int32) (h : m_why a1 w = some (r, w')) : Mi l EVm KM D dA q yX10_why cX10_why 2 (some .int) RM_m_why [.ref (q 0), .int a1] w r w' :=
  mk_i (by decide) rfl EVm_ok (Nat.le_of_ble_eq_true rfl) (fun p e s m args below meth c A Q ls hx hb hml C S hl fin => k_m_why a1 w (r, w') hx hb hml C (fun H locs ls r' w2 pc S h d => fin H locs ls r' w2 pc S h d) _ _ _ hl S h)
/-! BallotscriptModel.read(II)I m_read -/
def m_read_b26 (l1 : Int32) (l2 : Int32) (t0 : Int32) (w : Wt) : Option (Int32 × Wt) := Option.bind (m_goes t0 (1 : Int32) (1 : Int32) w) fun x1 => (if x1.1 = (0 : Int32) then some ((0 : Int32), x1.2) else gd (inb l1 100) ((if (x1.2 18 (l1).toNatClampNeg) ≤ l2 then some ((-1 : Int32), x1.2) else Option.bind (m_readAt l1 l2 x1.2) fun x5 => some (x5, x1.2))))
def m_read_b25 (l1 : Int32) (l2 : Int32) (w : Wt) : Option (Int32 × Wt) := m_read_b26 l1 l2 (0 : Int32) w
def m_read (a1 : Int32) (a2 : Int32) (w : Wt) : Option (Int32 × Wt) := Option.bind (m_isBelow a1 (w 0 27)) fun x6 => (if x6 = (0 : Int32) then m_read_b25 a1 a2 w else Option.bind (m_isBelow a2 (6 : Int32)) fun x8 => (if x8 = (0 : Int32) then m_read_b25 a1 a2 w else m_read_b26 a1 a2 (1 : Int32) w))
def RM_m_read : Room := { frames := 1, cells := 0, slots := 0, locals := 23 }
set_option maxHeartbeats 4000000 in
set_option maxRecDepth 20000 in
theorem k_m_read (a1 : Int32) (a2 : Int32) (w : Wt) (z : (Int32 × Wt)) (hx : p.tables.exec = Jvm.exec) (hb : c.code = cX10_read) (hml : c.maxLocals = 3) (C : Cx EVm KM D dA q A s m args RX10) (fin : ∀ (H : Heap) (locs : List Loc) (ls : Array Slot) (r' : Int32) (w2 : Wt) (pc : Nat) , Sta KM D dA q A s.heap w2 H locs → some (r', w2) = some z → decode cX10_read pc = .ok (.ireturn, 1) → W p l e RM_m_read s m args below meth c H locs 0 0 Q (F0 m pc ls [.int r'])) : ∀ (H : Heap) (locs : List Loc) (ls : Array Slot), lv_has ls 3 [(0, .ref (q 0)), (1, .int a1), (2, .int a2)] → Sta KM D dA q A s.heap w H locs → m_read a1 a2 w = some z → W p l e RM_m_read s m args below meth c H locs 0 0 Q (F0 m 0 ls []) := by
  have ev : evOk EVm := EVm_ok
  have lab26 : ∀ (l1 : Int32) (l2 : Int32) (t0 : Int32) (w : Wt) (H : Heap) (locs : List Loc) (ls : Array Slot), lv_has ls 3 [(0, .ref (q 0)), (1, .int l1), (2, .int l2)] → Sta KM D dA q A s.heap w H locs → Option.bind (m_read_b26 l1 l2 t0 w) some = some z → W p l e RM_m_read s m args below meth c H locs 0 0 Q (F0 m 26 ls [.int t0, .ref (q 0)]) := by
    intro l1 l2 t0 w H locs ls hl S h
    unfold m_read_b26 at h
    refine lv_iconst (v := 1) hx hb dX10_read_26 (by decide) ?_
    refine lv_iconst (v := 1) hx hb dX10_read_27 (by decide) ?_
    obtain ⟨x1, ex1, h⟩ := h_c h
    refine k_i C S (q_V (rest := []) (As := [.int t0, .int (1 : Int32), .int (1 : Int32)]) lk_RX10_113 ev hx hb hml C S KM_0 rfl (c_m_goes l D dA q t0 (1 : Int32) (1 : Int32) w x1.2 x1.1 ex1 _) rfl rfl ⟨(Nat.le_of_ble_eq_true rfl), (Nat.le_of_ble_eq_true rfl)⟩ rfl hl.1 rfl (Nat.le_of_ble_eq_true rfl) dX10_read_28 ⟨(Nat.le_of_ble_eq_true rfl), (Nat.le_of_ble_eq_true rfl)⟩) (fun H locs S => ?_)
    refine lv_if_ne (tgt := 36) hx hb dX10_read_31 rfl (fun c2 => ?_) (fun c2 => ?_)
    · have h := h_f c2 h
      refine lv_iload_n hx hb dX10_read_36 rfl (lv_at hl 2 rfl) ?_
      refine lv_aload_n hx hb dX10_read_37 rfl (lv_at hl 0 rfl) ?_
      refine g_getR fl_RX10_62_X10 hx hb C S KM_0 rfl dX10_read_38 ?_
      refine lv_iload_n hx hb dX10_read_41 rfl (lv_at hl 1 rfl) ?_
      obtain ⟨g3, h⟩ := h_gd h
      refine r_iald hx hb C S KM_18 (h_in g3) dX10_read_42 ?_
      refine lv_icmp_ge (tgt := 55) hx hb dX10_read_43 rfl (fun c4 => ?_) (fun c4 => ?_)
      · have h := h_t c4 h
        refine lv_iconst (v := -1) hx hb dX10_read_55 (by decide) ?_
        exact fin _ _ _ (-1 : Int32) x1.2 _ S h dX10_read_56
      · have h := h_f c4 h
        refine lv_aload_n hx hb dX10_read_46 rfl (lv_at hl 0 rfl) ?_
        refine lv_iload_n hx hb dX10_read_47 rfl (lv_at hl 1 rfl) ?_
        refine lv_iload_n hx hb dX10_read_48 rfl (lv_at hl 2 rfl) ?_
        obtain ⟨x5, ex5, h⟩ := h_c h
        refine k_i C S (q_V (rest := []) (As := [.int l1, .int l2]) lk_RX10_166 ev hx hb hml C S KM_0 rfl (c_m_readAt l D dA q l1 l2 x1.2 x5 ex5 _) rfl rfl ⟨(Nat.le_of_ble_eq_true rfl), (Nat.le_of_ble_eq_true rfl)⟩ rfl hl.1 rfl (Nat.le_of_ble_eq_true rfl) dX10_read_49 ⟨(Nat.le_of_ble_eq_true rfl), (Nat.le_of_ble_eq_true rfl)⟩) (fun H locs S => ?_)
        refine lv_goto (tgt := 56) hx hb dX10_read_52 rfl ?_
        exact fin _ _ _ x5 x1.2 _ S h dX10_read_56
    · have h := h_t c2 h
      refine lv_iconst (v := 0) hx hb dX10_read_34 (by decide) ?_
      exact fin _ _ _ (0 : Int32) x1.2 _ S h dX10_read_35
  have lab25 : ∀ (l1 : Int32) (l2 : Int32) (w : Wt) (H : Heap) (locs : List Loc) (ls : Array Slot), lv_has ls 3 [(0, .ref (q 0)), (1, .int l1), (2, .int l2)] → Sta KM D dA q A s.heap w H locs → Option.bind (m_read_b25 l1 l2 w) some = some z → W p l e RM_m_read s m args below meth c H locs 0 0 Q (F0 m 25 ls [.ref (q 0)]) := by
    intro l1 l2 w H locs ls hl S h
    unfold m_read_b25 at h
    refine lv_iconst (v := 0) hx hb dX10_read_25 (by decide) ?_
    exact lab26 l1 l2 (0 : Int32) w _ _ _ (lv_sub hl [0, 1, 2] rfl) S h
  intro H locs ls hl S h
  have h := h_0 h
  unfold m_read at h
  refine lv_aload_n hx hb dX10_read_0 rfl (lv_at hl 0 rfl) ?_
  refine lv_iload_n hx hb dX10_read_1 rfl (lv_at hl 1 rfl) ?_
  refine lv_aload_n hx hb dX10_read_2 rfl (lv_at hl 0 rfl) ?_
  refine g_get fl_RX10_117_X10 hx hb C S KM_0 rfl dX10_read_3 ?_
  obtain ⟨x6, ex6, h⟩ := h_c h
  refine k_i C S (q_S (rest := [.ref (q 0)]) (As := [.int a1, .int (w 0 27)]) lk_RX10_106 ev hx hb hml C S (c_m_isBelow l D dA q a1 (w 0 27) w x6 ex6 _) rfl rfl ⟨(Nat.le_of_ble_eq_true rfl), (Nat.le_of_ble_eq_true rfl)⟩ rfl hl.1 rfl (Nat.le_of_ble_eq_true rfl) dX10_read_6 ⟨(Nat.le_of_ble_eq_true rfl), (Nat.le_of_ble_eq_true rfl)⟩) (fun H locs S => ?_)
  refine lv_if_eq (tgt := 25) hx hb dX10_read_9 rfl (fun c7 => ?_) (fun c7 => ?_)
  · have h := h_t c7 h
    exact lab25 a1 a2 w _ _ _ (lv_sub hl [0, 1, 2] rfl) S h
  · have h := h_f c7 h
    refine lv_iload_n hx hb dX10_read_12 rfl (lv_at hl 2 rfl) ?_
    refine lv_bipush (v := 6) hx hb dX10_read_13 (by decide) ?_
    obtain ⟨x8, ex8, h⟩ := h_c h
    refine k_i C S (q_S (rest := [.ref (q 0)]) (As := [.int a2, .int (6 : Int32)]) lk_RX10_106 ev hx hb hml C S (c_m_isBelow l D dA q a2 (6 : Int32) w x8 ex8 _) rfl rfl ⟨(Nat.le_of_ble_eq_true rfl), (Nat.le_of_ble_eq_true rfl)⟩ rfl hl.1 rfl (Nat.le_of_ble_eq_true rfl) dX10_read_15 ⟨(Nat.le_of_ble_eq_true rfl), (Nat.le_of_ble_eq_true rfl)⟩) (fun H locs S => ?_)
    refine lv_if_eq (tgt := 25) hx hb dX10_read_18 rfl (fun c9 => ?_) (fun c9 => ?_)
    · have h := h_t c9 h
      exact lab25 a1 a2 w _ _ _ (lv_sub hl [0, 1, 2] rfl) S h
    · have h := h_f c9 h
      refine lv_iconst (v := 1) hx hb dX10_read_21 (by decide) ?_
      refine lv_goto (tgt := 26) hx hb dX10_read_22 rfl ?_
      exact lab26 a1 a2 (1 : Int32) w _ _ _ (lv_sub hl [0, 1, 2] rfl) S h
theorem c_m_read (l : Launch) (D : va_G) (dA : Nat → ClassId) (q : Nat → Nat) (a1 : Int32) (a2 : Int32) (w w' : Wt) (r : Int32) (h : m_read a1 a2 w = some (r, w')) : Mi l EVm KM D dA q yX10_read cX10_read 3 (some .int) RM_m_read [.ref (q 0), .int a1, .int a2] w r w' :=
  mk_i (by decide) rfl EVm_ok (Nat.le_of_ble_eq_true rfl) (fun p e s m args below meth c A Q ls hx hb hml C S hl fin => k_m_read a1 a2 w (r, w') hx hb hml C (fun H locs ls r' w2 pc S h d => fin H locs ls r' w2 pc S h d) _ _ _ hl S h)
/-! BallotscriptModel.misread(I)V m_misread -/
def m_misread_b39 (l1 : Int32) (t0 : Int32) (t1 : Int32) (w : Wt) : Option Wt := Option.bind (m_goes t1 t0 (1 : Int32) w) fun x1 => (if x1.1 = (0 : Int32) then some x1.2 else gd (inb l1 100) (nmd (upd2 x1.2 22 (l1).toNatClampNeg (vp_nar .boolean (1 : Int32))) fun w4 => some w4))
def m_misread_b38 (l1 : Int32) (t0 : Int32) (w : Wt) : Option Wt := m_misread_b39 l1 (0 : Int32) t0 w
def m_misread (a1 : Int32) (w : Wt) : Option Wt := Option.bind (m_isBelow a1 (w 0 27)) fun x5 => (if x5 = (0 : Int32) then m_misread_b38 a1 x5 w else gd (inb a1 100) ((if (w 22 (a1).toNatClampNeg) = (0 : Int32) then gd (inb a1 100) ((if (w 18 (a1).toNatClampNeg) ≤ (1 : Int32) then m_misread_b38 a1 x5 w else m_misread_b39 a1 (1 : Int32) x5 w)) else m_misread_b38 a1 x5 w)))
def RM_m_misread : Room := { frames := 1, cells := 0, slots := 0, locals := 23 }
set_option maxHeartbeats 4000000 in
set_option maxRecDepth 20000 in
theorem k_m_misread (a1 : Int32) (w : Wt) (z : Wt) (hx : p.tables.exec = Jvm.exec) (hb : c.code = cX10_misread) (hml : c.maxLocals = 3) (C : Cx EVm KM D dA q A s m args RX10) (fin : ∀ (H : Heap) (locs : List Loc) (ls : Array Slot) (w2 : Wt) (pc : Nat) , Sta KM D dA q A s.heap w2 H locs → some w2 = some z → decode cX10_misread pc = .ok (.return_, 1) → W p l e RM_m_misread s m args below meth c H locs 0 0 Q (F0 m pc ls [])) : ∀ (H : Heap) (locs : List Loc) (ls : Array Slot), lv_has ls 3 [(0, .ref (q 0)), (1, .int a1)] → Sta KM D dA q A s.heap w H locs → m_misread a1 w = some z → W p l e RM_m_misread s m args below meth c H locs 0 0 Q (F0 m 0 ls []) := by
  have ev : evOk EVm := EVm_ok
  have lab39 : ∀ (l1 : Int32) (t0 : Int32) (t1 : Int32) (w : Wt) (H : Heap) (locs : List Loc) (ls : Array Slot), lv_has ls 3 [(0, .ref (q 0)), (1, .int l1)] → Sta KM D dA q A s.heap w H locs → Option.bind (m_misread_b39 l1 t0 t1 w) some = some z → W p l e RM_m_misread s m args below meth c H locs 0 0 Q (F0 m 39 ls [.int t0, .int t1, .ref (q 0)]) := by
    intro l1 t0 t1 w H locs ls hl S h
    unfold m_misread_b39 at h
    refine lv_iconst (v := 1) hx hb dX10_misread_39 (by decide) ?_
    obtain ⟨x1, ex1, h⟩ := h_c h
    refine k_i C S (q_V (rest := []) (As := [.int t1, .int t0, .int (1 : Int32)]) lk_RX10_113 ev hx hb hml C S KM_0 rfl (c_m_goes l D dA q t1 t0 (1 : Int32) w x1.2 x1.1 ex1 _) rfl rfl ⟨(Nat.le_of_ble_eq_true rfl), (Nat.le_of_ble_eq_true rfl)⟩ rfl hl.1 rfl (Nat.le_of_ble_eq_true rfl) dX10_misread_40 ⟨(Nat.le_of_ble_eq_true rfl), (Nat.le_of_ble_eq_true rfl)⟩) (fun H locs S => ?_)
    refine lv_if_eq (tgt := 53) hx hb dX10_misread_43 rfl (fun c2 => ?_) (fun c2 => ?_)
    · have h := h_t c2 h
      exact fin _ _ _ x1.2 _ S h dX10_misread_53
    · have h := h_f c2 h
      refine lv_aload_n hx hb dX10_misread_46 rfl (lv_at hl 0 rfl) ?_
      refine g_getR fl_RX10_74_X10 hx hb C S KM_0 rfl dX10_misread_47 ?_
      refine lv_iload_n hx hb dX10_misread_50 rfl (lv_at hl 1 rfl) ?_
      refine lv_iconst (v := 1) hx hb dX10_misread_51 (by decide) ?_
      obtain ⟨g3, h⟩ := h_gd h
      refine r_zast hx hb C S KM_22 (h_in g3) dX10_misread_52 (fun w4 ew4 H locs S => ?_)
      have h := h_l h w4 ew4
      exact fin _ _ _ w4 _ S h dX10_misread_53
  have lab38 : ∀ (l1 : Int32) (t0 : Int32) (w : Wt) (H : Heap) (locs : List Loc) (ls : Array Slot), lv_has ls 3 [(0, .ref (q 0)), (1, .int l1)] → Sta KM D dA q A s.heap w H locs → Option.bind (m_misread_b38 l1 t0 w) some = some z → W p l e RM_m_misread s m args below meth c H locs 0 0 Q (F0 m 38 ls [.int t0, .ref (q 0)]) := by
    intro l1 t0 w H locs ls hl S h
    unfold m_misread_b38 at h
    refine lv_iconst (v := 0) hx hb dX10_misread_38 (by decide) ?_
    exact lab39 l1 (0 : Int32) t0 w _ _ _ (lv_sub hl [0, 1] rfl) S h
  intro H locs ls hl S h
  have h := h_0 h
  unfold m_misread at h
  refine lv_iload_n hx hb dX10_misread_0 rfl (lv_at hl 1 rfl) ?_
  refine lv_aload_n hx hb dX10_misread_1 rfl (lv_at hl 0 rfl) ?_
  refine g_get fl_RX10_117_X10 hx hb C S KM_0 rfl dX10_misread_2 ?_
  obtain ⟨x5, ex5, h⟩ := h_c h
  refine k_i C S (q_S (rest := []) (As := [.int a1, .int (w 0 27)]) lk_RX10_106 ev hx hb hml C S (c_m_isBelow l D dA q a1 (w 0 27) w x5 ex5 _) rfl rfl ⟨(Nat.le_of_ble_eq_true rfl), (Nat.le_of_ble_eq_true rfl)⟩ rfl hl.1 rfl (Nat.le_of_ble_eq_true rfl) dX10_misread_5 ⟨(Nat.le_of_ble_eq_true rfl), (Nat.le_of_ble_eq_true rfl)⟩) (fun H locs S => ?_)
  refine lv_istore_n (lv' := [(2, .int x5), (0, .ref (q 0)), (1, .int a1)]) hx hb dX10_misread_8 rfl hl (Nat.le_of_ble_eq_true rfl) rfl (fun ls hl => ?_)
  refine lv_aload_n hx hb dX10_misread_9 rfl (lv_at hl 1 rfl) ?_
  refine lv_iload_n hx hb dX10_misread_10 rfl (lv_at hl 0 rfl) ?_
  refine lv_iload_n hx hb dX10_misread_11 rfl (lv_at hl 0 rfl) ?_
  refine lv_if_eq (tgt := 38) hx hb dX10_misread_12 rfl (fun c6 => ?_) (fun c6 => ?_)
  · have h := h_t c6 h
    exact lab38 a1 x5 w _ _ _ (lv_sub hl [1, 2] rfl) S h
  · have h := h_f c6 h
    refine lv_aload_n hx hb dX10_misread_15 rfl (lv_at hl 1 rfl) ?_
    refine g_getR fl_RX10_74_X10 hx hb C S KM_0 rfl dX10_misread_16 ?_
    refine lv_iload_n hx hb dX10_misread_19 rfl (lv_at hl 2 rfl) ?_
    obtain ⟨g7, h⟩ := h_gd h
    refine r_zald hx hb C S KM_22 (h_in g7) dX10_misread_20 ?_
    refine lv_if_ne (tgt := 38) hx hb dX10_misread_21 rfl (fun c8 => ?_) (fun c8 => ?_)
    · have h := h_f c8 h
      exact lab38 a1 x5 w _ _ _ (lv_sub hl [1, 2] rfl) S h
    · have h := h_t c8 h
      refine lv_aload_n hx hb dX10_misread_24 rfl (lv_at hl 1 rfl) ?_
      refine g_getR fl_RX10_62_X10 hx hb C S KM_0 rfl dX10_misread_25 ?_
      refine lv_iload_n hx hb dX10_misread_28 rfl (lv_at hl 2 rfl) ?_
      obtain ⟨g9, h⟩ := h_gd h
      refine r_iald hx hb C S KM_18 (h_in g9) dX10_misread_29 ?_
      refine lv_iconst (v := 1) hx hb dX10_misread_30 (by decide) ?_
      refine lv_icmp_le (tgt := 38) hx hb dX10_misread_31 rfl (fun c10 => ?_) (fun c10 => ?_)
      · have h := h_t c10 h
        exact lab38 a1 x5 w _ _ _ (lv_sub hl [1, 2] rfl) S h
      · have h := h_f c10 h
        refine lv_iconst (v := 1) hx hb dX10_misread_34 (by decide) ?_
        refine lv_goto (tgt := 39) hx hb dX10_misread_35 rfl ?_
        exact lab39 a1 (1 : Int32) x5 w _ _ _ (lv_sub hl [1, 2] rfl) S h
theorem c_m_misread (l : Launch) (D : va_G) (dA : Nat → ClassId) (q : Nat → Nat) (a1 : Int32) (w w' : Wt) (h : m_misread a1 w = some w') : Mv l EVm KM D dA q yX10_misread cX10_misread 3 none RM_m_misread [.ref (q 0), .int a1] w w' :=
  mk_v (by decide) rfl EVm_ok (Nat.le_of_ble_eq_true rfl) (fun p e s m args below meth c A Q ls hx hb hml C S hl fin => k_m_misread a1 w w' hx hb hml C (fun H locs ls w2 pc S h d => fin H locs ls w2 pc S h d) _ _ _ hl S h)
/-! BallotscriptModel.countedAt(II)I m_countedAt -/
def m_countedAt_b82 (l3 : Int32) (w : Wt) : Option Int32 := some l3
def m_countedAt_b60 (l1 : Int32) (l4 : Int32) (l5 : Int32) (l6 : Int32) (t0 : Int32) (w : Wt) : Option ((Int32 × Int32 × Int32) ⊕ Int32) := (if l6 = (0 : Int32) then nmd (l4 - (0 : Int32)) fun v2 => some (.inl (t0, v2, (l5 + 1))) else nmd (l4 - (1 : Int32)) fun v3 => some (.inl (t0, v3, (l5 + 1))))
def m_countedAt_b59 (l1 : Int32) (l3 : Int32) (l4 : Int32) (l5 : Int32) (l6 : Int32) (w : Wt) : Option ((Int32 × Int32 × Int32) ⊕ Int32) := m_countedAt_b60 l1 l4 l5 l6 l3 w
def m_countedAt_b42 (l1 : Int32) (l3 : Int32) (l4 : Int32) (l5 : Int32) (t0 : Int32) (w : Wt) : Option ((Int32 × Int32 × Int32) ⊕ Int32) := (if t0 = (0 : Int32) then m_countedAt_b59 l1 l3 l4 l5 t0 w else (if l4 = (0 : Int32) then m_countedAt_b60 l1 l4 l5 t0 l5 w else m_countedAt_b59 l1 l3 l4 l5 t0 w))
def m_countedAt_b41 (l1 : Int32) (l3 : Int32) (l4 : Int32) (l5 : Int32) (w : Wt) : Option ((Int32 × Int32 × Int32) ⊕ Int32) := m_countedAt_b42 l1 l3 l4 l5 (0 : Int32) w
def m_countedAt_L8 (l1 : Int32) (w : Wt) : (Int32 × Int32 × Int32) → Option ((Int32 × Int32 × Int32) ⊕ Int32)
  | (l3, l4, l5) => (if (w 0 27) ≤ l5 then some (.inr l3) else gd (inb l5 100) ((if (w 19 (l5).toNatClampNeg) = l1 then Option.bind (m_reason l5 w) fun x9 => (if x9 = (0 : Int32) then m_countedAt_b42 l1 l3 l4 l5 (1 : Int32) w else m_countedAt_b41 l1 l3 l4 l5 w) else m_countedAt_b41 l1 l3 l4 l5 w)))
def m_countedAt_x8 (w : Wt) : Int32 → Option Int32
  | l3 => m_countedAt_b82 l3 w
def m_countedAt (a1 : Int32) (a2 : Int32) (w : Wt) : Option Int32 := Option.bind (lp (m_countedAt_L8 a1 w) FU ((-1 : Int32), a2, (0 : Int32))) (m_countedAt_x8 w)
def RM_m_countedAt : Room := { frames := 3, cells := 0, slots := 0, locals := 70 }
set_option maxHeartbeats 4000000 in
set_option maxRecDepth 20000 in
theorem k_m_countedAt (a1 : Int32) (a2 : Int32) (w : Wt) (z : Int32) (hx : p.tables.exec = Jvm.exec) (hb : c.code = cX10_countedAt) (hml : c.maxLocals = 7) (C : Cx EVm KM D dA q A s m args RX10) (fin : ∀ (H : Heap) (locs : List Loc) (ls : Array Slot) (r' : Int32) (pc : Nat) , Sta KM D dA q A s.heap w H locs → some r' = some z → decode cX10_countedAt pc = .ok (.ireturn, 1) → W p l e RM_m_countedAt s m args below meth c H locs 0 0 Q (F0 m pc ls [.int r'])) : ∀ (H : Heap) (locs : List Loc) (ls : Array Slot), lv_has ls 7 [(0, .ref (q 0)), (1, .int a1), (2, .int a2)] → Sta KM D dA q A s.heap w H locs → m_countedAt a1 a2 w = some z → W p l e RM_m_countedAt s m args below meth c H locs 0 0 Q (F0 m 0 ls []) := by
  have ev : evOk EVm := EVm_ok
  have lab82 : ∀ (l3 : Int32) (H : Heap) (locs : List Loc) (ls : Array Slot), lv_has ls 7 [(3, .int l3)] → Sta KM D dA q A s.heap w H locs → Option.bind (m_countedAt_b82 l3 w) some = some z → W p l e RM_m_countedAt s m args below meth c H locs 0 0 Q (F0 m 82 ls []) := by
    intro l3 H locs ls hl S h
    unfold m_countedAt_b82 at h
    refine lv_iload_n hx hb dX10_countedAt_82 rfl (lv_at hl 0 rfl) ?_
    exact fin _ _ _ l3 _ S h dX10_countedAt_83
  have loop8 : ∀ (l1 : Int32) (n8 : Nat), ∀ (l3 : Int32) (l4 : Int32) (l5 : Int32) (H : Heap) (locs : List Loc) (ls : Array Slot), lv_has ls 7 [(0, .ref (q 0)), (1, .int l1), (3, .int l3), (4, .int l4), (5, .int l5)] → Sta KM D dA q A s.heap w H locs → Option.bind (lp (m_countedAt_L8 l1 w) n8 (l3, l4, l5)) (fun x9 => Option.bind (m_countedAt_x8 w x9) some) = some z → W p l e RM_m_countedAt s m args below meth c H locs 0 0 Q (F0 m 8 ls []) := by
    intro l1 n8
    induction n8 with
    | zero =>
      intro l3 l4 l5 H locs ls hl S h
      exact (h_lp0 h).elim
    | succ n8 ih8 =>
      have lab60 : ∀ (l4 : Int32) (l5 : Int32) (l6 : Int32) (t0 : Int32) (H : Heap) (locs : List Loc) (ls : Array Slot), lv_has ls 7 [(0, .ref (q 0)), (1, .int l1), (4, .int l4), (5, .int l5), (6, .int l6)] → Sta KM D dA q A s.heap w H locs → Option.bind (m_countedAt_b60 l1 l4 l5 l6 t0 w) (seqF (fun s9 => Option.bind (lp (m_countedAt_L8 l1 w) n8 s9) (fun x9 => Option.bind (m_countedAt_x8 w x9) some)) (fun x9 => Option.bind (m_countedAt_x8 w x9) some)) = some z → W p l e RM_m_countedAt s m args below meth c H locs 0 0 Q (F0 m 60 ls [.int t0]) := by
        intro l4 l5 l6 t0 H locs ls hl S h
        unfold m_countedAt_b60 at h
        refine lv_istore_n (lv' := [(3, .int t0), (0, .ref (q 0)), (1, .int l1), (4, .int l4), (5, .int l5), (6, .int l6)]) hx hb dX10_countedAt_60 rfl hl (Nat.le_of_ble_eq_true rfl) rfl (fun ls hl => ?_)
        refine lv_iload hx hb dX10_countedAt_61 (lv_at hl 3 rfl) ?_
        refine lv_iload hx hb dX10_countedAt_63 (lv_at hl 5 rfl) ?_
        refine lv_if_eq (tgt := 72) hx hb dX10_countedAt_65 rfl (fun c1 => ?_) (fun c1 => ?_)
        · have h := h_t c1 h
          refine lv_iconst (v := 0) hx hb dX10_countedAt_72 (by decide) ?_
          refine lv_isub hx hb dX10_countedAt_73 ?_
          refine lv_topi (fun v2 ev2 => ?_)
          have h := h_l h v2 ev2
          refine lv_istore (lv' := [(4, .int v2), (3, .int t0), (0, .ref (q 0)), (1, .int l1), (5, .int l5), (6, .int l6)]) hx hb dX10_countedAt_74 hl (Nat.le_of_ble_eq_true rfl) rfl (fun ls hl => ?_)
          refine lv_iinc (v := (l5 + 1)) (lv' := [(5, .int (l5 + 1)), (4, .int v2), (3, .int t0), (0, .ref (q 0)), (1, .int l1), (6, .int l6)]) hx hb dX10_countedAt_76 hl (k := 4) rfl rfl (Nat.le_of_ble_eq_true rfl) rfl (fun ls hl => ?_)
          refine lv_goto (tgt := 8) hx hb dX10_countedAt_79 rfl ?_
          exact ih8 t0 v2 (l5 + 1) _ _ _ (lv_sub hl [3, 4, 2, 1, 0] rfl) S h
        · have h := h_f c1 h
          refine lv_iconst (v := 1) hx hb dX10_countedAt_68 (by decide) ?_
          refine lv_goto (tgt := 73) hx hb dX10_countedAt_69 rfl ?_
          refine lv_isub hx hb dX10_countedAt_73 ?_
          refine lv_topi (fun v3 ev3 => ?_)
          have h := h_l h v3 ev3
          refine lv_istore (lv' := [(4, .int v3), (3, .int t0), (0, .ref (q 0)), (1, .int l1), (5, .int l5), (6, .int l6)]) hx hb dX10_countedAt_74 hl (Nat.le_of_ble_eq_true rfl) rfl (fun ls hl => ?_)
          refine lv_iinc (v := (l5 + 1)) (lv' := [(5, .int (l5 + 1)), (4, .int v3), (3, .int t0), (0, .ref (q 0)), (1, .int l1), (6, .int l6)]) hx hb dX10_countedAt_76 hl (k := 4) rfl rfl (Nat.le_of_ble_eq_true rfl) rfl (fun ls hl => ?_)
          refine lv_goto (tgt := 8) hx hb dX10_countedAt_79 rfl ?_
          exact ih8 t0 v3 (l5 + 1) _ _ _ (lv_sub hl [3, 4, 2, 1, 0] rfl) S h
      have lab59 : ∀ (l3 : Int32) (l4 : Int32) (l5 : Int32) (l6 : Int32) (H : Heap) (locs : List Loc) (ls : Array Slot), lv_has ls 7 [(0, .ref (q 0)), (1, .int l1), (3, .int l3), (4, .int l4), (5, .int l5), (6, .int l6)] → Sta KM D dA q A s.heap w H locs → Option.bind (m_countedAt_b59 l1 l3 l4 l5 l6 w) (seqF (fun s9 => Option.bind (lp (m_countedAt_L8 l1 w) n8 s9) (fun x9 => Option.bind (m_countedAt_x8 w x9) some)) (fun x9 => Option.bind (m_countedAt_x8 w x9) some)) = some z → W p l e RM_m_countedAt s m args below meth c H locs 0 0 Q (F0 m 59 ls []) := by
        intro l3 l4 l5 l6 H locs ls hl S h
        unfold m_countedAt_b59 at h
        refine lv_iload_n hx hb dX10_countedAt_59 rfl (lv_at hl 2 rfl) ?_
        exact lab60 l4 l5 l6 l3 _ _ _ (lv_sub hl [0, 1, 3, 4, 5] rfl) S h
      have lab42 : ∀ (l3 : Int32) (l4 : Int32) (l5 : Int32) (t0 : Int32) (H : Heap) (locs : List Loc) (ls : Array Slot), lv_has ls 7 [(0, .ref (q 0)), (1, .int l1), (3, .int l3), (4, .int l4), (5, .int l5)] → Sta KM D dA q A s.heap w H locs → Option.bind (m_countedAt_b42 l1 l3 l4 l5 t0 w) (seqF (fun s9 => Option.bind (lp (m_countedAt_L8 l1 w) n8 s9) (fun x9 => Option.bind (m_countedAt_x8 w x9) some)) (fun x9 => Option.bind (m_countedAt_x8 w x9) some)) = some z → W p l e RM_m_countedAt s m args below meth c H locs 0 0 Q (F0 m 42 ls [.int t0]) := by
        intro l3 l4 l5 t0 H locs ls hl S h
        unfold m_countedAt_b42 at h
        refine lv_istore (lv' := [(6, .int t0), (0, .ref (q 0)), (1, .int l1), (3, .int l3), (4, .int l4), (5, .int l5)]) hx hb dX10_countedAt_42 hl (Nat.le_of_ble_eq_true rfl) rfl (fun ls hl => ?_)
        refine lv_iload hx hb dX10_countedAt_44 (lv_at hl 0 rfl) ?_
        refine lv_if_eq (tgt := 59) hx hb dX10_countedAt_46 rfl (fun c4 => ?_) (fun c4 => ?_)
        · have h := h_t c4 h
          exact lab59 l3 l4 l5 t0 _ _ _ (lv_sub hl [1, 2, 3, 4, 5, 0] rfl) S h
        · have h := h_f c4 h
          refine lv_iload hx hb dX10_countedAt_49 (lv_at hl 4 rfl) ?_
          refine lv_if_ne (tgt := 59) hx hb dX10_countedAt_51 rfl (fun c5 => ?_) (fun c5 => ?_)
          · have h := h_f c5 h
            exact lab59 l3 l4 l5 t0 _ _ _ (lv_sub hl [1, 2, 3, 4, 5, 0] rfl) S h
          · have h := h_t c5 h
            refine lv_iload hx hb dX10_countedAt_54 (lv_at hl 5 rfl) ?_
            refine lv_goto (tgt := 60) hx hb dX10_countedAt_56 rfl ?_
            exact lab60 l4 l5 t0 l5 _ _ _ (lv_sub hl [1, 2, 4, 5, 0] rfl) S h
      have lab41 : ∀ (l3 : Int32) (l4 : Int32) (l5 : Int32) (H : Heap) (locs : List Loc) (ls : Array Slot), lv_has ls 7 [(0, .ref (q 0)), (1, .int l1), (3, .int l3), (4, .int l4), (5, .int l5)] → Sta KM D dA q A s.heap w H locs → Option.bind (m_countedAt_b41 l1 l3 l4 l5 w) (seqF (fun s9 => Option.bind (lp (m_countedAt_L8 l1 w) n8 s9) (fun x9 => Option.bind (m_countedAt_x8 w x9) some)) (fun x9 => Option.bind (m_countedAt_x8 w x9) some)) = some z → W p l e RM_m_countedAt s m args below meth c H locs 0 0 Q (F0 m 41 ls []) := by
        intro l3 l4 l5 H locs ls hl S h
        unfold m_countedAt_b41 at h
        refine lv_iconst (v := 0) hx hb dX10_countedAt_41 (by decide) ?_
        exact lab42 l3 l4 l5 (0 : Int32) _ _ _ (lv_sub hl [0, 1, 2, 3, 4] rfl) S h
      intro l3 l4 l5 H locs ls hl S h
      have h := h_lp h
      unfold m_countedAt_L8 at h
      refine lv_iload hx hb dX10_countedAt_8 (lv_at hl 4 rfl) ?_
      refine lv_aload_n hx hb dX10_countedAt_10 rfl (lv_at hl 0 rfl) ?_
      refine g_get fl_RX10_117_X10 hx hb C S KM_0 rfl dX10_countedAt_11 ?_
      refine lv_icmp_ge (tgt := 82) hx hb dX10_countedAt_14 rfl (fun c6 => ?_) (fun c6 => ?_)
      · have h := h_t c6 h
        exact lab82 l3 _ _ _ (lv_sub hl [2] rfl) S h
      · have h := h_f c6 h
        refine lv_aload_n hx hb dX10_countedAt_17 rfl (lv_at hl 0 rfl) ?_
        refine g_getR fl_RX10_65_X10 hx hb C S KM_0 rfl dX10_countedAt_18 ?_
        refine lv_iload hx hb dX10_countedAt_21 (lv_at hl 4 rfl) ?_
        obtain ⟨g7, h⟩ := h_gd h
        refine r_iald hx hb C S KM_19 (h_in g7) dX10_countedAt_23 ?_
        refine lv_iload_n hx hb dX10_countedAt_24 rfl (lv_at hl 1 rfl) ?_
        refine lv_icmp_ne (tgt := 41) hx hb dX10_countedAt_25 rfl (fun c8 => ?_) (fun c8 => ?_)
        · have h := h_f c8 h
          exact lab41 l3 l4 l5 _ _ _ (lv_sub hl [0, 1, 2, 3, 4] rfl) S h
        · have h := h_t c8 h
          refine lv_aload_n hx hb dX10_countedAt_28 rfl (lv_at hl 0 rfl) ?_
          refine lv_iload hx hb dX10_countedAt_29 (lv_at hl 4 rfl) ?_
          obtain ⟨x9, ex9, h⟩ := h_c h
          refine k_i C S (q_V (rest := []) (As := [.int l5]) lk_RX10_120 ev hx hb hml C S KM_0 rfl (c_m_reason l D dA q l5 w x9 ex9 _) rfl rfl ⟨(Nat.le_of_ble_eq_true rfl), (Nat.le_of_ble_eq_true rfl)⟩ rfl hl.1 rfl (Nat.le_of_ble_eq_true rfl) dX10_countedAt_31 ⟨(Nat.le_of_ble_eq_true rfl), (Nat.le_of_ble_eq_true rfl)⟩) (fun H locs S => ?_)
          refine lv_if_ne (tgt := 41) hx hb dX10_countedAt_34 rfl (fun c10 => ?_) (fun c10 => ?_)
          · have h := h_f c10 h
            exact lab41 l3 l4 l5 _ _ _ (lv_sub hl [0, 1, 2, 3, 4] rfl) S h
          · have h := h_t c10 h
            refine lv_iconst (v := 1) hx hb dX10_countedAt_37 (by decide) ?_
            refine lv_goto (tgt := 42) hx hb dX10_countedAt_38 rfl ?_
            exact lab42 l3 l4 l5 (1 : Int32) _ _ _ (lv_sub hl [0, 1, 2, 3, 4] rfl) S h
  intro H locs ls hl S h
  have h := h_0 h
  unfold m_countedAt at h
  refine lv_iconst (v := -1) hx hb dX10_countedAt_0 (by decide) ?_
  refine lv_istore_n (lv' := [(3, .int (-1 : Int32)), (0, .ref (q 0)), (1, .int a1), (2, .int a2)]) hx hb dX10_countedAt_1 rfl hl (Nat.le_of_ble_eq_true rfl) rfl (fun ls hl => ?_)
  refine lv_iload_n hx hb dX10_countedAt_2 rfl (lv_at hl 3 rfl) ?_
  refine lv_istore (lv' := [(4, .int a2), (3, .int (-1 : Int32)), (0, .ref (q 0)), (1, .int a1), (2, .int a2)]) hx hb dX10_countedAt_3 hl (Nat.le_of_ble_eq_true rfl) rfl (fun ls hl => ?_)
  refine lv_iconst (v := 0) hx hb dX10_countedAt_5 (by decide) ?_
  refine lv_istore (lv' := [(5, .int (0 : Int32)), (4, .int a2), (3, .int (-1 : Int32)), (0, .ref (q 0)), (1, .int a1), (2, .int a2)]) hx hb dX10_countedAt_6 hl (Nat.le_of_ble_eq_true rfl) rfl (fun ls hl => ?_)
  exact loop8 a1 FU (-1 : Int32) a2 (0 : Int32) _ _ _ (lv_sub hl [3, 4, 2, 1, 0] rfl) S (h_bb h)
theorem c_m_countedAt (l : Launch) (D : va_G) (dA : Nat → ClassId) (q : Nat → Nat) (a1 : Int32) (a2 : Int32) (w : Wt) (r : Int32) (h : m_countedAt a1 a2 w = some r) : Mi l EVm KM D dA q yX10_countedAt cX10_countedAt 7 (some .int) RM_m_countedAt [.ref (q 0), .int a1, .int a2] w r w :=
  mk_i (by decide) rfl EVm_ok (Nat.le_of_ble_eq_true rfl) (fun p e s m args below meth c A Q ls hx hb hml C S hl fin => k_m_countedAt a1 a2 w r hx hb hml C (fun H locs ls r' pc S h d => fin H locs ls r' w pc S (by rw [Option.some.inj h]) d) _ _ _ hl S h)
/-! BallotscriptModel.sample(III)I m_sample -/
def m_sample_b153 (l1 : Int32) (l3 : Int32) (l8 : Int32) (w : Wt) : Option (Int32 × Wt) := gd (inb l1 8) (gd (inb l1 8) (nmd (upd2 w 15 (l1).toNatClampNeg ((w 15 (l1).toNatClampNeg) + l3)) fun w3 => gd (inb l1 8) (gd (inb l1 8) (nmd (upd2 w3 16 (l1).toNatClampNeg ((w3 16 (l1).toNatClampNeg) + l8)) fun w6 => some (l8, w6)))))
def m_sample_b136 (l1 : Int32) (l3 : Int32) (l6 : Int32) (l7 : Int32) (l9 : Int32) (l10 : Int32) (t0 : Int32) (t1 : Int32) (w : Wt) : Option ((Int32 × Int32 × Int32 × Wt) ⊕ (Int32 × Wt)) := nmd (t1 + t0) fun v7 => gd (inb l10 100) (nmd (upd2 w 22 (l10).toNatClampNeg (vp_nar .boolean (0 : Int32))) fun w9 => some (.inl (l7, v7, (l9 + 1), w9)))
def m_sample_L86 (l1 : Int32) (l3 : Int32) (l6 : Int32) : (Int32 × Int32 × Int32 × Wt) → Option ((Int32 × Int32 × Int32 × Wt) ⊕ (Int32 × Wt))
  | (l7, l8, l9, w) => (if l3 ≤ l9 then some (.inr (l8, w)) else gd (nzb (65536 : Int32)) (nmd ((((1103 : Int32) * l7) + (12345 : Int32)) - (((1103 : Int32) * l7) + (12345 : Int32)) / (65536 : Int32) * (65536 : Int32)) fun v12 => gd (nzb l6) (Option.bind (m_countedAt l1 (v12 - v12 / l6 * l6) w) fun x14 => gd (inb x14 100) ((if (w 22 (x14).toNatClampNeg) = (0 : Int32) then m_sample_b136 l1 l3 l6 v12 l9 x14 (0 : Int32) l8 w else m_sample_b136 l1 l3 l6 v12 l9 x14 (1 : Int32) l8 w)))))
def m_sample_x86 (l1 : Int32) (l3 : Int32) : (Int32 × Wt) → Option (Int32 × Wt)
  | (l8, w) => m_sample_b153 l1 l3 l8 w
def m_sample_b69 (l1 : Int32) (l2 : Int32) (l3 : Int32) (l6 : Int32) (t0 : Int32) (t1 : Int32) (t2 : Int32) (w : Wt) : Option (Int32 × Wt) := Option.bind (m_goes t2 t1 t0 w) fun x17 => (if x17.1 = (0 : Int32) then some ((0 : Int32), x17.2) else Option.bind (lp (m_sample_L86 l1 l3 l6) FU (l2, (0 : Int32), (0 : Int32), x17.2)) (m_sample_x86 l1 l3))
def m_sample_b52 (l1 : Int32) (l2 : Int32) (l3 : Int32) (l4 : Int32) (l5 : Int32) (t0 : Int32) (w : Wt) : Option (Int32 × Wt) := (if t0 ≤ (0 : Int32) then m_sample_b69 l1 l2 l3 t0 (0 : Int32) l5 l4 w else m_sample_b69 l1 l2 l3 t0 (1 : Int32) l5 l4 w)
def m_sample_b36 (l1 : Int32) (l2 : Int32) (l3 : Int32) (l4 : Int32) (t0 : Int32) (w : Wt) : Option (Int32 × Wt) := (if l4 = (0 : Int32) then m_sample_b52 l1 l2 l3 l4 t0 (0 : Int32) w else Option.bind (m_countingIn l1 w) fun x21 => m_sample_b52 l1 l2 l3 l4 t0 x21 w)
def m_sample_b35 (l1 : Int32) (l2 : Int32) (l3 : Int32) (l4 : Int32) (w : Wt) : Option (Int32 × Wt) := m_sample_b36 l1 l2 l3 l4 (0 : Int32) w
def m_sample (a1 : Int32) (a2 : Int32) (a3 : Int32) (w : Wt) : Option (Int32 × Wt) := Option.bind (m_isBelow a1 (w 0 20)) fun x22 => Option.bind (m_isWithin a2 (0 : Int32) (9999 : Int32)) fun x23 => (if x23 = (0 : Int32) then m_sample_b35 a1 a2 a3 x22 w else Option.bind (m_isWithin a3 (1 : Int32) (20 : Int32)) fun x25 => (if x25 = (0 : Int32) then m_sample_b35 a1 a2 a3 x22 w else m_sample_b36 a1 a2 a3 x22 (1 : Int32) w))
def RM_m_sample : Room := { frames := 4, cells := 0, slots := 0, locals := 96 }
set_option maxHeartbeats 4000000 in
set_option maxRecDepth 20000 in
theorem k_m_sample (a1 : Int32) (a2 : Int32) (a3 : Int32) (w : Wt) (z : (Int32 × Wt)) (hx : p.tables.exec = Jvm.exec) (hb : c.code = cX10_sample) (hml : c.maxLocals = 11) (C : Cx EVm KM D dA q A s m args RX10) (fin : ∀ (H : Heap) (locs : List Loc) (ls : Array Slot) (r' : Int32) (w2 : Wt) (pc : Nat) , Sta KM D dA q A s.heap w2 H locs → some (r', w2) = some z → decode cX10_sample pc = .ok (.ireturn, 1) → W p l e RM_m_sample s m args below meth c H locs 0 0 Q (F0 m pc ls [.int r'])) : ∀ (H : Heap) (locs : List Loc) (ls : Array Slot), lv_has ls 11 [(0, .ref (q 0)), (1, .int a1), (2, .int a2), (3, .int a3)] → Sta KM D dA q A s.heap w H locs → m_sample a1 a2 a3 w = some z → W p l e RM_m_sample s m args below meth c H locs 0 0 Q (F0 m 0 ls []) := by
  have ev : evOk EVm := EVm_ok
  have lab153 : ∀ (l1 : Int32) (l3 : Int32) (l8 : Int32) (w : Wt) (H : Heap) (locs : List Loc) (ls : Array Slot), lv_has ls 11 [(0, .ref (q 0)), (1, .int l1), (3, .int l3), (8, .int l8)] → Sta KM D dA q A s.heap w H locs → Option.bind (m_sample_b153 l1 l3 l8 w) some = some z → W p l e RM_m_sample s m args below meth c H locs 0 0 Q (F0 m 153 ls []) := by
    intro l1 l3 l8 w H locs ls hl S h
    unfold m_sample_b153 at h
    refine lv_aload_n hx hb dX10_sample_153 rfl (lv_at hl 0 rfl) ?_
    refine g_getR fl_RX10_53_X10 hx hb C S KM_0 rfl dX10_sample_154 ?_
    refine lv_iload_n hx hb dX10_sample_157 rfl (lv_at hl 1 rfl) ?_
    refine lv_dup2_11 hx hb dX10_sample_158 rfl rfl ?_
    obtain ⟨g1, h⟩ := h_gd h
    refine r_iald hx hb C S KM_15 (h_in g1) dX10_sample_159 ?_
    refine lv_iload_n hx hb dX10_sample_160 rfl (lv_at hl 2 rfl) ?_
    refine lv_iadd hx hb dX10_sample_161 ?_
    obtain ⟨g2, h⟩ := h_gd h
    refine r_iast hx hb C S KM_15 (h_in g2) dX10_sample_162 (fun w3 ew3 H locs S => ?_)
    have h := h_l h w3 ew3
    refine lv_aload_n hx hb dX10_sample_163 rfl (lv_at hl 0 rfl) ?_
    refine g_getR fl_RX10_56_X10 hx hb C S KM_0 rfl dX10_sample_164 ?_
    refine lv_iload_n hx hb dX10_sample_167 rfl (lv_at hl 1 rfl) ?_
    refine lv_dup2_11 hx hb dX10_sample_168 rfl rfl ?_
    obtain ⟨g4, h⟩ := h_gd h
    refine r_iald hx hb C S KM_16 (h_in g4) dX10_sample_169 ?_
    refine lv_iload hx hb dX10_sample_170 (lv_at hl 3 rfl) ?_
    refine lv_iadd hx hb dX10_sample_172 ?_
    obtain ⟨g5, h⟩ := h_gd h
    refine r_iast hx hb C S KM_16 (h_in g5) dX10_sample_173 (fun w6 ew6 H locs S => ?_)
    have h := h_l h w6 ew6
    refine lv_iload hx hb dX10_sample_174 (lv_at hl 3 rfl) ?_
    exact fin _ _ _ l8 w6 _ S h dX10_sample_176
  have loop86 : ∀ (l1 : Int32) (l3 : Int32) (l6 : Int32) (n86 : Nat), ∀ (l7 : Int32) (l8 : Int32) (l9 : Int32) (w : Wt) (H : Heap) (locs : List Loc) (ls : Array Slot), lv_has ls 11 [(0, .ref (q 0)), (1, .int l1), (3, .int l3), (6, .int l6), (7, .int l7), (8, .int l8), (9, .int l9)] → Sta KM D dA q A s.heap w H locs → Option.bind (lp (m_sample_L86 l1 l3 l6) n86 (l7, l8, l9, w)) (fun x9 => Option.bind (m_sample_x86 l1 l3 x9) some) = some z → W p l e RM_m_sample s m args below meth c H locs 0 0 Q (F0 m 86 ls []) := by
    intro l1 l3 l6 n86
    induction n86 with
    | zero =>
      intro l7 l8 l9 w H locs ls hl S h
      exact (h_lp0 h).elim
    | succ n86 ih86 =>
      have lab136 : ∀ (l7 : Int32) (l9 : Int32) (l10 : Int32) (t0 : Int32) (t1 : Int32) (w : Wt) (H : Heap) (locs : List Loc) (ls : Array Slot), lv_has ls 11 [(0, .ref (q 0)), (1, .int l1), (3, .int l3), (6, .int l6), (7, .int l7), (9, .int l9), (10, .int l10)] → Sta KM D dA q A s.heap w H locs → Option.bind (m_sample_b136 l1 l3 l6 l7 l9 l10 t0 t1 w) (seqF (fun s9 => Option.bind (lp (m_sample_L86 l1 l3 l6) n86 s9) (fun x9 => Option.bind (m_sample_x86 l1 l3 x9) some)) (fun x9 => Option.bind (m_sample_x86 l1 l3 x9) some)) = some z → W p l e RM_m_sample s m args below meth c H locs 0 0 Q (F0 m 136 ls [.int t0, .int t1]) := by
        intro l7 l9 l10 t0 t1 w H locs ls hl S h
        unfold m_sample_b136 at h
        refine lv_iadd hx hb dX10_sample_136 ?_
        refine lv_topi (fun v7 ev7 => ?_)
        have h := h_l h v7 ev7
        refine lv_istore (lv' := [(8, .int v7), (0, .ref (q 0)), (1, .int l1), (3, .int l3), (6, .int l6), (7, .int l7), (9, .int l9), (10, .int l10)]) hx hb dX10_sample_137 hl (Nat.le_of_ble_eq_true rfl) rfl (fun ls hl => ?_)
        refine lv_aload_n hx hb dX10_sample_139 rfl (lv_at hl 1 rfl) ?_
        refine g_getR fl_RX10_74_X10 hx hb C S KM_0 rfl dX10_sample_140 ?_
        refine lv_iload hx hb dX10_sample_143 (lv_at hl 7 rfl) ?_
        refine lv_iconst (v := 0) hx hb dX10_sample_145 (by decide) ?_
        obtain ⟨g8, h⟩ := h_gd h
        refine r_zast hx hb C S KM_22 (h_in g8) dX10_sample_146 (fun w9 ew9 H locs S => ?_)
        have h := h_l h w9 ew9
        refine lv_iinc (v := (l9 + 1)) (lv' := [(9, .int (l9 + 1)), (8, .int v7), (0, .ref (q 0)), (1, .int l1), (3, .int l3), (6, .int l6), (7, .int l7), (10, .int l10)]) hx hb dX10_sample_147 hl (k := 6) rfl rfl (Nat.le_of_ble_eq_true rfl) rfl (fun ls hl => ?_)
        refine lv_goto (tgt := 86) hx hb dX10_sample_150 rfl ?_
        exact ih86 l7 v7 (l9 + 1) w9 _ _ _ (lv_sub hl [2, 3, 4, 5, 6, 1, 0] rfl) S h
      intro l7 l8 l9 w H locs ls hl S h
      have h := h_lp h
      unfold m_sample_L86 at h
      refine lv_iload hx hb dX10_sample_86 (lv_at hl 6 rfl) ?_
      refine lv_iload_n hx hb dX10_sample_88 rfl (lv_at hl 2 rfl) ?_
      refine lv_icmp_ge (tgt := 153) hx hb dX10_sample_89 rfl (fun c10 => ?_) (fun c10 => ?_)
      · have h := h_t c10 h
        exact lab153 l1 l3 l8 w _ _ _ (lv_sub hl [0, 1, 2, 5] rfl) S h
      · have h := h_f c10 h
        refine lv_sipush (v := 1103) hx hb dX10_sample_92 (by decide) ?_
        refine lv_iload hx hb dX10_sample_95 (lv_at hl 4 rfl) ?_
        refine lv_imul hx hb dX10_sample_97 ?_
        refine lv_sipush (v := 12345) hx hb dX10_sample_98 (by decide) ?_
        refine lv_iadd hx hb dX10_sample_101 ?_
        refine lv_ldc hx hb C.1 (C.2.1 _ cw_RX10_170) dX10_sample_102 ?_
        obtain ⟨g11, h⟩ := h_gd h
        refine lv_irem hx hb dX10_sample_104 (nz_of g11) ?_
        refine lv_topi (fun v12 ev12 => ?_)
        have h := h_l h v12 ev12
        refine lv_istore (lv' := [(7, .int v12), (0, .ref (q 0)), (1, .int l1), (3, .int l3), (6, .int l6), (8, .int l8), (9, .int l9)]) hx hb dX10_sample_105 hl (Nat.le_of_ble_eq_true rfl) rfl (fun ls hl => ?_)
        refine lv_aload_n hx hb dX10_sample_107 rfl (lv_at hl 1 rfl) ?_
        refine lv_iload_n hx hb dX10_sample_108 rfl (lv_at hl 2 rfl) ?_
        refine lv_iload hx hb dX10_sample_109 (lv_at hl 0 rfl) ?_
        refine lv_iload hx hb dX10_sample_111 (lv_at hl 4 rfl) ?_
        obtain ⟨g13, h⟩ := h_gd h
        refine lv_irem hx hb dX10_sample_113 (nz_of g13) ?_
        obtain ⟨x14, ex14, h⟩ := h_c h
        refine k_i C S (q_V (rest := []) (As := [.int l1, .int (v12 - v12 / l6 * l6)]) lk_RX10_171 ev hx hb hml C S KM_0 rfl (c_m_countedAt l D dA q l1 (v12 - v12 / l6 * l6) w x14 ex14 _) rfl rfl ⟨(Nat.le_of_ble_eq_true rfl), (Nat.le_of_ble_eq_true rfl)⟩ rfl hl.1 rfl (Nat.le_of_ble_eq_true rfl) dX10_sample_114 ⟨(Nat.le_of_ble_eq_true rfl), (Nat.le_of_ble_eq_true rfl)⟩) (fun H locs S => ?_)
        refine lv_istore (lv' := [(10, .int x14), (7, .int v12), (0, .ref (q 0)), (1, .int l1), (3, .int l3), (6, .int l6), (8, .int l8), (9, .int l9)]) hx hb dX10_sample_117 hl (Nat.le_of_ble_eq_true rfl) rfl (fun ls hl => ?_)
        refine lv_iload hx hb dX10_sample_119 (lv_at hl 6 rfl) ?_
        refine lv_aload_n hx hb dX10_sample_121 rfl (lv_at hl 2 rfl) ?_
        refine g_getR fl_RX10_74_X10 hx hb C S KM_0 rfl dX10_sample_122 ?_
        refine lv_iload hx hb dX10_sample_125 (lv_at hl 0 rfl) ?_
        obtain ⟨g15, h⟩ := h_gd h
        refine r_zald hx hb C S KM_22 (h_in g15) dX10_sample_127 ?_
        refine lv_if_eq (tgt := 135) hx hb dX10_sample_128 rfl (fun c16 => ?_) (fun c16 => ?_)
        · have h := h_t c16 h
          refine lv_iconst (v := 0) hx hb dX10_sample_135 (by decide) ?_
          exact lab136 v12 l9 x14 (0 : Int32) l8 w _ _ _ (lv_sub hl [2, 3, 4, 5, 1, 7, 0] rfl) S h
        · have h := h_f c16 h
          refine lv_iconst (v := 1) hx hb dX10_sample_131 (by decide) ?_
          refine lv_goto (tgt := 136) hx hb dX10_sample_132 rfl ?_
          exact lab136 v12 l9 x14 (1 : Int32) l8 w _ _ _ (lv_sub hl [2, 3, 4, 5, 1, 7, 0] rfl) S h
  have lab69 : ∀ (l1 : Int32) (l2 : Int32) (l3 : Int32) (l6 : Int32) (t0 : Int32) (t1 : Int32) (t2 : Int32) (w : Wt) (H : Heap) (locs : List Loc) (ls : Array Slot), lv_has ls 11 [(0, .ref (q 0)), (1, .int l1), (2, .int l2), (3, .int l3), (6, .int l6)] → Sta KM D dA q A s.heap w H locs → Option.bind (m_sample_b69 l1 l2 l3 l6 t0 t1 t2 w) some = some z → W p l e RM_m_sample s m args below meth c H locs 0 0 Q (F0 m 69 ls [.int t0, .int t1, .int t2, .ref (q 0)]) := by
    intro l1 l2 l3 l6 t0 t1 t2 w H locs ls hl S h
    unfold m_sample_b69 at h
    obtain ⟨x17, ex17, h⟩ := h_c h
    refine k_i C S (q_V (rest := []) (As := [.int t2, .int t1, .int t0]) lk_RX10_113 ev hx hb hml C S KM_0 rfl (c_m_goes l D dA q t2 t1 t0 w x17.2 x17.1 ex17 _) rfl rfl ⟨(Nat.le_of_ble_eq_true rfl), (Nat.le_of_ble_eq_true rfl)⟩ rfl hl.1 rfl (Nat.le_of_ble_eq_true rfl) dX10_sample_69 ⟨(Nat.le_of_ble_eq_true rfl), (Nat.le_of_ble_eq_true rfl)⟩) (fun H locs S => ?_)
    refine lv_if_ne (tgt := 77) hx hb dX10_sample_72 rfl (fun c18 => ?_) (fun c18 => ?_)
    · have h := h_f c18 h
      refine lv_iload_n hx hb dX10_sample_77 rfl (lv_at hl 2 rfl) ?_
      refine lv_istore (lv' := [(7, .int l2), (0, .ref (q 0)), (1, .int l1), (2, .int l2), (3, .int l3), (6, .int l6)]) hx hb dX10_sample_78 hl (Nat.le_of_ble_eq_true rfl) rfl (fun ls hl => ?_)
      refine lv_iconst (v := 0) hx hb dX10_sample_80 (by decide) ?_
      refine lv_istore (lv' := [(8, .int (0 : Int32)), (7, .int l2), (0, .ref (q 0)), (1, .int l1), (2, .int l2), (3, .int l3), (6, .int l6)]) hx hb dX10_sample_81 hl (Nat.le_of_ble_eq_true rfl) rfl (fun ls hl => ?_)
      refine lv_iconst (v := 0) hx hb dX10_sample_83 (by decide) ?_
      refine lv_istore (lv' := [(9, .int (0 : Int32)), (8, .int (0 : Int32)), (7, .int l2), (0, .ref (q 0)), (1, .int l1), (2, .int l2), (3, .int l3), (6, .int l6)]) hx hb dX10_sample_84 hl (Nat.le_of_ble_eq_true rfl) rfl (fun ls hl => ?_)
      exact loop86 l1 l3 l6 FU l2 (0 : Int32) (0 : Int32) x17.2 _ _ _ (lv_sub hl [3, 4, 6, 7, 2, 1, 0] rfl) S (h_bb h)
    · have h := h_t c18 h
      refine lv_iconst (v := 0) hx hb dX10_sample_75 (by decide) ?_
      exact fin _ _ _ (0 : Int32) x17.2 _ S h dX10_sample_76
  have lab52 : ∀ (l1 : Int32) (l2 : Int32) (l3 : Int32) (l4 : Int32) (l5 : Int32) (t0 : Int32) (w : Wt) (H : Heap) (locs : List Loc) (ls : Array Slot), lv_has ls 11 [(0, .ref (q 0)), (1, .int l1), (2, .int l2), (3, .int l3), (4, .int l4), (5, .int l5)] → Sta KM D dA q A s.heap w H locs → Option.bind (m_sample_b52 l1 l2 l3 l4 l5 t0 w) some = some z → W p l e RM_m_sample s m args below meth c H locs 0 0 Q (F0 m 52 ls [.int t0]) := by
    intro l1 l2 l3 l4 l5 t0 w H locs ls hl S h
    unfold m_sample_b52 at h
    refine lv_istore (lv' := [(6, .int t0), (0, .ref (q 0)), (1, .int l1), (2, .int l2), (3, .int l3), (4, .int l4), (5, .int l5)]) hx hb dX10_sample_52 hl (Nat.le_of_ble_eq_true rfl) rfl (fun ls hl => ?_)
    refine lv_aload_n hx hb dX10_sample_54 rfl (lv_at hl 1 rfl) ?_
    refine lv_iload hx hb dX10_sample_55 (lv_at hl 5 rfl) ?_
    refine lv_iload hx hb dX10_sample_57 (lv_at hl 6 rfl) ?_
    refine lv_iload hx hb dX10_sample_59 (lv_at hl 0 rfl) ?_
    refine lv_if_le (tgt := 68) hx hb dX10_sample_61 rfl (fun c19 => ?_) (fun c19 => ?_)
    · have h := h_t c19 h
      refine lv_iconst (v := 0) hx hb dX10_sample_68 (by decide) ?_
      exact lab69 l1 l2 l3 t0 (0 : Int32) l5 l4 w _ _ _ (lv_sub hl [1, 2, 3, 4, 0] rfl) S h
    · have h := h_f c19 h
      refine lv_iconst (v := 1) hx hb dX10_sample_64 (by decide) ?_
      refine lv_goto (tgt := 69) hx hb dX10_sample_65 rfl ?_
      exact lab69 l1 l2 l3 t0 (1 : Int32) l5 l4 w _ _ _ (lv_sub hl [1, 2, 3, 4, 0] rfl) S h
  have lab36 : ∀ (l1 : Int32) (l2 : Int32) (l3 : Int32) (l4 : Int32) (t0 : Int32) (w : Wt) (H : Heap) (locs : List Loc) (ls : Array Slot), lv_has ls 11 [(0, .ref (q 0)), (1, .int l1), (2, .int l2), (3, .int l3), (4, .int l4)] → Sta KM D dA q A s.heap w H locs → Option.bind (m_sample_b36 l1 l2 l3 l4 t0 w) some = some z → W p l e RM_m_sample s m args below meth c H locs 0 0 Q (F0 m 36 ls [.int t0]) := by
    intro l1 l2 l3 l4 t0 w H locs ls hl S h
    unfold m_sample_b36 at h
    refine lv_istore (lv' := [(5, .int t0), (0, .ref (q 0)), (1, .int l1), (2, .int l2), (3, .int l3), (4, .int l4)]) hx hb dX10_sample_36 hl (Nat.le_of_ble_eq_true rfl) rfl (fun ls hl => ?_)
    refine lv_iload hx hb dX10_sample_38 (lv_at hl 5 rfl) ?_
    refine lv_if_eq (tgt := 51) hx hb dX10_sample_40 rfl (fun c20 => ?_) (fun c20 => ?_)
    · have h := h_t c20 h
      refine lv_iconst (v := 0) hx hb dX10_sample_51 (by decide) ?_
      exact lab52 l1 l2 l3 l4 t0 (0 : Int32) w _ _ _ (lv_sub hl [1, 2, 3, 4, 5, 0] rfl) S h
    · have h := h_f c20 h
      refine lv_aload_n hx hb dX10_sample_43 rfl (lv_at hl 1 rfl) ?_
      refine lv_iload_n hx hb dX10_sample_44 rfl (lv_at hl 2 rfl) ?_
      obtain ⟨x21, ex21, h⟩ := h_c h
      refine k_i C S (q_V (rest := []) (As := [.int l1]) lk_RX10_160 ev hx hb hml C S KM_0 rfl (c_m_countingIn l D dA q l1 w x21 ex21 _) rfl rfl ⟨(Nat.le_of_ble_eq_true rfl), (Nat.le_of_ble_eq_true rfl)⟩ rfl hl.1 rfl (Nat.le_of_ble_eq_true rfl) dX10_sample_45 ⟨(Nat.le_of_ble_eq_true rfl), (Nat.le_of_ble_eq_true rfl)⟩) (fun H locs S => ?_)
      refine lv_goto (tgt := 52) hx hb dX10_sample_48 rfl ?_
      exact lab52 l1 l2 l3 l4 t0 x21 w _ _ _ (lv_sub hl [1, 2, 3, 4, 5, 0] rfl) S h
  have lab35 : ∀ (l1 : Int32) (l2 : Int32) (l3 : Int32) (l4 : Int32) (w : Wt) (H : Heap) (locs : List Loc) (ls : Array Slot), lv_has ls 11 [(0, .ref (q 0)), (1, .int l1), (2, .int l2), (3, .int l3), (4, .int l4)] → Sta KM D dA q A s.heap w H locs → Option.bind (m_sample_b35 l1 l2 l3 l4 w) some = some z → W p l e RM_m_sample s m args below meth c H locs 0 0 Q (F0 m 35 ls []) := by
    intro l1 l2 l3 l4 w H locs ls hl S h
    unfold m_sample_b35 at h
    refine lv_iconst (v := 0) hx hb dX10_sample_35 (by decide) ?_
    exact lab36 l1 l2 l3 l4 (0 : Int32) w _ _ _ (lv_sub hl [0, 1, 2, 3, 4] rfl) S h
  intro H locs ls hl S h
  have h := h_0 h
  unfold m_sample at h
  refine lv_iload_n hx hb dX10_sample_0 rfl (lv_at hl 1 rfl) ?_
  refine lv_aload_n hx hb dX10_sample_1 rfl (lv_at hl 0 rfl) ?_
  refine g_get fl_RX10_154_X10 hx hb C S KM_0 rfl dX10_sample_2 ?_
  obtain ⟨x22, ex22, h⟩ := h_c h
  refine k_i C S (q_S (rest := []) (As := [.int a1, .int (w 0 20)]) lk_RX10_106 ev hx hb hml C S (c_m_isBelow l D dA q a1 (w 0 20) w x22 ex22 _) rfl rfl ⟨(Nat.le_of_ble_eq_true rfl), (Nat.le_of_ble_eq_true rfl)⟩ rfl hl.1 rfl (Nat.le_of_ble_eq_true rfl) dX10_sample_5 ⟨(Nat.le_of_ble_eq_true rfl), (Nat.le_of_ble_eq_true rfl)⟩) (fun H locs S => ?_)
  refine lv_istore (lv' := [(4, .int x22), (0, .ref (q 0)), (1, .int a1), (2, .int a2), (3, .int a3)]) hx hb dX10_sample_8 hl (Nat.le_of_ble_eq_true rfl) rfl (fun ls hl => ?_)
  refine lv_iload_n hx hb dX10_sample_10 rfl (lv_at hl 3 rfl) ?_
  refine lv_iconst (v := 0) hx hb dX10_sample_11 (by decide) ?_
  refine lv_sipush (v := 9999) hx hb dX10_sample_12 (by decide) ?_
  obtain ⟨x23, ex23, h⟩ := h_c h
  refine k_i C S (q_S (rest := []) (As := [.int a2, .int (0 : Int32), .int (9999 : Int32)]) lk_RX10_102 ev hx hb hml C S (c_m_isWithin l D dA q a2 (0 : Int32) (9999 : Int32) w x23 ex23 _) rfl rfl ⟨(Nat.le_of_ble_eq_true rfl), (Nat.le_of_ble_eq_true rfl)⟩ rfl hl.1 rfl (Nat.le_of_ble_eq_true rfl) dX10_sample_15 ⟨(Nat.le_of_ble_eq_true rfl), (Nat.le_of_ble_eq_true rfl)⟩) (fun H locs S => ?_)
  refine lv_if_eq (tgt := 35) hx hb dX10_sample_18 rfl (fun c24 => ?_) (fun c24 => ?_)
  · have h := h_t c24 h
    exact lab35 a1 a2 a3 x22 w _ _ _ (lv_sub hl [1, 2, 3, 4, 0] rfl) S h
  · have h := h_f c24 h
    refine lv_iload_n hx hb dX10_sample_21 rfl (lv_at hl 4 rfl) ?_
    refine lv_iconst (v := 1) hx hb dX10_sample_22 (by decide) ?_
    refine lv_bipush (v := 20) hx hb dX10_sample_23 (by decide) ?_
    obtain ⟨x25, ex25, h⟩ := h_c h
    refine k_i C S (q_S (rest := []) (As := [.int a3, .int (1 : Int32), .int (20 : Int32)]) lk_RX10_102 ev hx hb hml C S (c_m_isWithin l D dA q a3 (1 : Int32) (20 : Int32) w x25 ex25 _) rfl rfl ⟨(Nat.le_of_ble_eq_true rfl), (Nat.le_of_ble_eq_true rfl)⟩ rfl hl.1 rfl (Nat.le_of_ble_eq_true rfl) dX10_sample_25 ⟨(Nat.le_of_ble_eq_true rfl), (Nat.le_of_ble_eq_true rfl)⟩) (fun H locs S => ?_)
    refine lv_if_eq (tgt := 35) hx hb dX10_sample_28 rfl (fun c26 => ?_) (fun c26 => ?_)
    · have h := h_t c26 h
      exact lab35 a1 a2 a3 x22 w _ _ _ (lv_sub hl [1, 2, 3, 4, 0] rfl) S h
    · have h := h_f c26 h
      refine lv_iconst (v := 1) hx hb dX10_sample_31 (by decide) ?_
      refine lv_goto (tgt := 36) hx hb dX10_sample_32 rfl ?_
      exact lab36 a1 a2 a3 x22 (1 : Int32) w _ _ _ (lv_sub hl [1, 2, 3, 4, 0] rfl) S h
theorem c_m_sample (l : Launch) (D : va_G) (dA : Nat → ClassId) (q : Nat → Nat) (a1 : Int32) (a2 : Int32) (a3 : Int32) (w w' : Wt) (r : Int32) (h : m_sample a1 a2 a3 w = some (r, w')) : Mi l EVm KM D dA q yX10_sample cX10_sample 11 (some .int) RM_m_sample [.ref (q 0), .int a1, .int a2, .int a3] w r w' :=
  mk_i (by decide) rfl EVm_ok (Nat.le_of_ble_eq_true rfl) (fun p e s m args below meth c A Q ls hx hb hml C S hl fin => k_m_sample a1 a2 a3 w (r, w') hx hb hml C (fun H locs ls r' w2 pc S h d => fin H locs ls r' w2 pc S h d) _ _ _ hl S h)
end WALKS

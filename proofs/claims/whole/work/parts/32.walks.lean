section WALKS
variable {p : Program} {l : Launch} {e : Env} {s : State} {m : MethodId} {args : Array Value} {below : List Frame} {meth : Method} {c : Code} {Q : State → Prop} {D : va_G} {dA : Nat → ClassId} {q : Nat → Nat} {A : Nat → Prop}
/-! BallotscriptModel.type(C)I m_type -/
def m_type_b59 (l1 : Int32) (t0 : Int32) (t1 : Int32) (w : Wt) : Option (Int32 × Wt) := Option.bind (m_goes t1 t0 (1 : Int32) w) fun x1 => (if x1.1 = (0 : Int32) then some ((0 : Int32), x1.2) else gd (inb (x1.2 0 8) 24) (nmd (upd2 x1.2 6 ((x1.2 0 8)).toNatClampNeg l1) fun w4 => nmd (upd2 w4 0 8 ((w4 0 8) + (1 : Int32))) fun w5 => some ((w5 0 8), w5)))
def m_type_b42 (l1 : Int32) (t0 : Int32) (w : Wt) : Option (Int32 × Wt) := (if (24 : Int32) ≤ (w 0 8) then m_type_b59 l1 (0 : Int32) t0 w else m_type_b59 l1 (1 : Int32) t0 w)
def m_type_b37 (l1 : Int32) (w : Wt) : Option (Int32 × Wt) := m_type_b42 l1 (1 : Int32) w
def m_type_b12 (l1 : Int32) (w : Wt) : Option (Int32 × Wt) := Option.bind (m_isFigure l1) fun x7 => (if x7 = (0 : Int32) then (if l1 = (59 : Int32) then m_type_b37 l1 w else (if l1 = (40 : Int32) then m_type_b37 l1 w else (if l1 = (41 : Int32) then m_type_b37 l1 w else m_type_b42 l1 (0 : Int32) w))) else m_type_b37 l1 w)
def m_type (a1 : Int32) (w : Wt) : Option (Int32 × Wt) := (if a1 < (97 : Int32) then m_type_b12 a1 w else (if a1 ≤ (122 : Int32) then m_type_b37 a1 w else m_type_b12 a1 w))
def RM_m_type : Room := { frames := 1, cells := 0, slots := 0, locals := 23 }
set_option maxHeartbeats 4000000 in
set_option maxRecDepth 20000 in
theorem k_m_type (a1 : Int32) (w : Wt) (z : (Int32 × Wt)) (hx : p.tables.exec = Jvm.exec) (hb : c.code = cX10_type) (hml : c.maxLocals = 3) (C : Cx EVm KM D dA q A s m args RX10) (fin : ∀ (H : Heap) (locs : List Loc) (ls : Array Slot) (r' : Int32) (w2 : Wt) (pc : Nat) , Sta KM D dA q A s.heap w2 H locs → some (r', w2) = some z → decode cX10_type pc = .ok (.ireturn, 1) → W p l e RM_m_type s m args below meth c H locs 0 0 Q (F0 m pc ls [.int r'])) : ∀ (H : Heap) (locs : List Loc) (ls : Array Slot), lv_has ls 3 [(0, .ref (q 0)), (1, .int a1)] → Sta KM D dA q A s.heap w H locs → m_type a1 w = some z → W p l e RM_m_type s m args below meth c H locs 0 0 Q (F0 m 0 ls []) := by
  have ev : evOk EVm := EVm_ok
  have lab59 : ∀ (l1 : Int32) (t0 : Int32) (t1 : Int32) (w : Wt) (H : Heap) (locs : List Loc) (ls : Array Slot), lv_has ls 3 [(0, .ref (q 0)), (1, .int l1)] → Sta KM D dA q A s.heap w H locs → Option.bind (m_type_b59 l1 t0 t1 w) some = some z → W p l e RM_m_type s m args below meth c H locs 0 0 Q (F0 m 59 ls [.int t0, .int t1, .ref (q 0)]) := by
    intro l1 t0 t1 w H locs ls hl S h
    unfold m_type_b59 at h
    refine lv_iconst (v := 1) hx hb dX10_type_59 (by decide) ?_
    obtain ⟨x1, ex1, h⟩ := h_c h
    refine k_i C S (q_V (rest := []) (As := [.int t1, .int t0, .int (1 : Int32)]) lk_RX10_113 ev hx hb hml C S KM_0 rfl (c_m_goes l D dA q t1 t0 (1 : Int32) w x1.2 x1.1 ex1 _) rfl rfl ⟨(Nat.le_of_ble_eq_true rfl), (Nat.le_of_ble_eq_true rfl)⟩ rfl hl.1 rfl (Nat.le_of_ble_eq_true rfl) dX10_type_60 ⟨(Nat.le_of_ble_eq_true rfl), (Nat.le_of_ble_eq_true rfl)⟩) (fun H locs S => ?_)
    refine lv_if_ne (tgt := 68) hx hb dX10_type_63 rfl (fun c2 => ?_) (fun c2 => ?_)
    · have h := h_f c2 h
      refine lv_aload_n hx hb dX10_type_68 rfl (lv_at hl 0 rfl) ?_
      refine g_getR fl_RX10_26_X10 hx hb C S KM_0 rfl dX10_type_69 ?_
      refine lv_aload_n hx hb dX10_type_72 rfl (lv_at hl 0 rfl) ?_
      refine g_get fl_RX10_138_X10 hx hb C S KM_0 rfl dX10_type_73 ?_
      refine lv_iload_n hx hb dX10_type_76 rfl (lv_at hl 1 rfl) ?_
      obtain ⟨g3, h⟩ := h_gd h
      refine r_iast hx hb C S KM_6 (h_in g3) dX10_type_77 (fun w4 ew4 H locs S => ?_)
      have h := h_l h w4 ew4
      refine lv_aload_n hx hb dX10_type_78 rfl (lv_at hl 0 rfl) ?_
      refine lv_dup hx hb dX10_type_79 rfl ?_
      refine g_get fl_RX10_138_X10 hx hb C S KM_0 rfl dX10_type_80 ?_
      refine lv_iconst (v := 1) hx hb dX10_type_83 (by decide) ?_
      refine lv_iadd hx hb dX10_type_84 ?_
      refine g_put fl_RX10_138_X10 pl_X10_8 hx hb C S KM_0 rfl ⟨rfl, rfl⟩ dX10_type_85 (fun w5 ew5 H locs S => ?_)
      have h := h_l h w5 ew5
      refine lv_aload_n hx hb dX10_type_88 rfl (lv_at hl 0 rfl) ?_
      refine g_get fl_RX10_138_X10 hx hb C S KM_0 rfl dX10_type_89 ?_
      exact fin _ _ _ (w5 0 8) w5 _ S h dX10_type_92
    · have h := h_t c2 h
      refine lv_iconst (v := 0) hx hb dX10_type_66 (by decide) ?_
      exact fin _ _ _ (0 : Int32) x1.2 _ S h dX10_type_67
  have lab42 : ∀ (l1 : Int32) (t0 : Int32) (w : Wt) (H : Heap) (locs : List Loc) (ls : Array Slot), lv_has ls 3 [(0, .ref (q 0)), (1, .int l1)] → Sta KM D dA q A s.heap w H locs → Option.bind (m_type_b42 l1 t0 w) some = some z → W p l e RM_m_type s m args below meth c H locs 0 0 Q (F0 m 42 ls [.int t0]) := by
    intro l1 t0 w H locs ls hl S h
    unfold m_type_b42 at h
    refine lv_istore_n (lv' := [(2, .int t0), (0, .ref (q 0)), (1, .int l1)]) hx hb dX10_type_42 rfl hl (Nat.le_of_ble_eq_true rfl) rfl (fun ls hl => ?_)
    refine lv_aload_n hx hb dX10_type_43 rfl (lv_at hl 1 rfl) ?_
    refine lv_iload_n hx hb dX10_type_44 rfl (lv_at hl 0 rfl) ?_
    refine lv_aload_n hx hb dX10_type_45 rfl (lv_at hl 1 rfl) ?_
    refine g_get fl_RX10_138_X10 hx hb C S KM_0 rfl dX10_type_46 ?_
    refine lv_bipush (v := 24) hx hb dX10_type_49 (by decide) ?_
    refine lv_icmp_ge (tgt := 58) hx hb dX10_type_51 rfl (fun c6 => ?_) (fun c6 => ?_)
    · have h := h_t c6 h
      refine lv_iconst (v := 0) hx hb dX10_type_58 (by decide) ?_
      exact lab59 l1 (0 : Int32) t0 w _ _ _ (lv_sub hl [1, 2] rfl) S h
    · have h := h_f c6 h
      refine lv_iconst (v := 1) hx hb dX10_type_54 (by decide) ?_
      refine lv_goto (tgt := 59) hx hb dX10_type_55 rfl ?_
      exact lab59 l1 (1 : Int32) t0 w _ _ _ (lv_sub hl [1, 2] rfl) S h
  have lab37 : ∀ (l1 : Int32) (w : Wt) (H : Heap) (locs : List Loc) (ls : Array Slot), lv_has ls 3 [(0, .ref (q 0)), (1, .int l1)] → Sta KM D dA q A s.heap w H locs → Option.bind (m_type_b37 l1 w) some = some z → W p l e RM_m_type s m args below meth c H locs 0 0 Q (F0 m 37 ls []) := by
    intro l1 w H locs ls hl S h
    unfold m_type_b37 at h
    refine lv_iconst (v := 1) hx hb dX10_type_37 (by decide) ?_
    refine lv_goto (tgt := 42) hx hb dX10_type_38 rfl ?_
    exact lab42 l1 (1 : Int32) w _ _ _ (lv_sub hl [0, 1] rfl) S h
  have lab12 : ∀ (l1 : Int32) (w : Wt) (H : Heap) (locs : List Loc) (ls : Array Slot), lv_has ls 3 [(0, .ref (q 0)), (1, .int l1)] → Sta KM D dA q A s.heap w H locs → Option.bind (m_type_b12 l1 w) some = some z → W p l e RM_m_type s m args below meth c H locs 0 0 Q (F0 m 12 ls []) := by
    intro l1 w H locs ls hl S h
    unfold m_type_b12 at h
    refine lv_iload_n hx hb dX10_type_12 rfl (lv_at hl 1 rfl) ?_
    obtain ⟨x7, ex7, h⟩ := h_c h
    refine k_i C S (q_S (rest := []) (As := [.int l1]) lk_RX10_134 ev hx hb hml C S (c_m_isFigure l D dA q l1 w x7 ex7 _) rfl rfl ⟨(Nat.le_of_ble_eq_true rfl), (Nat.le_of_ble_eq_true rfl)⟩ rfl hl.1 rfl (Nat.le_of_ble_eq_true rfl) dX10_type_13 ⟨(Nat.le_of_ble_eq_true rfl), (Nat.le_of_ble_eq_true rfl)⟩) (fun H locs S => ?_)
    refine lv_if_ne (tgt := 37) hx hb dX10_type_16 rfl (fun c8 => ?_) (fun c8 => ?_)
    · have h := h_f c8 h
      exact lab37 l1 w _ _ _ (lv_sub hl [0, 1] rfl) S h
    · have h := h_t c8 h
      refine lv_iload_n hx hb dX10_type_19 rfl (lv_at hl 1 rfl) ?_
      refine lv_bipush (v := 59) hx hb dX10_type_20 (by decide) ?_
      refine lv_icmp_eq (tgt := 37) hx hb dX10_type_22 rfl (fun c9 => ?_) (fun c9 => ?_)
      · have h := h_t c9 h
        exact lab37 l1 w _ _ _ (lv_sub hl [0, 1] rfl) S h
      · have h := h_f c9 h
        refine lv_iload_n hx hb dX10_type_25 rfl (lv_at hl 1 rfl) ?_
        refine lv_bipush (v := 40) hx hb dX10_type_26 (by decide) ?_
        refine lv_icmp_eq (tgt := 37) hx hb dX10_type_28 rfl (fun c10 => ?_) (fun c10 => ?_)
        · have h := h_t c10 h
          exact lab37 l1 w _ _ _ (lv_sub hl [0, 1] rfl) S h
        · have h := h_f c10 h
          refine lv_iload_n hx hb dX10_type_31 rfl (lv_at hl 1 rfl) ?_
          refine lv_bipush (v := 41) hx hb dX10_type_32 (by decide) ?_
          refine lv_icmp_ne (tgt := 41) hx hb dX10_type_34 rfl (fun c11 => ?_) (fun c11 => ?_)
          · have h := h_f c11 h
            refine lv_iconst (v := 0) hx hb dX10_type_41 (by decide) ?_
            exact lab42 l1 (0 : Int32) w _ _ _ (lv_sub hl [0, 1] rfl) S h
          · have h := h_t c11 h
            exact lab37 l1 w _ _ _ (lv_sub hl [0, 1] rfl) S h
  intro H locs ls hl S h
  have h := h_0 h
  unfold m_type at h
  refine lv_iload_n hx hb dX10_type_0 rfl (lv_at hl 1 rfl) ?_
  refine lv_bipush (v := 97) hx hb dX10_type_1 (by decide) ?_
  refine lv_icmp_lt (tgt := 12) hx hb dX10_type_3 rfl (fun c12 => ?_) (fun c12 => ?_)
  · have h := h_t c12 h
    exact lab12 a1 w _ _ _ (lv_sub hl [0, 1] rfl) S h
  · have h := h_f c12 h
    refine lv_iload_n hx hb dX10_type_6 rfl (lv_at hl 1 rfl) ?_
    refine lv_bipush (v := 122) hx hb dX10_type_7 (by decide) ?_
    refine lv_icmp_le (tgt := 37) hx hb dX10_type_9 rfl (fun c13 => ?_) (fun c13 => ?_)
    · have h := h_t c13 h
      exact lab37 a1 w _ _ _ (lv_sub hl [0, 1] rfl) S h
    · have h := h_f c13 h
      exact lab12 a1 w _ _ _ (lv_sub hl [0, 1] rfl) S h
theorem c_m_type (l : Launch) (D : va_G) (dA : Nat → ClassId) (q : Nat → Nat) (a1 : Int32) (w w' : Wt) (r : Int32) (h : m_type a1 w = some (r, w')) : Mi l EVm KM D dA q yX10_type cX10_type 3 (some .int) RM_m_type [.ref (q 0), .int a1] w r w' :=
  mk_i (by decide) rfl EVm_ok (Nat.le_of_ble_eq_true rfl) (fun p e s m args below meth c A Q ls hx hb hml C S hl fin => k_m_type a1 w (r, w') hx hb hml C (fun H locs ls r' w2 pc S h d => fin H locs ls r' w2 pc S h d) _ _ _ hl S h)
/-! BallotscriptModel.wipe()I m_wipe -/
def m_wipe (w : Wt) : Option (Int32 × Wt) := nmd (upd2 w 0 45 (0 : Int32)) fun w1 => nmd (w1 0 8) fun v2 => nmd (upd2 w1 0 8 (0 : Int32)) fun w3 => some (v2, w3)
def RM_m_wipe : Room := { frames := 0, cells := 0, slots := 0, locals := 0 }
set_option maxHeartbeats 4000000 in
set_option maxRecDepth 20000 in
theorem k_m_wipe (w : Wt) (z : (Int32 × Wt)) (hx : p.tables.exec = Jvm.exec) (hb : c.code = cX10_wipe) (hml : c.maxLocals = 2) (C : Cx EVm KM D dA q A s m args RX10) (fin : ∀ (H : Heap) (locs : List Loc) (ls : Array Slot) (r' : Int32) (w2 : Wt) (pc : Nat) , Sta KM D dA q A s.heap w2 H locs → some (r', w2) = some z → decode cX10_wipe pc = .ok (.ireturn, 1) → W p l e RM_m_wipe s m args below meth c H locs 0 0 Q (F0 m pc ls [.int r'])) : ∀ (H : Heap) (locs : List Loc) (ls : Array Slot), lv_has ls 2 [(0, .ref (q 0))] → Sta KM D dA q A s.heap w H locs → m_wipe w = some z → W p l e RM_m_wipe s m args below meth c H locs 0 0 Q (F0 m 0 ls []) := by
  have ev : evOk EVm := EVm_ok
  intro H locs ls hl S h
  have h := h_0 h
  unfold m_wipe at h
  refine lv_aload_n hx hb dX10_wipe_0 rfl (lv_at hl 0 rfl) ?_
  refine lv_iconst (v := 0) hx hb dX10_wipe_1 (by decide) ?_
  refine g_put fl_RX10_98_X10 pl_X10_45 hx hb C S KM_0 rfl ⟨rfl, rfl⟩ dX10_wipe_2 (fun w1 ew1 H locs S => ?_)
  have h := h_l h w1 ew1
  refine lv_aload_n hx hb dX10_wipe_5 rfl (lv_at hl 0 rfl) ?_
  refine g_get fl_RX10_138_X10 hx hb C S KM_0 rfl dX10_wipe_6 ?_
  refine lv_topi (fun v2 ev2 => ?_)
  have h := h_l h v2 ev2
  refine lv_istore_n (lv' := [(1, .int v2), (0, .ref (q 0))]) hx hb dX10_wipe_9 rfl hl (Nat.le_of_ble_eq_true rfl) rfl (fun ls hl => ?_)
  refine lv_aload_n hx hb dX10_wipe_10 rfl (lv_at hl 1 rfl) ?_
  refine lv_iconst (v := 0) hx hb dX10_wipe_11 (by decide) ?_
  refine g_put fl_RX10_138_X10 pl_X10_8 hx hb C S KM_0 rfl ⟨rfl, rfl⟩ dX10_wipe_12 (fun w3 ew3 H locs S => ?_)
  have h := h_l h w3 ew3
  refine lv_iload_n hx hb dX10_wipe_15 rfl (lv_at hl 0 rfl) ?_
  exact fin _ _ _ v2 w3 _ S h dX10_wipe_16
theorem c_m_wipe (l : Launch) (D : va_G) (dA : Nat → ClassId) (q : Nat → Nat) (w w' : Wt) (r : Int32) (h : m_wipe w = some (r, w')) : Mi l EVm KM D dA q yX10_wipe cX10_wipe 2 (some .int) RM_m_wipe [.ref (q 0)] w r w' :=
  mk_i (by decide) rfl EVm_ok (Nat.le_of_ble_eq_true rfl) (fun p e s m args below meth c A Q ls hx hb hml C S hl fin => k_m_wipe w (r, w') hx hb hml C (fun H locs ls r' w2 pc S h d => fin H locs ls r' w2 pc S h d) _ _ _ hl S h)
/-! BallotscriptModel.isPlain(I)Z m_isPlain -/
def m_isPlain_b47 (l0 : Int32) (l1 : Int32) (t0 : Int32) : Option Int32 := (if l1 = (0 : Int32) then (if t0 = (0 : Int32) then (if l0 = (108 : Int32) then some (1 : Int32) else (if l0 = (104 : Int32) then some (1 : Int32) else (if l0 = (113 : Int32) then some (1 : Int32) else some (0 : Int32)))) else some (1 : Int32)) else some (1 : Int32))
def m_isPlain_b42 (l0 : Int32) (l1 : Int32) : Option Int32 := m_isPlain_b47 l0 l1 (1 : Int32)
def m_isPlain_b23 (l0 : Int32) (t0 : Int32) : Option Int32 := (if l0 = (109 : Int32) then m_isPlain_b42 l0 t0 else (if l0 = (120 : Int32) then m_isPlain_b42 l0 t0 else (if l0 = (114 : Int32) then m_isPlain_b42 l0 t0 else m_isPlain_b47 l0 t0 (0 : Int32))))
def m_isPlain_b18 (l0 : Int32) : Option Int32 := m_isPlain_b23 l0 (1 : Int32)
def m_isPlain (a0 : Int32) : Option Int32 := (if a0 = (116 : Int32) then m_isPlain_b18 a0 else (if a0 = (98 : Int32) then m_isPlain_b18 a0 else (if a0 = (97 : Int32) then m_isPlain_b18 a0 else m_isPlain_b23 a0 (0 : Int32))))
def RM_m_isPlain : Room := { frames := 0, cells := 0, slots := 0, locals := 0 }
set_option maxHeartbeats 4000000 in
set_option maxRecDepth 20000 in
theorem k_m_isPlain (a0 : Int32) (w : Wt) (z : Int32) (hx : p.tables.exec = Jvm.exec) (hb : c.code = cX10_isPlain) (hml : c.maxLocals = 3) (C : Cx EVm KM D dA q A s m args RX10) (fin : ∀ (H : Heap) (locs : List Loc) (ls : Array Slot) (r' : Int32) (pc : Nat) , narrow .boolean (.int r') = .int r' → Sta KM D dA q A s.heap w H locs → some r' = some z → decode cX10_isPlain pc = .ok (.ireturn, 1) → W p l e RM_m_isPlain s m args below meth c H locs 0 0 Q (F0 m pc ls [.int r'])) : ∀ (H : Heap) (locs : List Loc) (ls : Array Slot), lv_has ls 3 [(0, .int a0)] → Sta KM D dA q A s.heap w H locs → m_isPlain a0 = some z → W p l e RM_m_isPlain s m args below meth c H locs 0 0 Q (F0 m 0 ls []) := by
  have ev : evOk EVm := EVm_ok
  have lab47 : ∀ (l0 : Int32) (l1 : Int32) (t0 : Int32) (H : Heap) (locs : List Loc) (ls : Array Slot), lv_has ls 3 [(0, .int l0), (1, .int l1)] → Sta KM D dA q A s.heap w H locs → Option.bind (m_isPlain_b47 l0 l1 t0) some = some z → W p l e RM_m_isPlain s m args below meth c H locs 0 0 Q (F0 m 47 ls [.int t0]) := by
    intro l0 l1 t0 H locs ls hl S h
    unfold m_isPlain_b47 at h
    refine lv_istore_n (lv' := [(2, .int t0), (0, .int l0), (1, .int l1)]) hx hb dX10_isPlain_47 rfl hl (Nat.le_of_ble_eq_true rfl) rfl (fun ls hl => ?_)
    refine lv_iload_n hx hb dX10_isPlain_48 rfl (lv_at hl 2 rfl) ?_
    refine lv_if_ne (tgt := 74) hx hb dX10_isPlain_49 rfl (fun c1 => ?_) (fun c1 => ?_)
    · have h := h_f c1 h
      refine lv_iconst (v := 1) hx hb dX10_isPlain_74 (by decide) ?_
      refine lv_goto (tgt := 79) hx hb dX10_isPlain_75 rfl ?_
      exact fin _ _ _ (1 : Int32) _ (by decide) S h dX10_isPlain_79
    · have h := h_t c1 h
      refine lv_iload_n hx hb dX10_isPlain_52 rfl (lv_at hl 0 rfl) ?_
      refine lv_if_ne (tgt := 74) hx hb dX10_isPlain_53 rfl (fun c2 => ?_) (fun c2 => ?_)
      · have h := h_f c2 h
        refine lv_iconst (v := 1) hx hb dX10_isPlain_74 (by decide) ?_
        refine lv_goto (tgt := 79) hx hb dX10_isPlain_75 rfl ?_
        exact fin _ _ _ (1 : Int32) _ (by decide) S h dX10_isPlain_79
      · have h := h_t c2 h
        refine lv_iload_n hx hb dX10_isPlain_56 rfl (lv_at hl 1 rfl) ?_
        refine lv_bipush (v := 108) hx hb dX10_isPlain_57 (by decide) ?_
        refine lv_icmp_eq (tgt := 74) hx hb dX10_isPlain_59 rfl (fun c3 => ?_) (fun c3 => ?_)
        · have h := h_t c3 h
          refine lv_iconst (v := 1) hx hb dX10_isPlain_74 (by decide) ?_
          refine lv_goto (tgt := 79) hx hb dX10_isPlain_75 rfl ?_
          exact fin _ _ _ (1 : Int32) _ (by decide) S h dX10_isPlain_79
        · have h := h_f c3 h
          refine lv_iload_n hx hb dX10_isPlain_62 rfl (lv_at hl 1 rfl) ?_
          refine lv_bipush (v := 104) hx hb dX10_isPlain_63 (by decide) ?_
          refine lv_icmp_eq (tgt := 74) hx hb dX10_isPlain_65 rfl (fun c4 => ?_) (fun c4 => ?_)
          · have h := h_t c4 h
            refine lv_iconst (v := 1) hx hb dX10_isPlain_74 (by decide) ?_
            refine lv_goto (tgt := 79) hx hb dX10_isPlain_75 rfl ?_
            exact fin _ _ _ (1 : Int32) _ (by decide) S h dX10_isPlain_79
          · have h := h_f c4 h
            refine lv_iload_n hx hb dX10_isPlain_68 rfl (lv_at hl 1 rfl) ?_
            refine lv_bipush (v := 113) hx hb dX10_isPlain_69 (by decide) ?_
            refine lv_icmp_ne (tgt := 78) hx hb dX10_isPlain_71 rfl (fun c5 => ?_) (fun c5 => ?_)
            · have h := h_f c5 h
              refine lv_iconst (v := 0) hx hb dX10_isPlain_78 (by decide) ?_
              exact fin _ _ _ (0 : Int32) _ (by decide) S h dX10_isPlain_79
            · have h := h_t c5 h
              refine lv_iconst (v := 1) hx hb dX10_isPlain_74 (by decide) ?_
              refine lv_goto (tgt := 79) hx hb dX10_isPlain_75 rfl ?_
              exact fin _ _ _ (1 : Int32) _ (by decide) S h dX10_isPlain_79
  have lab42 : ∀ (l0 : Int32) (l1 : Int32) (H : Heap) (locs : List Loc) (ls : Array Slot), lv_has ls 3 [(0, .int l0), (1, .int l1)] → Sta KM D dA q A s.heap w H locs → Option.bind (m_isPlain_b42 l0 l1) some = some z → W p l e RM_m_isPlain s m args below meth c H locs 0 0 Q (F0 m 42 ls []) := by
    intro l0 l1 H locs ls hl S h
    unfold m_isPlain_b42 at h
    refine lv_iconst (v := 1) hx hb dX10_isPlain_42 (by decide) ?_
    refine lv_goto (tgt := 47) hx hb dX10_isPlain_43 rfl ?_
    exact lab47 l0 l1 (1 : Int32) _ _ _ (lv_sub hl [0, 1] rfl) S h
  have lab23 : ∀ (l0 : Int32) (t0 : Int32) (H : Heap) (locs : List Loc) (ls : Array Slot), lv_has ls 3 [(0, .int l0)] → Sta KM D dA q A s.heap w H locs → Option.bind (m_isPlain_b23 l0 t0) some = some z → W p l e RM_m_isPlain s m args below meth c H locs 0 0 Q (F0 m 23 ls [.int t0]) := by
    intro l0 t0 H locs ls hl S h
    unfold m_isPlain_b23 at h
    refine lv_istore_n (lv' := [(1, .int t0), (0, .int l0)]) hx hb dX10_isPlain_23 rfl hl (Nat.le_of_ble_eq_true rfl) rfl (fun ls hl => ?_)
    refine lv_iload_n hx hb dX10_isPlain_24 rfl (lv_at hl 1 rfl) ?_
    refine lv_bipush (v := 109) hx hb dX10_isPlain_25 (by decide) ?_
    refine lv_icmp_eq (tgt := 42) hx hb dX10_isPlain_27 rfl (fun c6 => ?_) (fun c6 => ?_)
    · have h := h_t c6 h
      exact lab42 l0 t0 _ _ _ (lv_sub hl [1, 0] rfl) S h
    · have h := h_f c6 h
      refine lv_iload_n hx hb dX10_isPlain_30 rfl (lv_at hl 1 rfl) ?_
      refine lv_bipush (v := 120) hx hb dX10_isPlain_31 (by decide) ?_
      refine lv_icmp_eq (tgt := 42) hx hb dX10_isPlain_33 rfl (fun c7 => ?_) (fun c7 => ?_)
      · have h := h_t c7 h
        exact lab42 l0 t0 _ _ _ (lv_sub hl [1, 0] rfl) S h
      · have h := h_f c7 h
        refine lv_iload_n hx hb dX10_isPlain_36 rfl (lv_at hl 1 rfl) ?_
        refine lv_bipush (v := 114) hx hb dX10_isPlain_37 (by decide) ?_
        refine lv_icmp_ne (tgt := 46) hx hb dX10_isPlain_39 rfl (fun c8 => ?_) (fun c8 => ?_)
        · have h := h_f c8 h
          refine lv_iconst (v := 0) hx hb dX10_isPlain_46 (by decide) ?_
          exact lab47 l0 t0 (0 : Int32) _ _ _ (lv_sub hl [1, 0] rfl) S h
        · have h := h_t c8 h
          exact lab42 l0 t0 _ _ _ (lv_sub hl [1, 0] rfl) S h
  have lab18 : ∀ (l0 : Int32) (H : Heap) (locs : List Loc) (ls : Array Slot), lv_has ls 3 [(0, .int l0)] → Sta KM D dA q A s.heap w H locs → Option.bind (m_isPlain_b18 l0) some = some z → W p l e RM_m_isPlain s m args below meth c H locs 0 0 Q (F0 m 18 ls []) := by
    intro l0 H locs ls hl S h
    unfold m_isPlain_b18 at h
    refine lv_iconst (v := 1) hx hb dX10_isPlain_18 (by decide) ?_
    refine lv_goto (tgt := 23) hx hb dX10_isPlain_19 rfl ?_
    exact lab23 l0 (1 : Int32) _ _ _ (lv_sub hl [0] rfl) S h
  intro H locs ls hl S h
  have h := h_0 h
  unfold m_isPlain at h
  refine lv_iload_n hx hb dX10_isPlain_0 rfl (lv_at hl 0 rfl) ?_
  refine lv_bipush (v := 116) hx hb dX10_isPlain_1 (by decide) ?_
  refine lv_icmp_eq (tgt := 18) hx hb dX10_isPlain_3 rfl (fun c9 => ?_) (fun c9 => ?_)
  · have h := h_t c9 h
    exact lab18 a0 _ _ _ (lv_sub hl [0] rfl) S h
  · have h := h_f c9 h
    refine lv_iload_n hx hb dX10_isPlain_6 rfl (lv_at hl 0 rfl) ?_
    refine lv_bipush (v := 98) hx hb dX10_isPlain_7 (by decide) ?_
    refine lv_icmp_eq (tgt := 18) hx hb dX10_isPlain_9 rfl (fun c10 => ?_) (fun c10 => ?_)
    · have h := h_t c10 h
      exact lab18 a0 _ _ _ (lv_sub hl [0] rfl) S h
    · have h := h_f c10 h
      refine lv_iload_n hx hb dX10_isPlain_12 rfl (lv_at hl 0 rfl) ?_
      refine lv_bipush (v := 97) hx hb dX10_isPlain_13 (by decide) ?_
      refine lv_icmp_ne (tgt := 22) hx hb dX10_isPlain_15 rfl (fun c11 => ?_) (fun c11 => ?_)
      · have h := h_f c11 h
        refine lv_iconst (v := 0) hx hb dX10_isPlain_22 (by decide) ?_
        exact lab23 a0 (0 : Int32) _ _ _ (lv_sub hl [0] rfl) S h
      · have h := h_t c11 h
        exact lab18 a0 _ _ _ (lv_sub hl [0] rfl) S h
theorem c_m_isPlain (l : Launch) (D : va_G) (dA : Nat → ClassId) (q : Nat → Nat) (a0 : Int32) (w : Wt) (r : Int32) (h : m_isPlain a0 = some r) : Mi l EVm KM D dA q yX10_isPlain cX10_isPlain 3 (some .boolean) RM_m_isPlain [.int a0] w r w :=
  mk_z (by decide) rfl EVm_ok (Nat.le_of_ble_eq_true rfl) (fun p e s m args below meth c A Q ls hx hb hml C S hl fin => k_m_isPlain a0 w r hx hb hml C (fun H locs ls r' pc hn S h d => fin H locs ls r' w pc hn S (by rw [Option.some.inj h]) d) _ _ _ hl S h)
/-! BallotscriptModel.faultOf()I m_faultOf -/
def m_faultOf_b161 (l1 : Int32) (l2 : Int32) (w : Wt) : Option Int32 := (if l2 = (1 : Int32) then (if l1 = (0 : Int32) then some (-1 : Int32) else some (w 0 8)) else some (w 0 8))
def m_faultOf_b131 (l1 : Int32) (l2 : Int32) (l3 : Int32) (l4 : Int32) (w : Wt) : Option ((Int32 × Int32 × Int32) ⊕ ((Int32 × Int32) ⊕ Int32)) := Option.bind (m_isFigure l4) fun x3 => (if x3 = (0 : Int32) then some (.inr (.inr l3)) else (if l2 = (3 : Int32) then some (.inl (l1, (4 : Int32), (l3 + 1))) else some (.inl (l1, (2 : Int32), (l3 + 1)))))
def m_faultOf_b121 (l1 : Int32) (l2 : Int32) (l3 : Int32) (l4 : Int32) (w : Wt) : Option ((Int32 × Int32 × Int32) ⊕ ((Int32 × Int32) ⊕ Int32)) := (if l2 = (3 : Int32) then m_faultOf_b131 l1 l2 l3 l4 w else (if l2 = (4 : Int32) then m_faultOf_b131 l1 l2 l3 l4 w else some (.inr (.inr l3))))
def m_faultOf_b109 (l1 : Int32) (l2 : Int32) (l3 : Int32) (l4 : Int32) (w : Wt) : Option ((Int32 × Int32 × Int32) ⊕ ((Int32 × Int32) ⊕ Int32)) := (if l4 = (59 : Int32) then some (.inl (l1, (1 : Int32), (l3 + 1))) else m_faultOf_b121 l1 l2 l3 l4 w)
def m_faultOf_b99 (l1 : Int32) (l2 : Int32) (l3 : Int32) (l4 : Int32) (w : Wt) : Option ((Int32 × Int32 × Int32) ⊕ ((Int32 × Int32) ⊕ Int32)) := (if l2 = (2 : Int32) then m_faultOf_b109 l1 l2 l3 l4 w else (if l2 = (4 : Int32) then m_faultOf_b109 l1 l2 l3 l4 w else m_faultOf_b121 l1 l2 l3 l4 w))
def m_faultOf_b77 (l1 : Int32) (l2 : Int32) (l3 : Int32) (l4 : Int32) (w : Wt) : Option ((Int32 × Int32 × Int32) ⊕ ((Int32 × Int32) ⊕ Int32)) := (if l2 = (1 : Int32) then (if l4 = (41 : Int32) then (if l1 ≤ (0 : Int32) then m_faultOf_b99 l1 l2 l3 l4 w else some (.inl ((l1 + (-1)), l2, (l3 + 1)))) else m_faultOf_b99 l1 l2 l3 l4 w) else m_faultOf_b99 l1 l2 l3 l4 w)
def m_faultOf_b57 (l1 : Int32) (l2 : Int32) (l3 : Int32) (l4 : Int32) (w : Wt) : Option ((Int32 × Int32 × Int32) ⊕ ((Int32 × Int32) ⊕ Int32)) := (if (2 : Int32) ≤ l2 then m_faultOf_b77 l1 l2 l3 l4 w else (if l4 = (40 : Int32) then some (.inl ((l1 + 1), (0 : Int32), (l3 + 1))) else m_faultOf_b77 l1 l2 l3 l4 w))
def m_faultOf_b40 (l1 : Int32) (l2 : Int32) (l3 : Int32) (l4 : Int32) (w : Wt) : Option ((Int32 × Int32 × Int32) ⊕ ((Int32 × Int32) ⊕ Int32)) := (if (2 : Int32) ≤ l2 then m_faultOf_b57 l1 l2 l3 l4 w else (if l4 = (101 : Int32) then some (.inl (l1, (3 : Int32), (l3 + 1))) else m_faultOf_b57 l1 l2 l3 l4 w))
def m_faultOf_L6 (w : Wt) : (Int32 × Int32 × Int32) → Option ((Int32 × Int32 × Int32) ⊕ ((Int32 × Int32) ⊕ Int32))
  | (l1, l2, l3) => (if (w 0 8) ≤ l3 then some (.inr (.inl (l1, l2))) else gd (inb l3 24) (nmd (w 6 (l3).toNatClampNeg) fun v20 => (if (2 : Int32) ≤ l2 then m_faultOf_b40 l1 l2 l3 v20 w else Option.bind (m_isPlain v20) fun x22 => (if x22 = (0 : Int32) then m_faultOf_b40 l1 l2 l3 v20 w else some (.inl (l1, (2 : Int32), (l3 + 1)))))))
def m_faultOf_x6 (w : Wt) : ((Int32 × Int32) ⊕ Int32) → Option Int32
  | .inl (l1, l2) => m_faultOf_b161 l1 l2 w
  | .inr t => some t
def m_faultOf (w : Wt) : Option Int32 := Option.bind (lp (m_faultOf_L6 w) FU ((0 : Int32), (0 : Int32), (0 : Int32))) (m_faultOf_x6 w)
def RM_m_faultOf : Room := { frames := 1, cells := 0, slots := 0, locals := 22 }
set_option maxHeartbeats 4000000 in
set_option maxRecDepth 20000 in
theorem k_m_faultOf (w : Wt) (z : Int32) (hx : p.tables.exec = Jvm.exec) (hb : c.code = cX10_faultOf) (hml : c.maxLocals = 5) (C : Cx EVm KM D dA q A s m args RX10) (fin : ∀ (H : Heap) (locs : List Loc) (ls : Array Slot) (r' : Int32) (pc : Nat) , Sta KM D dA q A s.heap w H locs → some r' = some z → decode cX10_faultOf pc = .ok (.ireturn, 1) → W p l e RM_m_faultOf s m args below meth c H locs 0 0 Q (F0 m pc ls [.int r'])) : ∀ (H : Heap) (locs : List Loc) (ls : Array Slot), lv_has ls 5 [(0, .ref (q 0))] → Sta KM D dA q A s.heap w H locs → m_faultOf w = some z → W p l e RM_m_faultOf s m args below meth c H locs 0 0 Q (F0 m 0 ls []) := by
  have ev : evOk EVm := EVm_ok
  have lab161 : ∀ (l1 : Int32) (l2 : Int32) (H : Heap) (locs : List Loc) (ls : Array Slot), lv_has ls 5 [(0, .ref (q 0)), (1, .int l1), (2, .int l2)] → Sta KM D dA q A s.heap w H locs → Option.bind (m_faultOf_b161 l1 l2 w) some = some z → W p l e RM_m_faultOf s m args below meth c H locs 0 0 Q (F0 m 161 ls []) := by
    intro l1 l2 H locs ls hl S h
    unfold m_faultOf_b161 at h
    refine lv_iload_n hx hb dX10_faultOf_161 rfl (lv_at hl 2 rfl) ?_
    refine lv_iconst (v := 1) hx hb dX10_faultOf_162 (by decide) ?_
    refine lv_icmp_ne (tgt := 174) hx hb dX10_faultOf_163 rfl (fun c1 => ?_) (fun c1 => ?_)
    · have h := h_f c1 h
      refine lv_aload_n hx hb dX10_faultOf_174 rfl (lv_at hl 0 rfl) ?_
      refine g_get fl_RX10_138_X10 hx hb C S KM_0 rfl dX10_faultOf_175 ?_
      exact fin _ _ _ (w 0 8) _ S h dX10_faultOf_178
    · have h := h_t c1 h
      refine lv_iload_n hx hb dX10_faultOf_166 rfl (lv_at hl 1 rfl) ?_
      refine lv_if_ne (tgt := 174) hx hb dX10_faultOf_167 rfl (fun c2 => ?_) (fun c2 => ?_)
      · have h := h_f c2 h
        refine lv_aload_n hx hb dX10_faultOf_174 rfl (lv_at hl 0 rfl) ?_
        refine g_get fl_RX10_138_X10 hx hb C S KM_0 rfl dX10_faultOf_175 ?_
        exact fin _ _ _ (w 0 8) _ S h dX10_faultOf_178
      · have h := h_t c2 h
        refine lv_iconst (v := -1) hx hb dX10_faultOf_170 (by decide) ?_
        refine lv_goto (tgt := 178) hx hb dX10_faultOf_171 rfl ?_
        exact fin _ _ _ (-1 : Int32) _ S h dX10_faultOf_178
  have loop6 : ∀ (n6 : Nat), ∀ (l1 : Int32) (l2 : Int32) (l3 : Int32) (H : Heap) (locs : List Loc) (ls : Array Slot), lv_has ls 5 [(0, .ref (q 0)), (1, .int l1), (2, .int l2), (3, .int l3)] → Sta KM D dA q A s.heap w H locs → Option.bind (lp (m_faultOf_L6 w) n6 (l1, l2, l3)) (fun x9 => Option.bind (m_faultOf_x6 w x9) some) = some z → W p l e RM_m_faultOf s m args below meth c H locs 0 0 Q (F0 m 6 ls []) := by
    intro  n6
    induction n6 with
    | zero =>
      intro l1 l2 l3 H locs ls hl S h
      exact (h_lp0 h).elim
    | succ n6 ih6 =>
      have lab131 : ∀ (l1 : Int32) (l2 : Int32) (l3 : Int32) (l4 : Int32) (H : Heap) (locs : List Loc) (ls : Array Slot), lv_has ls 5 [(0, .ref (q 0)), (1, .int l1), (2, .int l2), (3, .int l3), (4, .int l4)] → Sta KM D dA q A s.heap w H locs → Option.bind (m_faultOf_b131 l1 l2 l3 l4 w) (seqF (fun s9 => Option.bind (lp (m_faultOf_L6 w) n6 s9) (fun x9 => Option.bind (m_faultOf_x6 w x9) some)) (fun x9 => Option.bind (m_faultOf_x6 w x9) some)) = some z → W p l e RM_m_faultOf s m args below meth c H locs 0 0 Q (F0 m 131 ls []) := by
        intro l1 l2 l3 l4 H locs ls hl S h
        unfold m_faultOf_b131 at h
        refine lv_iload hx hb dX10_faultOf_131 (lv_at hl 4 rfl) ?_
        obtain ⟨x3, ex3, h⟩ := h_c h
        refine k_i C S (q_S (rest := []) (As := [.int l4]) lk_RX10_134 ev hx hb hml C S (c_m_isFigure l D dA q l4 w x3 ex3 _) rfl rfl ⟨(Nat.le_of_ble_eq_true rfl), (Nat.le_of_ble_eq_true rfl)⟩ rfl hl.1 rfl (Nat.le_of_ble_eq_true rfl) dX10_faultOf_133 ⟨(Nat.le_of_ble_eq_true rfl), (Nat.le_of_ble_eq_true rfl)⟩) (fun H locs S => ?_)
        refine lv_if_eq (tgt := 153) hx hb dX10_faultOf_136 rfl (fun c4 => ?_) (fun c4 => ?_)
        · have h := h_t c4 h
          refine lv_iload_n hx hb dX10_faultOf_153 rfl (lv_at hl 3 rfl) ?_
          exact fin _ _ _ l3 _ S h dX10_faultOf_154
        · have h := h_f c4 h
          refine lv_iload_n hx hb dX10_faultOf_139 rfl (lv_at hl 2 rfl) ?_
          refine lv_iconst (v := 3) hx hb dX10_faultOf_140 (by decide) ?_
          refine lv_icmp_ne (tgt := 148) hx hb dX10_faultOf_141 rfl (fun c5 => ?_) (fun c5 => ?_)
          · have h := h_f c5 h
            refine lv_iconst (v := 2) hx hb dX10_faultOf_148 (by decide) ?_
            refine lv_istore_n (lv' := [(2, .int (2 : Int32)), (0, .ref (q 0)), (1, .int l1), (3, .int l3), (4, .int l4)]) hx hb dX10_faultOf_149 rfl hl (Nat.le_of_ble_eq_true rfl) rfl (fun ls hl => ?_)
            refine lv_goto (tgt := 155) hx hb dX10_faultOf_150 rfl ?_
            refine lv_iinc (v := (l3 + 1)) (lv' := [(3, .int (l3 + 1)), (2, .int (2 : Int32)), (0, .ref (q 0)), (1, .int l1), (4, .int l4)]) hx hb dX10_faultOf_155 hl (k := 3) rfl rfl (Nat.le_of_ble_eq_true rfl) rfl (fun ls hl => ?_)
            refine lv_goto (tgt := 6) hx hb dX10_faultOf_158 rfl ?_
            exact ih6 l1 (2 : Int32) (l3 + 1) _ _ _ (lv_sub hl [2, 3, 1, 0] rfl) S h
          · have h := h_t c5 h
            refine lv_iconst (v := 4) hx hb dX10_faultOf_144 (by decide) ?_
            refine lv_goto (tgt := 149) hx hb dX10_faultOf_145 rfl ?_
            refine lv_istore_n (lv' := [(2, .int (4 : Int32)), (0, .ref (q 0)), (1, .int l1), (3, .int l3), (4, .int l4)]) hx hb dX10_faultOf_149 rfl hl (Nat.le_of_ble_eq_true rfl) rfl (fun ls hl => ?_)
            refine lv_goto (tgt := 155) hx hb dX10_faultOf_150 rfl ?_
            refine lv_iinc (v := (l3 + 1)) (lv' := [(3, .int (l3 + 1)), (2, .int (4 : Int32)), (0, .ref (q 0)), (1, .int l1), (4, .int l4)]) hx hb dX10_faultOf_155 hl (k := 3) rfl rfl (Nat.le_of_ble_eq_true rfl) rfl (fun ls hl => ?_)
            refine lv_goto (tgt := 6) hx hb dX10_faultOf_158 rfl ?_
            exact ih6 l1 (4 : Int32) (l3 + 1) _ _ _ (lv_sub hl [2, 3, 1, 0] rfl) S h
      have lab121 : ∀ (l1 : Int32) (l2 : Int32) (l3 : Int32) (l4 : Int32) (H : Heap) (locs : List Loc) (ls : Array Slot), lv_has ls 5 [(0, .ref (q 0)), (1, .int l1), (2, .int l2), (3, .int l3), (4, .int l4)] → Sta KM D dA q A s.heap w H locs → Option.bind (m_faultOf_b121 l1 l2 l3 l4 w) (seqF (fun s9 => Option.bind (lp (m_faultOf_L6 w) n6 s9) (fun x9 => Option.bind (m_faultOf_x6 w x9) some)) (fun x9 => Option.bind (m_faultOf_x6 w x9) some)) = some z → W p l e RM_m_faultOf s m args below meth c H locs 0 0 Q (F0 m 121 ls []) := by
        intro l1 l2 l3 l4 H locs ls hl S h
        unfold m_faultOf_b121 at h
        refine lv_iload_n hx hb dX10_faultOf_121 rfl (lv_at hl 2 rfl) ?_
        refine lv_iconst (v := 3) hx hb dX10_faultOf_122 (by decide) ?_
        refine lv_icmp_eq (tgt := 131) hx hb dX10_faultOf_123 rfl (fun c6 => ?_) (fun c6 => ?_)
        · have h := h_t c6 h
          exact lab131 l1 l2 l3 l4 _ _ _ (lv_sub hl [0, 1, 2, 3, 4] rfl) S h
        · have h := h_f c6 h
          refine lv_iload_n hx hb dX10_faultOf_126 rfl (lv_at hl 2 rfl) ?_
          refine lv_iconst (v := 4) hx hb dX10_faultOf_127 (by decide) ?_
          refine lv_icmp_ne (tgt := 153) hx hb dX10_faultOf_128 rfl (fun c7 => ?_) (fun c7 => ?_)
          · have h := h_f c7 h
            refine lv_iload_n hx hb dX10_faultOf_153 rfl (lv_at hl 3 rfl) ?_
            exact fin _ _ _ l3 _ S h dX10_faultOf_154
          · have h := h_t c7 h
            exact lab131 l1 l2 l3 l4 _ _ _ (lv_sub hl [0, 1, 2, 3, 4] rfl) S h
      have lab109 : ∀ (l1 : Int32) (l2 : Int32) (l3 : Int32) (l4 : Int32) (H : Heap) (locs : List Loc) (ls : Array Slot), lv_has ls 5 [(0, .ref (q 0)), (1, .int l1), (2, .int l2), (3, .int l3), (4, .int l4)] → Sta KM D dA q A s.heap w H locs → Option.bind (m_faultOf_b109 l1 l2 l3 l4 w) (seqF (fun s9 => Option.bind (lp (m_faultOf_L6 w) n6 s9) (fun x9 => Option.bind (m_faultOf_x6 w x9) some)) (fun x9 => Option.bind (m_faultOf_x6 w x9) some)) = some z → W p l e RM_m_faultOf s m args below meth c H locs 0 0 Q (F0 m 109 ls []) := by
        intro l1 l2 l3 l4 H locs ls hl S h
        unfold m_faultOf_b109 at h
        refine lv_iload hx hb dX10_faultOf_109 (lv_at hl 4 rfl) ?_
        refine lv_bipush (v := 59) hx hb dX10_faultOf_111 (by decide) ?_
        refine lv_icmp_ne (tgt := 121) hx hb dX10_faultOf_113 rfl (fun c8 => ?_) (fun c8 => ?_)
        · have h := h_f c8 h
          exact lab121 l1 l2 l3 l4 _ _ _ (lv_sub hl [0, 1, 2, 3, 4] rfl) S h
        · have h := h_t c8 h
          refine lv_iconst (v := 1) hx hb dX10_faultOf_116 (by decide) ?_
          refine lv_istore_n (lv' := [(2, .int (1 : Int32)), (0, .ref (q 0)), (1, .int l1), (3, .int l3), (4, .int l4)]) hx hb dX10_faultOf_117 rfl hl (Nat.le_of_ble_eq_true rfl) rfl (fun ls hl => ?_)
          refine lv_goto (tgt := 155) hx hb dX10_faultOf_118 rfl ?_
          refine lv_iinc (v := (l3 + 1)) (lv' := [(3, .int (l3 + 1)), (2, .int (1 : Int32)), (0, .ref (q 0)), (1, .int l1), (4, .int l4)]) hx hb dX10_faultOf_155 hl (k := 3) rfl rfl (Nat.le_of_ble_eq_true rfl) rfl (fun ls hl => ?_)
          refine lv_goto (tgt := 6) hx hb dX10_faultOf_158 rfl ?_
          exact ih6 l1 (1 : Int32) (l3 + 1) _ _ _ (lv_sub hl [2, 3, 1, 0] rfl) S h
      have lab99 : ∀ (l1 : Int32) (l2 : Int32) (l3 : Int32) (l4 : Int32) (H : Heap) (locs : List Loc) (ls : Array Slot), lv_has ls 5 [(0, .ref (q 0)), (1, .int l1), (2, .int l2), (3, .int l3), (4, .int l4)] → Sta KM D dA q A s.heap w H locs → Option.bind (m_faultOf_b99 l1 l2 l3 l4 w) (seqF (fun s9 => Option.bind (lp (m_faultOf_L6 w) n6 s9) (fun x9 => Option.bind (m_faultOf_x6 w x9) some)) (fun x9 => Option.bind (m_faultOf_x6 w x9) some)) = some z → W p l e RM_m_faultOf s m args below meth c H locs 0 0 Q (F0 m 99 ls []) := by
        intro l1 l2 l3 l4 H locs ls hl S h
        unfold m_faultOf_b99 at h
        refine lv_iload_n hx hb dX10_faultOf_99 rfl (lv_at hl 2 rfl) ?_
        refine lv_iconst (v := 2) hx hb dX10_faultOf_100 (by decide) ?_
        refine lv_icmp_eq (tgt := 109) hx hb dX10_faultOf_101 rfl (fun c9 => ?_) (fun c9 => ?_)
        · have h := h_t c9 h
          exact lab109 l1 l2 l3 l4 _ _ _ (lv_sub hl [0, 1, 2, 3, 4] rfl) S h
        · have h := h_f c9 h
          refine lv_iload_n hx hb dX10_faultOf_104 rfl (lv_at hl 2 rfl) ?_
          refine lv_iconst (v := 4) hx hb dX10_faultOf_105 (by decide) ?_
          refine lv_icmp_ne (tgt := 121) hx hb dX10_faultOf_106 rfl (fun c10 => ?_) (fun c10 => ?_)
          · have h := h_f c10 h
            exact lab121 l1 l2 l3 l4 _ _ _ (lv_sub hl [0, 1, 2, 3, 4] rfl) S h
          · have h := h_t c10 h
            exact lab109 l1 l2 l3 l4 _ _ _ (lv_sub hl [0, 1, 2, 3, 4] rfl) S h
      have lab77 : ∀ (l1 : Int32) (l2 : Int32) (l3 : Int32) (l4 : Int32) (H : Heap) (locs : List Loc) (ls : Array Slot), lv_has ls 5 [(0, .ref (q 0)), (1, .int l1), (2, .int l2), (3, .int l3), (4, .int l4)] → Sta KM D dA q A s.heap w H locs → Option.bind (m_faultOf_b77 l1 l2 l3 l4 w) (seqF (fun s9 => Option.bind (lp (m_faultOf_L6 w) n6 s9) (fun x9 => Option.bind (m_faultOf_x6 w x9) some)) (fun x9 => Option.bind (m_faultOf_x6 w x9) some)) = some z → W p l e RM_m_faultOf s m args below meth c H locs 0 0 Q (F0 m 77 ls []) := by
        intro l1 l2 l3 l4 H locs ls hl S h
        unfold m_faultOf_b77 at h
        refine lv_iload_n hx hb dX10_faultOf_77 rfl (lv_at hl 2 rfl) ?_
        refine lv_iconst (v := 1) hx hb dX10_faultOf_78 (by decide) ?_
        refine lv_icmp_ne (tgt := 99) hx hb dX10_faultOf_79 rfl (fun c11 => ?_) (fun c11 => ?_)
        · have h := h_f c11 h
          exact lab99 l1 l2 l3 l4 _ _ _ (lv_sub hl [0, 1, 2, 3, 4] rfl) S h
        · have h := h_t c11 h
          refine lv_iload hx hb dX10_faultOf_82 (lv_at hl 4 rfl) ?_
          refine lv_bipush (v := 41) hx hb dX10_faultOf_84 (by decide) ?_
          refine lv_icmp_ne (tgt := 99) hx hb dX10_faultOf_86 rfl (fun c12 => ?_) (fun c12 => ?_)
          · have h := h_f c12 h
            exact lab99 l1 l2 l3 l4 _ _ _ (lv_sub hl [0, 1, 2, 3, 4] rfl) S h
          · have h := h_t c12 h
            refine lv_iload_n hx hb dX10_faultOf_89 rfl (lv_at hl 1 rfl) ?_
            refine lv_if_le (tgt := 99) hx hb dX10_faultOf_90 rfl (fun c13 => ?_) (fun c13 => ?_)
            · have h := h_t c13 h
              exact lab99 l1 l2 l3 l4 _ _ _ (lv_sub hl [0, 1, 2, 3, 4] rfl) S h
            · have h := h_f c13 h
              refine lv_iinc (v := (l1 + (-1))) (lv' := [(1, .int (l1 + (-1))), (0, .ref (q 0)), (2, .int l2), (3, .int l3), (4, .int l4)]) hx hb dX10_faultOf_93 hl (k := 1) rfl rfl (Nat.le_of_ble_eq_true rfl) rfl (fun ls hl => ?_)
              refine lv_goto (tgt := 155) hx hb dX10_faultOf_96 rfl ?_
              refine lv_iinc (v := (l3 + 1)) (lv' := [(3, .int (l3 + 1)), (1, .int (l1 + (-1))), (0, .ref (q 0)), (2, .int l2), (4, .int l4)]) hx hb dX10_faultOf_155 hl (k := 3) rfl rfl (Nat.le_of_ble_eq_true rfl) rfl (fun ls hl => ?_)
              refine lv_goto (tgt := 6) hx hb dX10_faultOf_158 rfl ?_
              exact ih6 (l1 + (-1)) l2 (l3 + 1) _ _ _ (lv_sub hl [2, 1, 3, 0] rfl) S h
      have lab57 : ∀ (l1 : Int32) (l2 : Int32) (l3 : Int32) (l4 : Int32) (H : Heap) (locs : List Loc) (ls : Array Slot), lv_has ls 5 [(0, .ref (q 0)), (1, .int l1), (2, .int l2), (3, .int l3), (4, .int l4)] → Sta KM D dA q A s.heap w H locs → Option.bind (m_faultOf_b57 l1 l2 l3 l4 w) (seqF (fun s9 => Option.bind (lp (m_faultOf_L6 w) n6 s9) (fun x9 => Option.bind (m_faultOf_x6 w x9) some)) (fun x9 => Option.bind (m_faultOf_x6 w x9) some)) = some z → W p l e RM_m_faultOf s m args below meth c H locs 0 0 Q (F0 m 57 ls []) := by
        intro l1 l2 l3 l4 H locs ls hl S h
        unfold m_faultOf_b57 at h
        refine lv_iload_n hx hb dX10_faultOf_57 rfl (lv_at hl 2 rfl) ?_
        refine lv_iconst (v := 2) hx hb dX10_faultOf_58 (by decide) ?_
        refine lv_icmp_ge (tgt := 77) hx hb dX10_faultOf_59 rfl (fun c14 => ?_) (fun c14 => ?_)
        · have h := h_t c14 h
          exact lab77 l1 l2 l3 l4 _ _ _ (lv_sub hl [0, 1, 2, 3, 4] rfl) S h
        · have h := h_f c14 h
          refine lv_iload hx hb dX10_faultOf_62 (lv_at hl 4 rfl) ?_
          refine lv_bipush (v := 40) hx hb dX10_faultOf_64 (by decide) ?_
          refine lv_icmp_ne (tgt := 77) hx hb dX10_faultOf_66 rfl (fun c15 => ?_) (fun c15 => ?_)
          · have h := h_f c15 h
            exact lab77 l1 l2 l3 l4 _ _ _ (lv_sub hl [0, 1, 2, 3, 4] rfl) S h
          · have h := h_t c15 h
            refine lv_iconst (v := 0) hx hb dX10_faultOf_69 (by decide) ?_
            refine lv_istore_n (lv' := [(2, .int (0 : Int32)), (0, .ref (q 0)), (1, .int l1), (3, .int l3), (4, .int l4)]) hx hb dX10_faultOf_70 rfl hl (Nat.le_of_ble_eq_true rfl) rfl (fun ls hl => ?_)
            refine lv_iinc (v := (l1 + 1)) (lv' := [(1, .int (l1 + 1)), (2, .int (0 : Int32)), (0, .ref (q 0)), (3, .int l3), (4, .int l4)]) hx hb dX10_faultOf_71 hl (k := 2) rfl rfl (Nat.le_of_ble_eq_true rfl) rfl (fun ls hl => ?_)
            refine lv_goto (tgt := 155) hx hb dX10_faultOf_74 rfl ?_
            refine lv_iinc (v := (l3 + 1)) (lv' := [(3, .int (l3 + 1)), (1, .int (l1 + 1)), (2, .int (0 : Int32)), (0, .ref (q 0)), (4, .int l4)]) hx hb dX10_faultOf_155 hl (k := 3) rfl rfl (Nat.le_of_ble_eq_true rfl) rfl (fun ls hl => ?_)
            refine lv_goto (tgt := 6) hx hb dX10_faultOf_158 rfl ?_
            exact ih6 (l1 + 1) (0 : Int32) (l3 + 1) _ _ _ (lv_sub hl [3, 1, 2, 0] rfl) S h
      have lab40 : ∀ (l1 : Int32) (l2 : Int32) (l3 : Int32) (l4 : Int32) (H : Heap) (locs : List Loc) (ls : Array Slot), lv_has ls 5 [(0, .ref (q 0)), (1, .int l1), (2, .int l2), (3, .int l3), (4, .int l4)] → Sta KM D dA q A s.heap w H locs → Option.bind (m_faultOf_b40 l1 l2 l3 l4 w) (seqF (fun s9 => Option.bind (lp (m_faultOf_L6 w) n6 s9) (fun x9 => Option.bind (m_faultOf_x6 w x9) some)) (fun x9 => Option.bind (m_faultOf_x6 w x9) some)) = some z → W p l e RM_m_faultOf s m args below meth c H locs 0 0 Q (F0 m 40 ls []) := by
        intro l1 l2 l3 l4 H locs ls hl S h
        unfold m_faultOf_b40 at h
        refine lv_iload_n hx hb dX10_faultOf_40 rfl (lv_at hl 2 rfl) ?_
        refine lv_iconst (v := 2) hx hb dX10_faultOf_41 (by decide) ?_
        refine lv_icmp_ge (tgt := 57) hx hb dX10_faultOf_42 rfl (fun c16 => ?_) (fun c16 => ?_)
        · have h := h_t c16 h
          exact lab57 l1 l2 l3 l4 _ _ _ (lv_sub hl [0, 1, 2, 3, 4] rfl) S h
        · have h := h_f c16 h
          refine lv_iload hx hb dX10_faultOf_45 (lv_at hl 4 rfl) ?_
          refine lv_bipush (v := 101) hx hb dX10_faultOf_47 (by decide) ?_
          refine lv_icmp_ne (tgt := 57) hx hb dX10_faultOf_49 rfl (fun c17 => ?_) (fun c17 => ?_)
          · have h := h_f c17 h
            exact lab57 l1 l2 l3 l4 _ _ _ (lv_sub hl [0, 1, 2, 3, 4] rfl) S h
          · have h := h_t c17 h
            refine lv_iconst (v := 3) hx hb dX10_faultOf_52 (by decide) ?_
            refine lv_istore_n (lv' := [(2, .int (3 : Int32)), (0, .ref (q 0)), (1, .int l1), (3, .int l3), (4, .int l4)]) hx hb dX10_faultOf_53 rfl hl (Nat.le_of_ble_eq_true rfl) rfl (fun ls hl => ?_)
            refine lv_goto (tgt := 155) hx hb dX10_faultOf_54 rfl ?_
            refine lv_iinc (v := (l3 + 1)) (lv' := [(3, .int (l3 + 1)), (2, .int (3 : Int32)), (0, .ref (q 0)), (1, .int l1), (4, .int l4)]) hx hb dX10_faultOf_155 hl (k := 3) rfl rfl (Nat.le_of_ble_eq_true rfl) rfl (fun ls hl => ?_)
            refine lv_goto (tgt := 6) hx hb dX10_faultOf_158 rfl ?_
            exact ih6 l1 (3 : Int32) (l3 + 1) _ _ _ (lv_sub hl [2, 3, 1, 0] rfl) S h
      intro l1 l2 l3 H locs ls hl S h
      have h := h_lp h
      unfold m_faultOf_L6 at h
      refine lv_iload_n hx hb dX10_faultOf_6 rfl (lv_at hl 3 rfl) ?_
      refine lv_aload_n hx hb dX10_faultOf_7 rfl (lv_at hl 0 rfl) ?_
      refine g_get fl_RX10_138_X10 hx hb C S KM_0 rfl dX10_faultOf_8 ?_
      refine lv_icmp_ge (tgt := 161) hx hb dX10_faultOf_11 rfl (fun c18 => ?_) (fun c18 => ?_)
      · have h := h_t c18 h
        exact lab161 l1 l2 _ _ _ (lv_sub hl [0, 1, 2] rfl) S h
      · have h := h_f c18 h
        refine lv_aload_n hx hb dX10_faultOf_14 rfl (lv_at hl 0 rfl) ?_
        refine g_getR fl_RX10_26_X10 hx hb C S KM_0 rfl dX10_faultOf_15 ?_
        refine lv_iload_n hx hb dX10_faultOf_18 rfl (lv_at hl 3 rfl) ?_
        obtain ⟨g19, h⟩ := h_gd h
        refine r_iald hx hb C S KM_6 (h_in g19) dX10_faultOf_19 ?_
        refine lv_topi (fun v20 ev20 => ?_)
        have h := h_l h v20 ev20
        refine lv_istore (lv' := [(4, .int v20), (0, .ref (q 0)), (1, .int l1), (2, .int l2), (3, .int l3)]) hx hb dX10_faultOf_20 hl (Nat.le_of_ble_eq_true rfl) rfl (fun ls hl => ?_)
        refine lv_iload_n hx hb dX10_faultOf_22 rfl (lv_at hl 3 rfl) ?_
        refine lv_iconst (v := 2) hx hb dX10_faultOf_23 (by decide) ?_
        refine lv_icmp_ge (tgt := 40) hx hb dX10_faultOf_24 rfl (fun c21 => ?_) (fun c21 => ?_)
        · have h := h_t c21 h
          exact lab40 l1 l2 l3 v20 _ _ _ (lv_sub hl [1, 2, 3, 4, 0] rfl) S h
        · have h := h_f c21 h
          refine lv_iload hx hb dX10_faultOf_27 (lv_at hl 0 rfl) ?_
          obtain ⟨x22, ex22, h⟩ := h_c h
          refine k_i C S (q_S (rest := []) (As := [.int v20]) lk_RX10_141 ev hx hb hml C S (c_m_isPlain l D dA q v20 w x22 ex22 _) rfl rfl ⟨(Nat.le_of_ble_eq_true rfl), (Nat.le_of_ble_eq_true rfl)⟩ rfl hl.1 rfl (Nat.le_of_ble_eq_true rfl) dX10_faultOf_29 ⟨(Nat.le_of_ble_eq_true rfl), (Nat.le_of_ble_eq_true rfl)⟩) (fun H locs S => ?_)
          refine lv_if_eq (tgt := 40) hx hb dX10_faultOf_32 rfl (fun c23 => ?_) (fun c23 => ?_)
          · have h := h_t c23 h
            exact lab40 l1 l2 l3 v20 _ _ _ (lv_sub hl [1, 2, 3, 4, 0] rfl) S h
          · have h := h_f c23 h
            refine lv_iconst (v := 2) hx hb dX10_faultOf_35 (by decide) ?_
            refine lv_istore_n (lv' := [(2, .int (2 : Int32)), (4, .int v20), (0, .ref (q 0)), (1, .int l1), (3, .int l3)]) hx hb dX10_faultOf_36 rfl hl (Nat.le_of_ble_eq_true rfl) rfl (fun ls hl => ?_)
            refine lv_goto (tgt := 155) hx hb dX10_faultOf_37 rfl ?_
            refine lv_iinc (v := (l3 + 1)) (lv' := [(3, .int (l3 + 1)), (2, .int (2 : Int32)), (4, .int v20), (0, .ref (q 0)), (1, .int l1)]) hx hb dX10_faultOf_155 hl (k := 4) rfl rfl (Nat.le_of_ble_eq_true rfl) rfl (fun ls hl => ?_)
            refine lv_goto (tgt := 6) hx hb dX10_faultOf_158 rfl ?_
            exact ih6 l1 (2 : Int32) (l3 + 1) _ _ _ (lv_sub hl [3, 4, 1, 0] rfl) S h
  intro H locs ls hl S h
  have h := h_0 h
  unfold m_faultOf at h
  refine lv_iconst (v := 0) hx hb dX10_faultOf_0 (by decide) ?_
  refine lv_istore_n (lv' := [(1, .int (0 : Int32)), (0, .ref (q 0))]) hx hb dX10_faultOf_1 rfl hl (Nat.le_of_ble_eq_true rfl) rfl (fun ls hl => ?_)
  refine lv_iconst (v := 0) hx hb dX10_faultOf_2 (by decide) ?_
  refine lv_istore_n (lv' := [(2, .int (0 : Int32)), (1, .int (0 : Int32)), (0, .ref (q 0))]) hx hb dX10_faultOf_3 rfl hl (Nat.le_of_ble_eq_true rfl) rfl (fun ls hl => ?_)
  refine lv_iconst (v := 0) hx hb dX10_faultOf_4 (by decide) ?_
  refine lv_istore_n (lv' := [(3, .int (0 : Int32)), (2, .int (0 : Int32)), (1, .int (0 : Int32)), (0, .ref (q 0))]) hx hb dX10_faultOf_5 rfl hl (Nat.le_of_ble_eq_true rfl) rfl (fun ls hl => ?_)
  exact loop6  FU (0 : Int32) (0 : Int32) (0 : Int32) _ _ _ (lv_sub hl [3, 2, 1, 0] rfl) S (h_bb h)
theorem c_m_faultOf (l : Launch) (D : va_G) (dA : Nat → ClassId) (q : Nat → Nat) (w : Wt) (r : Int32) (h : m_faultOf w = some r) : Mi l EVm KM D dA q yX10_faultOf cX10_faultOf 5 (some .int) RM_m_faultOf [.ref (q 0)] w r w :=
  mk_i (by decide) rfl EVm_ok (Nat.le_of_ble_eq_true rfl) (fun p e s m args below meth c A Q ls hx hb hml C S hl fin => k_m_faultOf w r hx hb hml C (fun H locs ls r' pc S h d => fin H locs ls r' w pc S (by rw [Option.some.inj h]) d) _ _ _ hl S h)
/-! BallotscriptModel.fault()I m_fault -/
def m_fault (w : Wt) : Option (Int32 × Wt) := nmd (upd2 w 0 45 (0 : Int32)) fun w1 => Option.bind (m_faultOf w1) fun x2 => some (x2, w1)
def RM_m_fault : Room := { frames := 2, cells := 0, slots := 0, locals := 46 }
set_option maxHeartbeats 4000000 in
set_option maxRecDepth 20000 in
theorem k_m_fault (w : Wt) (z : (Int32 × Wt)) (hx : p.tables.exec = Jvm.exec) (hb : c.code = cX10_fault) (hml : c.maxLocals = 1) (C : Cx EVm KM D dA q A s m args RX10) (fin : ∀ (H : Heap) (locs : List Loc) (ls : Array Slot) (r' : Int32) (w2 : Wt) (pc : Nat) , Sta KM D dA q A s.heap w2 H locs → some (r', w2) = some z → decode cX10_fault pc = .ok (.ireturn, 1) → W p l e RM_m_fault s m args below meth c H locs 0 0 Q (F0 m pc ls [.int r'])) : ∀ (H : Heap) (locs : List Loc) (ls : Array Slot), lv_has ls 1 [(0, .ref (q 0))] → Sta KM D dA q A s.heap w H locs → m_fault w = some z → W p l e RM_m_fault s m args below meth c H locs 0 0 Q (F0 m 0 ls []) := by
  have ev : evOk EVm := EVm_ok
  intro H locs ls hl S h
  have h := h_0 h
  unfold m_fault at h
  refine lv_aload_n hx hb dX10_fault_0 rfl (lv_at hl 0 rfl) ?_
  refine lv_iconst (v := 0) hx hb dX10_fault_1 (by decide) ?_
  refine g_put fl_RX10_98_X10 pl_X10_45 hx hb C S KM_0 rfl ⟨rfl, rfl⟩ dX10_fault_2 (fun w1 ew1 H locs S => ?_)
  have h := h_l h w1 ew1
  refine lv_aload_n hx hb dX10_fault_5 rfl (lv_at hl 0 rfl) ?_
  obtain ⟨x2, ex2, h⟩ := h_c h
  refine k_i C S (q_V (rest := []) (As := []) lk_RX10_144 ev hx hb hml C S KM_0 rfl (c_m_faultOf l D dA q w1 x2 ex2 _) rfl rfl ⟨(Nat.le_of_ble_eq_true rfl), (Nat.le_of_ble_eq_true rfl)⟩ rfl hl.1 rfl (Nat.le_of_ble_eq_true rfl) dX10_fault_6 ⟨(Nat.le_of_ble_eq_true rfl), (Nat.le_of_ble_eq_true rfl)⟩) (fun H locs S => ?_)
  exact fin _ _ _ x2 w1 _ S h dX10_fault_9
theorem c_m_fault (l : Launch) (D : va_G) (dA : Nat → ClassId) (q : Nat → Nat) (w w' : Wt) (r : Int32) (h : m_fault w = some (r, w')) : Mi l EVm KM D dA q yX10_fault cX10_fault 1 (some .int) RM_m_fault [.ref (q 0)] w r w' :=
  mk_i (by decide) rfl EVm_ok (Nat.le_of_ble_eq_true rfl) (fun p e s m args below meth c A Q ls hx hb hml C S hl fin => k_m_fault w (r, w') hx hb hml C (fun H locs ls r' w2 pc S h d => fin H locs ls r' w2 pc S h d) _ _ _ hl S h)
/-! BallotscriptModel.writes(I)V m_writes -/
def m_writes_b43 (w : Wt) : Option Wt := some w
def m_writes_L12 (l1 : Int32) : (Int32 × Wt) → Option ((Int32 × Wt) ⊕ Wt)
  | (l2, w) => (if (w 0 8) ≤ l2 then some (.inr w) else gd (inb l2 24) (gd (inb (((24 : Int32) * l1) + l2) 192) (nmd (upd2 w 7 ((((24 : Int32) * l1) + l2)).toNatClampNeg (w 6 (l2).toNatClampNeg)) fun w4 => some (.inl ((l2 + 1), w4)))))
def m_writes_x12 : Wt → Option Wt
  | w => m_writes_b43 w
def m_writes (a1 : Int32) (w : Wt) : Option Wt := gd (inb a1 8) (nmd (upd2 w 8 (a1).toNatClampNeg (w 0 8)) fun w6 => Option.bind (lp (m_writes_L12 a1) FU ((0 : Int32), w6)) (m_writes_x12))
def RM_m_writes : Room := { frames := 0, cells := 0, slots := 0, locals := 0 }
set_option maxHeartbeats 4000000 in
set_option maxRecDepth 20000 in
theorem k_m_writes (a1 : Int32) (w : Wt) (z : Wt) (hx : p.tables.exec = Jvm.exec) (hb : c.code = cX10_writes) (hml : c.maxLocals = 3) (C : Cx EVm KM D dA q A s m args RX10) (fin : ∀ (H : Heap) (locs : List Loc) (ls : Array Slot) (w2 : Wt) (pc : Nat) , Sta KM D dA q A s.heap w2 H locs → some w2 = some z → decode cX10_writes pc = .ok (.return_, 1) → W p l e RM_m_writes s m args below meth c H locs 0 0 Q (F0 m pc ls [])) : ∀ (H : Heap) (locs : List Loc) (ls : Array Slot), lv_has ls 3 [(0, .ref (q 0)), (1, .int a1)] → Sta KM D dA q A s.heap w H locs → m_writes a1 w = some z → W p l e RM_m_writes s m args below meth c H locs 0 0 Q (F0 m 0 ls []) := by
  have ev : evOk EVm := EVm_ok
  have lab43 : ∀ (w : Wt) (H : Heap) (locs : List Loc) (ls : Array Slot), lv_has ls 3 [] → Sta KM D dA q A s.heap w H locs → Option.bind (m_writes_b43 w) some = some z → W p l e RM_m_writes s m args below meth c H locs 0 0 Q (F0 m 43 ls []) := by
    intro  w H locs ls hl S h
    unfold m_writes_b43 at h
    exact fin _ _ _ w _ S h dX10_writes_43
  have loop12 : ∀ (l1 : Int32) (n12 : Nat), ∀ (l2 : Int32) (w : Wt) (H : Heap) (locs : List Loc) (ls : Array Slot), lv_has ls 3 [(0, .ref (q 0)), (1, .int l1), (2, .int l2)] → Sta KM D dA q A s.heap w H locs → Option.bind (lp (m_writes_L12 l1) n12 (l2, w)) (fun x9 => Option.bind (m_writes_x12 x9) some) = some z → W p l e RM_m_writes s m args below meth c H locs 0 0 Q (F0 m 12 ls []) := by
    intro l1 n12
    induction n12 with
    | zero =>
      intro l2 w H locs ls hl S h
      exact (h_lp0 h).elim
    | succ n12 ih12 =>
      intro l2 w H locs ls hl S h
      have h := h_lp h
      unfold m_writes_L12 at h
      refine lv_iload_n hx hb dX10_writes_12 rfl (lv_at hl 2 rfl) ?_
      refine lv_aload_n hx hb dX10_writes_13 rfl (lv_at hl 0 rfl) ?_
      refine g_get fl_RX10_138_X10 hx hb C S KM_0 rfl dX10_writes_14 ?_
      refine lv_icmp_ge (tgt := 43) hx hb dX10_writes_17 rfl (fun c1 => ?_) (fun c1 => ?_)
      · have h := h_t c1 h
        exact lab43 w _ _ _ (lv_sub hl [] rfl) S h
      · have h := h_f c1 h
        refine lv_aload_n hx hb dX10_writes_20 rfl (lv_at hl 0 rfl) ?_
        refine g_getR fl_RX10_29_X10 hx hb C S KM_0 rfl dX10_writes_21 ?_
        refine lv_bipush (v := 24) hx hb dX10_writes_24 (by decide) ?_
        refine lv_iload_n hx hb dX10_writes_26 rfl (lv_at hl 1 rfl) ?_
        refine lv_imul hx hb dX10_writes_27 ?_
        refine lv_iload_n hx hb dX10_writes_28 rfl (lv_at hl 2 rfl) ?_
        refine lv_iadd hx hb dX10_writes_29 ?_
        refine lv_aload_n hx hb dX10_writes_30 rfl (lv_at hl 0 rfl) ?_
        refine g_getR fl_RX10_26_X10 hx hb C S KM_0 rfl dX10_writes_31 ?_
        refine lv_iload_n hx hb dX10_writes_34 rfl (lv_at hl 2 rfl) ?_
        obtain ⟨g2, h⟩ := h_gd h
        refine r_iald hx hb C S KM_6 (h_in g2) dX10_writes_35 ?_
        obtain ⟨g3, h⟩ := h_gd h
        refine r_iast hx hb C S KM_7 (h_in g3) dX10_writes_36 (fun w4 ew4 H locs S => ?_)
        have h := h_l h w4 ew4
        refine lv_iinc (v := (l2 + 1)) (lv' := [(2, .int (l2 + 1)), (0, .ref (q 0)), (1, .int l1)]) hx hb dX10_writes_37 hl (k := 2) rfl rfl (Nat.le_of_ble_eq_true rfl) rfl (fun ls hl => ?_)
        refine lv_goto (tgt := 12) hx hb dX10_writes_40 rfl ?_
        exact ih12 (l2 + 1) w4 _ _ _ (lv_sub hl [1, 2, 0] rfl) S h
  intro H locs ls hl S h
  have h := h_0 h
  unfold m_writes at h
  refine lv_aload_n hx hb dX10_writes_0 rfl (lv_at hl 0 rfl) ?_
  refine g_getR fl_RX10_32_X10 hx hb C S KM_0 rfl dX10_writes_1 ?_
  refine lv_iload_n hx hb dX10_writes_4 rfl (lv_at hl 1 rfl) ?_
  refine lv_aload_n hx hb dX10_writes_5 rfl (lv_at hl 0 rfl) ?_
  refine g_get fl_RX10_138_X10 hx hb C S KM_0 rfl dX10_writes_6 ?_
  obtain ⟨g5, h⟩ := h_gd h
  refine r_iast hx hb C S KM_8 (h_in g5) dX10_writes_9 (fun w6 ew6 H locs S => ?_)
  have h := h_l h w6 ew6
  refine lv_iconst (v := 0) hx hb dX10_writes_10 (by decide) ?_
  refine lv_istore_n (lv' := [(2, .int (0 : Int32)), (0, .ref (q 0)), (1, .int a1)]) hx hb dX10_writes_11 rfl hl (Nat.le_of_ble_eq_true rfl) rfl (fun ls hl => ?_)
  exact loop12 a1 FU (0 : Int32) w6 _ _ _ (lv_sub hl [1, 2, 0] rfl) S (h_bb h)
theorem c_m_writes (l : Launch) (D : va_G) (dA : Nat → ClassId) (q : Nat → Nat) (a1 : Int32) (w w' : Wt) (h : m_writes a1 w = some w') : Mv l EVm KM D dA q yX10_writes cX10_writes 3 none RM_m_writes [.ref (q 0), .int a1] w w' :=
  mk_v (by decide) rfl EVm_ok (Nat.le_of_ble_eq_true rfl) (fun p e s m args below meth c A Q ls hx hb hml C S hl fin => k_m_writes a1 w w' hx hb hml C (fun H locs ls w2 pc S h d => fin H locs ls w2 pc S h d) _ _ _ hl S h)
/-! BallotscriptModel.rule()I m_rule -/
def m_rule_b28 (t0 : Int32) (t1 : Int32) (w : Wt) : Option (Int32 × Wt) := Option.bind (m_goes t1 t0 (1 : Int32) w) fun x1 => (if x1.1 = (0 : Int32) then some ((0 : Int32), x1.2) else Option.bind (m_writes (x1.2 0 11) x1.2) fun x3 => nmd (upd2 x3 0 11 ((x3 0 11) + (1 : Int32))) fun w4 => some (((w4 0 11) - (1 : Int32)), w4))
def m_rule_b14 (t0 : Int32) (w : Wt) : Option (Int32 × Wt) := (if (8 : Int32) ≤ (w 0 11) then m_rule_b28 (0 : Int32) t0 w else m_rule_b28 (1 : Int32) t0 w)
def m_rule (w : Wt) : Option (Int32 × Wt) := Option.bind (m_faultOf w) fun x6 => (if x6 = (-1 : Int32) then m_rule_b14 (1 : Int32) w else m_rule_b14 (0 : Int32) w)
def RM_m_rule : Room := { frames := 2, cells := 0, slots := 0, locals := 46 }
set_option maxHeartbeats 4000000 in
set_option maxRecDepth 20000 in
theorem k_m_rule (w : Wt) (z : (Int32 × Wt)) (hx : p.tables.exec = Jvm.exec) (hb : c.code = cX10_rule) (hml : c.maxLocals = 1) (C : Cx EVm KM D dA q A s m args RX10) (fin : ∀ (H : Heap) (locs : List Loc) (ls : Array Slot) (r' : Int32) (w2 : Wt) (pc : Nat) , Sta KM D dA q A s.heap w2 H locs → some (r', w2) = some z → decode cX10_rule pc = .ok (.ireturn, 1) → W p l e RM_m_rule s m args below meth c H locs 0 0 Q (F0 m pc ls [.int r'])) : ∀ (H : Heap) (locs : List Loc) (ls : Array Slot), lv_has ls 1 [(0, .ref (q 0))] → Sta KM D dA q A s.heap w H locs → m_rule w = some z → W p l e RM_m_rule s m args below meth c H locs 0 0 Q (F0 m 0 ls []) := by
  have ev : evOk EVm := EVm_ok
  have lab28 : ∀ (t0 : Int32) (t1 : Int32) (w : Wt) (H : Heap) (locs : List Loc) (ls : Array Slot), lv_has ls 1 [(0, .ref (q 0))] → Sta KM D dA q A s.heap w H locs → Option.bind (m_rule_b28 t0 t1 w) some = some z → W p l e RM_m_rule s m args below meth c H locs 0 0 Q (F0 m 28 ls [.int t0, .int t1, .ref (q 0)]) := by
    intro t0 t1 w H locs ls hl S h
    unfold m_rule_b28 at h
    refine lv_iconst (v := 1) hx hb dX10_rule_28 (by decide) ?_
    obtain ⟨x1, ex1, h⟩ := h_c h
    refine k_i C S (q_V (rest := []) (As := [.int t1, .int t0, .int (1 : Int32)]) lk_RX10_113 ev hx hb hml C S KM_0 rfl (c_m_goes l D dA q t1 t0 (1 : Int32) w x1.2 x1.1 ex1 _) rfl rfl ⟨(Nat.le_of_ble_eq_true rfl), (Nat.le_of_ble_eq_true rfl)⟩ rfl hl.1 rfl (Nat.le_of_ble_eq_true rfl) dX10_rule_29 ⟨(Nat.le_of_ble_eq_true rfl), (Nat.le_of_ble_eq_true rfl)⟩) (fun H locs S => ?_)
    refine lv_if_ne (tgt := 37) hx hb dX10_rule_32 rfl (fun c2 => ?_) (fun c2 => ?_)
    · have h := h_f c2 h
      refine lv_aload_n hx hb dX10_rule_37 rfl (lv_at hl 0 rfl) ?_
      refine lv_aload_n hx hb dX10_rule_38 rfl (lv_at hl 0 rfl) ?_
      refine g_get fl_RX10_147_X10 hx hb C S KM_0 rfl dX10_rule_39 ?_
      obtain ⟨x3, ex3, h⟩ := h_c h
      refine k_v C S (q_V (rest := []) (As := [.int (x1.2 0 11)]) lk_RX10_150 ev hx hb hml C S KM_0 rfl (c_m_writes l D dA q (x1.2 0 11) x1.2 x3 ex3 _) rfl rfl ⟨(Nat.le_of_ble_eq_true rfl), (Nat.le_of_ble_eq_true rfl)⟩ rfl hl.1 rfl (Nat.le_of_ble_eq_true rfl) dX10_rule_42 ⟨(Nat.le_of_ble_eq_true rfl), (Nat.le_of_ble_eq_true rfl)⟩) (fun H locs S => ?_)
      refine lv_aload_n hx hb dX10_rule_45 rfl (lv_at hl 0 rfl) ?_
      refine lv_dup hx hb dX10_rule_46 rfl ?_
      refine g_get fl_RX10_147_X10 hx hb C S KM_0 rfl dX10_rule_47 ?_
      refine lv_iconst (v := 1) hx hb dX10_rule_50 (by decide) ?_
      refine lv_iadd hx hb dX10_rule_51 ?_
      refine g_put fl_RX10_147_X10 pl_X10_11 hx hb C S KM_0 rfl ⟨rfl, rfl⟩ dX10_rule_52 (fun w4 ew4 H locs S => ?_)
      have h := h_l h w4 ew4
      refine lv_aload_n hx hb dX10_rule_55 rfl (lv_at hl 0 rfl) ?_
      refine g_get fl_RX10_147_X10 hx hb C S KM_0 rfl dX10_rule_56 ?_
      refine lv_iconst (v := 1) hx hb dX10_rule_59 (by decide) ?_
      refine lv_isub hx hb dX10_rule_60 ?_
      exact fin _ _ _ ((w4 0 11) - (1 : Int32)) w4 _ S h dX10_rule_61
    · have h := h_t c2 h
      refine lv_iconst (v := 0) hx hb dX10_rule_35 (by decide) ?_
      exact fin _ _ _ (0 : Int32) x1.2 _ S h dX10_rule_36
  have lab14 : ∀ (t0 : Int32) (w : Wt) (H : Heap) (locs : List Loc) (ls : Array Slot), lv_has ls 1 [(0, .ref (q 0))] → Sta KM D dA q A s.heap w H locs → Option.bind (m_rule_b14 t0 w) some = some z → W p l e RM_m_rule s m args below meth c H locs 0 0 Q (F0 m 14 ls [.int t0, .ref (q 0)]) := by
    intro t0 w H locs ls hl S h
    unfold m_rule_b14 at h
    refine lv_aload_n hx hb dX10_rule_14 rfl (lv_at hl 0 rfl) ?_
    refine g_get fl_RX10_147_X10 hx hb C S KM_0 rfl dX10_rule_15 ?_
    refine lv_bipush (v := 8) hx hb dX10_rule_18 (by decide) ?_
    refine lv_icmp_ge (tgt := 27) hx hb dX10_rule_20 rfl (fun c5 => ?_) (fun c5 => ?_)
    · have h := h_t c5 h
      refine lv_iconst (v := 0) hx hb dX10_rule_27 (by decide) ?_
      exact lab28 (0 : Int32) t0 w _ _ _ (lv_sub hl [0] rfl) S h
    · have h := h_f c5 h
      refine lv_iconst (v := 1) hx hb dX10_rule_23 (by decide) ?_
      refine lv_goto (tgt := 28) hx hb dX10_rule_24 rfl ?_
      exact lab28 (1 : Int32) t0 w _ _ _ (lv_sub hl [0] rfl) S h
  intro H locs ls hl S h
  have h := h_0 h
  unfold m_rule at h
  refine lv_aload_n hx hb dX10_rule_0 rfl (lv_at hl 0 rfl) ?_
  refine lv_aload_n hx hb dX10_rule_1 rfl (lv_at hl 0 rfl) ?_
  obtain ⟨x6, ex6, h⟩ := h_c h
  refine k_i C S (q_V (rest := [.ref (q 0)]) (As := []) lk_RX10_144 ev hx hb hml C S KM_0 rfl (c_m_faultOf l D dA q w x6 ex6 _) rfl rfl ⟨(Nat.le_of_ble_eq_true rfl), (Nat.le_of_ble_eq_true rfl)⟩ rfl hl.1 rfl (Nat.le_of_ble_eq_true rfl) dX10_rule_2 ⟨(Nat.le_of_ble_eq_true rfl), (Nat.le_of_ble_eq_true rfl)⟩) (fun H locs S => ?_)
  refine lv_iconst (v := -1) hx hb dX10_rule_5 (by decide) ?_
  refine lv_icmp_ne (tgt := 13) hx hb dX10_rule_6 rfl (fun c7 => ?_) (fun c7 => ?_)
  · have h := h_f c7 h
    refine lv_iconst (v := 0) hx hb dX10_rule_13 (by decide) ?_
    exact lab14 (0 : Int32) w _ _ _ (lv_sub hl [0] rfl) S h
  · have h := h_t c7 h
    refine lv_iconst (v := 1) hx hb dX10_rule_9 (by decide) ?_
    refine lv_goto (tgt := 14) hx hb dX10_rule_10 rfl ?_
    exact lab14 (1 : Int32) w _ _ _ (lv_sub hl [0] rfl) S h
theorem c_m_rule (l : Launch) (D : va_G) (dA : Nat → ClassId) (q : Nat → Nat) (w w' : Wt) (r : Int32) (h : m_rule w = some (r, w')) : Mi l EVm KM D dA q yX10_rule cX10_rule 1 (some .int) RM_m_rule [.ref (q 0)] w r w' :=
  mk_i (by decide) rfl EVm_ok (Nat.le_of_ble_eq_true rfl) (fun p e s m args below meth c A Q ls hx hb hml C S hl fin => k_m_rule w (r, w') hx hb hml C (fun H locs ls r' w2 pc S h d => fin H locs ls r' w2 pc S h d) _ _ _ hl S h)
/-! BallotscriptModel.has(II)Z m_has -/
def m_has (a0 : Int32) (a1 : Int32) : Option Int32 := (if ((a0 >>> (a1 &&& 31)) &&& (1 : Int32)) = (1 : Int32) then some (1 : Int32) else some (0 : Int32))
def RM_m_has : Room := { frames := 0, cells := 0, slots := 0, locals := 0 }
set_option maxHeartbeats 4000000 in
set_option maxRecDepth 20000 in
theorem k_m_has (a0 : Int32) (a1 : Int32) (w : Wt) (z : Int32) (hx : p.tables.exec = Jvm.exec) (hb : c.code = cX10_has) (hml : c.maxLocals = 2) (C : Cx EVm KM D dA q A s m args RX10) (fin : ∀ (H : Heap) (locs : List Loc) (ls : Array Slot) (r' : Int32) (pc : Nat) , narrow .boolean (.int r') = .int r' → Sta KM D dA q A s.heap w H locs → some r' = some z → decode cX10_has pc = .ok (.ireturn, 1) → W p l e RM_m_has s m args below meth c H locs 0 0 Q (F0 m pc ls [.int r'])) : ∀ (H : Heap) (locs : List Loc) (ls : Array Slot), lv_has ls 2 [(0, .int a0), (1, .int a1)] → Sta KM D dA q A s.heap w H locs → m_has a0 a1 = some z → W p l e RM_m_has s m args below meth c H locs 0 0 Q (F0 m 0 ls []) := by
  have ev : evOk EVm := EVm_ok
  intro H locs ls hl S h
  have h := h_0 h
  unfold m_has at h
  refine lv_iload_n hx hb dX10_has_0 rfl (lv_at hl 0 rfl) ?_
  refine lv_iload_n hx hb dX10_has_1 rfl (lv_at hl 1 rfl) ?_
  refine lv_ishr hx hb dX10_has_2 ?_
  refine lv_iconst (v := 1) hx hb dX10_has_3 (by decide) ?_
  refine lv_iand hx hb dX10_has_4 ?_
  refine lv_iconst (v := 1) hx hb dX10_has_5 (by decide) ?_
  refine lv_icmp_ne (tgt := 13) hx hb dX10_has_6 rfl (fun c1 => ?_) (fun c1 => ?_)
  · have h := h_f c1 h
    refine lv_iconst (v := 0) hx hb dX10_has_13 (by decide) ?_
    exact fin _ _ _ (0 : Int32) _ (by decide) S h dX10_has_14
  · have h := h_t c1 h
    refine lv_iconst (v := 1) hx hb dX10_has_9 (by decide) ?_
    refine lv_goto (tgt := 14) hx hb dX10_has_10 rfl ?_
    exact fin _ _ _ (1 : Int32) _ (by decide) S h dX10_has_14
theorem c_m_has (l : Launch) (D : va_G) (dA : Nat → ClassId) (q : Nat → Nat) (a0 : Int32) (a1 : Int32) (w : Wt) (r : Int32) (h : m_has a0 a1 = some r) : Mi l EVm KM D dA q yX10_has cX10_has 2 (some .boolean) RM_m_has [.int a0, .int a1] w r w :=
  mk_z (by decide) rfl EVm_ok (Nat.le_of_ble_eq_true rfl) (fun p e s m args below meth c A Q ls hx hb hml C S hl fin => k_m_has a0 a1 w r hx hb hml C (fun H locs ls r' pc hn S h d => fin H locs ls r' w pc hn S (by rw [Option.some.inj h]) d) _ _ _ hl S h)
/-! BallotscriptModel.size(I)I m_size -/
def m_size_b24 (l1 : Int32) : Option Int32 := some l1
def m_size_L4 (l0 : Int32) : (Int32 × Int32) → Option ((Int32 × Int32) ⊕ Int32)
  | (l1, l2) => (if (6 : Int32) ≤ l2 then some (.inr l1) else nmd (l1 + ((l0 >>> (l2 &&& 31)) &&& (1 : Int32))) fun v2 => some (.inl (v2, (l2 + 1))))
def m_size_x4 : Int32 → Option Int32
  | l1 => m_size_b24 l1
def m_size (a0 : Int32) : Option Int32 := Option.bind (lp (m_size_L4 a0) FU ((0 : Int32), (0 : Int32))) (m_size_x4)
def RM_m_size : Room := { frames := 0, cells := 0, slots := 0, locals := 0 }
set_option maxHeartbeats 4000000 in
set_option maxRecDepth 20000 in
theorem k_m_size (a0 : Int32) (w : Wt) (z : Int32) (hx : p.tables.exec = Jvm.exec) (hb : c.code = cX10_size) (hml : c.maxLocals = 3) (C : Cx EVm KM D dA q A s m args RX10) (fin : ∀ (H : Heap) (locs : List Loc) (ls : Array Slot) (r' : Int32) (pc : Nat) , Sta KM D dA q A s.heap w H locs → some r' = some z → decode cX10_size pc = .ok (.ireturn, 1) → W p l e RM_m_size s m args below meth c H locs 0 0 Q (F0 m pc ls [.int r'])) : ∀ (H : Heap) (locs : List Loc) (ls : Array Slot), lv_has ls 3 [(0, .int a0)] → Sta KM D dA q A s.heap w H locs → m_size a0 = some z → W p l e RM_m_size s m args below meth c H locs 0 0 Q (F0 m 0 ls []) := by
  have ev : evOk EVm := EVm_ok
  have lab24 : ∀ (l1 : Int32) (H : Heap) (locs : List Loc) (ls : Array Slot), lv_has ls 3 [(1, .int l1)] → Sta KM D dA q A s.heap w H locs → Option.bind (m_size_b24 l1) some = some z → W p l e RM_m_size s m args below meth c H locs 0 0 Q (F0 m 24 ls []) := by
    intro l1 H locs ls hl S h
    unfold m_size_b24 at h
    refine lv_iload_n hx hb dX10_size_24 rfl (lv_at hl 0 rfl) ?_
    exact fin _ _ _ l1 _ S h dX10_size_25
  have loop4 : ∀ (l0 : Int32) (n4 : Nat), ∀ (l1 : Int32) (l2 : Int32) (H : Heap) (locs : List Loc) (ls : Array Slot), lv_has ls 3 [(0, .int l0), (1, .int l1), (2, .int l2)] → Sta KM D dA q A s.heap w H locs → Option.bind (lp (m_size_L4 l0) n4 (l1, l2)) (fun x9 => Option.bind (m_size_x4 x9) some) = some z → W p l e RM_m_size s m args below meth c H locs 0 0 Q (F0 m 4 ls []) := by
    intro l0 n4
    induction n4 with
    | zero =>
      intro l1 l2 H locs ls hl S h
      exact (h_lp0 h).elim
    | succ n4 ih4 =>
      intro l1 l2 H locs ls hl S h
      have h := h_lp h
      unfold m_size_L4 at h
      refine lv_iload_n hx hb dX10_size_4 rfl (lv_at hl 2 rfl) ?_
      refine lv_bipush (v := 6) hx hb dX10_size_5 (by decide) ?_
      refine lv_icmp_ge (tgt := 24) hx hb dX10_size_7 rfl (fun c1 => ?_) (fun c1 => ?_)
      · have h := h_t c1 h
        exact lab24 l1 _ _ _ (lv_sub hl [1] rfl) S h
      · have h := h_f c1 h
        refine lv_iload_n hx hb dX10_size_10 rfl (lv_at hl 1 rfl) ?_
        refine lv_iload_n hx hb dX10_size_11 rfl (lv_at hl 0 rfl) ?_
        refine lv_iload_n hx hb dX10_size_12 rfl (lv_at hl 2 rfl) ?_
        refine lv_ishr hx hb dX10_size_13 ?_
        refine lv_iconst (v := 1) hx hb dX10_size_14 (by decide) ?_
        refine lv_iand hx hb dX10_size_15 ?_
        refine lv_iadd hx hb dX10_size_16 ?_
        refine lv_topi (fun v2 ev2 => ?_)
        have h := h_l h v2 ev2
        refine lv_istore_n (lv' := [(1, .int v2), (0, .int l0), (2, .int l2)]) hx hb dX10_size_17 rfl hl (Nat.le_of_ble_eq_true rfl) rfl (fun ls hl => ?_)
        refine lv_iinc (v := (l2 + 1)) (lv' := [(2, .int (l2 + 1)), (1, .int v2), (0, .int l0)]) hx hb dX10_size_18 hl (k := 2) rfl rfl (Nat.le_of_ble_eq_true rfl) rfl (fun ls hl => ?_)
        refine lv_goto (tgt := 4) hx hb dX10_size_21 rfl ?_
        exact ih4 v2 (l2 + 1) _ _ _ (lv_sub hl [2, 1, 0] rfl) S h
  intro H locs ls hl S h
  have h := h_0 h
  unfold m_size at h
  refine lv_iconst (v := 0) hx hb dX10_size_0 (by decide) ?_
  refine lv_istore_n (lv' := [(1, .int (0 : Int32)), (0, .int a0)]) hx hb dX10_size_1 rfl hl (Nat.le_of_ble_eq_true rfl) rfl (fun ls hl => ?_)
  refine lv_iconst (v := 0) hx hb dX10_size_2 (by decide) ?_
  refine lv_istore_n (lv' := [(2, .int (0 : Int32)), (1, .int (0 : Int32)), (0, .int a0)]) hx hb dX10_size_3 rfl hl (Nat.le_of_ble_eq_true rfl) rfl (fun ls hl => ?_)
  exact loop4 a0 FU (0 : Int32) (0 : Int32) _ _ _ (lv_sub hl [2, 1, 0] rfl) S (h_bb h)
theorem c_m_size (l : Launch) (D : va_G) (dA : Nat → ClassId) (q : Nat → Nat) (a0 : Int32) (w : Wt) (r : Int32) (h : m_size a0 = some r) : Mi l EVm KM D dA q yX10_size cX10_size 3 (some .int) RM_m_size [.int a0] w r w :=
  mk_i (by decide) rfl EVm_ok (Nat.le_of_ble_eq_true rfl) (fun p e s m args below meth c A Q ls hx hb hml C S hl fin => k_m_size a0 w r hx hb hml C (fun H locs ls r' pc S h d => fin H locs ls r' w pc S (by rw [Option.some.inj h]) d) _ _ _ hl S h)
/-! BallotscriptModel.votesIn(II)I m_votesIn -/
def m_votesIn (a1 : Int32) (a2 : Int32) (w : Wt) : Option Int32 := (if (0 : Int32) ≤ a1 then gd (inb (((6 : Int32) * a1) + a2) 2400) (some (w 25 ((((6 : Int32) * a1) + a2)).toNatClampNeg)) else some (0 : Int32))
def RM_m_votesIn : Room := { frames := 0, cells := 0, slots := 0, locals := 0 }
set_option maxHeartbeats 4000000 in
set_option maxRecDepth 20000 in
theorem k_m_votesIn (a1 : Int32) (a2 : Int32) (w : Wt) (z : Int32) (hx : p.tables.exec = Jvm.exec) (hb : c.code = cX10_votesIn) (hml : c.maxLocals = 3) (C : Cx EVm KM D dA q A s m args RX10) (fin : ∀ (H : Heap) (locs : List Loc) (ls : Array Slot) (r' : Int32) (pc : Nat) , Sta KM D dA q A s.heap w H locs → some r' = some z → decode cX10_votesIn pc = .ok (.ireturn, 1) → W p l e RM_m_votesIn s m args below meth c H locs 0 0 Q (F0 m pc ls [.int r'])) : ∀ (H : Heap) (locs : List Loc) (ls : Array Slot), lv_has ls 3 [(0, .ref (q 0)), (1, .int a1), (2, .int a2)] → Sta KM D dA q A s.heap w H locs → m_votesIn a1 a2 w = some z → W p l e RM_m_votesIn s m args below meth c H locs 0 0 Q (F0 m 0 ls []) := by
  have ev : evOk EVm := EVm_ok
  intro H locs ls hl S h
  have h := h_0 h
  unfold m_votesIn at h
  refine lv_iload_n hx hb dX10_votesIn_0 rfl (lv_at hl 1 rfl) ?_
  refine lv_if_ge (tgt := 8) hx hb dX10_votesIn_1 rfl (fun c1 => ?_) (fun c1 => ?_)
  · have h := h_t c1 h
    refine lv_aload_n hx hb dX10_votesIn_8 rfl (lv_at hl 0 rfl) ?_
    refine g_getR fl_RX10_83_X10 hx hb C S KM_0 rfl dX10_votesIn_9 ?_
    refine lv_bipush (v := 6) hx hb dX10_votesIn_12 (by decide) ?_
    refine lv_iload_n hx hb dX10_votesIn_14 rfl (lv_at hl 1 rfl) ?_
    refine lv_imul hx hb dX10_votesIn_15 ?_
    refine lv_iload_n hx hb dX10_votesIn_16 rfl (lv_at hl 2 rfl) ?_
    refine lv_iadd hx hb dX10_votesIn_17 ?_
    obtain ⟨g2, h⟩ := h_gd h
    refine r_iald hx hb C S KM_25 (h_in g2) dX10_votesIn_18 ?_
    exact fin _ _ _ (w 25 ((((6 : Int32) * a1) + a2)).toNatClampNeg) _ S h dX10_votesIn_19
  · have h := h_f c1 h
    refine lv_iconst (v := 0) hx hb dX10_votesIn_4 (by decide) ?_
    refine lv_goto (tgt := 19) hx hb dX10_votesIn_5 rfl ?_
    exact fin _ _ _ (0 : Int32) _ S h dX10_votesIn_19
theorem c_m_votesIn (l : Launch) (D : va_G) (dA : Nat → ClassId) (q : Nat → Nat) (a1 : Int32) (a2 : Int32) (w : Wt) (r : Int32) (h : m_votesIn a1 a2 w = some r) : Mi l EVm KM D dA q yX10_votesIn cX10_votesIn 3 (some .int) RM_m_votesIn [.ref (q 0), .int a1, .int a2] w r w :=
  mk_i (by decide) rfl EVm_ok (Nat.le_of_ble_eq_true rfl) (fun p e s m args below meth c A Q ls hx hb hml C S hl fin => k_m_votesIn a1 a2 w r hx hb hml C (fun H locs ls r' pc S h d => fin H locs ls r' w pc S (by rw [Option.some.inj h]) d) _ _ _ hl S h)
/-! BallotscriptModel.extreme(IIZ)I m_extreme -/
def m_extreme_b120 (l4 : Int32) (w : Wt) : Option Int32 := some l4
def m_extreme_b98 (l1 : Int32) (l2 : Int32) (l3 : Int32) (l5 : Int32) (l6 : Int32) (l7 : Int32) (l8 : Int32) (t0 : Int32) (w : Wt) : Option ((Int32 × Int32 × Int32) ⊕ Int32) := (if l8 = (0 : Int32) then some (.inl (t0, l5, (l6 + 1))) else some (.inl (t0, l7, (l6 + 1))))
def m_extreme_b65 (l1 : Int32) (l2 : Int32) (l3 : Int32) (l4 : Int32) (l5 : Int32) (l6 : Int32) (l7 : Int32) (t0 : Int32) (w : Wt) : Option ((Int32 × Int32 × Int32) ⊕ Int32) := (if t0 = (0 : Int32) then (if l7 = l5 then m_extreme_b98 l1 l2 l3 l5 l6 l7 t0 (l4 ||| ((1 : Int32) <<< (l6 &&& 31))) w else m_extreme_b98 l1 l2 l3 l5 l6 l7 t0 l4 w) else m_extreme_b98 l1 l2 l3 l5 l6 l7 t0 ((1 : Int32) <<< (l6 &&& 31)) w)
def m_extreme_b64 (l1 : Int32) (l2 : Int32) (l3 : Int32) (l4 : Int32) (l5 : Int32) (l6 : Int32) (l7 : Int32) (w : Wt) : Option ((Int32 × Int32 × Int32) ⊕ Int32) := m_extreme_b65 l1 l2 l3 l4 l5 l6 l7 (0 : Int32) w
def m_extreme_b60 (l1 : Int32) (l2 : Int32) (l3 : Int32) (l4 : Int32) (l5 : Int32) (l6 : Int32) (l7 : Int32) (w : Wt) : Option ((Int32 × Int32 × Int32) ⊕ Int32) := m_extreme_b65 l1 l2 l3 l4 l5 l6 l7 (1 : Int32) w
def m_extreme_L9 (l1 : Int32) (l2 : Int32) (l3 : Int32) (w : Wt) : (Int32 × Int32 × Int32) → Option ((Int32 × Int32 × Int32) ⊕ Int32)
  | (l4, l5, l6) => (if (6 : Int32) ≤ l6 then some (.inr l4) else Option.bind (m_has l1 l6) fun x5 => (if x5 = (0 : Int32) then some (.inl (l4, l5, (l6 + 1))) else Option.bind (m_votesIn l2 l6 w) fun x7 => (if l4 = (0 : Int32) then m_extreme_b60 l1 l2 l3 l4 l5 l6 x7 w else (if l3 = (0 : Int32) then (if l5 ≤ x7 then m_extreme_b64 l1 l2 l3 l4 l5 l6 x7 w else m_extreme_b60 l1 l2 l3 l4 l5 l6 x7 w) else (if x7 ≤ l5 then m_extreme_b64 l1 l2 l3 l4 l5 l6 x7 w else m_extreme_b60 l1 l2 l3 l4 l5 l6 x7 w)))))
def m_extreme_x9 (w : Wt) : Int32 → Option Int32
  | l4 => m_extreme_b120 l4 w
def m_extreme (a1 : Int32) (a2 : Int32) (a3 : Int32) (w : Wt) : Option Int32 := Option.bind (lp (m_extreme_L9 a1 a2 a3 w) FU ((0 : Int32), (0 : Int32), (0 : Int32))) (m_extreme_x9 w)
def RM_m_extreme : Room := { frames := 1, cells := 0, slots := 0, locals := 22 }
set_option maxHeartbeats 4000000 in
set_option maxRecDepth 20000 in
theorem k_m_extreme (a1 : Int32) (a2 : Int32) (a3 : Int32) (w : Wt) (z : Int32) (hx : p.tables.exec = Jvm.exec) (hb : c.code = cX10_extreme) (hml : c.maxLocals = 9) (C : Cx EVm KM D dA q A s m args RX10) (fin : ∀ (H : Heap) (locs : List Loc) (ls : Array Slot) (r' : Int32) (pc : Nat) , Sta KM D dA q A s.heap w H locs → some r' = some z → decode cX10_extreme pc = .ok (.ireturn, 1) → W p l e RM_m_extreme s m args below meth c H locs 0 0 Q (F0 m pc ls [.int r'])) : ∀ (H : Heap) (locs : List Loc) (ls : Array Slot), lv_has ls 9 [(0, .ref (q 0)), (1, .int a1), (2, .int a2), (3, .int a3)] → Sta KM D dA q A s.heap w H locs → m_extreme a1 a2 a3 w = some z → W p l e RM_m_extreme s m args below meth c H locs 0 0 Q (F0 m 0 ls []) := by
  have ev : evOk EVm := EVm_ok
  have lab120 : ∀ (l4 : Int32) (H : Heap) (locs : List Loc) (ls : Array Slot), lv_has ls 9 [(4, .int l4)] → Sta KM D dA q A s.heap w H locs → Option.bind (m_extreme_b120 l4 w) some = some z → W p l e RM_m_extreme s m args below meth c H locs 0 0 Q (F0 m 120 ls []) := by
    intro l4 H locs ls hl S h
    unfold m_extreme_b120 at h
    refine lv_iload hx hb dX10_extreme_120 (lv_at hl 0 rfl) ?_
    exact fin _ _ _ l4 _ S h dX10_extreme_122
  have loop9 : ∀ (l1 : Int32) (l2 : Int32) (l3 : Int32) (n9 : Nat), ∀ (l4 : Int32) (l5 : Int32) (l6 : Int32) (H : Heap) (locs : List Loc) (ls : Array Slot), lv_has ls 9 [(0, .ref (q 0)), (1, .int l1), (2, .int l2), (3, .int l3), (4, .int l4), (5, .int l5), (6, .int l6)] → Sta KM D dA q A s.heap w H locs → Option.bind (lp (m_extreme_L9 l1 l2 l3 w) n9 (l4, l5, l6)) (fun x9 => Option.bind (m_extreme_x9 w x9) some) = some z → W p l e RM_m_extreme s m args below meth c H locs 0 0 Q (F0 m 9 ls []) := by
    intro l1 l2 l3 n9
    induction n9 with
    | zero =>
      intro l4 l5 l6 H locs ls hl S h
      exact (h_lp0 h).elim
    | succ n9 ih9 =>
      have lab98 : ∀ (l5 : Int32) (l6 : Int32) (l7 : Int32) (l8 : Int32) (t0 : Int32) (H : Heap) (locs : List Loc) (ls : Array Slot), lv_has ls 9 [(0, .ref (q 0)), (1, .int l1), (2, .int l2), (3, .int l3), (5, .int l5), (6, .int l6), (7, .int l7), (8, .int l8)] → Sta KM D dA q A s.heap w H locs → Option.bind (m_extreme_b98 l1 l2 l3 l5 l6 l7 l8 t0 w) (seqF (fun s9 => Option.bind (lp (m_extreme_L9 l1 l2 l3 w) n9 s9) (fun x9 => Option.bind (m_extreme_x9 w x9) some)) (fun x9 => Option.bind (m_extreme_x9 w x9) some)) = some z → W p l e RM_m_extreme s m args below meth c H locs 0 0 Q (F0 m 98 ls [.int t0]) := by
        intro l5 l6 l7 l8 t0 H locs ls hl S h
        unfold m_extreme_b98 at h
        refine lv_istore (lv' := [(4, .int t0), (0, .ref (q 0)), (1, .int l1), (2, .int l2), (3, .int l3), (5, .int l5), (6, .int l6), (7, .int l7), (8, .int l8)]) hx hb dX10_extreme_98 hl (Nat.le_of_ble_eq_true rfl) rfl (fun ls hl => ?_)
        refine lv_iload hx hb dX10_extreme_100 (lv_at hl 8 rfl) ?_
        refine lv_if_eq (tgt := 110) hx hb dX10_extreme_102 rfl (fun c1 => ?_) (fun c1 => ?_)
        · have h := h_t c1 h
          refine lv_iload hx hb dX10_extreme_110 (lv_at hl 5 rfl) ?_
          refine lv_istore (lv' := [(5, .int l5), (4, .int t0), (0, .ref (q 0)), (1, .int l1), (2, .int l2), (3, .int l3), (6, .int l6), (7, .int l7), (8, .int l8)]) hx hb dX10_extreme_112 hl (Nat.le_of_ble_eq_true rfl) rfl (fun ls hl => ?_)
          refine lv_iinc (v := (l6 + 1)) (lv' := [(6, .int (l6 + 1)), (5, .int l5), (4, .int t0), (0, .ref (q 0)), (1, .int l1), (2, .int l2), (3, .int l3), (7, .int l7), (8, .int l8)]) hx hb dX10_extreme_114 hl (k := 6) rfl rfl (Nat.le_of_ble_eq_true rfl) rfl (fun ls hl => ?_)
          refine lv_goto (tgt := 9) hx hb dX10_extreme_117 rfl ?_
          exact ih9 t0 l5 (l6 + 1) _ _ _ (lv_sub hl [3, 4, 5, 6, 2, 1, 0] rfl) S h
        · have h := h_f c1 h
          refine lv_iload hx hb dX10_extreme_105 (lv_at hl 7 rfl) ?_
          refine lv_goto (tgt := 112) hx hb dX10_extreme_107 rfl ?_
          refine lv_istore (lv' := [(5, .int l7), (4, .int t0), (0, .ref (q 0)), (1, .int l1), (2, .int l2), (3, .int l3), (6, .int l6), (7, .int l7), (8, .int l8)]) hx hb dX10_extreme_112 hl (Nat.le_of_ble_eq_true rfl) rfl (fun ls hl => ?_)
          refine lv_iinc (v := (l6 + 1)) (lv' := [(6, .int (l6 + 1)), (5, .int l7), (4, .int t0), (0, .ref (q 0)), (1, .int l1), (2, .int l2), (3, .int l3), (7, .int l7), (8, .int l8)]) hx hb dX10_extreme_114 hl (k := 6) rfl rfl (Nat.le_of_ble_eq_true rfl) rfl (fun ls hl => ?_)
          refine lv_goto (tgt := 9) hx hb dX10_extreme_117 rfl ?_
          exact ih9 t0 l7 (l6 + 1) _ _ _ (lv_sub hl [3, 4, 5, 6, 2, 1, 0] rfl) S h
      have lab65 : ∀ (l4 : Int32) (l5 : Int32) (l6 : Int32) (l7 : Int32) (t0 : Int32) (H : Heap) (locs : List Loc) (ls : Array Slot), lv_has ls 9 [(0, .ref (q 0)), (1, .int l1), (2, .int l2), (3, .int l3), (4, .int l4), (5, .int l5), (6, .int l6), (7, .int l7)] → Sta KM D dA q A s.heap w H locs → Option.bind (m_extreme_b65 l1 l2 l3 l4 l5 l6 l7 t0 w) (seqF (fun s9 => Option.bind (lp (m_extreme_L9 l1 l2 l3 w) n9 s9) (fun x9 => Option.bind (m_extreme_x9 w x9) some)) (fun x9 => Option.bind (m_extreme_x9 w x9) some)) = some z → W p l e RM_m_extreme s m args below meth c H locs 0 0 Q (F0 m 65 ls [.int t0]) := by
        intro l4 l5 l6 l7 t0 H locs ls hl S h
        unfold m_extreme_b65 at h
        refine lv_istore (lv' := [(8, .int t0), (0, .ref (q 0)), (1, .int l1), (2, .int l2), (3, .int l3), (4, .int l4), (5, .int l5), (6, .int l6), (7, .int l7)]) hx hb dX10_extreme_65 hl (Nat.le_of_ble_eq_true rfl) rfl (fun ls hl => ?_)
        refine lv_iload hx hb dX10_extreme_67 (lv_at hl 0 rfl) ?_
        refine lv_if_eq (tgt := 79) hx hb dX10_extreme_69 rfl (fun c2 => ?_) (fun c2 => ?_)
        · have h := h_t c2 h
          refine lv_iload hx hb dX10_extreme_79 (lv_at hl 8 rfl) ?_
          refine lv_iload hx hb dX10_extreme_81 (lv_at hl 6 rfl) ?_
          refine lv_icmp_ne (tgt := 96) hx hb dX10_extreme_83 rfl (fun c3 => ?_) (fun c3 => ?_)
          · have h := h_f c3 h
            refine lv_iload hx hb dX10_extreme_96 (lv_at hl 5 rfl) ?_
            exact lab98 l5 l6 l7 t0 l4 _ _ _ (lv_sub hl [1, 2, 3, 4, 6, 7, 8, 0] rfl) S h
          · have h := h_t c3 h
            refine lv_iload hx hb dX10_extreme_86 (lv_at hl 5 rfl) ?_
            refine lv_iconst (v := 1) hx hb dX10_extreme_88 (by decide) ?_
            refine lv_iload hx hb dX10_extreme_89 (lv_at hl 7 rfl) ?_
            refine lv_ishl hx hb dX10_extreme_91 ?_
            refine lv_ior hx hb dX10_extreme_92 ?_
            refine lv_goto (tgt := 98) hx hb dX10_extreme_93 rfl ?_
            exact lab98 l5 l6 l7 t0 (l4 ||| ((1 : Int32) <<< (l6 &&& 31))) _ _ _ (lv_sub hl [1, 2, 3, 4, 6, 7, 8, 0] rfl) S h
        · have h := h_f c2 h
          refine lv_iconst (v := 1) hx hb dX10_extreme_72 (by decide) ?_
          refine lv_iload hx hb dX10_extreme_73 (lv_at hl 7 rfl) ?_
          refine lv_ishl hx hb dX10_extreme_75 ?_
          refine lv_goto (tgt := 98) hx hb dX10_extreme_76 rfl ?_
          exact lab98 l5 l6 l7 t0 ((1 : Int32) <<< (l6 &&& 31)) _ _ _ (lv_sub hl [1, 2, 3, 4, 6, 7, 8, 0] rfl) S h
      have lab64 : ∀ (l4 : Int32) (l5 : Int32) (l6 : Int32) (l7 : Int32) (H : Heap) (locs : List Loc) (ls : Array Slot), lv_has ls 9 [(0, .ref (q 0)), (1, .int l1), (2, .int l2), (3, .int l3), (4, .int l4), (5, .int l5), (6, .int l6), (7, .int l7)] → Sta KM D dA q A s.heap w H locs → Option.bind (m_extreme_b64 l1 l2 l3 l4 l5 l6 l7 w) (seqF (fun s9 => Option.bind (lp (m_extreme_L9 l1 l2 l3 w) n9 s9) (fun x9 => Option.bind (m_extreme_x9 w x9) some)) (fun x9 => Option.bind (m_extreme_x9 w x9) some)) = some z → W p l e RM_m_extreme s m args below meth c H locs 0 0 Q (F0 m 64 ls []) := by
        intro l4 l5 l6 l7 H locs ls hl S h
        unfold m_extreme_b64 at h
        refine lv_iconst (v := 0) hx hb dX10_extreme_64 (by decide) ?_
        exact lab65 l4 l5 l6 l7 (0 : Int32) _ _ _ (lv_sub hl [0, 1, 2, 3, 4, 5, 6, 7] rfl) S h
      have lab60 : ∀ (l4 : Int32) (l5 : Int32) (l6 : Int32) (l7 : Int32) (H : Heap) (locs : List Loc) (ls : Array Slot), lv_has ls 9 [(0, .ref (q 0)), (1, .int l1), (2, .int l2), (3, .int l3), (4, .int l4), (5, .int l5), (6, .int l6), (7, .int l7)] → Sta KM D dA q A s.heap w H locs → Option.bind (m_extreme_b60 l1 l2 l3 l4 l5 l6 l7 w) (seqF (fun s9 => Option.bind (lp (m_extreme_L9 l1 l2 l3 w) n9 s9) (fun x9 => Option.bind (m_extreme_x9 w x9) some)) (fun x9 => Option.bind (m_extreme_x9 w x9) some)) = some z → W p l e RM_m_extreme s m args below meth c H locs 0 0 Q (F0 m 60 ls []) := by
        intro l4 l5 l6 l7 H locs ls hl S h
        unfold m_extreme_b60 at h
        refine lv_iconst (v := 1) hx hb dX10_extreme_60 (by decide) ?_
        refine lv_goto (tgt := 65) hx hb dX10_extreme_61 rfl ?_
        exact lab65 l4 l5 l6 l7 (1 : Int32) _ _ _ (lv_sub hl [0, 1, 2, 3, 4, 5, 6, 7] rfl) S h
      intro l4 l5 l6 H locs ls hl S h
      have h := h_lp h
      unfold m_extreme_L9 at h
      refine lv_iload hx hb dX10_extreme_9 (lv_at hl 6 rfl) ?_
      refine lv_bipush (v := 6) hx hb dX10_extreme_11 (by decide) ?_
      refine lv_icmp_ge (tgt := 120) hx hb dX10_extreme_13 rfl (fun c4 => ?_) (fun c4 => ?_)
      · have h := h_t c4 h
        exact lab120 l4 _ _ _ (lv_sub hl [4] rfl) S h
      · have h := h_f c4 h
        refine lv_iload_n hx hb dX10_extreme_16 rfl (lv_at hl 1 rfl) ?_
        refine lv_iload hx hb dX10_extreme_17 (lv_at hl 6 rfl) ?_
        obtain ⟨x5, ex5, h⟩ := h_c h
        refine k_i C S (q_S (rest := []) (As := [.int l1, .int l6]) lk_RX10_183 ev hx hb hml C S (c_m_has l D dA q l1 l6 w x5 ex5 _) rfl rfl ⟨(Nat.le_of_ble_eq_true rfl), (Nat.le_of_ble_eq_true rfl)⟩ rfl hl.1 rfl (Nat.le_of_ble_eq_true rfl) dX10_extreme_19 ⟨(Nat.le_of_ble_eq_true rfl), (Nat.le_of_ble_eq_true rfl)⟩) (fun H locs S => ?_)
        refine lv_if_eq (tgt := 114) hx hb dX10_extreme_22 rfl (fun c6 => ?_) (fun c6 => ?_)
        · have h := h_t c6 h
          refine lv_iinc (v := (l6 + 1)) (lv' := [(6, .int (l6 + 1)), (0, .ref (q 0)), (1, .int l1), (2, .int l2), (3, .int l3), (4, .int l4), (5, .int l5)]) hx hb dX10_extreme_114 hl (k := 6) rfl rfl (Nat.le_of_ble_eq_true rfl) rfl (fun ls hl => ?_)
          refine lv_goto (tgt := 9) hx hb dX10_extreme_117 rfl ?_
          exact ih9 l4 l5 (l6 + 1) _ _ _ (lv_sub hl [1, 2, 3, 4, 5, 6, 0] rfl) S h
        · have h := h_f c6 h
          refine lv_aload_n hx hb dX10_extreme_25 rfl (lv_at hl 0 rfl) ?_
          refine lv_iload_n hx hb dX10_extreme_26 rfl (lv_at hl 2 rfl) ?_
          refine lv_iload hx hb dX10_extreme_27 (lv_at hl 6 rfl) ?_
          obtain ⟨x7, ex7, h⟩ := h_c h
          refine k_i C S (q_V (rest := []) (As := [.int l2, .int l6]) lk_RX10_189 ev hx hb hml C S KM_0 rfl (c_m_votesIn l D dA q l2 l6 w x7 ex7 _) rfl rfl ⟨(Nat.le_of_ble_eq_true rfl), (Nat.le_of_ble_eq_true rfl)⟩ rfl hl.1 rfl (Nat.le_of_ble_eq_true rfl) dX10_extreme_29 ⟨(Nat.le_of_ble_eq_true rfl), (Nat.le_of_ble_eq_true rfl)⟩) (fun H locs S => ?_)
          refine lv_istore (lv' := [(7, .int x7), (0, .ref (q 0)), (1, .int l1), (2, .int l2), (3, .int l3), (4, .int l4), (5, .int l5), (6, .int l6)]) hx hb dX10_extreme_32 hl (Nat.le_of_ble_eq_true rfl) rfl (fun ls hl => ?_)
          refine lv_iload hx hb dX10_extreme_34 (lv_at hl 5 rfl) ?_
          refine lv_if_eq (tgt := 60) hx hb dX10_extreme_36 rfl (fun c8 => ?_) (fun c8 => ?_)
          · have h := h_t c8 h
            exact lab60 l4 l5 l6 x7 _ _ _ (lv_sub hl [1, 2, 3, 4, 5, 6, 7, 0] rfl) S h
          · have h := h_f c8 h
            refine lv_iload_n hx hb dX10_extreme_39 rfl (lv_at hl 4 rfl) ?_
            refine lv_if_eq (tgt := 53) hx hb dX10_extreme_40 rfl (fun c9 => ?_) (fun c9 => ?_)
            · have h := h_t c9 h
              refine lv_iload hx hb dX10_extreme_53 (lv_at hl 0 rfl) ?_
              refine lv_iload hx hb dX10_extreme_55 (lv_at hl 6 rfl) ?_
              refine lv_icmp_ge (tgt := 64) hx hb dX10_extreme_57 rfl (fun c10 => ?_) (fun c10 => ?_)
              · have h := h_t c10 h
                exact lab64 l4 l5 l6 x7 _ _ _ (lv_sub hl [1, 2, 3, 4, 5, 6, 7, 0] rfl) S h
              · have h := h_f c10 h
                exact lab60 l4 l5 l6 x7 _ _ _ (lv_sub hl [1, 2, 3, 4, 5, 6, 7, 0] rfl) S h
            · have h := h_f c9 h
              refine lv_iload hx hb dX10_extreme_43 (lv_at hl 0 rfl) ?_
              refine lv_iload hx hb dX10_extreme_45 (lv_at hl 6 rfl) ?_
              refine lv_icmp_le (tgt := 64) hx hb dX10_extreme_47 rfl (fun c11 => ?_) (fun c11 => ?_)
              · have h := h_t c11 h
                exact lab64 l4 l5 l6 x7 _ _ _ (lv_sub hl [1, 2, 3, 4, 5, 6, 7, 0] rfl) S h
              · have h := h_f c11 h
                refine lv_goto (tgt := 60) hx hb dX10_extreme_50 rfl ?_
                exact lab60 l4 l5 l6 x7 _ _ _ (lv_sub hl [1, 2, 3, 4, 5, 6, 7, 0] rfl) S h
  intro H locs ls hl S h
  have h := h_0 h
  unfold m_extreme at h
  refine lv_iconst (v := 0) hx hb dX10_extreme_0 (by decide) ?_
  refine lv_istore (lv' := [(4, .int (0 : Int32)), (0, .ref (q 0)), (1, .int a1), (2, .int a2), (3, .int a3)]) hx hb dX10_extreme_1 hl (Nat.le_of_ble_eq_true rfl) rfl (fun ls hl => ?_)
  refine lv_iconst (v := 0) hx hb dX10_extreme_3 (by decide) ?_
  refine lv_istore (lv' := [(5, .int (0 : Int32)), (4, .int (0 : Int32)), (0, .ref (q 0)), (1, .int a1), (2, .int a2), (3, .int a3)]) hx hb dX10_extreme_4 hl (Nat.le_of_ble_eq_true rfl) rfl (fun ls hl => ?_)
  refine lv_iconst (v := 0) hx hb dX10_extreme_6 (by decide) ?_
  refine lv_istore (lv' := [(6, .int (0 : Int32)), (5, .int (0 : Int32)), (4, .int (0 : Int32)), (0, .ref (q 0)), (1, .int a1), (2, .int a2), (3, .int a3)]) hx hb dX10_extreme_7 hl (Nat.le_of_ble_eq_true rfl) rfl (fun ls hl => ?_)
  exact loop9 a1 a2 a3 FU (0 : Int32) (0 : Int32) (0 : Int32) _ _ _ (lv_sub hl [3, 4, 5, 6, 2, 1, 0] rfl) S (h_bb h)
theorem c_m_extreme (l : Launch) (D : va_G) (dA : Nat → ClassId) (q : Nat → Nat) (a1 : Int32) (a2 : Int32) (a3 : Int32) (w : Wt) (r : Int32) (h : m_extreme a1 a2 a3 w = some r) : Mi l EVm KM D dA q yX10_extreme cX10_extreme 9 (some .int) RM_m_extreme [.ref (q 0), .int a1, .int a2, .int a3] w r w :=
  mk_i (by decide) rfl EVm_ok (Nat.le_of_ble_eq_true rfl) (fun p e s m args below meth c A Q ls hx hb hml C S hl fin => k_m_extreme a1 a2 a3 w r hx hb hml C (fun H locs ls r' pc S h d => fin H locs ls r' w pc S (by rw [Option.some.inj h]) d) _ _ _ hl S h)
end WALKS

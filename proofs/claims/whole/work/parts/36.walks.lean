section WALKS
variable {p : Program} {l : Launch} {e : Env} {s : State} {m : MethodId} {args : Array Value} {below : List Frame} {meth : Method} {c : Code} {Q : State → Prop} {D : va_G} {dA : Nat → ClassId} {q : Nat → Nat} {A : Nat → Prop}
/-! BallotscriptModel.recount(I)I m_recount -/
def m_recount_b94 (l2 : Int32) (w : Wt) : Option (Int32 × Wt) := some (l2, w)
def m_recount_b56 (l1 : Int32) (l3 : Int32) (t0 : Int32) (t1 : Int32) (w : Wt) : Option ((Int32 × Int32 × Wt) ⊕ (Int32 × Wt)) := nmd (t1 + t0) fun v1 => gd (inb l3 100) ((if (w 22 (l3).toNatClampNeg) = (0 : Int32) then gd (inb l3 100) (nmd (upd2 w 22 (l3).toNatClampNeg (vp_nar .boolean (0 : Int32))) fun w5 => some (.inl (v1, (l3 + 1), w5))) else gd (inb l3 100) ((if (w 19 (l3).toNatClampNeg) = l1 then gd (inb l3 100) (nmd (upd2 w 22 (l3).toNatClampNeg (vp_nar .boolean (0 : Int32))) fun w9 => some (.inl (v1, (l3 + 1), w9))) else gd (inb l3 100) (nmd (upd2 w 22 (l3).toNatClampNeg (vp_nar .boolean (1 : Int32))) fun w11 => some (.inl (v1, (l3 + 1), w11)))))))
def m_recount_b55 (l1 : Int32) (l3 : Int32) (t0 : Int32) (w : Wt) : Option ((Int32 × Int32 × Wt) ⊕ (Int32 × Wt)) := m_recount_b56 l1 l3 (0 : Int32) t0 w
def m_recount_L23 (l1 : Int32) : (Int32 × Int32 × Wt) → Option ((Int32 × Int32 × Wt) ⊕ (Int32 × Wt))
  | (l2, l3, w) => (if (w 0 27) ≤ l3 then some (.inr (l2, w)) else gd (inb l3 100) ((if (w 19 (l3).toNatClampNeg) = l1 then gd (inb l3 100) ((if (w 22 (l3).toNatClampNeg) = (0 : Int32) then m_recount_b55 l1 l3 l2 w else m_recount_b56 l1 l3 (1 : Int32) l2 w)) else m_recount_b55 l1 l3 l2 w)))
def m_recount_x23 : (Int32 × Wt) → Option (Int32 × Wt)
  | (l2, w) => m_recount_b94 l2 w
def m_recount (a1 : Int32) (w : Wt) : Option (Int32 × Wt) := Option.bind (m_isBelow a1 (w 0 20)) fun x17 => Option.bind (m_goes x17 (1 : Int32) (1 : Int32) w) fun x18 => (if x18.1 = (0 : Int32) then some ((0 : Int32), x18.2) else Option.bind (lp (m_recount_L23 a1) FU ((0 : Int32), (0 : Int32), x18.2)) (m_recount_x23))
def RM_m_recount : Room := { frames := 1, cells := 0, slots := 0, locals := 23 }
set_option maxHeartbeats 4000000 in
set_option maxRecDepth 20000 in
theorem k_m_recount (a1 : Int32) (w : Wt) (z : (Int32 × Wt)) (hx : p.tables.exec = Jvm.exec) (hb : c.code = cX10_recount) (hml : c.maxLocals = 4) (C : Cx EVm KM D dA q A s m args RX10) (fin : ∀ (H : Heap) (locs : List Loc) (ls : Array Slot) (r' : Int32) (w2 : Wt) (pc : Nat) , Sta KM D dA q A s.heap w2 H locs → some (r', w2) = some z → decode cX10_recount pc = .ok (.ireturn, 1) → W p l e RM_m_recount s m args below meth c H locs 0 0 Q (F0 m pc ls [.int r'])) : ∀ (H : Heap) (locs : List Loc) (ls : Array Slot), lv_has ls 4 [(0, .ref (q 0)), (1, .int a1)] → Sta KM D dA q A s.heap w H locs → m_recount a1 w = some z → W p l e RM_m_recount s m args below meth c H locs 0 0 Q (F0 m 0 ls []) := by
  have ev : evOk EVm := EVm_ok
  have lab94 : ∀ (l2 : Int32) (w : Wt) (H : Heap) (locs : List Loc) (ls : Array Slot), lv_has ls 4 [(2, .int l2)] → Sta KM D dA q A s.heap w H locs → Option.bind (m_recount_b94 l2 w) some = some z → W p l e RM_m_recount s m args below meth c H locs 0 0 Q (F0 m 94 ls []) := by
    intro l2 w H locs ls hl S h
    unfold m_recount_b94 at h
    refine lv_iload_n hx hb dX10_recount_94 rfl (lv_at hl 0 rfl) ?_
    exact fin _ _ _ l2 w _ S h dX10_recount_95
  have loop23 : ∀ (l1 : Int32) (n23 : Nat), ∀ (l2 : Int32) (l3 : Int32) (w : Wt) (H : Heap) (locs : List Loc) (ls : Array Slot), lv_has ls 4 [(0, .ref (q 0)), (1, .int l1), (2, .int l2), (3, .int l3)] → Sta KM D dA q A s.heap w H locs → Option.bind (lp (m_recount_L23 l1) n23 (l2, l3, w)) (fun x9 => Option.bind (m_recount_x23 x9) some) = some z → W p l e RM_m_recount s m args below meth c H locs 0 0 Q (F0 m 23 ls []) := by
    intro l1 n23
    induction n23 with
    | zero =>
      intro l2 l3 w H locs ls hl S h
      exact (h_lp0 h).elim
    | succ n23 ih23 =>
      have lab56 : ∀ (l3 : Int32) (t0 : Int32) (t1 : Int32) (w : Wt) (H : Heap) (locs : List Loc) (ls : Array Slot), lv_has ls 4 [(0, .ref (q 0)), (1, .int l1), (3, .int l3)] → Sta KM D dA q A s.heap w H locs → Option.bind (m_recount_b56 l1 l3 t0 t1 w) (seqF (fun s9 => Option.bind (lp (m_recount_L23 l1) n23 s9) (fun x9 => Option.bind (m_recount_x23 x9) some)) (fun x9 => Option.bind (m_recount_x23 x9) some)) = some z → W p l e RM_m_recount s m args below meth c H locs 0 0 Q (F0 m 56 ls [.int t0, .int t1]) := by
        intro l3 t0 t1 w H locs ls hl S h
        unfold m_recount_b56 at h
        refine lv_iadd hx hb dX10_recount_56 ?_
        refine lv_topi (fun v1 ev1 => ?_)
        have h := h_l h v1 ev1
        refine lv_istore_n (lv' := [(2, .int v1), (0, .ref (q 0)), (1, .int l1), (3, .int l3)]) hx hb dX10_recount_57 rfl hl (Nat.le_of_ble_eq_true rfl) rfl (fun ls hl => ?_)
        refine lv_aload_n hx hb dX10_recount_58 rfl (lv_at hl 1 rfl) ?_
        refine g_getR fl_RX10_74_X10 hx hb C S KM_0 rfl dX10_recount_59 ?_
        refine lv_iload_n hx hb dX10_recount_62 rfl (lv_at hl 3 rfl) ?_
        refine lv_aload_n hx hb dX10_recount_63 rfl (lv_at hl 1 rfl) ?_
        refine g_getR fl_RX10_74_X10 hx hb C S KM_0 rfl dX10_recount_64 ?_
        refine lv_iload_n hx hb dX10_recount_67 rfl (lv_at hl 3 rfl) ?_
        obtain ⟨g2, h⟩ := h_gd h
        refine r_zald hx hb C S KM_22 (h_in g2) dX10_recount_68 ?_
        refine lv_if_eq (tgt := 86) hx hb dX10_recount_69 rfl (fun c3 => ?_) (fun c3 => ?_)
        · have h := h_t c3 h
          refine lv_iconst (v := 0) hx hb dX10_recount_86 (by decide) ?_
          obtain ⟨g4, h⟩ := h_gd h
          refine r_zast hx hb C S KM_22 (h_in g4) dX10_recount_87 (fun w5 ew5 H locs S => ?_)
          have h := h_l h w5 ew5
          refine lv_iinc (v := (l3 + 1)) (lv' := [(3, .int (l3 + 1)), (2, .int v1), (0, .ref (q 0)), (1, .int l1)]) hx hb dX10_recount_88 hl (k := 3) rfl rfl (Nat.le_of_ble_eq_true rfl) rfl (fun ls hl => ?_)
          refine lv_goto (tgt := 23) hx hb dX10_recount_91 rfl ?_
          exact ih23 v1 (l3 + 1) w5 _ _ _ (lv_sub hl [2, 3, 1, 0] rfl) S h
        · have h := h_f c3 h
          refine lv_aload_n hx hb dX10_recount_72 rfl (lv_at hl 1 rfl) ?_
          refine g_getR fl_RX10_65_X10 hx hb C S KM_0 rfl dX10_recount_73 ?_
          refine lv_iload_n hx hb dX10_recount_76 rfl (lv_at hl 3 rfl) ?_
          obtain ⟨g6, h⟩ := h_gd h
          refine r_iald hx hb C S KM_19 (h_in g6) dX10_recount_77 ?_
          refine lv_iload_n hx hb dX10_recount_78 rfl (lv_at hl 2 rfl) ?_
          refine lv_icmp_eq (tgt := 86) hx hb dX10_recount_79 rfl (fun c7 => ?_) (fun c7 => ?_)
          · have h := h_t c7 h
            refine lv_iconst (v := 0) hx hb dX10_recount_86 (by decide) ?_
            obtain ⟨g8, h⟩ := h_gd h
            refine r_zast hx hb C S KM_22 (h_in g8) dX10_recount_87 (fun w9 ew9 H locs S => ?_)
            have h := h_l h w9 ew9
            refine lv_iinc (v := (l3 + 1)) (lv' := [(3, .int (l3 + 1)), (2, .int v1), (0, .ref (q 0)), (1, .int l1)]) hx hb dX10_recount_88 hl (k := 3) rfl rfl (Nat.le_of_ble_eq_true rfl) rfl (fun ls hl => ?_)
            refine lv_goto (tgt := 23) hx hb dX10_recount_91 rfl ?_
            exact ih23 v1 (l3 + 1) w9 _ _ _ (lv_sub hl [2, 3, 1, 0] rfl) S h
          · have h := h_f c7 h
            refine lv_iconst (v := 1) hx hb dX10_recount_82 (by decide) ?_
            refine lv_goto (tgt := 87) hx hb dX10_recount_83 rfl ?_
            obtain ⟨g10, h⟩ := h_gd h
            refine r_zast hx hb C S KM_22 (h_in g10) dX10_recount_87 (fun w11 ew11 H locs S => ?_)
            have h := h_l h w11 ew11
            refine lv_iinc (v := (l3 + 1)) (lv' := [(3, .int (l3 + 1)), (2, .int v1), (0, .ref (q 0)), (1, .int l1)]) hx hb dX10_recount_88 hl (k := 3) rfl rfl (Nat.le_of_ble_eq_true rfl) rfl (fun ls hl => ?_)
            refine lv_goto (tgt := 23) hx hb dX10_recount_91 rfl ?_
            exact ih23 v1 (l3 + 1) w11 _ _ _ (lv_sub hl [2, 3, 1, 0] rfl) S h
      have lab55 : ∀ (l3 : Int32) (t0 : Int32) (w : Wt) (H : Heap) (locs : List Loc) (ls : Array Slot), lv_has ls 4 [(0, .ref (q 0)), (1, .int l1), (3, .int l3)] → Sta KM D dA q A s.heap w H locs → Option.bind (m_recount_b55 l1 l3 t0 w) (seqF (fun s9 => Option.bind (lp (m_recount_L23 l1) n23 s9) (fun x9 => Option.bind (m_recount_x23 x9) some)) (fun x9 => Option.bind (m_recount_x23 x9) some)) = some z → W p l e RM_m_recount s m args below meth c H locs 0 0 Q (F0 m 55 ls [.int t0]) := by
        intro l3 t0 w H locs ls hl S h
        unfold m_recount_b55 at h
        refine lv_iconst (v := 0) hx hb dX10_recount_55 (by decide) ?_
        exact lab56 l3 (0 : Int32) t0 w _ _ _ (lv_sub hl [0, 1, 2] rfl) S h
      intro l2 l3 w H locs ls hl S h
      have h := h_lp h
      unfold m_recount_L23 at h
      refine lv_iload_n hx hb dX10_recount_23 rfl (lv_at hl 3 rfl) ?_
      refine lv_aload_n hx hb dX10_recount_24 rfl (lv_at hl 0 rfl) ?_
      refine g_get fl_RX10_117_X10 hx hb C S KM_0 rfl dX10_recount_25 ?_
      refine lv_icmp_ge (tgt := 94) hx hb dX10_recount_28 rfl (fun c12 => ?_) (fun c12 => ?_)
      · have h := h_t c12 h
        exact lab94 l2 w _ _ _ (lv_sub hl [2] rfl) S h
      · have h := h_f c12 h
        refine lv_iload_n hx hb dX10_recount_31 rfl (lv_at hl 2 rfl) ?_
        refine lv_aload_n hx hb dX10_recount_32 rfl (lv_at hl 0 rfl) ?_
        refine g_getR fl_RX10_65_X10 hx hb C S KM_0 rfl dX10_recount_33 ?_
        refine lv_iload_n hx hb dX10_recount_36 rfl (lv_at hl 3 rfl) ?_
        obtain ⟨g13, h⟩ := h_gd h
        refine r_iald hx hb C S KM_19 (h_in g13) dX10_recount_37 ?_
        refine lv_iload_n hx hb dX10_recount_38 rfl (lv_at hl 1 rfl) ?_
        refine lv_icmp_ne (tgt := 55) hx hb dX10_recount_39 rfl (fun c14 => ?_) (fun c14 => ?_)
        · have h := h_f c14 h
          exact lab55 l3 l2 w _ _ _ (lv_sub hl [0, 1, 3] rfl) S h
        · have h := h_t c14 h
          refine lv_aload_n hx hb dX10_recount_42 rfl (lv_at hl 0 rfl) ?_
          refine g_getR fl_RX10_74_X10 hx hb C S KM_0 rfl dX10_recount_43 ?_
          refine lv_iload_n hx hb dX10_recount_46 rfl (lv_at hl 3 rfl) ?_
          obtain ⟨g15, h⟩ := h_gd h
          refine r_zald hx hb C S KM_22 (h_in g15) dX10_recount_47 ?_
          refine lv_if_eq (tgt := 55) hx hb dX10_recount_48 rfl (fun c16 => ?_) (fun c16 => ?_)
          · have h := h_t c16 h
            exact lab55 l3 l2 w _ _ _ (lv_sub hl [0, 1, 3] rfl) S h
          · have h := h_f c16 h
            refine lv_iconst (v := 1) hx hb dX10_recount_51 (by decide) ?_
            refine lv_goto (tgt := 56) hx hb dX10_recount_52 rfl ?_
            exact lab56 l3 (1 : Int32) l2 w _ _ _ (lv_sub hl [0, 1, 3] rfl) S h
  intro H locs ls hl S h
  have h := h_0 h
  unfold m_recount at h
  refine lv_aload_n hx hb dX10_recount_0 rfl (lv_at hl 0 rfl) ?_
  refine lv_iload_n hx hb dX10_recount_1 rfl (lv_at hl 1 rfl) ?_
  refine lv_aload_n hx hb dX10_recount_2 rfl (lv_at hl 0 rfl) ?_
  refine g_get fl_RX10_154_X10 hx hb C S KM_0 rfl dX10_recount_3 ?_
  obtain ⟨x17, ex17, h⟩ := h_c h
  refine k_i C S (q_S (rest := [.ref (q 0)]) (As := [.int a1, .int (w 0 20)]) lk_RX10_106 ev hx hb hml C S (c_m_isBelow l D dA q a1 (w 0 20) w x17 ex17 _) rfl rfl ⟨(Nat.le_of_ble_eq_true rfl), (Nat.le_of_ble_eq_true rfl)⟩ rfl hl.1 rfl (Nat.le_of_ble_eq_true rfl) dX10_recount_6 ⟨(Nat.le_of_ble_eq_true rfl), (Nat.le_of_ble_eq_true rfl)⟩) (fun H locs S => ?_)
  refine lv_iconst (v := 1) hx hb dX10_recount_9 (by decide) ?_
  refine lv_iconst (v := 1) hx hb dX10_recount_10 (by decide) ?_
  obtain ⟨x18, ex18, h⟩ := h_c h
  refine k_i C S (q_V (rest := []) (As := [.int x17, .int (1 : Int32), .int (1 : Int32)]) lk_RX10_113 ev hx hb hml C S KM_0 rfl (c_m_goes l D dA q x17 (1 : Int32) (1 : Int32) w x18.2 x18.1 ex18 _) rfl rfl ⟨(Nat.le_of_ble_eq_true rfl), (Nat.le_of_ble_eq_true rfl)⟩ rfl hl.1 rfl (Nat.le_of_ble_eq_true rfl) dX10_recount_11 ⟨(Nat.le_of_ble_eq_true rfl), (Nat.le_of_ble_eq_true rfl)⟩) (fun H locs S => ?_)
  refine lv_if_ne (tgt := 19) hx hb dX10_recount_14 rfl (fun c19 => ?_) (fun c19 => ?_)
  · have h := h_f c19 h
    refine lv_iconst (v := 0) hx hb dX10_recount_19 (by decide) ?_
    refine lv_istore_n (lv' := [(2, .int (0 : Int32)), (0, .ref (q 0)), (1, .int a1)]) hx hb dX10_recount_20 rfl hl (Nat.le_of_ble_eq_true rfl) rfl (fun ls hl => ?_)
    refine lv_iconst (v := 0) hx hb dX10_recount_21 (by decide) ?_
    refine lv_istore_n (lv' := [(3, .int (0 : Int32)), (2, .int (0 : Int32)), (0, .ref (q 0)), (1, .int a1)]) hx hb dX10_recount_22 rfl hl (Nat.le_of_ble_eq_true rfl) rfl (fun ls hl => ?_)
    exact loop23 a1 FU (0 : Int32) (0 : Int32) x18.2 _ _ _ (lv_sub hl [2, 3, 1, 0] rfl) S (h_bb h)
  · have h := h_t c19 h
    refine lv_iconst (v := 0) hx hb dX10_recount_17 (by decide) ?_
    exact fin _ _ _ (0 : Int32) x18.2 _ S h dX10_recount_18
theorem c_m_recount (l : Launch) (D : va_G) (dA : Nat → ClassId) (q : Nat → Nat) (a1 : Int32) (w w' : Wt) (r : Int32) (h : m_recount a1 w = some (r, w')) : Mi l EVm KM D dA q yX10_recount cX10_recount 4 (some .int) RM_m_recount [.ref (q 0), .int a1] w r w' :=
  mk_i (by decide) rfl EVm_ok (Nat.le_of_ble_eq_true rfl) (fun p e s m args below meth c A Q ls hx hb hml C S hl fin => k_m_recount a1 w (r, w') hx hb hml C (fun H locs ls r' w2 pc S h d => fin H locs ls r' w2 pc S h d) _ _ _ hl S h)
/-! BallotscriptModel.doubt(I)I m_doubt -/
def m_doubt (a1 : Int32) (w : Wt) : Option (Int32 × Wt) := Option.bind (m_isBelow a1 (w 0 20)) fun x1 => Option.bind (m_goes x1 (1 : Int32) (1 : Int32) w) fun x2 => (if x2.1 = (0 : Int32) then some ((0 : Int32), x2.2) else gd (inb a1 8) ((if (x2.2 15 (a1).toNatClampNeg) = (0 : Int32) then some ((0 : Int32), x2.2) else gd (inb a1 8) (gd (inb a1 8) (gd (nzb (x2.2 15 (a1).toNatClampNeg)) (some ((((100 : Int32) * (x2.2 16 (a1).toNatClampNeg)) / (x2.2 15 (a1).toNatClampNeg)), x2.2)))))))
def RM_m_doubt : Room := { frames := 1, cells := 0, slots := 0, locals := 23 }
set_option maxHeartbeats 4000000 in
set_option maxRecDepth 20000 in
theorem k_m_doubt (a1 : Int32) (w : Wt) (z : (Int32 × Wt)) (hx : p.tables.exec = Jvm.exec) (hb : c.code = cX10_doubt) (hml : c.maxLocals = 2) (C : Cx EVm KM D dA q A s m args RX10) (fin : ∀ (H : Heap) (locs : List Loc) (ls : Array Slot) (r' : Int32) (w2 : Wt) (pc : Nat) , Sta KM D dA q A s.heap w2 H locs → some (r', w2) = some z → decode cX10_doubt pc = .ok (.ireturn, 1) → W p l e RM_m_doubt s m args below meth c H locs 0 0 Q (F0 m pc ls [.int r'])) : ∀ (H : Heap) (locs : List Loc) (ls : Array Slot), lv_has ls 2 [(0, .ref (q 0)), (1, .int a1)] → Sta KM D dA q A s.heap w H locs → m_doubt a1 w = some z → W p l e RM_m_doubt s m args below meth c H locs 0 0 Q (F0 m 0 ls []) := by
  have ev : evOk EVm := EVm_ok
  intro H locs ls hl S h
  have h := h_0 h
  unfold m_doubt at h
  refine lv_aload_n hx hb dX10_doubt_0 rfl (lv_at hl 0 rfl) ?_
  refine lv_iload_n hx hb dX10_doubt_1 rfl (lv_at hl 1 rfl) ?_
  refine lv_aload_n hx hb dX10_doubt_2 rfl (lv_at hl 0 rfl) ?_
  refine g_get fl_RX10_154_X10 hx hb C S KM_0 rfl dX10_doubt_3 ?_
  obtain ⟨x1, ex1, h⟩ := h_c h
  refine k_i C S (q_S (rest := [.ref (q 0)]) (As := [.int a1, .int (w 0 20)]) lk_RX10_106 ev hx hb hml C S (c_m_isBelow l D dA q a1 (w 0 20) w x1 ex1 _) rfl rfl ⟨(Nat.le_of_ble_eq_true rfl), (Nat.le_of_ble_eq_true rfl)⟩ rfl hl.1 rfl (Nat.le_of_ble_eq_true rfl) dX10_doubt_6 ⟨(Nat.le_of_ble_eq_true rfl), (Nat.le_of_ble_eq_true rfl)⟩) (fun H locs S => ?_)
  refine lv_iconst (v := 1) hx hb dX10_doubt_9 (by decide) ?_
  refine lv_iconst (v := 1) hx hb dX10_doubt_10 (by decide) ?_
  obtain ⟨x2, ex2, h⟩ := h_c h
  refine k_i C S (q_V (rest := []) (As := [.int x1, .int (1 : Int32), .int (1 : Int32)]) lk_RX10_113 ev hx hb hml C S KM_0 rfl (c_m_goes l D dA q x1 (1 : Int32) (1 : Int32) w x2.2 x2.1 ex2 _) rfl rfl ⟨(Nat.le_of_ble_eq_true rfl), (Nat.le_of_ble_eq_true rfl)⟩ rfl hl.1 rfl (Nat.le_of_ble_eq_true rfl) dX10_doubt_11 ⟨(Nat.le_of_ble_eq_true rfl), (Nat.le_of_ble_eq_true rfl)⟩) (fun H locs S => ?_)
  refine lv_if_ne (tgt := 19) hx hb dX10_doubt_14 rfl (fun c3 => ?_) (fun c3 => ?_)
  · have h := h_f c3 h
    refine lv_aload_n hx hb dX10_doubt_19 rfl (lv_at hl 0 rfl) ?_
    refine g_getR fl_RX10_53_X10 hx hb C S KM_0 rfl dX10_doubt_20 ?_
    refine lv_iload_n hx hb dX10_doubt_23 rfl (lv_at hl 1 rfl) ?_
    obtain ⟨g4, h⟩ := h_gd h
    refine r_iald hx hb C S KM_15 (h_in g4) dX10_doubt_24 ?_
    refine lv_if_ne (tgt := 32) hx hb dX10_doubt_25 rfl (fun c5 => ?_) (fun c5 => ?_)
    · have h := h_f c5 h
      refine lv_bipush (v := 100) hx hb dX10_doubt_32 (by decide) ?_
      refine lv_aload_n hx hb dX10_doubt_34 rfl (lv_at hl 0 rfl) ?_
      refine g_getR fl_RX10_56_X10 hx hb C S KM_0 rfl dX10_doubt_35 ?_
      refine lv_iload_n hx hb dX10_doubt_38 rfl (lv_at hl 1 rfl) ?_
      obtain ⟨g6, h⟩ := h_gd h
      refine r_iald hx hb C S KM_16 (h_in g6) dX10_doubt_39 ?_
      refine lv_imul hx hb dX10_doubt_40 ?_
      refine lv_aload_n hx hb dX10_doubt_41 rfl (lv_at hl 0 rfl) ?_
      refine g_getR fl_RX10_53_X10 hx hb C S KM_0 rfl dX10_doubt_42 ?_
      refine lv_iload_n hx hb dX10_doubt_45 rfl (lv_at hl 1 rfl) ?_
      obtain ⟨g7, h⟩ := h_gd h
      refine r_iald hx hb C S KM_15 (h_in g7) dX10_doubt_46 ?_
      obtain ⟨g8, h⟩ := h_gd h
      refine lv_idiv hx hb dX10_doubt_47 (nz_of g8) ?_
      exact fin _ _ _ (((100 : Int32) * (x2.2 16 (a1).toNatClampNeg)) / (x2.2 15 (a1).toNatClampNeg)) x2.2 _ S h dX10_doubt_48
    · have h := h_t c5 h
      refine lv_iconst (v := 0) hx hb dX10_doubt_28 (by decide) ?_
      refine lv_goto (tgt := 48) hx hb dX10_doubt_29 rfl ?_
      exact fin _ _ _ (0 : Int32) x2.2 _ S h dX10_doubt_48
  · have h := h_t c3 h
    refine lv_iconst (v := 0) hx hb dX10_doubt_17 (by decide) ?_
    exact fin _ _ _ (0 : Int32) x2.2 _ S h dX10_doubt_18
theorem c_m_doubt (l : Launch) (D : va_G) (dA : Nat → ClassId) (q : Nat → Nat) (a1 : Int32) (w w' : Wt) (r : Int32) (h : m_doubt a1 w = some (r, w')) : Mi l EVm KM D dA q yX10_doubt cX10_doubt 2 (some .int) RM_m_doubt [.ref (q 0), .int a1] w r w' :=
  mk_i (by decide) rfl EVm_ok (Nat.le_of_ble_eq_true rfl) (fun p e s m args below meth c A Q ls hx hb hml C S hl fin => k_m_doubt a1 w (r, w') hx hb hml C (fun H locs ls r' w2 pc S h d => fin H locs ls r' w2 pc S h d) _ _ _ hl S h)
/-! BallotscriptModel.winners(I)I m_winners -/
def m_winners (a1 : Int32) (w : Wt) : Option (Int32 × Wt) := Option.bind (m_isBelow a1 (w 0 20)) fun x1 => Option.bind (m_goes x1 (1 : Int32) (1 : Int32) w) fun x2 => (if x2.1 = (0 : Int32) then some ((0 : Int32), x2.2) else Option.bind (m_winnersOf a1 x2.2) fun x4 => some (x4.1, x4.2))
def RM_m_winners : Room := { frames := 6, cells := 0, slots := 0, locals := 145 }
set_option maxHeartbeats 4000000 in
set_option maxRecDepth 20000 in
theorem k_m_winners (a1 : Int32) (w : Wt) (z : (Int32 × Wt)) (hx : p.tables.exec = Jvm.exec) (hb : c.code = cX10_winners) (hml : c.maxLocals = 2) (C : Cx EVm KM D dA q A s m args RX10) (fin : ∀ (H : Heap) (locs : List Loc) (ls : Array Slot) (r' : Int32) (w2 : Wt) (pc : Nat) , Sta KM D dA q A s.heap w2 H locs → some (r', w2) = some z → decode cX10_winners pc = .ok (.ireturn, 1) → W p l e RM_m_winners s m args below meth c H locs 0 0 Q (F0 m pc ls [.int r'])) : ∀ (H : Heap) (locs : List Loc) (ls : Array Slot), lv_has ls 2 [(0, .ref (q 0)), (1, .int a1)] → Sta KM D dA q A s.heap w H locs → m_winners a1 w = some z → W p l e RM_m_winners s m args below meth c H locs 0 0 Q (F0 m 0 ls []) := by
  have ev : evOk EVm := EVm_ok
  intro H locs ls hl S h
  have h := h_0 h
  unfold m_winners at h
  refine lv_aload_n hx hb dX10_winners_0 rfl (lv_at hl 0 rfl) ?_
  refine lv_iload_n hx hb dX10_winners_1 rfl (lv_at hl 1 rfl) ?_
  refine lv_aload_n hx hb dX10_winners_2 rfl (lv_at hl 0 rfl) ?_
  refine g_get fl_RX10_154_X10 hx hb C S KM_0 rfl dX10_winners_3 ?_
  obtain ⟨x1, ex1, h⟩ := h_c h
  refine k_i C S (q_S (rest := [.ref (q 0)]) (As := [.int a1, .int (w 0 20)]) lk_RX10_106 ev hx hb hml C S (c_m_isBelow l D dA q a1 (w 0 20) w x1 ex1 _) rfl rfl ⟨(Nat.le_of_ble_eq_true rfl), (Nat.le_of_ble_eq_true rfl)⟩ rfl hl.1 rfl (Nat.le_of_ble_eq_true rfl) dX10_winners_6 ⟨(Nat.le_of_ble_eq_true rfl), (Nat.le_of_ble_eq_true rfl)⟩) (fun H locs S => ?_)
  refine lv_iconst (v := 1) hx hb dX10_winners_9 (by decide) ?_
  refine lv_iconst (v := 1) hx hb dX10_winners_10 (by decide) ?_
  obtain ⟨x2, ex2, h⟩ := h_c h
  refine k_i C S (q_V (rest := []) (As := [.int x1, .int (1 : Int32), .int (1 : Int32)]) lk_RX10_113 ev hx hb hml C S KM_0 rfl (c_m_goes l D dA q x1 (1 : Int32) (1 : Int32) w x2.2 x2.1 ex2 _) rfl rfl ⟨(Nat.le_of_ble_eq_true rfl), (Nat.le_of_ble_eq_true rfl)⟩ rfl hl.1 rfl (Nat.le_of_ble_eq_true rfl) dX10_winners_11 ⟨(Nat.le_of_ble_eq_true rfl), (Nat.le_of_ble_eq_true rfl)⟩) (fun H locs S => ?_)
  refine lv_if_eq (tgt := 25) hx hb dX10_winners_14 rfl (fun c3 => ?_) (fun c3 => ?_)
  · have h := h_t c3 h
    refine lv_iconst (v := 0) hx hb dX10_winners_25 (by decide) ?_
    exact fin _ _ _ (0 : Int32) x2.2 _ S h dX10_winners_26
  · have h := h_f c3 h
    refine lv_aload_n hx hb dX10_winners_17 rfl (lv_at hl 0 rfl) ?_
    refine lv_iload_n hx hb dX10_winners_18 rfl (lv_at hl 1 rfl) ?_
    obtain ⟨x4, ex4, h⟩ := h_c h
    refine k_i C S (q_V (rest := []) (As := [.int a1]) lk_RX10_157 ev hx hb hml C S KM_0 rfl (c_m_winnersOf l D dA q a1 x2.2 x4.2 x4.1 ex4 _) rfl rfl ⟨(Nat.le_of_ble_eq_true rfl), (Nat.le_of_ble_eq_true rfl)⟩ rfl hl.1 rfl (Nat.le_of_ble_eq_true rfl) dX10_winners_19 ⟨(Nat.le_of_ble_eq_true rfl), (Nat.le_of_ble_eq_true rfl)⟩) (fun H locs S => ?_)
    refine lv_goto (tgt := 26) hx hb dX10_winners_22 rfl ?_
    exact fin _ _ _ x4.1 x4.2 _ S h dX10_winners_26
theorem c_m_winners (l : Launch) (D : va_G) (dA : Nat → ClassId) (q : Nat → Nat) (a1 : Int32) (w w' : Wt) (r : Int32) (h : m_winners a1 w = some (r, w')) : Mi l EVm KM D dA q yX10_winners cX10_winners 2 (some .int) RM_m_winners [.ref (q 0), .int a1] w r w' :=
  mk_i (by decide) rfl EVm_ok (Nat.le_of_ble_eq_true rfl) (fun p e s m args below meth c A Q ls hx hb hml C S hl fin => k_m_winners a1 w (r, w') hx hb hml C (fun H locs ls r' w2 pc S h d => fin H locs ls r' w2 pc S h d) _ _ _ hl S h)
/-! BallotscriptModel.winnersByHand(I)I m_winnersByHand -/
def m_winnersByHand (a1 : Int32) (w : Wt) : Option (Int32 × Wt) := Option.bind (m_winners a1 w) fun x1 => some (x1.1, x1.2)
def RM_m_winnersByHand : Room := { frames := 7, cells := 0, slots := 0, locals := 166 }
set_option maxHeartbeats 4000000 in
set_option maxRecDepth 20000 in
theorem k_m_winnersByHand (a1 : Int32) (w : Wt) (z : (Int32 × Wt)) (hx : p.tables.exec = Jvm.exec) (hb : c.code = cX10_winnersByHand) (hml : c.maxLocals = 2) (C : Cx EVm KM D dA q A s m args RX10) (fin : ∀ (H : Heap) (locs : List Loc) (ls : Array Slot) (r' : Int32) (w2 : Wt) (pc : Nat) , Sta KM D dA q A s.heap w2 H locs → some (r', w2) = some z → decode cX10_winnersByHand pc = .ok (.ireturn, 1) → W p l e RM_m_winnersByHand s m args below meth c H locs 0 0 Q (F0 m pc ls [.int r'])) : ∀ (H : Heap) (locs : List Loc) (ls : Array Slot), lv_has ls 2 [(0, .ref (q 0)), (1, .int a1)] → Sta KM D dA q A s.heap w H locs → m_winnersByHand a1 w = some z → W p l e RM_m_winnersByHand s m args below meth c H locs 0 0 Q (F0 m 0 ls []) := by
  have ev : evOk EVm := EVm_ok
  intro H locs ls hl S h
  have h := h_0 h
  unfold m_winnersByHand at h
  refine lv_aload_n hx hb dX10_winnersByHand_0 rfl (lv_at hl 0 rfl) ?_
  refine lv_iload_n hx hb dX10_winnersByHand_1 rfl (lv_at hl 1 rfl) ?_
  obtain ⟨x1, ex1, h⟩ := h_c h
  refine k_i C S (q_V (rest := []) (As := [.int a1]) lk_RX10_233 ev hx hb hml C S KM_0 rfl (c_m_winners l D dA q a1 w x1.2 x1.1 ex1 _) rfl rfl ⟨(Nat.le_of_ble_eq_true rfl), (Nat.le_of_ble_eq_true rfl)⟩ rfl hl.1 rfl (Nat.le_of_ble_eq_true rfl) dX10_winnersByHand_2 ⟨(Nat.le_of_ble_eq_true rfl), (Nat.le_of_ble_eq_true rfl)⟩) (fun H locs S => ?_)
  exact fin _ _ _ x1.1 x1.2 _ S h dX10_winnersByHand_5
theorem c_m_winnersByHand (l : Launch) (D : va_G) (dA : Nat → ClassId) (q : Nat → Nat) (a1 : Int32) (w w' : Wt) (r : Int32) (h : m_winnersByHand a1 w = some (r, w')) : Mi l EVm KM D dA q yX10_winnersByHand cX10_winnersByHand 2 (some .int) RM_m_winnersByHand [.ref (q 0), .int a1] w r w' :=
  mk_i (by decide) rfl EVm_ok (Nat.le_of_ble_eq_true rfl) (fun p e s m args below meth c A Q ls hx hb hml C S hl fin => k_m_winnersByHand a1 w (r, w') hx hb hml C (fun H locs ls r' w2 pc S h d => fin H locs ls r' w2 pc S h d) _ _ _ hl S h)
/-! BallotscriptModel.tallies(I)I m_tallies -/
def m_tallies (a1 : Int32) (w : Wt) : Option (Int32 × Wt) := Option.bind (m_isBelow a1 (w 0 20)) fun x1 => Option.bind (m_goes x1 (1 : Int32) (1 : Int32) w) fun x2 => (if x2.1 = (0 : Int32) then some ((0 : Int32), x2.2) else Option.bind (m_winnersOf a1 x2.2) fun x4 => some ((x4.2 0 32), x4.2))
def RM_m_tallies : Room := { frames := 6, cells := 0, slots := 0, locals := 145 }
set_option maxHeartbeats 4000000 in
set_option maxRecDepth 20000 in
theorem k_m_tallies (a1 : Int32) (w : Wt) (z : (Int32 × Wt)) (hx : p.tables.exec = Jvm.exec) (hb : c.code = cX10_tallies) (hml : c.maxLocals = 2) (C : Cx EVm KM D dA q A s m args RX10) (fin : ∀ (H : Heap) (locs : List Loc) (ls : Array Slot) (r' : Int32) (w2 : Wt) (pc : Nat) , Sta KM D dA q A s.heap w2 H locs → some (r', w2) = some z → decode cX10_tallies pc = .ok (.ireturn, 1) → W p l e RM_m_tallies s m args below meth c H locs 0 0 Q (F0 m pc ls [.int r'])) : ∀ (H : Heap) (locs : List Loc) (ls : Array Slot), lv_has ls 2 [(0, .ref (q 0)), (1, .int a1)] → Sta KM D dA q A s.heap w H locs → m_tallies a1 w = some z → W p l e RM_m_tallies s m args below meth c H locs 0 0 Q (F0 m 0 ls []) := by
  have ev : evOk EVm := EVm_ok
  intro H locs ls hl S h
  have h := h_0 h
  unfold m_tallies at h
  refine lv_aload_n hx hb dX10_tallies_0 rfl (lv_at hl 0 rfl) ?_
  refine lv_iload_n hx hb dX10_tallies_1 rfl (lv_at hl 1 rfl) ?_
  refine lv_aload_n hx hb dX10_tallies_2 rfl (lv_at hl 0 rfl) ?_
  refine g_get fl_RX10_154_X10 hx hb C S KM_0 rfl dX10_tallies_3 ?_
  obtain ⟨x1, ex1, h⟩ := h_c h
  refine k_i C S (q_S (rest := [.ref (q 0)]) (As := [.int a1, .int (w 0 20)]) lk_RX10_106 ev hx hb hml C S (c_m_isBelow l D dA q a1 (w 0 20) w x1 ex1 _) rfl rfl ⟨(Nat.le_of_ble_eq_true rfl), (Nat.le_of_ble_eq_true rfl)⟩ rfl hl.1 rfl (Nat.le_of_ble_eq_true rfl) dX10_tallies_6 ⟨(Nat.le_of_ble_eq_true rfl), (Nat.le_of_ble_eq_true rfl)⟩) (fun H locs S => ?_)
  refine lv_iconst (v := 1) hx hb dX10_tallies_9 (by decide) ?_
  refine lv_iconst (v := 1) hx hb dX10_tallies_10 (by decide) ?_
  obtain ⟨x2, ex2, h⟩ := h_c h
  refine k_i C S (q_V (rest := []) (As := [.int x1, .int (1 : Int32), .int (1 : Int32)]) lk_RX10_113 ev hx hb hml C S KM_0 rfl (c_m_goes l D dA q x1 (1 : Int32) (1 : Int32) w x2.2 x2.1 ex2 _) rfl rfl ⟨(Nat.le_of_ble_eq_true rfl), (Nat.le_of_ble_eq_true rfl)⟩ rfl hl.1 rfl (Nat.le_of_ble_eq_true rfl) dX10_tallies_11 ⟨(Nat.le_of_ble_eq_true rfl), (Nat.le_of_ble_eq_true rfl)⟩) (fun H locs S => ?_)
  refine lv_if_ne (tgt := 19) hx hb dX10_tallies_14 rfl (fun c3 => ?_) (fun c3 => ?_)
  · have h := h_f c3 h
    refine lv_aload_n hx hb dX10_tallies_19 rfl (lv_at hl 0 rfl) ?_
    refine lv_iload_n hx hb dX10_tallies_20 rfl (lv_at hl 1 rfl) ?_
    obtain ⟨x4, ex4, h⟩ := h_c h
    refine k_i C S (q_V (rest := []) (As := [.int a1]) lk_RX10_157 ev hx hb hml C S KM_0 rfl (c_m_winnersOf l D dA q a1 x2.2 x4.2 x4.1 ex4 _) rfl rfl ⟨(Nat.le_of_ble_eq_true rfl), (Nat.le_of_ble_eq_true rfl)⟩ rfl hl.1 rfl (Nat.le_of_ble_eq_true rfl) dX10_tallies_21 ⟨(Nat.le_of_ble_eq_true rfl), (Nat.le_of_ble_eq_true rfl)⟩) (fun H locs S => ?_)
    refine lv_pop hx hb dX10_tallies_24 rfl ?_
    refine lv_aload_n hx hb dX10_tallies_25 rfl (lv_at hl 0 rfl) ?_
    refine g_get fl_RX10_174_X10 hx hb C S KM_0 rfl dX10_tallies_26 ?_
    exact fin _ _ _ (x4.2 0 32) x4.2 _ S h dX10_tallies_29
  · have h := h_t c3 h
    refine lv_iconst (v := 0) hx hb dX10_tallies_17 (by decide) ?_
    exact fin _ _ _ (0 : Int32) x2.2 _ S h dX10_tallies_18
theorem c_m_tallies (l : Launch) (D : va_G) (dA : Nat → ClassId) (q : Nat → Nat) (a1 : Int32) (w w' : Wt) (r : Int32) (h : m_tallies a1 w = some (r, w')) : Mi l EVm KM D dA q yX10_tallies cX10_tallies 2 (some .int) RM_m_tallies [.ref (q 0), .int a1] w r w' :=
  mk_i (by decide) rfl EVm_ok (Nat.le_of_ble_eq_true rfl) (fun p e s m args below meth c A Q ls hx hb hml C S hl fin => k_m_tallies a1 w (r, w') hx hb hml C (fun H locs ls r' w2 pc S h d => fin H locs ls r' w2 pc S h d) _ _ _ hl S h)
/-! BallotscriptModel.ties(I)I m_ties -/
def m_ties (a1 : Int32) (w : Wt) : Option (Int32 × Wt) := Option.bind (m_isBelow a1 (w 0 20)) fun x1 => Option.bind (m_goes x1 (1 : Int32) (1 : Int32) w) fun x2 => (if x2.1 = (0 : Int32) then some ((0 : Int32), x2.2) else Option.bind (m_winnersOf a1 x2.2) fun x4 => some ((x4.2 0 35), x4.2))
def RM_m_ties : Room := { frames := 6, cells := 0, slots := 0, locals := 145 }
set_option maxHeartbeats 4000000 in
set_option maxRecDepth 20000 in
theorem k_m_ties (a1 : Int32) (w : Wt) (z : (Int32 × Wt)) (hx : p.tables.exec = Jvm.exec) (hb : c.code = cX10_ties) (hml : c.maxLocals = 2) (C : Cx EVm KM D dA q A s m args RX10) (fin : ∀ (H : Heap) (locs : List Loc) (ls : Array Slot) (r' : Int32) (w2 : Wt) (pc : Nat) , Sta KM D dA q A s.heap w2 H locs → some (r', w2) = some z → decode cX10_ties pc = .ok (.ireturn, 1) → W p l e RM_m_ties s m args below meth c H locs 0 0 Q (F0 m pc ls [.int r'])) : ∀ (H : Heap) (locs : List Loc) (ls : Array Slot), lv_has ls 2 [(0, .ref (q 0)), (1, .int a1)] → Sta KM D dA q A s.heap w H locs → m_ties a1 w = some z → W p l e RM_m_ties s m args below meth c H locs 0 0 Q (F0 m 0 ls []) := by
  have ev : evOk EVm := EVm_ok
  intro H locs ls hl S h
  have h := h_0 h
  unfold m_ties at h
  refine lv_aload_n hx hb dX10_ties_0 rfl (lv_at hl 0 rfl) ?_
  refine lv_iload_n hx hb dX10_ties_1 rfl (lv_at hl 1 rfl) ?_
  refine lv_aload_n hx hb dX10_ties_2 rfl (lv_at hl 0 rfl) ?_
  refine g_get fl_RX10_154_X10 hx hb C S KM_0 rfl dX10_ties_3 ?_
  obtain ⟨x1, ex1, h⟩ := h_c h
  refine k_i C S (q_S (rest := [.ref (q 0)]) (As := [.int a1, .int (w 0 20)]) lk_RX10_106 ev hx hb hml C S (c_m_isBelow l D dA q a1 (w 0 20) w x1 ex1 _) rfl rfl ⟨(Nat.le_of_ble_eq_true rfl), (Nat.le_of_ble_eq_true rfl)⟩ rfl hl.1 rfl (Nat.le_of_ble_eq_true rfl) dX10_ties_6 ⟨(Nat.le_of_ble_eq_true rfl), (Nat.le_of_ble_eq_true rfl)⟩) (fun H locs S => ?_)
  refine lv_iconst (v := 1) hx hb dX10_ties_9 (by decide) ?_
  refine lv_iconst (v := 1) hx hb dX10_ties_10 (by decide) ?_
  obtain ⟨x2, ex2, h⟩ := h_c h
  refine k_i C S (q_V (rest := []) (As := [.int x1, .int (1 : Int32), .int (1 : Int32)]) lk_RX10_113 ev hx hb hml C S KM_0 rfl (c_m_goes l D dA q x1 (1 : Int32) (1 : Int32) w x2.2 x2.1 ex2 _) rfl rfl ⟨(Nat.le_of_ble_eq_true rfl), (Nat.le_of_ble_eq_true rfl)⟩ rfl hl.1 rfl (Nat.le_of_ble_eq_true rfl) dX10_ties_11 ⟨(Nat.le_of_ble_eq_true rfl), (Nat.le_of_ble_eq_true rfl)⟩) (fun H locs S => ?_)
  refine lv_if_ne (tgt := 19) hx hb dX10_ties_14 rfl (fun c3 => ?_) (fun c3 => ?_)
  · have h := h_f c3 h
    refine lv_aload_n hx hb dX10_ties_19 rfl (lv_at hl 0 rfl) ?_
    refine lv_iload_n hx hb dX10_ties_20 rfl (lv_at hl 1 rfl) ?_
    obtain ⟨x4, ex4, h⟩ := h_c h
    refine k_i C S (q_V (rest := []) (As := [.int a1]) lk_RX10_157 ev hx hb hml C S KM_0 rfl (c_m_winnersOf l D dA q a1 x2.2 x4.2 x4.1 ex4 _) rfl rfl ⟨(Nat.le_of_ble_eq_true rfl), (Nat.le_of_ble_eq_true rfl)⟩ rfl hl.1 rfl (Nat.le_of_ble_eq_true rfl) dX10_ties_21 ⟨(Nat.le_of_ble_eq_true rfl), (Nat.le_of_ble_eq_true rfl)⟩) (fun H locs S => ?_)
    refine lv_pop hx hb dX10_ties_24 rfl ?_
    refine lv_aload_n hx hb dX10_ties_25 rfl (lv_at hl 0 rfl) ?_
    refine g_get fl_RX10_196_X10 hx hb C S KM_0 rfl dX10_ties_26 ?_
    exact fin _ _ _ (x4.2 0 35) x4.2 _ S h dX10_ties_29
  · have h := h_t c3 h
    refine lv_iconst (v := 0) hx hb dX10_ties_17 (by decide) ?_
    exact fin _ _ _ (0 : Int32) x2.2 _ S h dX10_ties_18
theorem c_m_ties (l : Launch) (D : va_G) (dA : Nat → ClassId) (q : Nat → Nat) (a1 : Int32) (w w' : Wt) (r : Int32) (h : m_ties a1 w = some (r, w')) : Mi l EVm KM D dA q yX10_ties cX10_ties 2 (some .int) RM_m_ties [.ref (q 0), .int a1] w r w' :=
  mk_i (by decide) rfl EVm_ok (Nat.le_of_ble_eq_true rfl) (fun p e s m args below meth c A Q ls hx hb hml C S hl fin => k_m_ties a1 w (r, w') hx hb hml C (fun H locs ls r' w2 pc S h d => fin H locs ls r' w2 pc S h d) _ _ _ hl S h)
/-! BallotscriptModel.votes(III)I m_votes -/
def m_votes_b65 (l2 : Int32) (l3 : Int32) (t0 : Int32) (w : Wt) : Option (Int32 × Wt) := Option.bind (m_goes t0 (1 : Int32) (1 : Int32) w) fun x1 => (if x1.1 = (0 : Int32) then some ((0 : Int32), x1.2) else Option.bind (m_votesIn l2 l3 x1.2) fun x3 => some (x3, x1.2))
def m_votes_b64 (l2 : Int32) (l3 : Int32) (w : Wt) : Option (Int32 × Wt) := m_votes_b65 l2 l3 (0 : Int32) w
def m_votes_b24 (l1 : Int32) (l2 : Int32) (l3 : Int32) (l4 : Int32) (t0 : Int32) (w : Wt) : Option (Int32 × Wt) := (if l4 = (0 : Int32) then m_votes_b64 l2 l3 w else (if t0 < (0 : Int32) then m_votes_b64 l2 l3 w else Option.bind (m_isBelow l2 (w 0 32)) fun x6 => (if x6 = (0 : Int32) then m_votes_b64 l2 l3 w else gd (inb l1 8) (Option.bind (m_isBelow l3 (w 10 (l1).toNatClampNeg)) fun x9 => (if x9 = (0 : Int32) then m_votes_b64 l2 l3 w else m_votes_b65 l2 l3 (1 : Int32) w)))))
def m_votes (a1 : Int32) (a2 : Int32) (a3 : Int32) (w : Wt) : Option (Int32 × Wt) := Option.bind (m_isBelow a1 (w 0 20)) fun x11 => (if x11 = (0 : Int32) then m_votes_b24 a1 a2 a3 x11 (0 : Int32) w else Option.bind (m_winnersOf a1 w) fun x13 => m_votes_b24 a1 a2 a3 x11 x13.1 x13.2)
def RM_m_votes : Room := { frames := 6, cells := 0, slots := 0, locals := 145 }
set_option maxHeartbeats 4000000 in
set_option maxRecDepth 20000 in
theorem k_m_votes (a1 : Int32) (a2 : Int32) (a3 : Int32) (w : Wt) (z : (Int32 × Wt)) (hx : p.tables.exec = Jvm.exec) (hb : c.code = cX10_votes) (hml : c.maxLocals = 7) (C : Cx EVm KM D dA q A s m args RX10) (fin : ∀ (H : Heap) (locs : List Loc) (ls : Array Slot) (r' : Int32) (w2 : Wt) (pc : Nat) , Sta KM D dA q A s.heap w2 H locs → some (r', w2) = some z → decode cX10_votes pc = .ok (.ireturn, 1) → W p l e RM_m_votes s m args below meth c H locs 0 0 Q (F0 m pc ls [.int r'])) : ∀ (H : Heap) (locs : List Loc) (ls : Array Slot), lv_has ls 7 [(0, .ref (q 0)), (1, .int a1), (2, .int a2), (3, .int a3)] → Sta KM D dA q A s.heap w H locs → m_votes a1 a2 a3 w = some z → W p l e RM_m_votes s m args below meth c H locs 0 0 Q (F0 m 0 ls []) := by
  have ev : evOk EVm := EVm_ok
  have lab65 : ∀ (l2 : Int32) (l3 : Int32) (t0 : Int32) (w : Wt) (H : Heap) (locs : List Loc) (ls : Array Slot), lv_has ls 7 [(0, .ref (q 0)), (2, .int l2), (3, .int l3)] → Sta KM D dA q A s.heap w H locs → Option.bind (m_votes_b65 l2 l3 t0 w) some = some z → W p l e RM_m_votes s m args below meth c H locs 0 0 Q (F0 m 65 ls [.int t0]) := by
    intro l2 l3 t0 w H locs ls hl S h
    unfold m_votes_b65 at h
    refine lv_istore (lv' := [(6, .int t0), (0, .ref (q 0)), (2, .int l2), (3, .int l3)]) hx hb dX10_votes_65 hl (Nat.le_of_ble_eq_true rfl) rfl (fun ls hl => ?_)
    refine lv_aload_n hx hb dX10_votes_67 rfl (lv_at hl 1 rfl) ?_
    refine lv_iload hx hb dX10_votes_68 (lv_at hl 0 rfl) ?_
    refine lv_iconst (v := 1) hx hb dX10_votes_70 (by decide) ?_
    refine lv_iconst (v := 1) hx hb dX10_votes_71 (by decide) ?_
    obtain ⟨x1, ex1, h⟩ := h_c h
    refine k_i C S (q_V (rest := []) (As := [.int t0, .int (1 : Int32), .int (1 : Int32)]) lk_RX10_113 ev hx hb hml C S KM_0 rfl (c_m_goes l D dA q t0 (1 : Int32) (1 : Int32) w x1.2 x1.1 ex1 _) rfl rfl ⟨(Nat.le_of_ble_eq_true rfl), (Nat.le_of_ble_eq_true rfl)⟩ rfl hl.1 rfl (Nat.le_of_ble_eq_true rfl) dX10_votes_72 ⟨(Nat.le_of_ble_eq_true rfl), (Nat.le_of_ble_eq_true rfl)⟩) (fun H locs S => ?_)
    refine lv_if_eq (tgt := 87) hx hb dX10_votes_75 rfl (fun c2 => ?_) (fun c2 => ?_)
    · have h := h_t c2 h
      refine lv_iconst (v := 0) hx hb dX10_votes_87 (by decide) ?_
      exact fin _ _ _ (0 : Int32) x1.2 _ S h dX10_votes_88
    · have h := h_f c2 h
      refine lv_aload_n hx hb dX10_votes_78 rfl (lv_at hl 1 rfl) ?_
      refine lv_iload_n hx hb dX10_votes_79 rfl (lv_at hl 2 rfl) ?_
      refine lv_iload_n hx hb dX10_votes_80 rfl (lv_at hl 3 rfl) ?_
      obtain ⟨x3, ex3, h⟩ := h_c h
      refine k_i C S (q_V (rest := []) (As := [.int l2, .int l3]) lk_RX10_189 ev hx hb hml C S KM_0 rfl (c_m_votesIn l D dA q l2 l3 x1.2 x3 ex3 _) rfl rfl ⟨(Nat.le_of_ble_eq_true rfl), (Nat.le_of_ble_eq_true rfl)⟩ rfl hl.1 rfl (Nat.le_of_ble_eq_true rfl) dX10_votes_81 ⟨(Nat.le_of_ble_eq_true rfl), (Nat.le_of_ble_eq_true rfl)⟩) (fun H locs S => ?_)
      refine lv_goto (tgt := 88) hx hb dX10_votes_84 rfl ?_
      exact fin _ _ _ x3 x1.2 _ S h dX10_votes_88
  have lab64 : ∀ (l2 : Int32) (l3 : Int32) (w : Wt) (H : Heap) (locs : List Loc) (ls : Array Slot), lv_has ls 7 [(0, .ref (q 0)), (2, .int l2), (3, .int l3)] → Sta KM D dA q A s.heap w H locs → Option.bind (m_votes_b64 l2 l3 w) some = some z → W p l e RM_m_votes s m args below meth c H locs 0 0 Q (F0 m 64 ls []) := by
    intro l2 l3 w H locs ls hl S h
    unfold m_votes_b64 at h
    refine lv_iconst (v := 0) hx hb dX10_votes_64 (by decide) ?_
    exact lab65 l2 l3 (0 : Int32) w _ _ _ (lv_sub hl [0, 1, 2] rfl) S h
  have lab24 : ∀ (l1 : Int32) (l2 : Int32) (l3 : Int32) (l4 : Int32) (t0 : Int32) (w : Wt) (H : Heap) (locs : List Loc) (ls : Array Slot), lv_has ls 7 [(0, .ref (q 0)), (1, .int l1), (2, .int l2), (3, .int l3), (4, .int l4)] → Sta KM D dA q A s.heap w H locs → Option.bind (m_votes_b24 l1 l2 l3 l4 t0 w) some = some z → W p l e RM_m_votes s m args below meth c H locs 0 0 Q (F0 m 24 ls [.int t0]) := by
    intro l1 l2 l3 l4 t0 w H locs ls hl S h
    unfold m_votes_b24 at h
    refine lv_istore (lv' := [(5, .int t0), (0, .ref (q 0)), (1, .int l1), (2, .int l2), (3, .int l3), (4, .int l4)]) hx hb dX10_votes_24 hl (Nat.le_of_ble_eq_true rfl) rfl (fun ls hl => ?_)
    refine lv_iload hx hb dX10_votes_26 (lv_at hl 5 rfl) ?_
    refine lv_if_eq (tgt := 64) hx hb dX10_votes_28 rfl (fun c4 => ?_) (fun c4 => ?_)
    · have h := h_t c4 h
      exact lab64 l2 l3 w _ _ _ (lv_sub hl [1, 3, 4] rfl) S h
    · have h := h_f c4 h
      refine lv_iload hx hb dX10_votes_31 (lv_at hl 0 rfl) ?_
      refine lv_if_lt (tgt := 64) hx hb dX10_votes_33 rfl (fun c5 => ?_) (fun c5 => ?_)
      · have h := h_t c5 h
        exact lab64 l2 l3 w _ _ _ (lv_sub hl [1, 3, 4] rfl) S h
      · have h := h_f c5 h
        refine lv_iload_n hx hb dX10_votes_36 rfl (lv_at hl 3 rfl) ?_
        refine lv_aload_n hx hb dX10_votes_37 rfl (lv_at hl 1 rfl) ?_
        refine g_get fl_RX10_174_X10 hx hb C S KM_0 rfl dX10_votes_38 ?_
        obtain ⟨x6, ex6, h⟩ := h_c h
        refine k_i C S (q_S (rest := []) (As := [.int l2, .int (w 0 32)]) lk_RX10_106 ev hx hb hml C S (c_m_isBelow l D dA q l2 (w 0 32) w x6 ex6 _) rfl rfl ⟨(Nat.le_of_ble_eq_true rfl), (Nat.le_of_ble_eq_true rfl)⟩ rfl hl.1 rfl (Nat.le_of_ble_eq_true rfl) dX10_votes_41 ⟨(Nat.le_of_ble_eq_true rfl), (Nat.le_of_ble_eq_true rfl)⟩) (fun H locs S => ?_)
        refine lv_if_eq (tgt := 64) hx hb dX10_votes_44 rfl (fun c7 => ?_) (fun c7 => ?_)
        · have h := h_t c7 h
          exact lab64 l2 l3 w _ _ _ (lv_sub hl [1, 3, 4] rfl) S h
        · have h := h_f c7 h
          refine lv_iload_n hx hb dX10_votes_47 rfl (lv_at hl 4 rfl) ?_
          refine lv_aload_n hx hb dX10_votes_48 rfl (lv_at hl 1 rfl) ?_
          refine g_getR fl_RX10_38_X10 hx hb C S KM_0 rfl dX10_votes_49 ?_
          refine lv_iload_n hx hb dX10_votes_52 rfl (lv_at hl 2 rfl) ?_
          obtain ⟨g8, h⟩ := h_gd h
          refine r_iald hx hb C S KM_10 (h_in g8) dX10_votes_53 ?_
          obtain ⟨x9, ex9, h⟩ := h_c h
          refine k_i C S (q_S (rest := []) (As := [.int l3, .int (w 10 (l1).toNatClampNeg)]) lk_RX10_106 ev hx hb hml C S (c_m_isBelow l D dA q l3 (w 10 (l1).toNatClampNeg) w x9 ex9 _) rfl rfl ⟨(Nat.le_of_ble_eq_true rfl), (Nat.le_of_ble_eq_true rfl)⟩ rfl hl.1 rfl (Nat.le_of_ble_eq_true rfl) dX10_votes_54 ⟨(Nat.le_of_ble_eq_true rfl), (Nat.le_of_ble_eq_true rfl)⟩) (fun H locs S => ?_)
          refine lv_if_eq (tgt := 64) hx hb dX10_votes_57 rfl (fun c10 => ?_) (fun c10 => ?_)
          · have h := h_t c10 h
            exact lab64 l2 l3 w _ _ _ (lv_sub hl [1, 3, 4] rfl) S h
          · have h := h_f c10 h
            refine lv_iconst (v := 1) hx hb dX10_votes_60 (by decide) ?_
            refine lv_goto (tgt := 65) hx hb dX10_votes_61 rfl ?_
            exact lab65 l2 l3 (1 : Int32) w _ _ _ (lv_sub hl [1, 3, 4] rfl) S h
  intro H locs ls hl S h
  have h := h_0 h
  unfold m_votes at h
  refine lv_iload_n hx hb dX10_votes_0 rfl (lv_at hl 1 rfl) ?_
  refine lv_aload_n hx hb dX10_votes_1 rfl (lv_at hl 0 rfl) ?_
  refine g_get fl_RX10_154_X10 hx hb C S KM_0 rfl dX10_votes_2 ?_
  obtain ⟨x11, ex11, h⟩ := h_c h
  refine k_i C S (q_S (rest := []) (As := [.int a1, .int (w 0 20)]) lk_RX10_106 ev hx hb hml C S (c_m_isBelow l D dA q a1 (w 0 20) w x11 ex11 _) rfl rfl ⟨(Nat.le_of_ble_eq_true rfl), (Nat.le_of_ble_eq_true rfl)⟩ rfl hl.1 rfl (Nat.le_of_ble_eq_true rfl) dX10_votes_5 ⟨(Nat.le_of_ble_eq_true rfl), (Nat.le_of_ble_eq_true rfl)⟩) (fun H locs S => ?_)
  refine lv_istore (lv' := [(4, .int x11), (0, .ref (q 0)), (1, .int a1), (2, .int a2), (3, .int a3)]) hx hb dX10_votes_8 hl (Nat.le_of_ble_eq_true rfl) rfl (fun ls hl => ?_)
  refine lv_iload hx hb dX10_votes_10 (lv_at hl 0 rfl) ?_
  refine lv_if_eq (tgt := 23) hx hb dX10_votes_12 rfl (fun c12 => ?_) (fun c12 => ?_)
  · have h := h_t c12 h
    refine lv_iconst (v := 0) hx hb dX10_votes_23 (by decide) ?_
    exact lab24 a1 a2 a3 x11 (0 : Int32) w _ _ _ (lv_sub hl [1, 2, 3, 4, 0] rfl) S h
  · have h := h_f c12 h
    refine lv_aload_n hx hb dX10_votes_15 rfl (lv_at hl 1 rfl) ?_
    refine lv_iload_n hx hb dX10_votes_16 rfl (lv_at hl 2 rfl) ?_
    obtain ⟨x13, ex13, h⟩ := h_c h
    refine k_i C S (q_V (rest := []) (As := [.int a1]) lk_RX10_157 ev hx hb hml C S KM_0 rfl (c_m_winnersOf l D dA q a1 w x13.2 x13.1 ex13 _) rfl rfl ⟨(Nat.le_of_ble_eq_true rfl), (Nat.le_of_ble_eq_true rfl)⟩ rfl hl.1 rfl (Nat.le_of_ble_eq_true rfl) dX10_votes_17 ⟨(Nat.le_of_ble_eq_true rfl), (Nat.le_of_ble_eq_true rfl)⟩) (fun H locs S => ?_)
    refine lv_goto (tgt := 24) hx hb dX10_votes_20 rfl ?_
    exact lab24 a1 a2 a3 x11 x13.1 x13.2 _ _ _ (lv_sub hl [1, 2, 3, 4, 0] rfl) S h
theorem c_m_votes (l : Launch) (D : va_G) (dA : Nat → ClassId) (q : Nat → Nat) (a1 : Int32) (a2 : Int32) (a3 : Int32) (w w' : Wt) (r : Int32) (h : m_votes a1 a2 a3 w = some (r, w')) : Mi l EVm KM D dA q yX10_votes cX10_votes 7 (some .int) RM_m_votes [.ref (q 0), .int a1, .int a2, .int a3] w r w' :=
  mk_i (by decide) rfl EVm_ok (Nat.le_of_ble_eq_true rfl) (fun p e s m args below meth c A Q ls hx hb hml C S hl fin => k_m_votes a1 a2 a3 w (r, w') hx hb hml C (fun H locs ls r' w2 pc S h d => fin H locs ls r' w2 pc S h d) _ _ _ hl S h)
/-! BallotscriptModel.tied(II)I m_tied -/
def m_tied_b50 (l2 : Int32) (t0 : Int32) (w : Wt) : Option (Int32 × Wt) := Option.bind (m_goes t0 (1 : Int32) (1 : Int32) w) fun x1 => (if x1.1 = (0 : Int32) then some ((0 : Int32), x1.2) else gd (inb l2 800) (some ((x1.2 26 (l2).toNatClampNeg), x1.2)))
def m_tied_b49 (l2 : Int32) (w : Wt) : Option (Int32 × Wt) := m_tied_b50 l2 (0 : Int32) w
def m_tied_b22 (l2 : Int32) (l3 : Int32) (t0 : Int32) (w : Wt) : Option (Int32 × Wt) := (if l3 = (0 : Int32) then m_tied_b49 l2 w else (if t0 < (0 : Int32) then m_tied_b49 l2 w else Option.bind (m_isBelow l2 (w 0 35)) fun x6 => (if x6 = (0 : Int32) then m_tied_b49 l2 w else m_tied_b50 l2 (1 : Int32) w)))
def m_tied (a1 : Int32) (a2 : Int32) (w : Wt) : Option (Int32 × Wt) := Option.bind (m_isBelow a1 (w 0 20)) fun x8 => (if x8 = (0 : Int32) then m_tied_b22 a2 x8 (0 : Int32) w else Option.bind (m_winnersOf a1 w) fun x10 => m_tied_b22 a2 x8 x10.1 x10.2)
def RM_m_tied : Room := { frames := 6, cells := 0, slots := 0, locals := 145 }
set_option maxHeartbeats 4000000 in
set_option maxRecDepth 20000 in
theorem k_m_tied (a1 : Int32) (a2 : Int32) (w : Wt) (z : (Int32 × Wt)) (hx : p.tables.exec = Jvm.exec) (hb : c.code = cX10_tied) (hml : c.maxLocals = 5) (C : Cx EVm KM D dA q A s m args RX10) (fin : ∀ (H : Heap) (locs : List Loc) (ls : Array Slot) (r' : Int32) (w2 : Wt) (pc : Nat) , Sta KM D dA q A s.heap w2 H locs → some (r', w2) = some z → decode cX10_tied pc = .ok (.ireturn, 1) → W p l e RM_m_tied s m args below meth c H locs 0 0 Q (F0 m pc ls [.int r'])) : ∀ (H : Heap) (locs : List Loc) (ls : Array Slot), lv_has ls 5 [(0, .ref (q 0)), (1, .int a1), (2, .int a2)] → Sta KM D dA q A s.heap w H locs → m_tied a1 a2 w = some z → W p l e RM_m_tied s m args below meth c H locs 0 0 Q (F0 m 0 ls []) := by
  have ev : evOk EVm := EVm_ok
  have lab50 : ∀ (l2 : Int32) (t0 : Int32) (w : Wt) (H : Heap) (locs : List Loc) (ls : Array Slot), lv_has ls 5 [(0, .ref (q 0)), (2, .int l2)] → Sta KM D dA q A s.heap w H locs → Option.bind (m_tied_b50 l2 t0 w) some = some z → W p l e RM_m_tied s m args below meth c H locs 0 0 Q (F0 m 50 ls [.int t0, .ref (q 0)]) := by
    intro l2 t0 w H locs ls hl S h
    unfold m_tied_b50 at h
    refine lv_iconst (v := 1) hx hb dX10_tied_50 (by decide) ?_
    refine lv_iconst (v := 1) hx hb dX10_tied_51 (by decide) ?_
    obtain ⟨x1, ex1, h⟩ := h_c h
    refine k_i C S (q_V (rest := []) (As := [.int t0, .int (1 : Int32), .int (1 : Int32)]) lk_RX10_113 ev hx hb hml C S KM_0 rfl (c_m_goes l D dA q t0 (1 : Int32) (1 : Int32) w x1.2 x1.1 ex1 _) rfl rfl ⟨(Nat.le_of_ble_eq_true rfl), (Nat.le_of_ble_eq_true rfl)⟩ rfl hl.1 rfl (Nat.le_of_ble_eq_true rfl) dX10_tied_52 ⟨(Nat.le_of_ble_eq_true rfl), (Nat.le_of_ble_eq_true rfl)⟩) (fun H locs S => ?_)
    refine lv_if_eq (tgt := 67) hx hb dX10_tied_55 rfl (fun c2 => ?_) (fun c2 => ?_)
    · have h := h_t c2 h
      refine lv_iconst (v := 0) hx hb dX10_tied_67 (by decide) ?_
      exact fin _ _ _ (0 : Int32) x1.2 _ S h dX10_tied_68
    · have h := h_f c2 h
      refine lv_aload_n hx hb dX10_tied_58 rfl (lv_at hl 0 rfl) ?_
      refine g_getR fl_RX10_86_X10 hx hb C S KM_0 rfl dX10_tied_59 ?_
      refine lv_iload_n hx hb dX10_tied_62 rfl (lv_at hl 1 rfl) ?_
      obtain ⟨g3, h⟩ := h_gd h
      refine r_iald hx hb C S KM_26 (h_in g3) dX10_tied_63 ?_
      refine lv_goto (tgt := 68) hx hb dX10_tied_64 rfl ?_
      exact fin _ _ _ (x1.2 26 (l2).toNatClampNeg) x1.2 _ S h dX10_tied_68
  have lab49 : ∀ (l2 : Int32) (w : Wt) (H : Heap) (locs : List Loc) (ls : Array Slot), lv_has ls 5 [(0, .ref (q 0)), (2, .int l2)] → Sta KM D dA q A s.heap w H locs → Option.bind (m_tied_b49 l2 w) some = some z → W p l e RM_m_tied s m args below meth c H locs 0 0 Q (F0 m 49 ls [.ref (q 0)]) := by
    intro l2 w H locs ls hl S h
    unfold m_tied_b49 at h
    refine lv_iconst (v := 0) hx hb dX10_tied_49 (by decide) ?_
    exact lab50 l2 (0 : Int32) w _ _ _ (lv_sub hl [0, 1] rfl) S h
  have lab22 : ∀ (l2 : Int32) (l3 : Int32) (t0 : Int32) (w : Wt) (H : Heap) (locs : List Loc) (ls : Array Slot), lv_has ls 5 [(0, .ref (q 0)), (2, .int l2), (3, .int l3)] → Sta KM D dA q A s.heap w H locs → Option.bind (m_tied_b22 l2 l3 t0 w) some = some z → W p l e RM_m_tied s m args below meth c H locs 0 0 Q (F0 m 22 ls [.int t0]) := by
    intro l2 l3 t0 w H locs ls hl S h
    unfold m_tied_b22 at h
    refine lv_istore (lv' := [(4, .int t0), (0, .ref (q 0)), (2, .int l2), (3, .int l3)]) hx hb dX10_tied_22 hl (Nat.le_of_ble_eq_true rfl) rfl (fun ls hl => ?_)
    refine lv_aload_n hx hb dX10_tied_24 rfl (lv_at hl 1 rfl) ?_
    refine lv_iload_n hx hb dX10_tied_25 rfl (lv_at hl 3 rfl) ?_
    refine lv_if_eq (tgt := 49) hx hb dX10_tied_26 rfl (fun c4 => ?_) (fun c4 => ?_)
    · have h := h_t c4 h
      exact lab49 l2 w _ _ _ (lv_sub hl [1, 2] rfl) S h
    · have h := h_f c4 h
      refine lv_iload hx hb dX10_tied_29 (lv_at hl 0 rfl) ?_
      refine lv_if_lt (tgt := 49) hx hb dX10_tied_31 rfl (fun c5 => ?_) (fun c5 => ?_)
      · have h := h_t c5 h
        exact lab49 l2 w _ _ _ (lv_sub hl [1, 2] rfl) S h
      · have h := h_f c5 h
        refine lv_iload_n hx hb dX10_tied_34 rfl (lv_at hl 2 rfl) ?_
        refine lv_aload_n hx hb dX10_tied_35 rfl (lv_at hl 1 rfl) ?_
        refine g_get fl_RX10_196_X10 hx hb C S KM_0 rfl dX10_tied_36 ?_
        obtain ⟨x6, ex6, h⟩ := h_c h
        refine k_i C S (q_S (rest := [.ref (q 0)]) (As := [.int l2, .int (w 0 35)]) lk_RX10_106 ev hx hb hml C S (c_m_isBelow l D dA q l2 (w 0 35) w x6 ex6 _) rfl rfl ⟨(Nat.le_of_ble_eq_true rfl), (Nat.le_of_ble_eq_true rfl)⟩ rfl hl.1 rfl (Nat.le_of_ble_eq_true rfl) dX10_tied_39 ⟨(Nat.le_of_ble_eq_true rfl), (Nat.le_of_ble_eq_true rfl)⟩) (fun H locs S => ?_)
        refine lv_if_eq (tgt := 49) hx hb dX10_tied_42 rfl (fun c7 => ?_) (fun c7 => ?_)
        · have h := h_t c7 h
          exact lab49 l2 w _ _ _ (lv_sub hl [1, 2] rfl) S h
        · have h := h_f c7 h
          refine lv_iconst (v := 1) hx hb dX10_tied_45 (by decide) ?_
          refine lv_goto (tgt := 50) hx hb dX10_tied_46 rfl ?_
          exact lab50 l2 (1 : Int32) w _ _ _ (lv_sub hl [1, 2] rfl) S h
  intro H locs ls hl S h
  have h := h_0 h
  unfold m_tied at h
  refine lv_iload_n hx hb dX10_tied_0 rfl (lv_at hl 1 rfl) ?_
  refine lv_aload_n hx hb dX10_tied_1 rfl (lv_at hl 0 rfl) ?_
  refine g_get fl_RX10_154_X10 hx hb C S KM_0 rfl dX10_tied_2 ?_
  obtain ⟨x8, ex8, h⟩ := h_c h
  refine k_i C S (q_S (rest := []) (As := [.int a1, .int (w 0 20)]) lk_RX10_106 ev hx hb hml C S (c_m_isBelow l D dA q a1 (w 0 20) w x8 ex8 _) rfl rfl ⟨(Nat.le_of_ble_eq_true rfl), (Nat.le_of_ble_eq_true rfl)⟩ rfl hl.1 rfl (Nat.le_of_ble_eq_true rfl) dX10_tied_5 ⟨(Nat.le_of_ble_eq_true rfl), (Nat.le_of_ble_eq_true rfl)⟩) (fun H locs S => ?_)
  refine lv_istore_n (lv' := [(3, .int x8), (0, .ref (q 0)), (1, .int a1), (2, .int a2)]) hx hb dX10_tied_8 rfl hl (Nat.le_of_ble_eq_true rfl) rfl (fun ls hl => ?_)
  refine lv_iload_n hx hb dX10_tied_9 rfl (lv_at hl 0 rfl) ?_
  refine lv_if_eq (tgt := 21) hx hb dX10_tied_10 rfl (fun c9 => ?_) (fun c9 => ?_)
  · have h := h_t c9 h
    refine lv_iconst (v := 0) hx hb dX10_tied_21 (by decide) ?_
    exact lab22 a2 x8 (0 : Int32) w _ _ _ (lv_sub hl [1, 3, 0] rfl) S h
  · have h := h_f c9 h
    refine lv_aload_n hx hb dX10_tied_13 rfl (lv_at hl 1 rfl) ?_
    refine lv_iload_n hx hb dX10_tied_14 rfl (lv_at hl 2 rfl) ?_
    obtain ⟨x10, ex10, h⟩ := h_c h
    refine k_i C S (q_V (rest := []) (As := [.int a1]) lk_RX10_157 ev hx hb hml C S KM_0 rfl (c_m_winnersOf l D dA q a1 w x10.2 x10.1 ex10 _) rfl rfl ⟨(Nat.le_of_ble_eq_true rfl), (Nat.le_of_ble_eq_true rfl)⟩ rfl hl.1 rfl (Nat.le_of_ble_eq_true rfl) dX10_tied_15 ⟨(Nat.le_of_ble_eq_true rfl), (Nat.le_of_ble_eq_true rfl)⟩) (fun H locs S => ?_)
    refine lv_goto (tgt := 22) hx hb dX10_tied_18 rfl ?_
    exact lab22 a2 x8 x10.1 x10.2 _ _ _ (lv_sub hl [1, 3, 0] rfl) S h
theorem c_m_tied (l : Launch) (D : va_G) (dA : Nat → ClassId) (q : Nat → Nat) (a1 : Int32) (a2 : Int32) (w w' : Wt) (r : Int32) (h : m_tied a1 a2 w = some (r, w')) : Mi l EVm KM D dA q yX10_tied cX10_tied 5 (some .int) RM_m_tied [.ref (q 0), .int a1, .int a2] w r w' :=
  mk_i (by decide) rfl EVm_ok (Nat.le_of_ble_eq_true rfl) (fun p e s m args below meth c A Q ls hx hb hml C S hl fin => k_m_tied a1 a2 w (r, w') hx hb hml C (fun H locs ls r' w2 pc S h d => fin H locs ls r' w2 pc S h d) _ _ _ hl S h)
/-! BallotscriptModel.certify(I)I m_certify -/
def m_certify_b29 (l1 : Int32) (t0 : Int32) (t1 : Int32) (w : Wt) : Option (Int32 × Wt) := Option.bind (m_goes t1 t0 (1 : Int32) w) fun x1 => (if x1.1 = (0 : Int32) then some ((0 : Int32), x1.2) else Option.bind (m_winnersOf l1 x1.2) fun x3 => gd (inb l1 8) (nmd (upd2 x3.2 14 (l1).toNatClampNeg x3.1) fun w5 => gd (inb l1 8) (some ((w5 14 (l1).toNatClampNeg), w5))))
def m_certify_b28 (l1 : Int32) (t0 : Int32) (w : Wt) : Option (Int32 × Wt) := m_certify_b29 l1 (0 : Int32) t0 w
def m_certify (a1 : Int32) (w : Wt) : Option (Int32 × Wt) := Option.bind (m_isBelow a1 (w 0 20)) fun x7 => (if x7 = (0 : Int32) then m_certify_b28 a1 x7 w else gd (inb a1 8) ((if (w 13 (a1).toNatClampNeg) = (0 : Int32) then m_certify_b28 a1 x7 w else m_certify_b29 a1 (1 : Int32) x7 w)))
def RM_m_certify : Room := { frames := 6, cells := 0, slots := 0, locals := 145 }
set_option maxHeartbeats 4000000 in
set_option maxRecDepth 20000 in
theorem k_m_certify (a1 : Int32) (w : Wt) (z : (Int32 × Wt)) (hx : p.tables.exec = Jvm.exec) (hb : c.code = cX10_certify) (hml : c.maxLocals = 3) (C : Cx EVm KM D dA q A s m args RX10) (fin : ∀ (H : Heap) (locs : List Loc) (ls : Array Slot) (r' : Int32) (w2 : Wt) (pc : Nat) , Sta KM D dA q A s.heap w2 H locs → some (r', w2) = some z → decode cX10_certify pc = .ok (.ireturn, 1) → W p l e RM_m_certify s m args below meth c H locs 0 0 Q (F0 m pc ls [.int r'])) : ∀ (H : Heap) (locs : List Loc) (ls : Array Slot), lv_has ls 3 [(0, .ref (q 0)), (1, .int a1)] → Sta KM D dA q A s.heap w H locs → m_certify a1 w = some z → W p l e RM_m_certify s m args below meth c H locs 0 0 Q (F0 m 0 ls []) := by
  have ev : evOk EVm := EVm_ok
  have lab29 : ∀ (l1 : Int32) (t0 : Int32) (t1 : Int32) (w : Wt) (H : Heap) (locs : List Loc) (ls : Array Slot), lv_has ls 3 [(0, .ref (q 0)), (1, .int l1)] → Sta KM D dA q A s.heap w H locs → Option.bind (m_certify_b29 l1 t0 t1 w) some = some z → W p l e RM_m_certify s m args below meth c H locs 0 0 Q (F0 m 29 ls [.int t0, .int t1, .ref (q 0)]) := by
    intro l1 t0 t1 w H locs ls hl S h
    unfold m_certify_b29 at h
    refine lv_iconst (v := 1) hx hb dX10_certify_29 (by decide) ?_
    obtain ⟨x1, ex1, h⟩ := h_c h
    refine k_i C S (q_V (rest := []) (As := [.int t1, .int t0, .int (1 : Int32)]) lk_RX10_113 ev hx hb hml C S KM_0 rfl (c_m_goes l D dA q t1 t0 (1 : Int32) w x1.2 x1.1 ex1 _) rfl rfl ⟨(Nat.le_of_ble_eq_true rfl), (Nat.le_of_ble_eq_true rfl)⟩ rfl hl.1 rfl (Nat.le_of_ble_eq_true rfl) dX10_certify_30 ⟨(Nat.le_of_ble_eq_true rfl), (Nat.le_of_ble_eq_true rfl)⟩) (fun H locs S => ?_)
    refine lv_if_ne (tgt := 38) hx hb dX10_certify_33 rfl (fun c2 => ?_) (fun c2 => ?_)
    · have h := h_f c2 h
      refine lv_aload_n hx hb dX10_certify_38 rfl (lv_at hl 0 rfl) ?_
      refine g_getR fl_RX10_50_X10 hx hb C S KM_0 rfl dX10_certify_39 ?_
      refine lv_iload_n hx hb dX10_certify_42 rfl (lv_at hl 1 rfl) ?_
      refine lv_aload_n hx hb dX10_certify_43 rfl (lv_at hl 0 rfl) ?_
      refine lv_iload_n hx hb dX10_certify_44 rfl (lv_at hl 1 rfl) ?_
      obtain ⟨x3, ex3, h⟩ := h_c h
      refine k_i C S (q_V (rest := [.int l1, .ref (q 14)]) (As := [.int l1]) lk_RX10_157 ev hx hb hml C S KM_0 rfl (c_m_winnersOf l D dA q l1 x1.2 x3.2 x3.1 ex3 _) rfl rfl ⟨(Nat.le_of_ble_eq_true rfl), (Nat.le_of_ble_eq_true rfl)⟩ rfl hl.1 rfl (Nat.le_of_ble_eq_true rfl) dX10_certify_45 ⟨(Nat.le_of_ble_eq_true rfl), (Nat.le_of_ble_eq_true rfl)⟩) (fun H locs S => ?_)
      obtain ⟨g4, h⟩ := h_gd h
      refine r_iast hx hb C S KM_14 (h_in g4) dX10_certify_48 (fun w5 ew5 H locs S => ?_)
      have h := h_l h w5 ew5
      refine lv_aload_n hx hb dX10_certify_49 rfl (lv_at hl 0 rfl) ?_
      refine g_getR fl_RX10_50_X10 hx hb C S KM_0 rfl dX10_certify_50 ?_
      refine lv_iload_n hx hb dX10_certify_53 rfl (lv_at hl 1 rfl) ?_
      obtain ⟨g6, h⟩ := h_gd h
      refine r_iald hx hb C S KM_14 (h_in g6) dX10_certify_54 ?_
      exact fin _ _ _ (w5 14 (l1).toNatClampNeg) w5 _ S h dX10_certify_55
    · have h := h_t c2 h
      refine lv_iconst (v := 0) hx hb dX10_certify_36 (by decide) ?_
      exact fin _ _ _ (0 : Int32) x1.2 _ S h dX10_certify_37
  have lab28 : ∀ (l1 : Int32) (t0 : Int32) (w : Wt) (H : Heap) (locs : List Loc) (ls : Array Slot), lv_has ls 3 [(0, .ref (q 0)), (1, .int l1)] → Sta KM D dA q A s.heap w H locs → Option.bind (m_certify_b28 l1 t0 w) some = some z → W p l e RM_m_certify s m args below meth c H locs 0 0 Q (F0 m 28 ls [.int t0, .ref (q 0)]) := by
    intro l1 t0 w H locs ls hl S h
    unfold m_certify_b28 at h
    refine lv_iconst (v := 0) hx hb dX10_certify_28 (by decide) ?_
    exact lab29 l1 (0 : Int32) t0 w _ _ _ (lv_sub hl [0, 1] rfl) S h
  intro H locs ls hl S h
  have h := h_0 h
  unfold m_certify at h
  refine lv_iload_n hx hb dX10_certify_0 rfl (lv_at hl 1 rfl) ?_
  refine lv_aload_n hx hb dX10_certify_1 rfl (lv_at hl 0 rfl) ?_
  refine g_get fl_RX10_154_X10 hx hb C S KM_0 rfl dX10_certify_2 ?_
  obtain ⟨x7, ex7, h⟩ := h_c h
  refine k_i C S (q_S (rest := []) (As := [.int a1, .int (w 0 20)]) lk_RX10_106 ev hx hb hml C S (c_m_isBelow l D dA q a1 (w 0 20) w x7 ex7 _) rfl rfl ⟨(Nat.le_of_ble_eq_true rfl), (Nat.le_of_ble_eq_true rfl)⟩ rfl hl.1 rfl (Nat.le_of_ble_eq_true rfl) dX10_certify_5 ⟨(Nat.le_of_ble_eq_true rfl), (Nat.le_of_ble_eq_true rfl)⟩) (fun H locs S => ?_)
  refine lv_istore_n (lv' := [(2, .int x7), (0, .ref (q 0)), (1, .int a1)]) hx hb dX10_certify_8 rfl hl (Nat.le_of_ble_eq_true rfl) rfl (fun ls hl => ?_)
  refine lv_aload_n hx hb dX10_certify_9 rfl (lv_at hl 1 rfl) ?_
  refine lv_iload_n hx hb dX10_certify_10 rfl (lv_at hl 0 rfl) ?_
  refine lv_iload_n hx hb dX10_certify_11 rfl (lv_at hl 0 rfl) ?_
  refine lv_if_eq (tgt := 28) hx hb dX10_certify_12 rfl (fun c8 => ?_) (fun c8 => ?_)
  · have h := h_t c8 h
    exact lab28 a1 x7 w _ _ _ (lv_sub hl [1, 2] rfl) S h
  · have h := h_f c8 h
    refine lv_aload_n hx hb dX10_certify_15 rfl (lv_at hl 1 rfl) ?_
    refine g_getR fl_RX10_47_X10 hx hb C S KM_0 rfl dX10_certify_16 ?_
    refine lv_iload_n hx hb dX10_certify_19 rfl (lv_at hl 2 rfl) ?_
    obtain ⟨g9, h⟩ := h_gd h
    refine r_zald hx hb C S KM_13 (h_in g9) dX10_certify_20 ?_
    refine lv_if_eq (tgt := 28) hx hb dX10_certify_21 rfl (fun c10 => ?_) (fun c10 => ?_)
    · have h := h_t c10 h
      exact lab28 a1 x7 w _ _ _ (lv_sub hl [1, 2] rfl) S h
    · have h := h_f c10 h
      refine lv_iconst (v := 1) hx hb dX10_certify_24 (by decide) ?_
      refine lv_goto (tgt := 29) hx hb dX10_certify_25 rfl ?_
      exact lab29 a1 (1 : Int32) x7 w _ _ _ (lv_sub hl [1, 2] rfl) S h
theorem c_m_certify (l : Launch) (D : va_G) (dA : Nat → ClassId) (q : Nat → Nat) (a1 : Int32) (w w' : Wt) (r : Int32) (h : m_certify a1 w = some (r, w')) : Mi l EVm KM D dA q yX10_certify cX10_certify 3 (some .int) RM_m_certify [.ref (q 0), .int a1] w r w' :=
  mk_i (by decide) rfl EVm_ok (Nat.le_of_ble_eq_true rfl) (fun p e s m args below meth c A Q ls hx hb hml C S hl fin => k_m_certify a1 w (r, w') hx hb hml C (fun H locs ls r' w2 pc S h d => fin H locs ls r' w2 pc S h d) _ _ _ hl S h)
/-! BallotscriptModel.certified(I)I m_certified -/
def m_certified (a1 : Int32) (w : Wt) : Option (Int32 × Wt) := Option.bind (m_isBelow a1 (w 0 20)) fun x1 => Option.bind (m_goes x1 (1 : Int32) (1 : Int32) w) fun x2 => (if x2.1 = (0 : Int32) then some ((0 : Int32), x2.2) else gd (inb a1 8) (some ((x2.2 14 (a1).toNatClampNeg), x2.2)))
def RM_m_certified : Room := { frames := 1, cells := 0, slots := 0, locals := 23 }
set_option maxHeartbeats 4000000 in
set_option maxRecDepth 20000 in
theorem k_m_certified (a1 : Int32) (w : Wt) (z : (Int32 × Wt)) (hx : p.tables.exec = Jvm.exec) (hb : c.code = cX10_certified) (hml : c.maxLocals = 2) (C : Cx EVm KM D dA q A s m args RX10) (fin : ∀ (H : Heap) (locs : List Loc) (ls : Array Slot) (r' : Int32) (w2 : Wt) (pc : Nat) , Sta KM D dA q A s.heap w2 H locs → some (r', w2) = some z → decode cX10_certified pc = .ok (.ireturn, 1) → W p l e RM_m_certified s m args below meth c H locs 0 0 Q (F0 m pc ls [.int r'])) : ∀ (H : Heap) (locs : List Loc) (ls : Array Slot), lv_has ls 2 [(0, .ref (q 0)), (1, .int a1)] → Sta KM D dA q A s.heap w H locs → m_certified a1 w = some z → W p l e RM_m_certified s m args below meth c H locs 0 0 Q (F0 m 0 ls []) := by
  have ev : evOk EVm := EVm_ok
  intro H locs ls hl S h
  have h := h_0 h
  unfold m_certified at h
  refine lv_aload_n hx hb dX10_certified_0 rfl (lv_at hl 0 rfl) ?_
  refine lv_iload_n hx hb dX10_certified_1 rfl (lv_at hl 1 rfl) ?_
  refine lv_aload_n hx hb dX10_certified_2 rfl (lv_at hl 0 rfl) ?_
  refine g_get fl_RX10_154_X10 hx hb C S KM_0 rfl dX10_certified_3 ?_
  obtain ⟨x1, ex1, h⟩ := h_c h
  refine k_i C S (q_S (rest := [.ref (q 0)]) (As := [.int a1, .int (w 0 20)]) lk_RX10_106 ev hx hb hml C S (c_m_isBelow l D dA q a1 (w 0 20) w x1 ex1 _) rfl rfl ⟨(Nat.le_of_ble_eq_true rfl), (Nat.le_of_ble_eq_true rfl)⟩ rfl hl.1 rfl (Nat.le_of_ble_eq_true rfl) dX10_certified_6 ⟨(Nat.le_of_ble_eq_true rfl), (Nat.le_of_ble_eq_true rfl)⟩) (fun H locs S => ?_)
  refine lv_iconst (v := 1) hx hb dX10_certified_9 (by decide) ?_
  refine lv_iconst (v := 1) hx hb dX10_certified_10 (by decide) ?_
  obtain ⟨x2, ex2, h⟩ := h_c h
  refine k_i C S (q_V (rest := []) (As := [.int x1, .int (1 : Int32), .int (1 : Int32)]) lk_RX10_113 ev hx hb hml C S KM_0 rfl (c_m_goes l D dA q x1 (1 : Int32) (1 : Int32) w x2.2 x2.1 ex2 _) rfl rfl ⟨(Nat.le_of_ble_eq_true rfl), (Nat.le_of_ble_eq_true rfl)⟩ rfl hl.1 rfl (Nat.le_of_ble_eq_true rfl) dX10_certified_11 ⟨(Nat.le_of_ble_eq_true rfl), (Nat.le_of_ble_eq_true rfl)⟩) (fun H locs S => ?_)
  refine lv_if_eq (tgt := 26) hx hb dX10_certified_14 rfl (fun c3 => ?_) (fun c3 => ?_)
  · have h := h_t c3 h
    refine lv_iconst (v := 0) hx hb dX10_certified_26 (by decide) ?_
    exact fin _ _ _ (0 : Int32) x2.2 _ S h dX10_certified_27
  · have h := h_f c3 h
    refine lv_aload_n hx hb dX10_certified_17 rfl (lv_at hl 0 rfl) ?_
    refine g_getR fl_RX10_50_X10 hx hb C S KM_0 rfl dX10_certified_18 ?_
    refine lv_iload_n hx hb dX10_certified_21 rfl (lv_at hl 1 rfl) ?_
    obtain ⟨g4, h⟩ := h_gd h
    refine r_iald hx hb C S KM_14 (h_in g4) dX10_certified_22 ?_
    refine lv_goto (tgt := 27) hx hb dX10_certified_23 rfl ?_
    exact fin _ _ _ (x2.2 14 (a1).toNatClampNeg) x2.2 _ S h dX10_certified_27
theorem c_m_certified (l : Launch) (D : va_G) (dA : Nat → ClassId) (q : Nat → Nat) (a1 : Int32) (w w' : Wt) (r : Int32) (h : m_certified a1 w = some (r, w')) : Mi l EVm KM D dA q yX10_certified cX10_certified 2 (some .int) RM_m_certified [.ref (q 0), .int a1] w r w' :=
  mk_i (by decide) rfl EVm_ok (Nat.le_of_ble_eq_true rfl) (fun p e s m args below meth c A Q ls hx hb hml C S hl fin => k_m_certified a1 w (r, w') hx hb hml C (fun H locs ls r' w2 pc S h d => fin H locs ls r' w2 pc S h d) _ _ _ hl S h)
/-! BallotscriptModel.stale()I m_stale -/
def m_stale_b54 (l1 : Int32) (w : Wt) : Option (Int32 × Wt) := some (l1, w)
def m_stale_L9 : (Int32 × Int32 × Wt) → Option ((Int32 × Int32 × Wt) ⊕ (Int32 × Wt))
  | (l1, l2, w) => (if (w 0 20) ≤ l2 then some (.inr (l1, w)) else gd (inb l2 8) ((if (w 14 (l2).toNatClampNeg) < (0 : Int32) then nmd (l1 + (0 : Int32)) fun v4 => some (.inl (v4, (l2 + 1), w)) else gd (inb l2 8) (Option.bind (m_winnersOf l2 w) fun x6 => (if (w 14 (l2).toNatClampNeg) = x6.1 then nmd (l1 + (0 : Int32)) fun v8 => some (.inl (v8, (l2 + 1), x6.2)) else nmd (l1 + (1 : Int32)) fun v9 => some (.inl (v9, (l2 + 1), x6.2)))))))
def m_stale_x9 : (Int32 × Wt) → Option (Int32 × Wt)
  | (l1, w) => m_stale_b54 l1 w
def m_stale (w : Wt) : Option (Int32 × Wt) := nmd (upd2 w 0 45 (0 : Int32)) fun w10 => Option.bind (lp (m_stale_L9) FU ((0 : Int32), (0 : Int32), w10)) (m_stale_x9)
def RM_m_stale : Room := { frames := 6, cells := 0, slots := 0, locals := 145 }
set_option maxHeartbeats 4000000 in
set_option maxRecDepth 20000 in
theorem k_m_stale (w : Wt) (z : (Int32 × Wt)) (hx : p.tables.exec = Jvm.exec) (hb : c.code = cX10_stale) (hml : c.maxLocals = 3) (C : Cx EVm KM D dA q A s m args RX10) (fin : ∀ (H : Heap) (locs : List Loc) (ls : Array Slot) (r' : Int32) (w2 : Wt) (pc : Nat) , Sta KM D dA q A s.heap w2 H locs → some (r', w2) = some z → decode cX10_stale pc = .ok (.ireturn, 1) → W p l e RM_m_stale s m args below meth c H locs 0 0 Q (F0 m pc ls [.int r'])) : ∀ (H : Heap) (locs : List Loc) (ls : Array Slot), lv_has ls 3 [(0, .ref (q 0))] → Sta KM D dA q A s.heap w H locs → m_stale w = some z → W p l e RM_m_stale s m args below meth c H locs 0 0 Q (F0 m 0 ls []) := by
  have ev : evOk EVm := EVm_ok
  have lab54 : ∀ (l1 : Int32) (w : Wt) (H : Heap) (locs : List Loc) (ls : Array Slot), lv_has ls 3 [(1, .int l1)] → Sta KM D dA q A s.heap w H locs → Option.bind (m_stale_b54 l1 w) some = some z → W p l e RM_m_stale s m args below meth c H locs 0 0 Q (F0 m 54 ls []) := by
    intro l1 w H locs ls hl S h
    unfold m_stale_b54 at h
    refine lv_iload_n hx hb dX10_stale_54 rfl (lv_at hl 0 rfl) ?_
    exact fin _ _ _ l1 w _ S h dX10_stale_55
  have loop9 : ∀ (n9 : Nat), ∀ (l1 : Int32) (l2 : Int32) (w : Wt) (H : Heap) (locs : List Loc) (ls : Array Slot), lv_has ls 3 [(0, .ref (q 0)), (1, .int l1), (2, .int l2)] → Sta KM D dA q A s.heap w H locs → Option.bind (lp (m_stale_L9) n9 (l1, l2, w)) (fun x9 => Option.bind (m_stale_x9 x9) some) = some z → W p l e RM_m_stale s m args below meth c H locs 0 0 Q (F0 m 9 ls []) := by
    intro  n9
    induction n9 with
    | zero =>
      intro l1 l2 w H locs ls hl S h
      exact (h_lp0 h).elim
    | succ n9 ih9 =>
      intro l1 l2 w H locs ls hl S h
      have h := h_lp h
      unfold m_stale_L9 at h
      refine lv_iload_n hx hb dX10_stale_9 rfl (lv_at hl 2 rfl) ?_
      refine lv_aload_n hx hb dX10_stale_10 rfl (lv_at hl 0 rfl) ?_
      refine g_get fl_RX10_154_X10 hx hb C S KM_0 rfl dX10_stale_11 ?_
      refine lv_icmp_ge (tgt := 54) hx hb dX10_stale_14 rfl (fun c1 => ?_) (fun c1 => ?_)
      · have h := h_t c1 h
        exact lab54 l1 w _ _ _ (lv_sub hl [1] rfl) S h
      · have h := h_f c1 h
        refine lv_iload_n hx hb dX10_stale_17 rfl (lv_at hl 1 rfl) ?_
        refine lv_aload_n hx hb dX10_stale_18 rfl (lv_at hl 0 rfl) ?_
        refine g_getR fl_RX10_50_X10 hx hb C S KM_0 rfl dX10_stale_19 ?_
        refine lv_iload_n hx hb dX10_stale_22 rfl (lv_at hl 2 rfl) ?_
        obtain ⟨g2, h⟩ := h_gd h
        refine r_iald hx hb C S KM_14 (h_in g2) dX10_stale_23 ?_
        refine lv_if_lt (tgt := 45) hx hb dX10_stale_24 rfl (fun c3 => ?_) (fun c3 => ?_)
        · have h := h_t c3 h
          refine lv_iconst (v := 0) hx hb dX10_stale_45 (by decide) ?_
          refine lv_iadd hx hb dX10_stale_46 ?_
          refine lv_topi (fun v4 ev4 => ?_)
          have h := h_l h v4 ev4
          refine lv_istore_n (lv' := [(1, .int v4), (0, .ref (q 0)), (2, .int l2)]) hx hb dX10_stale_47 rfl hl (Nat.le_of_ble_eq_true rfl) rfl (fun ls hl => ?_)
          refine lv_iinc (v := (l2 + 1)) (lv' := [(2, .int (l2 + 1)), (1, .int v4), (0, .ref (q 0))]) hx hb dX10_stale_48 hl (k := 2) rfl rfl (Nat.le_of_ble_eq_true rfl) rfl (fun ls hl => ?_)
          refine lv_goto (tgt := 9) hx hb dX10_stale_51 rfl ?_
          exact ih9 v4 (l2 + 1) w _ _ _ (lv_sub hl [2, 1, 0] rfl) S h
        · have h := h_f c3 h
          refine lv_aload_n hx hb dX10_stale_27 rfl (lv_at hl 0 rfl) ?_
          refine g_getR fl_RX10_50_X10 hx hb C S KM_0 rfl dX10_stale_28 ?_
          refine lv_iload_n hx hb dX10_stale_31 rfl (lv_at hl 2 rfl) ?_
          obtain ⟨g5, h⟩ := h_gd h
          refine r_iald hx hb C S KM_14 (h_in g5) dX10_stale_32 ?_
          refine lv_aload_n hx hb dX10_stale_33 rfl (lv_at hl 0 rfl) ?_
          refine lv_iload_n hx hb dX10_stale_34 rfl (lv_at hl 2 rfl) ?_
          obtain ⟨x6, ex6, h⟩ := h_c h
          refine k_i C S (q_V (rest := [.int (w 14 (l2).toNatClampNeg), .int l1]) (As := [.int l2]) lk_RX10_157 ev hx hb hml C S KM_0 rfl (c_m_winnersOf l D dA q l2 w x6.2 x6.1 ex6 _) rfl rfl ⟨(Nat.le_of_ble_eq_true rfl), (Nat.le_of_ble_eq_true rfl)⟩ rfl hl.1 rfl (Nat.le_of_ble_eq_true rfl) dX10_stale_35 ⟨(Nat.le_of_ble_eq_true rfl), (Nat.le_of_ble_eq_true rfl)⟩) (fun H locs S => ?_)
          refine lv_icmp_eq (tgt := 45) hx hb dX10_stale_38 rfl (fun c7 => ?_) (fun c7 => ?_)
          · have h := h_t c7 h
            refine lv_iconst (v := 0) hx hb dX10_stale_45 (by decide) ?_
            refine lv_iadd hx hb dX10_stale_46 ?_
            refine lv_topi (fun v8 ev8 => ?_)
            have h := h_l h v8 ev8
            refine lv_istore_n (lv' := [(1, .int v8), (0, .ref (q 0)), (2, .int l2)]) hx hb dX10_stale_47 rfl hl (Nat.le_of_ble_eq_true rfl) rfl (fun ls hl => ?_)
            refine lv_iinc (v := (l2 + 1)) (lv' := [(2, .int (l2 + 1)), (1, .int v8), (0, .ref (q 0))]) hx hb dX10_stale_48 hl (k := 2) rfl rfl (Nat.le_of_ble_eq_true rfl) rfl (fun ls hl => ?_)
            refine lv_goto (tgt := 9) hx hb dX10_stale_51 rfl ?_
            exact ih9 v8 (l2 + 1) x6.2 _ _ _ (lv_sub hl [2, 1, 0] rfl) S h
          · have h := h_f c7 h
            refine lv_iconst (v := 1) hx hb dX10_stale_41 (by decide) ?_
            refine lv_goto (tgt := 46) hx hb dX10_stale_42 rfl ?_
            refine lv_iadd hx hb dX10_stale_46 ?_
            refine lv_topi (fun v9 ev9 => ?_)
            have h := h_l h v9 ev9
            refine lv_istore_n (lv' := [(1, .int v9), (0, .ref (q 0)), (2, .int l2)]) hx hb dX10_stale_47 rfl hl (Nat.le_of_ble_eq_true rfl) rfl (fun ls hl => ?_)
            refine lv_iinc (v := (l2 + 1)) (lv' := [(2, .int (l2 + 1)), (1, .int v9), (0, .ref (q 0))]) hx hb dX10_stale_48 hl (k := 2) rfl rfl (Nat.le_of_ble_eq_true rfl) rfl (fun ls hl => ?_)
            refine lv_goto (tgt := 9) hx hb dX10_stale_51 rfl ?_
            exact ih9 v9 (l2 + 1) x6.2 _ _ _ (lv_sub hl [2, 1, 0] rfl) S h
  intro H locs ls hl S h
  have h := h_0 h
  unfold m_stale at h
  refine lv_aload_n hx hb dX10_stale_0 rfl (lv_at hl 0 rfl) ?_
  refine lv_iconst (v := 0) hx hb dX10_stale_1 (by decide) ?_
  refine g_put fl_RX10_98_X10 pl_X10_45 hx hb C S KM_0 rfl ⟨rfl, rfl⟩ dX10_stale_2 (fun w10 ew10 H locs S => ?_)
  have h := h_l h w10 ew10
  refine lv_iconst (v := 0) hx hb dX10_stale_5 (by decide) ?_
  refine lv_istore_n (lv' := [(1, .int (0 : Int32)), (0, .ref (q 0))]) hx hb dX10_stale_6 rfl hl (Nat.le_of_ble_eq_true rfl) rfl (fun ls hl => ?_)
  refine lv_iconst (v := 0) hx hb dX10_stale_7 (by decide) ?_
  refine lv_istore_n (lv' := [(2, .int (0 : Int32)), (1, .int (0 : Int32)), (0, .ref (q 0))]) hx hb dX10_stale_8 rfl hl (Nat.le_of_ble_eq_true rfl) rfl (fun ls hl => ?_)
  exact loop9  FU (0 : Int32) (0 : Int32) w10 _ _ _ (lv_sub hl [2, 1, 0] rfl) S (h_bb h)
theorem c_m_stale (l : Launch) (D : va_G) (dA : Nat → ClassId) (q : Nat → Nat) (w w' : Wt) (r : Int32) (h : m_stale w = some (r, w')) : Mi l EVm KM D dA q yX10_stale cX10_stale 3 (some .int) RM_m_stale [.ref (q 0)] w r w' :=
  mk_i (by decide) rfl EVm_ok (Nat.le_of_ble_eq_true rfl) (fun p e s m args below meth c A Q ls hx hb hml C S hl fin => k_m_stale w (r, w') hx hb hml C (fun H locs ls r' w2 pc S h d => fin H locs ls r' w2 pc S h d) _ _ _ hl S h)
end WALKS

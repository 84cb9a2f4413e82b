section WALKS
variable {p : Program} {l : Launch} {e : Env} {s : State} {m : MethodId} {args : Array Value} {below : List Frame} {meth : Method} {c : Code} {Q : State → Prop} {D : va_G} {dA : Nat → ClassId} {q : Nat → Nat} {A : Nat → Prop}
/-! BallotscriptModel.chosen(Z)I m_chosen -/
def m_chosen_b131 (l3 : Int32) (w : Wt) : Option (Int32 × Wt) := some (l3, w)
def m_chosen_L90 (l2 : Int32) (w : Wt) : (Int32 × Int32) → Option ((Int32 × Int32) ⊕ Int32)
  | (l3, l4) => (if (6 : Int32) ≤ l4 then some (.inr l3) else Option.bind (m_has l2 l4) fun x2 => (if x2 = (0 : Int32) then some (.inl (l3, (l4 + 1))) else (if l3 < (0 : Int32) then some (.inl (l4, (l4 + 1))) else (if (w 0 39) = (1 : Int32) then some (.inl (l4, (l4 + 1))) else some (.inl (l3, (l4 + 1)))))))
def m_chosen_x90 (w : Wt) : Int32 → Option (Int32 × Wt)
  | l3 => m_chosen_b131 l3 w
def m_chosen_b85 (l2 : Int32) (w : Wt) : Option (Int32 × Wt) := Option.bind (lp (m_chosen_L90 l2 w) FU ((-1 : Int32), (0 : Int32))) (m_chosen_x90 w)
def m_chosen_L51 (l1 : Int32) (w : Wt) : (Int32 × Int32) → Option ((Int32 × Int32) ⊕ Int32)
  | (l2, l3) => (if l3 < (0 : Int32) then some (.inr l2) else (if (w 0 39) = (2 : Int32) then Option.bind (m_size l2) fun x8 => (if x8 ≤ (1 : Int32) then some (.inr l2) else Option.bind (m_extreme l2 l3 l1 w) fun x10 => some (.inl (x10, (l3 + (-1))))) else some (.inr l2)))
def m_chosen_x51 (w : Wt) : Int32 → Option (Int32 × Wt)
  | l2 => m_chosen_b85 l2 w
def m_chosen_b44 (l1 : Int32) (l2 : Int32) (w : Wt) : Option (Int32 × Wt) := nmd ((w 0 32) - (2 : Int32)) fun v11 => Option.bind (lp (m_chosen_L51 l1 w) FU (l2, v11)) (m_chosen_x51 w)
def m_chosen (a1 : Int32) (w : Wt) : Option (Int32 × Wt) := Option.bind (m_extreme (w 0 36) ((w 0 32) - (1 : Int32)) a1 w) fun x12 => Option.bind (m_size x12) fun x13 => (if x13 ≤ (1 : Int32) then m_chosen_b44 a1 x12 w else gd (inb (w 0 35) 800) (nmd (upd2 w 26 ((w 0 35)).toNatClampNeg x12) fun w16 => nmd (upd2 w16 0 35 ((w16 0 35) + (1 : Int32))) fun w17 => m_chosen_b44 a1 x12 w17))
def RM_m_chosen : Room := { frames := 2, cells := 0, slots := 0, locals := 50 }
set_option maxHeartbeats 4000000 in
set_option maxRecDepth 20000 in
theorem k_m_chosen (a1 : Int32) (w : Wt) (z : (Int32 × Wt)) (hx : p.tables.exec = Jvm.exec) (hb : c.code = cX10_chosen) (hml : c.maxLocals = 5) (C : Cx EVm KM D dA q A s m args RX10) (fin : ∀ (H : Heap) (locs : List Loc) (ls : Array Slot) (r' : Int32) (w2 : Wt) (pc : Nat) , Sta KM D dA q A s.heap w2 H locs → some (r', w2) = some z → decode cX10_chosen pc = .ok (.ireturn, 1) → W p l e RM_m_chosen s m args below meth c H locs 0 0 Q (F0 m pc ls [.int r'])) : ∀ (H : Heap) (locs : List Loc) (ls : Array Slot), lv_has ls 5 [(0, .ref (q 0)), (1, .int a1)] → Sta KM D dA q A s.heap w H locs → m_chosen a1 w = some z → W p l e RM_m_chosen s m args below meth c H locs 0 0 Q (F0 m 0 ls []) := by
  have ev : evOk EVm := EVm_ok
  have lab131 : ∀ (l3 : Int32) (w : Wt) (H : Heap) (locs : List Loc) (ls : Array Slot), lv_has ls 5 [(3, .int l3)] → Sta KM D dA q A s.heap w H locs → Option.bind (m_chosen_b131 l3 w) some = some z → W p l e RM_m_chosen s m args below meth c H locs 0 0 Q (F0 m 131 ls []) := by
    intro l3 w H locs ls hl S h
    unfold m_chosen_b131 at h
    refine lv_iload_n hx hb dX10_chosen_131 rfl (lv_at hl 0 rfl) ?_
    exact fin _ _ _ l3 w _ S h dX10_chosen_132
  have loop90 : ∀ (l2 : Int32) (w : Wt) (n90 : Nat), ∀ (l3 : Int32) (l4 : Int32) (H : Heap) (locs : List Loc) (ls : Array Slot), lv_has ls 5 [(0, .ref (q 0)), (2, .int l2), (3, .int l3), (4, .int l4)] → Sta KM D dA q A s.heap w H locs → Option.bind (lp (m_chosen_L90 l2 w) n90 (l3, l4)) (fun x9 => Option.bind (m_chosen_x90 w x9) some) = some z → W p l e RM_m_chosen s m args below meth c H locs 0 0 Q (F0 m 90 ls []) := by
    intro l2 w n90
    induction n90 with
    | zero =>
      intro l3 l4 H locs ls hl S h
      exact (h_lp0 h).elim
    | succ n90 ih90 =>
      intro l3 l4 H locs ls hl S h
      have h := h_lp h
      unfold m_chosen_L90 at h
      refine lv_iload hx hb dX10_chosen_90 (lv_at hl 3 rfl) ?_
      refine lv_bipush (v := 6) hx hb dX10_chosen_92 (by decide) ?_
      refine lv_icmp_ge (tgt := 131) hx hb dX10_chosen_94 rfl (fun c1 => ?_) (fun c1 => ?_)
      · have h := h_t c1 h
        exact lab131 l3 w _ _ _ (lv_sub hl [2] rfl) S h
      · have h := h_f c1 h
        refine lv_iload_n hx hb dX10_chosen_97 rfl (lv_at hl 1 rfl) ?_
        refine lv_iload hx hb dX10_chosen_98 (lv_at hl 3 rfl) ?_
        obtain ⟨x2, ex2, h⟩ := h_c h
        refine k_i C S (q_S (rest := []) (As := [.int l2, .int l4]) lk_RX10_183 ev hx hb hml C S (c_m_has l D dA q l2 l4 w x2 ex2 _) rfl rfl ⟨(Nat.le_of_ble_eq_true rfl), (Nat.le_of_ble_eq_true rfl)⟩ rfl hl.1 rfl (Nat.le_of_ble_eq_true rfl) dX10_chosen_100 ⟨(Nat.le_of_ble_eq_true rfl), (Nat.le_of_ble_eq_true rfl)⟩) (fun H locs S => ?_)
        refine lv_if_eq (tgt := 123) hx hb dX10_chosen_103 rfl (fun c3 => ?_) (fun c3 => ?_)
        · have h := h_t c3 h
          refine lv_iload_n hx hb dX10_chosen_123 rfl (lv_at hl 2 rfl) ?_
          refine lv_istore_n (lv' := [(3, .int l3), (0, .ref (q 0)), (2, .int l2), (4, .int l4)]) hx hb dX10_chosen_124 rfl hl (Nat.le_of_ble_eq_true rfl) rfl (fun ls hl => ?_)
          refine lv_iinc (v := (l4 + 1)) (lv' := [(4, .int (l4 + 1)), (3, .int l3), (0, .ref (q 0)), (2, .int l2)]) hx hb dX10_chosen_125 hl (k := 3) rfl rfl (Nat.le_of_ble_eq_true rfl) rfl (fun ls hl => ?_)
          refine lv_goto (tgt := 90) hx hb dX10_chosen_128 rfl ?_
          exact ih90 l3 (l4 + 1) _ _ _ (lv_sub hl [2, 3, 1, 0] rfl) S h
        · have h := h_f c3 h
          refine lv_iload_n hx hb dX10_chosen_106 rfl (lv_at hl 2 rfl) ?_
          refine lv_if_lt (tgt := 118) hx hb dX10_chosen_107 rfl (fun c4 => ?_) (fun c4 => ?_)
          · have h := h_t c4 h
            refine lv_iload hx hb dX10_chosen_118 (lv_at hl 3 rfl) ?_
            refine lv_goto (tgt := 124) hx hb dX10_chosen_120 rfl ?_
            refine lv_istore_n (lv' := [(3, .int l4), (0, .ref (q 0)), (2, .int l2), (4, .int l4)]) hx hb dX10_chosen_124 rfl hl (Nat.le_of_ble_eq_true rfl) rfl (fun ls hl => ?_)
            refine lv_iinc (v := (l4 + 1)) (lv' := [(4, .int (l4 + 1)), (3, .int l4), (0, .ref (q 0)), (2, .int l2)]) hx hb dX10_chosen_125 hl (k := 3) rfl rfl (Nat.le_of_ble_eq_true rfl) rfl (fun ls hl => ?_)
            refine lv_goto (tgt := 90) hx hb dX10_chosen_128 rfl ?_
            exact ih90 l4 (l4 + 1) _ _ _ (lv_sub hl [2, 3, 1, 0] rfl) S h
          · have h := h_f c4 h
            refine lv_aload_n hx hb dX10_chosen_110 rfl (lv_at hl 0 rfl) ?_
            refine g_get fl_RX10_199_X10 hx hb C S KM_0 rfl dX10_chosen_111 ?_
            refine lv_iconst (v := 1) hx hb dX10_chosen_114 (by decide) ?_
            refine lv_icmp_ne (tgt := 123) hx hb dX10_chosen_115 rfl (fun c5 => ?_) (fun c5 => ?_)
            · have h := h_f c5 h
              refine lv_iload_n hx hb dX10_chosen_123 rfl (lv_at hl 2 rfl) ?_
              refine lv_istore_n (lv' := [(3, .int l3), (0, .ref (q 0)), (2, .int l2), (4, .int l4)]) hx hb dX10_chosen_124 rfl hl (Nat.le_of_ble_eq_true rfl) rfl (fun ls hl => ?_)
              refine lv_iinc (v := (l4 + 1)) (lv' := [(4, .int (l4 + 1)), (3, .int l3), (0, .ref (q 0)), (2, .int l2)]) hx hb dX10_chosen_125 hl (k := 3) rfl rfl (Nat.le_of_ble_eq_true rfl) rfl (fun ls hl => ?_)
              refine lv_goto (tgt := 90) hx hb dX10_chosen_128 rfl ?_
              exact ih90 l3 (l4 + 1) _ _ _ (lv_sub hl [2, 3, 1, 0] rfl) S h
            · have h := h_t c5 h
              refine lv_iload hx hb dX10_chosen_118 (lv_at hl 3 rfl) ?_
              refine lv_goto (tgt := 124) hx hb dX10_chosen_120 rfl ?_
              refine lv_istore_n (lv' := [(3, .int l4), (0, .ref (q 0)), (2, .int l2), (4, .int l4)]) hx hb dX10_chosen_124 rfl hl (Nat.le_of_ble_eq_true rfl) rfl (fun ls hl => ?_)
              refine lv_iinc (v := (l4 + 1)) (lv' := [(4, .int (l4 + 1)), (3, .int l4), (0, .ref (q 0)), (2, .int l2)]) hx hb dX10_chosen_125 hl (k := 3) rfl rfl (Nat.le_of_ble_eq_true rfl) rfl (fun ls hl => ?_)
              refine lv_goto (tgt := 90) hx hb dX10_chosen_128 rfl ?_
              exact ih90 l4 (l4 + 1) _ _ _ (lv_sub hl [2, 3, 1, 0] rfl) S h
  have lab85 : ∀ (l2 : Int32) (w : Wt) (H : Heap) (locs : List Loc) (ls : Array Slot), lv_has ls 5 [(0, .ref (q 0)), (2, .int l2)] → Sta KM D dA q A s.heap w H locs → Option.bind (m_chosen_b85 l2 w) some = some z → W p l e RM_m_chosen s m args below meth c H locs 0 0 Q (F0 m 85 ls []) := by
    intro l2 w H locs ls hl S h
    unfold m_chosen_b85 at h
    refine lv_iconst (v := -1) hx hb dX10_chosen_85 (by decide) ?_
    refine lv_istore_n (lv' := [(3, .int (-1 : Int32)), (0, .ref (q 0)), (2, .int l2)]) hx hb dX10_chosen_86 rfl hl (Nat.le_of_ble_eq_true rfl) rfl (fun ls hl => ?_)
    refine lv_iconst (v := 0) hx hb dX10_chosen_87 (by decide) ?_
    refine lv_istore (lv' := [(4, .int (0 : Int32)), (3, .int (-1 : Int32)), (0, .ref (q 0)), (2, .int l2)]) hx hb dX10_chosen_88 hl (Nat.le_of_ble_eq_true rfl) rfl (fun ls hl => ?_)
    exact loop90 l2 w FU (-1 : Int32) (0 : Int32) _ _ _ (lv_sub hl [2, 3, 1, 0] rfl) S (h_bb h)
  have loop51 : ∀ (l1 : Int32) (w : Wt) (n51 : Nat), ∀ (l2 : Int32) (l3 : Int32) (H : Heap) (locs : List Loc) (ls : Array Slot), lv_has ls 5 [(0, .ref (q 0)), (1, .int l1), (2, .int l2), (3, .int l3)] → Sta KM D dA q A s.heap w H locs → Option.bind (lp (m_chosen_L51 l1 w) n51 (l2, l3)) (fun x9 => Option.bind (m_chosen_x51 w x9) some) = some z → W p l e RM_m_chosen s m args below meth c H locs 0 0 Q (F0 m 51 ls []) := by
    intro l1 w n51
    induction n51 with
    | zero =>
      intro l2 l3 H locs ls hl S h
      exact (h_lp0 h).elim
    | succ n51 ih51 =>
      intro l2 l3 H locs ls hl S h
      have h := h_lp h
      unfold m_chosen_L51 at h
      refine lv_iload_n hx hb dX10_chosen_51 rfl (lv_at hl 3 rfl) ?_
      refine lv_if_lt (tgt := 85) hx hb dX10_chosen_52 rfl (fun c6 => ?_) (fun c6 => ?_)
      · have h := h_t c6 h
        exact lab85 l2 w _ _ _ (lv_sub hl [0, 2] rfl) S h
      · have h := h_f c6 h
        refine lv_aload_n hx hb dX10_chosen_55 rfl (lv_at hl 0 rfl) ?_
        refine g_get fl_RX10_199_X10 hx hb C S KM_0 rfl dX10_chosen_56 ?_
        refine lv_iconst (v := 2) hx hb dX10_chosen_59 (by decide) ?_
        refine lv_icmp_ne (tgt := 85) hx hb dX10_chosen_60 rfl (fun c7 => ?_) (fun c7 => ?_)
        · have h := h_f c7 h
          exact lab85 l2 w _ _ _ (lv_sub hl [0, 2] rfl) S h
        · have h := h_t c7 h
          refine lv_iload_n hx hb dX10_chosen_63 rfl (lv_at hl 2 rfl) ?_
          obtain ⟨x8, ex8, h⟩ := h_c h
          refine k_i C S (q_S (rest := []) (As := [.int l2]) lk_RX10_180 ev hx hb hml C S (c_m_size l D dA q l2 w x8 ex8 _) rfl rfl ⟨(Nat.le_of_ble_eq_true rfl), (Nat.le_of_ble_eq_true rfl)⟩ rfl hl.1 rfl (Nat.le_of_ble_eq_true rfl) dX10_chosen_64 ⟨(Nat.le_of_ble_eq_true rfl), (Nat.le_of_ble_eq_true rfl)⟩) (fun H locs S => ?_)
          refine lv_iconst (v := 1) hx hb dX10_chosen_67 (by decide) ?_
          refine lv_icmp_le (tgt := 85) hx hb dX10_chosen_68 rfl (fun c9 => ?_) (fun c9 => ?_)
          · have h := h_t c9 h
            exact lab85 l2 w _ _ _ (lv_sub hl [0, 2] rfl) S h
          · have h := h_f c9 h
            refine lv_aload_n hx hb dX10_chosen_71 rfl (lv_at hl 0 rfl) ?_
            refine lv_iload_n hx hb dX10_chosen_72 rfl (lv_at hl 2 rfl) ?_
            refine lv_iload_n hx hb dX10_chosen_73 rfl (lv_at hl 3 rfl) ?_
            refine lv_iload_n hx hb dX10_chosen_74 rfl (lv_at hl 1 rfl) ?_
            obtain ⟨x10, ex10, h⟩ := h_c h
            refine k_i C S (q_V (rest := []) (As := [.int l2, .int l3, .int l1]) lk_RX10_192 ev hx hb hml C S KM_0 rfl (c_m_extreme l D dA q l2 l3 l1 w x10 ex10 _) rfl rfl ⟨(Nat.le_of_ble_eq_true rfl), (Nat.le_of_ble_eq_true rfl)⟩ rfl hl.1 rfl (Nat.le_of_ble_eq_true rfl) dX10_chosen_75 ⟨(Nat.le_of_ble_eq_true rfl), (Nat.le_of_ble_eq_true rfl)⟩) (fun H locs S => ?_)
            refine lv_istore_n (lv' := [(2, .int x10), (0, .ref (q 0)), (1, .int l1), (3, .int l3)]) hx hb dX10_chosen_78 rfl hl (Nat.le_of_ble_eq_true rfl) rfl (fun ls hl => ?_)
            refine lv_iinc (v := (l3 + (-1))) (lv' := [(3, .int (l3 + (-1))), (2, .int x10), (0, .ref (q 0)), (1, .int l1)]) hx hb dX10_chosen_79 hl (k := 3) rfl rfl (Nat.le_of_ble_eq_true rfl) rfl (fun ls hl => ?_)
            refine lv_goto (tgt := 51) hx hb dX10_chosen_82 rfl ?_
            exact ih51 x10 (l3 + (-1)) _ _ _ (lv_sub hl [2, 3, 1, 0] rfl) S h
  have lab44 : ∀ (l1 : Int32) (l2 : Int32) (w : Wt) (H : Heap) (locs : List Loc) (ls : Array Slot), lv_has ls 5 [(0, .ref (q 0)), (1, .int l1), (2, .int l2)] → Sta KM D dA q A s.heap w H locs → Option.bind (m_chosen_b44 l1 l2 w) some = some z → W p l e RM_m_chosen s m args below meth c H locs 0 0 Q (F0 m 44 ls []) := by
    intro l1 l2 w H locs ls hl S h
    unfold m_chosen_b44 at h
    refine lv_aload_n hx hb dX10_chosen_44 rfl (lv_at hl 0 rfl) ?_
    refine g_get fl_RX10_174_X10 hx hb C S KM_0 rfl dX10_chosen_45 ?_
    refine lv_iconst (v := 2) hx hb dX10_chosen_48 (by decide) ?_
    refine lv_isub hx hb dX10_chosen_49 ?_
    refine lv_topi (fun v11 ev11 => ?_)
    have h := h_l h v11 ev11
    refine lv_istore_n (lv' := [(3, .int v11), (0, .ref (q 0)), (1, .int l1), (2, .int l2)]) hx hb dX10_chosen_50 rfl hl (Nat.le_of_ble_eq_true rfl) rfl (fun ls hl => ?_)
    exact loop51 l1 w FU l2 v11 _ _ _ (lv_sub hl [1, 2, 3, 0] rfl) S (h_bb h)
  intro H locs ls hl S h
  have h := h_0 h
  unfold m_chosen at h
  refine lv_aload_n hx hb dX10_chosen_0 rfl (lv_at hl 0 rfl) ?_
  refine lv_aload_n hx hb dX10_chosen_1 rfl (lv_at hl 0 rfl) ?_
  refine g_get fl_RX10_177_X10 hx hb C S KM_0 rfl dX10_chosen_2 ?_
  refine lv_aload_n hx hb dX10_chosen_5 rfl (lv_at hl 0 rfl) ?_
  refine g_get fl_RX10_174_X10 hx hb C S KM_0 rfl dX10_chosen_6 ?_
  refine lv_iconst (v := 1) hx hb dX10_chosen_9 (by decide) ?_
  refine lv_isub hx hb dX10_chosen_10 ?_
  refine lv_iload_n hx hb dX10_chosen_11 rfl (lv_at hl 1 rfl) ?_
  obtain ⟨x12, ex12, h⟩ := h_c h
  refine k_i C S (q_V (rest := []) (As := [.int (w 0 36), .int ((w 0 32) - (1 : Int32)), .int a1]) lk_RX10_192 ev hx hb hml C S KM_0 rfl (c_m_extreme l D dA q (w 0 36) ((w 0 32) - (1 : Int32)) a1 w x12 ex12 _) rfl rfl ⟨(Nat.le_of_ble_eq_true rfl), (Nat.le_of_ble_eq_true rfl)⟩ rfl hl.1 rfl (Nat.le_of_ble_eq_true rfl) dX10_chosen_12 ⟨(Nat.le_of_ble_eq_true rfl), (Nat.le_of_ble_eq_true rfl)⟩) (fun H locs S => ?_)
  refine lv_istore_n (lv' := [(2, .int x12), (0, .ref (q 0)), (1, .int a1)]) hx hb dX10_chosen_15 rfl hl (Nat.le_of_ble_eq_true rfl) rfl (fun ls hl => ?_)
  refine lv_iload_n hx hb dX10_chosen_16 rfl (lv_at hl 0 rfl) ?_
  obtain ⟨x13, ex13, h⟩ := h_c h
  refine k_i C S (q_S (rest := []) (As := [.int x12]) lk_RX10_180 ev hx hb hml C S (c_m_size l D dA q x12 w x13 ex13 _) rfl rfl ⟨(Nat.le_of_ble_eq_true rfl), (Nat.le_of_ble_eq_true rfl)⟩ rfl hl.1 rfl (Nat.le_of_ble_eq_true rfl) dX10_chosen_17 ⟨(Nat.le_of_ble_eq_true rfl), (Nat.le_of_ble_eq_true rfl)⟩) (fun H locs S => ?_)
  refine lv_iconst (v := 1) hx hb dX10_chosen_20 (by decide) ?_
  refine lv_icmp_le (tgt := 44) hx hb dX10_chosen_21 rfl (fun c14 => ?_) (fun c14 => ?_)
  · have h := h_t c14 h
    exact lab44 a1 x12 w _ _ _ (lv_sub hl [1, 2, 0] rfl) S h
  · have h := h_f c14 h
    refine lv_aload_n hx hb dX10_chosen_24 rfl (lv_at hl 1 rfl) ?_
    refine g_getR fl_RX10_86_X10 hx hb C S KM_0 rfl dX10_chosen_25 ?_
    refine lv_aload_n hx hb dX10_chosen_28 rfl (lv_at hl 1 rfl) ?_
    refine g_get fl_RX10_196_X10 hx hb C S KM_0 rfl dX10_chosen_29 ?_
    refine lv_iload_n hx hb dX10_chosen_32 rfl (lv_at hl 0 rfl) ?_
    obtain ⟨g15, h⟩ := h_gd h
    refine r_iast hx hb C S KM_26 (h_in g15) dX10_chosen_33 (fun w16 ew16 H locs S => ?_)
    have h := h_l h w16 ew16
    refine lv_aload_n hx hb dX10_chosen_34 rfl (lv_at hl 1 rfl) ?_
    refine lv_dup hx hb dX10_chosen_35 rfl ?_
    refine g_get fl_RX10_196_X10 hx hb C S KM_0 rfl dX10_chosen_36 ?_
    refine lv_iconst (v := 1) hx hb dX10_chosen_39 (by decide) ?_
    refine lv_iadd hx hb dX10_chosen_40 ?_
    refine g_put fl_RX10_196_X10 pl_X10_35 hx hb C S KM_0 rfl ⟨rfl, rfl⟩ dX10_chosen_41 (fun w17 ew17 H locs S => ?_)
    have h := h_l h w17 ew17
    exact lab44 a1 x12 w17 _ _ _ (lv_sub hl [1, 2, 0] rfl) S h
theorem c_m_chosen (l : Launch) (D : va_G) (dA : Nat → ClassId) (q : Nat → Nat) (a1 : Int32) (w w' : Wt) (r : Int32) (h : m_chosen a1 w = some (r, w')) : Mi l EVm KM D dA q yX10_chosen cX10_chosen 5 (some .int) RM_m_chosen [.ref (q 0), .int a1] w r w' :=
  mk_i (by decide) rfl EVm_ok (Nat.le_of_ble_eq_true rfl) (fun p e s m args below meth c A Q ls hx hb hml C S hl fin => k_m_chosen a1 w (r, w') hx hb hml C (fun H locs ls r' w2 pc S h d => fin H locs ls r' w2 pc S h d) _ _ _ hl S h)
/-! BallotscriptModel.elects(I)V m_elects -/
def m_elects (a1 : Int32) (w : Wt) : Option Wt := nmd (upd2 w 0 36 ((w 0 36) &&& (((1 : Int32) <<< (a1 &&& 31)) ^^^ (-1 : Int32)))) fun w1 => nmd (upd2 w1 0 37 ((w1 0 37) ||| ((1 : Int32) <<< (a1 &&& 31)))) fun w2 => nmd (upd2 w2 0 38 ((w2 0 38) - (1 : Int32))) fun w3 => nmd (upd2 w3 0 40 ((w3 0 40) + (1 : Int32))) fun w4 => some w4
def RM_m_elects : Room := { frames := 0, cells := 0, slots := 0, locals := 0 }
set_option maxHeartbeats 4000000 in
set_option maxRecDepth 20000 in
theorem k_m_elects (a1 : Int32) (w : Wt) (z : Wt) (hx : p.tables.exec = Jvm.exec) (hb : c.code = cX10_elects) (hml : c.maxLocals = 2) (C : Cx EVm KM D dA q A s m args RX10) (fin : ∀ (H : Heap) (locs : List Loc) (ls : Array Slot) (w2 : Wt) (pc : Nat) , Sta KM D dA q A s.heap w2 H locs → some w2 = some z → decode cX10_elects pc = .ok (.return_, 1) → W p l e RM_m_elects s m args below meth c H locs 0 0 Q (F0 m pc ls [])) : ∀ (H : Heap) (locs : List Loc) (ls : Array Slot), lv_has ls 2 [(0, .ref (q 0)), (1, .int a1)] → Sta KM D dA q A s.heap w H locs → m_elects a1 w = some z → W p l e RM_m_elects s m args below meth c H locs 0 0 Q (F0 m 0 ls []) := by
  have ev : evOk EVm := EVm_ok
  intro H locs ls hl S h
  have h := h_0 h
  unfold m_elects at h
  refine lv_aload_n hx hb dX10_elects_0 rfl (lv_at hl 0 rfl) ?_
  refine lv_dup hx hb dX10_elects_1 rfl ?_
  refine g_get fl_RX10_177_X10 hx hb C S KM_0 rfl dX10_elects_2 ?_
  refine lv_iconst (v := 1) hx hb dX10_elects_5 (by decide) ?_
  refine lv_iload_n hx hb dX10_elects_6 rfl (lv_at hl 1 rfl) ?_
  refine lv_ishl hx hb dX10_elects_7 ?_
  refine lv_iconst (v := -1) hx hb dX10_elects_8 (by decide) ?_
  refine lv_ixor hx hb dX10_elects_9 ?_
  refine lv_iand hx hb dX10_elects_10 ?_
  refine g_put fl_RX10_177_X10 pl_X10_36 hx hb C S KM_0 rfl ⟨rfl, rfl⟩ dX10_elects_11 (fun w1 ew1 H locs S => ?_)
  have h := h_l h w1 ew1
  refine lv_aload_n hx hb dX10_elects_14 rfl (lv_at hl 0 rfl) ?_
  refine lv_dup hx hb dX10_elects_15 rfl ?_
  refine g_get fl_RX10_202_X10 hx hb C S KM_0 rfl dX10_elects_16 ?_
  refine lv_iconst (v := 1) hx hb dX10_elects_19 (by decide) ?_
  refine lv_iload_n hx hb dX10_elects_20 rfl (lv_at hl 1 rfl) ?_
  refine lv_ishl hx hb dX10_elects_21 ?_
  refine lv_ior hx hb dX10_elects_22 ?_
  refine g_put fl_RX10_202_X10 pl_X10_37 hx hb C S KM_0 rfl ⟨rfl, rfl⟩ dX10_elects_23 (fun w2 ew2 H locs S => ?_)
  have h := h_l h w2 ew2
  refine lv_aload_n hx hb dX10_elects_26 rfl (lv_at hl 0 rfl) ?_
  refine lv_dup hx hb dX10_elects_27 rfl ?_
  refine g_get fl_RX10_205_X10 hx hb C S KM_0 rfl dX10_elects_28 ?_
  refine lv_iconst (v := 1) hx hb dX10_elects_31 (by decide) ?_
  refine lv_isub hx hb dX10_elects_32 ?_
  refine g_put fl_RX10_205_X10 pl_X10_38 hx hb C S KM_0 rfl ⟨rfl, rfl⟩ dX10_elects_33 (fun w3 ew3 H locs S => ?_)
  have h := h_l h w3 ew3
  refine lv_aload_n hx hb dX10_elects_36 rfl (lv_at hl 0 rfl) ?_
  refine lv_dup hx hb dX10_elects_37 rfl ?_
  refine g_get fl_RX10_208_X10 hx hb C S KM_0 rfl dX10_elects_38 ?_
  refine lv_iconst (v := 1) hx hb dX10_elects_41 (by decide) ?_
  refine lv_iadd hx hb dX10_elects_42 ?_
  refine g_put fl_RX10_208_X10 pl_X10_40 hx hb C S KM_0 rfl ⟨rfl, rfl⟩ dX10_elects_43 (fun w4 ew4 H locs S => ?_)
  have h := h_l h w4 ew4
  exact fin _ _ _ w4 _ S h dX10_elects_46
theorem c_m_elects (l : Launch) (D : va_G) (dA : Nat → ClassId) (q : Nat → Nat) (a1 : Int32) (w w' : Wt) (h : m_elects a1 w = some w') : Mv l EVm KM D dA q yX10_elects cX10_elects 2 none RM_m_elects [.ref (q 0), .int a1] w w' :=
  mk_v (by decide) rfl EVm_ok (Nat.le_of_ble_eq_true rfl) (fun p e s m args below meth c A Q ls hx hb hml C S hl fin => k_m_elects a1 w w' hx hb hml C (fun H locs ls w2 pc S h d => fin H locs ls w2 pc S h d) _ _ _ hl S h)
/-! BallotscriptModel.readAt(II)I m_readAt -/
def m_readAt_b21 (l1 : Int32) (t0 : Int32) (w : Wt) : Option Int32 := gd (inb (((6 : Int32) * l1) + t0) 600) (some (w 17 ((((6 : Int32) * l1) + t0)).toNatClampNeg))
def m_readAt_b20 (l1 : Int32) (l2 : Int32) (w : Wt) : Option Int32 := m_readAt_b21 l1 l2 w
def m_readAt (a1 : Int32) (a2 : Int32) (w : Wt) : Option Int32 := gd (inb a1 100) ((if (w 22 (a1).toNatClampNeg) = (0 : Int32) then m_readAt_b20 a1 a2 w else (if (2 : Int32) ≤ a2 then m_readAt_b20 a1 a2 w else m_readAt_b21 a1 ((1 : Int32) - a2) w)))
def RM_m_readAt : Room := { frames := 0, cells := 0, slots := 0, locals := 0 }
set_option maxHeartbeats 4000000 in
set_option maxRecDepth 20000 in
theorem k_m_readAt (a1 : Int32) (a2 : Int32) (w : Wt) (z : Int32) (hx : p.tables.exec = Jvm.exec) (hb : c.code = cX10_readAt) (hml : c.maxLocals = 4) (C : Cx EVm KM D dA q A s m args RX10) (fin : ∀ (H : Heap) (locs : List Loc) (ls : Array Slot) (r' : Int32) (pc : Nat) , Sta KM D dA q A s.heap w H locs → some r' = some z → decode cX10_readAt pc = .ok (.ireturn, 1) → W p l e RM_m_readAt s m args below meth c H locs 0 0 Q (F0 m pc ls [.int r'])) : ∀ (H : Heap) (locs : List Loc) (ls : Array Slot), lv_has ls 4 [(0, .ref (q 0)), (1, .int a1), (2, .int a2)] → Sta KM D dA q A s.heap w H locs → m_readAt a1 a2 w = some z → W p l e RM_m_readAt s m args below meth c H locs 0 0 Q (F0 m 0 ls []) := by
  have ev : evOk EVm := EVm_ok
  have lab21 : ∀ (l1 : Int32) (t0 : Int32) (H : Heap) (locs : List Loc) (ls : Array Slot), lv_has ls 4 [(0, .ref (q 0)), (1, .int l1)] → Sta KM D dA q A s.heap w H locs → Option.bind (m_readAt_b21 l1 t0 w) some = some z → W p l e RM_m_readAt s m args below meth c H locs 0 0 Q (F0 m 21 ls [.int t0]) := by
    intro l1 t0 H locs ls hl S h
    unfold m_readAt_b21 at h
    refine lv_istore_n (lv' := [(3, .int t0), (0, .ref (q 0)), (1, .int l1)]) hx hb dX10_readAt_21 rfl hl (Nat.le_of_ble_eq_true rfl) rfl (fun ls hl => ?_)
    refine lv_aload_n hx hb dX10_readAt_22 rfl (lv_at hl 1 rfl) ?_
    refine g_getR fl_RX10_59_X10 hx hb C S KM_0 rfl dX10_readAt_23 ?_
    refine lv_bipush (v := 6) hx hb dX10_readAt_26 (by decide) ?_
    refine lv_iload_n hx hb dX10_readAt_28 rfl (lv_at hl 2 rfl) ?_
    refine lv_imul hx hb dX10_readAt_29 ?_
    refine lv_iload_n hx hb dX10_readAt_30 rfl (lv_at hl 0 rfl) ?_
    refine lv_iadd hx hb dX10_readAt_31 ?_
    obtain ⟨g1, h⟩ := h_gd h
    refine r_iald hx hb C S KM_17 (h_in g1) dX10_readAt_32 ?_
    exact fin _ _ _ (w 17 ((((6 : Int32) * l1) + t0)).toNatClampNeg) _ S h dX10_readAt_33
  have lab20 : ∀ (l1 : Int32) (l2 : Int32) (H : Heap) (locs : List Loc) (ls : Array Slot), lv_has ls 4 [(0, .ref (q 0)), (1, .int l1), (2, .int l2)] → Sta KM D dA q A s.heap w H locs → Option.bind (m_readAt_b20 l1 l2 w) some = some z → W p l e RM_m_readAt s m args below meth c H locs 0 0 Q (F0 m 20 ls []) := by
    intro l1 l2 H locs ls hl S h
    unfold m_readAt_b20 at h
    refine lv_iload_n hx hb dX10_readAt_20 rfl (lv_at hl 2 rfl) ?_
    exact lab21 l1 l2 _ _ _ (lv_sub hl [0, 1] rfl) S h
  intro H locs ls hl S h
  have h := h_0 h
  unfold m_readAt at h
  refine lv_aload_n hx hb dX10_readAt_0 rfl (lv_at hl 0 rfl) ?_
  refine g_getR fl_RX10_74_X10 hx hb C S KM_0 rfl dX10_readAt_1 ?_
  refine lv_iload_n hx hb dX10_readAt_4 rfl (lv_at hl 1 rfl) ?_
  obtain ⟨g2, h⟩ := h_gd h
  refine r_zald hx hb C S KM_22 (h_in g2) dX10_readAt_5 ?_
  refine lv_if_eq (tgt := 20) hx hb dX10_readAt_6 rfl (fun c3 => ?_) (fun c3 => ?_)
  · have h := h_t c3 h
    exact lab20 a1 a2 _ _ _ (lv_sub hl [0, 1, 2] rfl) S h
  · have h := h_f c3 h
    refine lv_iload_n hx hb dX10_readAt_9 rfl (lv_at hl 2 rfl) ?_
    refine lv_iconst (v := 2) hx hb dX10_readAt_10 (by decide) ?_
    refine lv_icmp_ge (tgt := 20) hx hb dX10_readAt_11 rfl (fun c4 => ?_) (fun c4 => ?_)
    · have h := h_t c4 h
      exact lab20 a1 a2 _ _ _ (lv_sub hl [0, 1, 2] rfl) S h
    · have h := h_f c4 h
      refine lv_iconst (v := 1) hx hb dX10_readAt_14 (by decide) ?_
      refine lv_iload_n hx hb dX10_readAt_15 rfl (lv_at hl 2 rfl) ?_
      refine lv_isub hx hb dX10_readAt_16 ?_
      refine lv_goto (tgt := 21) hx hb dX10_readAt_17 rfl ?_
      exact lab21 a1 ((1 : Int32) - a2) _ _ _ (lv_sub hl [0, 1] rfl) S h
theorem c_m_readAt (l : Launch) (D : va_G) (dA : Nat → ClassId) (q : Nat → Nat) (a1 : Int32) (a2 : Int32) (w : Wt) (r : Int32) (h : m_readAt a1 a2 w = some r) : Mi l EVm KM D dA q yX10_readAt cX10_readAt 4 (some .int) RM_m_readAt [.ref (q 0), .int a1, .int a2] w r w :=
  mk_i (by decide) rfl EVm_ok (Nat.le_of_ble_eq_true rfl) (fun p e s m args below meth c A Q ls hx hb hml C S hl fin => k_m_readAt a1 a2 w r hx hb hml C (fun H locs ls r' pc S h d => fin H locs ls r' w pc S (by rw [Option.some.inj h]) d) _ _ _ hl S h)
/-! BallotscriptModel.makesTally(I)V m_makesTally -/
def m_makesTally_b200 (w : Wt) : Option Wt := nmd (upd2 w 0 32 ((w 0 32) + (1 : Int32))) fun w1 => some w1
def m_makesTally_b175 (l1 : Int32) (l2 : Int32) (l3 : Int32) (l4 : Int32) (l5 : Int32) (w : Wt) : Option ((Int32 × Wt) ⊕ Wt) := (if l5 ≤ (0 : Int32) then nmd (upd2 w 0 33 ((w 0 33) + (0 : Int32))) fun w3 => some (.inl ((l4 + 1), w3)) else nmd (upd2 w 0 33 ((w 0 33) + (1 : Int32))) fun w4 => some (.inl ((l4 + 1), w4)))
def m_makesTally_L81 (l1 : Int32) (l2 : Int32) (l3 : Int32) (l4 : Int32) : (Int32 × Int32 × Wt) → Option ((Int32 × Int32 × Wt) ⊕ (Int32 × Wt))
  | (l5, l6, w) => gd (inb l4 100) ((if (w 18 (l4).toNatClampNeg) ≤ l6 then some (.inr (l5, w)) else gd (inb l4 100) ((if (w 24 (l4).toNatClampNeg) = (0 : Int32) then some (.inr (l5, w)) else Option.bind (m_readAt l4 l6 w) fun x9 => Option.bind (m_has (w 0 36) x9) fun x10 => (if x10 = (0 : Int32) then some (.inl (l5, (l6 + 1), w)) else gd (inb (l2 + x9) 2400) ((if l1 = (98 : Int32) then gd (inb (l2 + x9) 2400) (nmd (upd2 w 25 ((l2 + x9)).toNatClampNeg ((w 25 ((l2 + x9)).toNatClampNeg) + (l3 - l5))) fun w23 => some (.inl ((l5 + 1), (l6 + 1), w23))) else (if l1 = (97 : Int32) then gd (inb (l2 + x9) 2400) (nmd (upd2 w 25 ((l2 + x9)).toNatClampNeg ((w 25 ((l2 + x9)).toNatClampNeg) + (1 : Int32))) fun w16 => some (.inl ((l5 + 1), (l6 + 1), w16))) else (if l5 = (0 : Int32) then gd (inb (l2 + x9) 2400) (nmd (upd2 w 25 ((l2 + x9)).toNatClampNeg ((w 25 ((l2 + x9)).toNatClampNeg) + (1 : Int32))) fun w21 => some (.inl ((l5 + 1), (l6 + 1), w21))) else gd (inb (l2 + x9) 2400) (nmd (upd2 w 25 ((l2 + x9)).toNatClampNeg ((w 25 ((l2 + x9)).toNatClampNeg) + (0 : Int32))) fun w19 => some (.inl ((l5 + 1), (l6 + 1), w19))))))))))))
def m_makesTally_x81 (l1 : Int32) (l2 : Int32) (l3 : Int32) (l4 : Int32) : (Int32 × Wt) → Option ((Int32 × Wt) ⊕ Wt)
  | (l5, w) => m_makesTally_b175 l1 l2 l3 l4 l5 w
def m_makesTally_L66 (l1 : Int32) (l2 : Int32) (l3 : Int32) : (Int32 × Wt) → Option ((Int32 × Wt) ⊕ Wt)
  | (l4, w) => (if (w 0 27) ≤ l4 then some (.inr w) else Option.bind (lp (m_makesTally_L81 l1 l2 l3 l4) FU ((0 : Int32), (0 : Int32), w)) (m_makesTally_x81 l1 l2 l3 l4))
def m_makesTally_x66 : Wt → Option Wt
  | w => m_makesTally_b200 w
def m_makesTally_b58 (l1 : Int32) (l2 : Int32) (l3 : Int32) (w : Wt) : Option Wt := nmd (upd2 w 0 33 (0 : Int32)) fun w25 => Option.bind (lp (m_makesTally_L66 l1 l2 l3) FU ((0 : Int32), w25)) (m_makesTally_x66)
def m_makesTally_L19 (l1 : Int32) (l2 : Int32) (l3 : Int32) : (Int32 × Wt) → Option ((Int32 × Wt) ⊕ Wt)
  | (l4, w) => (if (6 : Int32) ≤ l4 then some (.inr w) else Option.bind (m_has (w 0 36) l4) fun x27 => (if x27 = (0 : Int32) then gd (inb (l2 + l4) 2400) (nmd (upd2 w 25 ((l2 + l4)).toNatClampNeg (-1 : Int32)) fun w30 => some (.inl ((l4 + 1), w30))) else gd (inb (l2 + l4) 2400) (nmd (upd2 w 25 ((l2 + l4)).toNatClampNeg (0 : Int32)) fun w32 => some (.inl ((l4 + 1), w32)))))
def m_makesTally_x19 (l1 : Int32) (l2 : Int32) (l3 : Int32) : Wt → Option Wt
  | w => m_makesTally_b58 l1 l2 l3 w
def m_makesTally (a1 : Int32) (w : Wt) : Option Wt := nmd ((6 : Int32) * (w 0 32)) fun v33 => Option.bind (m_size (w 0 36)) fun x34 => Option.bind (lp (m_makesTally_L19 a1 v33 x34) FU ((0 : Int32), w)) (m_makesTally_x19 a1 v33 x34)
def RM_m_makesTally : Room := { frames := 1, cells := 0, slots := 0, locals := 23 }
set_option maxHeartbeats 4000000 in
set_option maxRecDepth 20000 in
theorem k_m_makesTally (a1 : Int32) (w : Wt) (z : Wt) (hx : p.tables.exec = Jvm.exec) (hb : c.code = cX10_makesTally) (hml : c.maxLocals = 8) (C : Cx EVm KM D dA q A s m args RX10) (fin : ∀ (H : Heap) (locs : List Loc) (ls : Array Slot) (w2 : Wt) (pc : Nat) , Sta KM D dA q A s.heap w2 H locs → some w2 = some z → decode cX10_makesTally pc = .ok (.return_, 1) → W p l e RM_m_makesTally s m args below meth c H locs 0 0 Q (F0 m pc ls [])) : ∀ (H : Heap) (locs : List Loc) (ls : Array Slot), lv_has ls 8 [(0, .ref (q 0)), (1, .int a1)] → Sta KM D dA q A s.heap w H locs → m_makesTally a1 w = some z → W p l e RM_m_makesTally s m args below meth c H locs 0 0 Q (F0 m 0 ls []) := by
  have ev : evOk EVm := EVm_ok
  have lab200 : ∀ (w : Wt) (H : Heap) (locs : List Loc) (ls : Array Slot), lv_has ls 8 [(0, .ref (q 0))] → Sta KM D dA q A s.heap w H locs → Option.bind (m_makesTally_b200 w) some = some z → W p l e RM_m_makesTally s m args below meth c H locs 0 0 Q (F0 m 200 ls []) := by
    intro  w H locs ls hl S h
    unfold m_makesTally_b200 at h
    refine lv_aload_n hx hb dX10_makesTally_200 rfl (lv_at hl 0 rfl) ?_
    refine lv_dup hx hb dX10_makesTally_201 rfl ?_
    refine g_get fl_RX10_174_X10 hx hb C S KM_0 rfl dX10_makesTally_202 ?_
    refine lv_iconst (v := 1) hx hb dX10_makesTally_205 (by decide) ?_
    refine lv_iadd hx hb dX10_makesTally_206 ?_
    refine g_put fl_RX10_174_X10 pl_X10_32 hx hb C S KM_0 rfl ⟨rfl, rfl⟩ dX10_makesTally_207 (fun w1 ew1 H locs S => ?_)
    have h := h_l h w1 ew1
    exact fin _ _ _ w1 _ S h dX10_makesTally_210
  have loop66 : ∀ (l1 : Int32) (l2 : Int32) (l3 : Int32) (n66 : Nat), ∀ (l4 : Int32) (w : Wt) (H : Heap) (locs : List Loc) (ls : Array Slot), lv_has ls 8 [(0, .ref (q 0)), (1, .int l1), (2, .int l2), (3, .int l3), (4, .int l4)] → Sta KM D dA q A s.heap w H locs → Option.bind (lp (m_makesTally_L66 l1 l2 l3) n66 (l4, w)) (fun x9 => Option.bind (m_makesTally_x66 x9) some) = some z → W p l e RM_m_makesTally s m args below meth c H locs 0 0 Q (F0 m 66 ls []) := by
    intro l1 l2 l3 n66
    induction n66 with
    | zero =>
      intro l4 w H locs ls hl S h
      exact (h_lp0 h).elim
    | succ n66 ih66 =>
      have lab175 : ∀ (l4 : Int32) (l5 : Int32) (w : Wt) (H : Heap) (locs : List Loc) (ls : Array Slot), lv_has ls 8 [(0, .ref (q 0)), (1, .int l1), (2, .int l2), (3, .int l3), (4, .int l4), (5, .int l5)] → Sta KM D dA q A s.heap w H locs → Option.bind (m_makesTally_b175 l1 l2 l3 l4 l5 w) (seqF (fun s9 => Option.bind (lp (m_makesTally_L66 l1 l2 l3) n66 s9) (fun x9 => Option.bind (m_makesTally_x66 x9) some)) (fun x9 => Option.bind (m_makesTally_x66 x9) some)) = some z → W p l e RM_m_makesTally s m args below meth c H locs 0 0 Q (F0 m 175 ls []) := by
        intro l4 l5 w H locs ls hl S h
        unfold m_makesTally_b175 at h
        refine lv_aload_n hx hb dX10_makesTally_175 rfl (lv_at hl 0 rfl) ?_
        refine lv_dup hx hb dX10_makesTally_176 rfl ?_
        refine g_get fl_RX10_186_X10 hx hb C S KM_0 rfl dX10_makesTally_177 ?_
        refine lv_iload hx hb dX10_makesTally_180 (lv_at hl 5 rfl) ?_
        refine lv_if_le (tgt := 189) hx hb dX10_makesTally_182 rfl (fun c2 => ?_) (fun c2 => ?_)
        · have h := h_t c2 h
          refine lv_iconst (v := 0) hx hb dX10_makesTally_189 (by decide) ?_
          refine lv_iadd hx hb dX10_makesTally_190 ?_
          refine g_put fl_RX10_186_X10 pl_X10_33 hx hb C S KM_0 rfl ⟨rfl, rfl⟩ dX10_makesTally_191 (fun w3 ew3 H locs S => ?_)
          have h := h_l h w3 ew3
          refine lv_iinc (v := (l4 + 1)) (lv' := [(4, .int (l4 + 1)), (0, .ref (q 0)), (1, .int l1), (2, .int l2), (3, .int l3), (5, .int l5)]) hx hb dX10_makesTally_194 hl (k := 4) rfl rfl (Nat.le_of_ble_eq_true rfl) rfl (fun ls hl => ?_)
          refine lv_goto (tgt := 66) hx hb dX10_makesTally_197 rfl ?_
          exact ih66 (l4 + 1) w3 _ _ _ (lv_sub hl [1, 2, 3, 4, 0] rfl) S h
        · have h := h_f c2 h
          refine lv_iconst (v := 1) hx hb dX10_makesTally_185 (by decide) ?_
          refine lv_goto (tgt := 190) hx hb dX10_makesTally_186 rfl ?_
          refine lv_iadd hx hb dX10_makesTally_190 ?_
          refine g_put fl_RX10_186_X10 pl_X10_33 hx hb C S KM_0 rfl ⟨rfl, rfl⟩ dX10_makesTally_191 (fun w4 ew4 H locs S => ?_)
          have h := h_l h w4 ew4
          refine lv_iinc (v := (l4 + 1)) (lv' := [(4, .int (l4 + 1)), (0, .ref (q 0)), (1, .int l1), (2, .int l2), (3, .int l3), (5, .int l5)]) hx hb dX10_makesTally_194 hl (k := 4) rfl rfl (Nat.le_of_ble_eq_true rfl) rfl (fun ls hl => ?_)
          refine lv_goto (tgt := 66) hx hb dX10_makesTally_197 rfl ?_
          exact ih66 (l4 + 1) w4 _ _ _ (lv_sub hl [1, 2, 3, 4, 0] rfl) S h
      have loop81 : ∀ (l4 : Int32) (n81 : Nat), ∀ (l5 : Int32) (l6 : Int32) (w : Wt) (H : Heap) (locs : List Loc) (ls : Array Slot), lv_has ls 8 [(0, .ref (q 0)), (1, .int l1), (2, .int l2), (3, .int l3), (4, .int l4), (5, .int l5), (6, .int l6)] → Sta KM D dA q A s.heap w H locs → Option.bind (lp (m_makesTally_L81 l1 l2 l3 l4) n81 (l5, l6, w)) (fun x9 => Option.bind (m_makesTally_x81 l1 l2 l3 l4 x9) (seqF (fun s9 => Option.bind (lp (m_makesTally_L66 l1 l2 l3) n66 s9) (fun x9 => Option.bind (m_makesTally_x66 x9) some)) (fun x9 => Option.bind (m_makesTally_x66 x9) some))) = some z → W p l e RM_m_makesTally s m args below meth c H locs 0 0 Q (F0 m 81 ls []) := by
        intro l4 n81
        induction n81 with
        | zero =>
          intro l5 l6 w H locs ls hl S h
          exact (h_lp0 h).elim
        | succ n81 ih81 =>
          intro l5 l6 w H locs ls hl S h
          have h := h_lp h
          unfold m_makesTally_L81 at h
          refine lv_iload hx hb dX10_makesTally_81 (lv_at hl 6 rfl) ?_
          refine lv_aload_n hx hb dX10_makesTally_83 rfl (lv_at hl 0 rfl) ?_
          refine g_getR fl_RX10_62_X10 hx hb C S KM_0 rfl dX10_makesTally_84 ?_
          refine lv_iload hx hb dX10_makesTally_87 (lv_at hl 4 rfl) ?_
          obtain ⟨g5, h⟩ := h_gd h
          refine r_iald hx hb C S KM_18 (h_in g5) dX10_makesTally_89 ?_
          refine lv_icmp_ge (tgt := 175) hx hb dX10_makesTally_90 rfl (fun c6 => ?_) (fun c6 => ?_)
          · have h := h_t c6 h
            exact lab175 l4 l5 w _ _ _ (lv_sub hl [0, 1, 2, 3, 4, 5] rfl) S h
          · have h := h_f c6 h
            refine lv_aload_n hx hb dX10_makesTally_93 rfl (lv_at hl 0 rfl) ?_
            refine g_getR fl_RX10_80_X10 hx hb C S KM_0 rfl dX10_makesTally_94 ?_
            refine lv_iload hx hb dX10_makesTally_97 (lv_at hl 4 rfl) ?_
            obtain ⟨g7, h⟩ := h_gd h
            refine r_zald hx hb C S KM_24 (h_in g7) dX10_makesTally_99 ?_
            refine lv_if_eq (tgt := 175) hx hb dX10_makesTally_100 rfl (fun c8 => ?_) (fun c8 => ?_)
            · have h := h_t c8 h
              exact lab175 l4 l5 w _ _ _ (lv_sub hl [0, 1, 2, 3, 4, 5] rfl) S h
            · have h := h_f c8 h
              refine lv_aload_n hx hb dX10_makesTally_103 rfl (lv_at hl 0 rfl) ?_
              refine lv_iload hx hb dX10_makesTally_104 (lv_at hl 4 rfl) ?_
              refine lv_iload hx hb dX10_makesTally_106 (lv_at hl 6 rfl) ?_
              obtain ⟨x9, ex9, h⟩ := h_c h
              refine k_i C S (q_V (rest := []) (As := [.int l4, .int l6]) lk_RX10_166 ev hx hb hml C S KM_0 rfl (c_m_readAt l D dA q l4 l6 w x9 ex9 _) rfl rfl ⟨(Nat.le_of_ble_eq_true rfl), (Nat.le_of_ble_eq_true rfl)⟩ rfl hl.1 rfl (Nat.le_of_ble_eq_true rfl) dX10_makesTally_108 ⟨(Nat.le_of_ble_eq_true rfl), (Nat.le_of_ble_eq_true rfl)⟩) (fun H locs S => ?_)
              refine lv_istore (lv' := [(7, .int x9), (0, .ref (q 0)), (1, .int l1), (2, .int l2), (3, .int l3), (4, .int l4), (5, .int l5), (6, .int l6)]) hx hb dX10_makesTally_111 hl (Nat.le_of_ble_eq_true rfl) rfl (fun ls hl => ?_)
              refine lv_aload_n hx hb dX10_makesTally_113 rfl (lv_at hl 1 rfl) ?_
              refine g_get fl_RX10_177_X10 hx hb C S KM_0 rfl dX10_makesTally_114 ?_
              refine lv_iload hx hb dX10_makesTally_117 (lv_at hl 0 rfl) ?_
              obtain ⟨x10, ex10, h⟩ := h_c h
              refine k_i C S (q_S (rest := []) (As := [.int (w 0 36), .int x9]) lk_RX10_183 ev hx hb hml C S (c_m_has l D dA q (w 0 36) x9 w x10 ex10 _) rfl rfl ⟨(Nat.le_of_ble_eq_true rfl), (Nat.le_of_ble_eq_true rfl)⟩ rfl hl.1 rfl (Nat.le_of_ble_eq_true rfl) dX10_makesTally_119 ⟨(Nat.le_of_ble_eq_true rfl), (Nat.le_of_ble_eq_true rfl)⟩) (fun H locs S => ?_)
              refine lv_if_eq (tgt := 169) hx hb dX10_makesTally_122 rfl (fun c11 => ?_) (fun c11 => ?_)
              · have h := h_t c11 h
                refine lv_iinc (v := (l6 + 1)) (lv' := [(6, .int (l6 + 1)), (7, .int x9), (0, .ref (q 0)), (1, .int l1), (2, .int l2), (3, .int l3), (4, .int l4), (5, .int l5)]) hx hb dX10_makesTally_169 hl (k := 7) rfl rfl (Nat.le_of_ble_eq_true rfl) rfl (fun ls hl => ?_)
                refine lv_goto (tgt := 81) hx hb dX10_makesTally_172 rfl ?_
                exact ih81 l5 (l6 + 1) w _ _ _ (lv_sub hl [2, 3, 4, 5, 6, 7, 0] rfl) S h
              · have h := h_f c11 h
                refine lv_aload_n hx hb dX10_makesTally_125 rfl (lv_at hl 1 rfl) ?_
                refine g_getR fl_RX10_83_X10 hx hb C S KM_0 rfl dX10_makesTally_126 ?_
                refine lv_iload_n hx hb dX10_makesTally_129 rfl (lv_at hl 3 rfl) ?_
                refine lv_iload hx hb dX10_makesTally_130 (lv_at hl 0 rfl) ?_
                refine lv_iadd hx hb dX10_makesTally_132 ?_
                refine lv_dup2_11 hx hb dX10_makesTally_133 rfl rfl ?_
                obtain ⟨g12, h⟩ := h_gd h
                refine r_iald hx hb C S KM_25 (h_in g12) dX10_makesTally_134 ?_
                refine lv_iload_n hx hb dX10_makesTally_135 rfl (lv_at hl 2 rfl) ?_
                refine lv_bipush (v := 98) hx hb dX10_makesTally_136 (by decide) ?_
                refine lv_icmp_ne (tgt := 148) hx hb dX10_makesTally_138 rfl (fun c13 => ?_) (fun c13 => ?_)
                · have h := h_f c13 h
                  refine lv_iload_n hx hb dX10_makesTally_148 rfl (lv_at hl 2 rfl) ?_
                  refine lv_bipush (v := 97) hx hb dX10_makesTally_149 (by decide) ?_
                  refine lv_icmp_eq (tgt := 159) hx hb dX10_makesTally_151 rfl (fun c14 => ?_) (fun c14 => ?_)
                  · have h := h_t c14 h
                    refine lv_iconst (v := 1) hx hb dX10_makesTally_159 (by decide) ?_
                    refine lv_goto (tgt := 164) hx hb dX10_makesTally_160 rfl ?_
                    refine lv_iadd hx hb dX10_makesTally_164 ?_
                    obtain ⟨g15, h⟩ := h_gd h
                    refine r_iast hx hb C S KM_25 (h_in g15) dX10_makesTally_165 (fun w16 ew16 H locs S => ?_)
                    have h := h_l h w16 ew16
                    refine lv_iinc (v := (l5 + 1)) (lv' := [(5, .int (l5 + 1)), (7, .int x9), (0, .ref (q 0)), (1, .int l1), (2, .int l2), (3, .int l3), (4, .int l4), (6, .int l6)]) hx hb dX10_makesTally_166 hl (k := 6) rfl rfl (Nat.le_of_ble_eq_true rfl) rfl (fun ls hl => ?_)
                    refine lv_iinc (v := (l6 + 1)) (lv' := [(6, .int (l6 + 1)), (5, .int (l5 + 1)), (7, .int x9), (0, .ref (q 0)), (1, .int l1), (2, .int l2), (3, .int l3), (4, .int l4)]) hx hb dX10_makesTally_169 hl (k := 7) rfl rfl (Nat.le_of_ble_eq_true rfl) rfl (fun ls hl => ?_)
                    refine lv_goto (tgt := 81) hx hb dX10_makesTally_172 rfl ?_
                    exact ih81 (l5 + 1) (l6 + 1) w16 _ _ _ (lv_sub hl [3, 4, 5, 6, 7, 1, 0] rfl) S h
                  · have h := h_f c14 h
                    refine lv_iload hx hb dX10_makesTally_154 (lv_at hl 6 rfl) ?_
                    refine lv_if_ne (tgt := 163) hx hb dX10_makesTally_156 rfl (fun c17 => ?_) (fun c17 => ?_)
                    · have h := h_f c17 h
                      refine lv_iconst (v := 0) hx hb dX10_makesTally_163 (by decide) ?_
                      refine lv_iadd hx hb dX10_makesTally_164 ?_
                      obtain ⟨g18, h⟩ := h_gd h
                      refine r_iast hx hb C S KM_25 (h_in g18) dX10_makesTally_165 (fun w19 ew19 H locs S => ?_)
                      have h := h_l h w19 ew19
                      refine lv_iinc (v := (l5 + 1)) (lv' := [(5, .int (l5 + 1)), (7, .int x9), (0, .ref (q 0)), (1, .int l1), (2, .int l2), (3, .int l3), (4, .int l4), (6, .int l6)]) hx hb dX10_makesTally_166 hl (k := 6) rfl rfl (Nat.le_of_ble_eq_true rfl) rfl (fun ls hl => ?_)
                      refine lv_iinc (v := (l6 + 1)) (lv' := [(6, .int (l6 + 1)), (5, .int (l5 + 1)), (7, .int x9), (0, .ref (q 0)), (1, .int l1), (2, .int l2), (3, .int l3), (4, .int l4)]) hx hb dX10_makesTally_169 hl (k := 7) rfl rfl (Nat.le_of_ble_eq_true rfl) rfl (fun ls hl => ?_)
                      refine lv_goto (tgt := 81) hx hb dX10_makesTally_172 rfl ?_
                      exact ih81 (l5 + 1) (l6 + 1) w19 _ _ _ (lv_sub hl [3, 4, 5, 6, 7, 1, 0] rfl) S h
                    · have h := h_t c17 h
                      refine lv_iconst (v := 1) hx hb dX10_makesTally_159 (by decide) ?_
                      refine lv_goto (tgt := 164) hx hb dX10_makesTally_160 rfl ?_
                      refine lv_iadd hx hb dX10_makesTally_164 ?_
                      obtain ⟨g20, h⟩ := h_gd h
                      refine r_iast hx hb C S KM_25 (h_in g20) dX10_makesTally_165 (fun w21 ew21 H locs S => ?_)
                      have h := h_l h w21 ew21
                      refine lv_iinc (v := (l5 + 1)) (lv' := [(5, .int (l5 + 1)), (7, .int x9), (0, .ref (q 0)), (1, .int l1), (2, .int l2), (3, .int l3), (4, .int l4), (6, .int l6)]) hx hb dX10_makesTally_166 hl (k := 6) rfl rfl (Nat.le_of_ble_eq_true rfl) rfl (fun ls hl => ?_)
                      refine lv_iinc (v := (l6 + 1)) (lv' := [(6, .int (l6 + 1)), (5, .int (l5 + 1)), (7, .int x9), (0, .ref (q 0)), (1, .int l1), (2, .int l2), (3, .int l3), (4, .int l4)]) hx hb dX10_makesTally_169 hl (k := 7) rfl rfl (Nat.le_of_ble_eq_true rfl) rfl (fun ls hl => ?_)
                      refine lv_goto (tgt := 81) hx hb dX10_makesTally_172 rfl ?_
                      exact ih81 (l5 + 1) (l6 + 1) w21 _ _ _ (lv_sub hl [3, 4, 5, 6, 7, 1, 0] rfl) S h
                · have h := h_t c13 h
                  refine lv_iload_n hx hb dX10_makesTally_141 rfl (lv_at hl 4 rfl) ?_
                  refine lv_iload hx hb dX10_makesTally_142 (lv_at hl 6 rfl) ?_
                  refine lv_isub hx hb dX10_makesTally_144 ?_
                  refine lv_goto (tgt := 164) hx hb dX10_makesTally_145 rfl ?_
                  refine lv_iadd hx hb dX10_makesTally_164 ?_
                  obtain ⟨g22, h⟩ := h_gd h
                  refine r_iast hx hb C S KM_25 (h_in g22) dX10_makesTally_165 (fun w23 ew23 H locs S => ?_)
                  have h := h_l h w23 ew23
                  refine lv_iinc (v := (l5 + 1)) (lv' := [(5, .int (l5 + 1)), (7, .int x9), (0, .ref (q 0)), (1, .int l1), (2, .int l2), (3, .int l3), (4, .int l4), (6, .int l6)]) hx hb dX10_makesTally_166 hl (k := 6) rfl rfl (Nat.le_of_ble_eq_true rfl) rfl (fun ls hl => ?_)
                  refine lv_iinc (v := (l6 + 1)) (lv' := [(6, .int (l6 + 1)), (5, .int (l5 + 1)), (7, .int x9), (0, .ref (q 0)), (1, .int l1), (2, .int l2), (3, .int l3), (4, .int l4)]) hx hb dX10_makesTally_169 hl (k := 7) rfl rfl (Nat.le_of_ble_eq_true rfl) rfl (fun ls hl => ?_)
                  refine lv_goto (tgt := 81) hx hb dX10_makesTally_172 rfl ?_
                  exact ih81 (l5 + 1) (l6 + 1) w23 _ _ _ (lv_sub hl [3, 4, 5, 6, 7, 1, 0] rfl) S h
      intro l4 w H locs ls hl S h
      have h := h_lp h
      unfold m_makesTally_L66 at h
      refine lv_iload hx hb dX10_makesTally_66 (lv_at hl 4 rfl) ?_
      refine lv_aload_n hx hb dX10_makesTally_68 rfl (lv_at hl 0 rfl) ?_
      refine g_get fl_RX10_117_X10 hx hb C S KM_0 rfl dX10_makesTally_69 ?_
      refine lv_icmp_ge (tgt := 200) hx hb dX10_makesTally_72 rfl (fun c24 => ?_) (fun c24 => ?_)
      · have h := h_t c24 h
        exact lab200 w _ _ _ (lv_sub hl [0] rfl) S h
      · have h := h_f c24 h
        refine lv_iconst (v := 0) hx hb dX10_makesTally_75 (by decide) ?_
        refine lv_istore (lv' := [(5, .int (0 : Int32)), (0, .ref (q 0)), (1, .int l1), (2, .int l2), (3, .int l3), (4, .int l4)]) hx hb dX10_makesTally_76 hl (Nat.le_of_ble_eq_true rfl) rfl (fun ls hl => ?_)
        refine lv_iconst (v := 0) hx hb dX10_makesTally_78 (by decide) ?_
        refine lv_istore (lv' := [(6, .int (0 : Int32)), (5, .int (0 : Int32)), (0, .ref (q 0)), (1, .int l1), (2, .int l2), (3, .int l3), (4, .int l4)]) hx hb dX10_makesTally_79 hl (Nat.le_of_ble_eq_true rfl) rfl (fun ls hl => ?_)
        exact loop81 l4 FU (0 : Int32) (0 : Int32) w _ _ _ (lv_sub hl [2, 3, 4, 5, 6, 1, 0] rfl) S (h_bb h)
  have lab58 : ∀ (l1 : Int32) (l2 : Int32) (l3 : Int32) (w : Wt) (H : Heap) (locs : List Loc) (ls : Array Slot), lv_has ls 8 [(0, .ref (q 0)), (1, .int l1), (2, .int l2), (3, .int l3)] → Sta KM D dA q A s.heap w H locs → Option.bind (m_makesTally_b58 l1 l2 l3 w) some = some z → W p l e RM_m_makesTally s m args below meth c H locs 0 0 Q (F0 m 58 ls []) := by
    intro l1 l2 l3 w H locs ls hl S h
    unfold m_makesTally_b58 at h
    refine lv_aload_n hx hb dX10_makesTally_58 rfl (lv_at hl 0 rfl) ?_
    refine lv_iconst (v := 0) hx hb dX10_makesTally_59 (by decide) ?_
    refine g_put fl_RX10_186_X10 pl_X10_33 hx hb C S KM_0 rfl ⟨rfl, rfl⟩ dX10_makesTally_60 (fun w25 ew25 H locs S => ?_)
    have h := h_l h w25 ew25
    refine lv_iconst (v := 0) hx hb dX10_makesTally_63 (by decide) ?_
    refine lv_istore (lv' := [(4, .int (0 : Int32)), (0, .ref (q 0)), (1, .int l1), (2, .int l2), (3, .int l3)]) hx hb dX10_makesTally_64 hl (Nat.le_of_ble_eq_true rfl) rfl (fun ls hl => ?_)
    exact loop66 l1 l2 l3 FU (0 : Int32) w25 _ _ _ (lv_sub hl [1, 2, 3, 4, 0] rfl) S (h_bb h)
  have loop19 : ∀ (l1 : Int32) (l2 : Int32) (l3 : Int32) (n19 : Nat), ∀ (l4 : Int32) (w : Wt) (H : Heap) (locs : List Loc) (ls : Array Slot), lv_has ls 8 [(0, .ref (q 0)), (1, .int l1), (2, .int l2), (3, .int l3), (4, .int l4)] → Sta KM D dA q A s.heap w H locs → Option.bind (lp (m_makesTally_L19 l1 l2 l3) n19 (l4, w)) (fun x9 => Option.bind (m_makesTally_x19 l1 l2 l3 x9) some) = some z → W p l e RM_m_makesTally s m args below meth c H locs 0 0 Q (F0 m 19 ls []) := by
    intro l1 l2 l3 n19
    induction n19 with
    | zero =>
      intro l4 w H locs ls hl S h
      exact (h_lp0 h).elim
    | succ n19 ih19 =>
      intro l4 w H locs ls hl S h
      have h := h_lp h
      unfold m_makesTally_L19 at h
      refine lv_iload hx hb dX10_makesTally_19 (lv_at hl 4 rfl) ?_
      refine lv_bipush (v := 6) hx hb dX10_makesTally_21 (by decide) ?_
      refine lv_icmp_ge (tgt := 58) hx hb dX10_makesTally_23 rfl (fun c26 => ?_) (fun c26 => ?_)
      · have h := h_t c26 h
        exact lab58 l1 l2 l3 w _ _ _ (lv_sub hl [0, 1, 2, 3] rfl) S h
      · have h := h_f c26 h
        refine lv_aload_n hx hb dX10_makesTally_26 rfl (lv_at hl 0 rfl) ?_
        refine g_getR fl_RX10_83_X10 hx hb C S KM_0 rfl dX10_makesTally_27 ?_
        refine lv_iload_n hx hb dX10_makesTally_30 rfl (lv_at hl 2 rfl) ?_
        refine lv_iload hx hb dX10_makesTally_31 (lv_at hl 4 rfl) ?_
        refine lv_iadd hx hb dX10_makesTally_33 ?_
        refine lv_aload_n hx hb dX10_makesTally_34 rfl (lv_at hl 0 rfl) ?_
        refine g_get fl_RX10_177_X10 hx hb C S KM_0 rfl dX10_makesTally_35 ?_
        refine lv_iload hx hb dX10_makesTally_38 (lv_at hl 4 rfl) ?_
        obtain ⟨x27, ex27, h⟩ := h_c h
        refine k_i C S (q_S (rest := [.int (l2 + l4), .ref (q 25)]) (As := [.int (w 0 36), .int l4]) lk_RX10_183 ev hx hb hml C S (c_m_has l D dA q (w 0 36) l4 w x27 ex27 _) rfl rfl ⟨(Nat.le_of_ble_eq_true rfl), (Nat.le_of_ble_eq_true rfl)⟩ rfl hl.1 rfl (Nat.le_of_ble_eq_true rfl) dX10_makesTally_40 ⟨(Nat.le_of_ble_eq_true rfl), (Nat.le_of_ble_eq_true rfl)⟩) (fun H locs S => ?_)
        refine lv_if_eq (tgt := 50) hx hb dX10_makesTally_43 rfl (fun c28 => ?_) (fun c28 => ?_)
        · have h := h_t c28 h
          refine lv_iconst (v := -1) hx hb dX10_makesTally_50 (by decide) ?_
          obtain ⟨g29, h⟩ := h_gd h
          refine r_iast hx hb C S KM_25 (h_in g29) dX10_makesTally_51 (fun w30 ew30 H locs S => ?_)
          have h := h_l h w30 ew30
          refine lv_iinc (v := (l4 + 1)) (lv' := [(4, .int (l4 + 1)), (0, .ref (q 0)), (1, .int l1), (2, .int l2), (3, .int l3)]) hx hb dX10_makesTally_52 hl (k := 4) rfl rfl (Nat.le_of_ble_eq_true rfl) rfl (fun ls hl => ?_)
          refine lv_goto (tgt := 19) hx hb dX10_makesTally_55 rfl ?_
          exact ih19 (l4 + 1) w30 _ _ _ (lv_sub hl [1, 2, 3, 4, 0] rfl) S h
        · have h := h_f c28 h
          refine lv_iconst (v := 0) hx hb dX10_makesTally_46 (by decide) ?_
          refine lv_goto (tgt := 51) hx hb dX10_makesTally_47 rfl ?_
          obtain ⟨g31, h⟩ := h_gd h
          refine r_iast hx hb C S KM_25 (h_in g31) dX10_makesTally_51 (fun w32 ew32 H locs S => ?_)
          have h := h_l h w32 ew32
          refine lv_iinc (v := (l4 + 1)) (lv' := [(4, .int (l4 + 1)), (0, .ref (q 0)), (1, .int l1), (2, .int l2), (3, .int l3)]) hx hb dX10_makesTally_52 hl (k := 4) rfl rfl (Nat.le_of_ble_eq_true rfl) rfl (fun ls hl => ?_)
          refine lv_goto (tgt := 19) hx hb dX10_makesTally_55 rfl ?_
          exact ih19 (l4 + 1) w32 _ _ _ (lv_sub hl [1, 2, 3, 4, 0] rfl) S h
  intro H locs ls hl S h
  have h := h_0 h
  unfold m_makesTally at h
  refine lv_bipush (v := 6) hx hb dX10_makesTally_0 (by decide) ?_
  refine lv_aload_n hx hb dX10_makesTally_2 rfl (lv_at hl 0 rfl) ?_
  refine g_get fl_RX10_174_X10 hx hb C S KM_0 rfl dX10_makesTally_3 ?_
  refine lv_imul hx hb dX10_makesTally_6 ?_
  refine lv_topi (fun v33 ev33 => ?_)
  have h := h_l h v33 ev33
  refine lv_istore_n (lv' := [(2, .int v33), (0, .ref (q 0)), (1, .int a1)]) hx hb dX10_makesTally_7 rfl hl (Nat.le_of_ble_eq_true rfl) rfl (fun ls hl => ?_)
  refine lv_aload_n hx hb dX10_makesTally_8 rfl (lv_at hl 1 rfl) ?_
  refine g_get fl_RX10_177_X10 hx hb C S KM_0 rfl dX10_makesTally_9 ?_
  obtain ⟨x34, ex34, h⟩ := h_c h
  refine k_i C S (q_S (rest := []) (As := [.int (w 0 36)]) lk_RX10_180 ev hx hb hml C S (c_m_size l D dA q (w 0 36) w x34 ex34 _) rfl rfl ⟨(Nat.le_of_ble_eq_true rfl), (Nat.le_of_ble_eq_true rfl)⟩ rfl hl.1 rfl (Nat.le_of_ble_eq_true rfl) dX10_makesTally_12 ⟨(Nat.le_of_ble_eq_true rfl), (Nat.le_of_ble_eq_true rfl)⟩) (fun H locs S => ?_)
  refine lv_istore_n (lv' := [(3, .int x34), (2, .int v33), (0, .ref (q 0)), (1, .int a1)]) hx hb dX10_makesTally_15 rfl hl (Nat.le_of_ble_eq_true rfl) rfl (fun ls hl => ?_)
  refine lv_iconst (v := 0) hx hb dX10_makesTally_16 (by decide) ?_
  refine lv_istore (lv' := [(4, .int (0 : Int32)), (3, .int x34), (2, .int v33), (0, .ref (q 0)), (1, .int a1)]) hx hb dX10_makesTally_17 hl (Nat.le_of_ble_eq_true rfl) rfl (fun ls hl => ?_)
  exact loop19 a1 v33 x34 FU (0 : Int32) w _ _ _ (lv_sub hl [3, 4, 2, 1, 0] rfl) S (h_bb h)
theorem c_m_makesTally (l : Launch) (D : va_G) (dA : Nat → ClassId) (q : Nat → Nat) (a1 : Int32) (w w' : Wt) (h : m_makesTally a1 w = some w') : Mv l EVm KM D dA q yX10_makesTally cX10_makesTally 8 none RM_m_makesTally [.ref (q 0), .int a1] w w' :=
  mk_v (by decide) rfl EVm_ok (Nat.le_of_ble_eq_true rfl) (fun p e s m args below meth c A Q ls hx hb hml C S hl fin => k_m_makesTally a1 w w' hx hb hml C (fun H locs ls w2 pc S h d => fin H locs ls w2 pc S h d) _ _ _ hl S h)
/-! BallotscriptModel.does(I)V m_does -/
def m_does_b177 (w : Wt) : Option Wt := some w
def m_does_L145 (l1 : Int32) : Wt → Option (Wt ⊕ Wt)
  | w => (if l1 = (114 : Int32) then (if (w 0 38) ≤ (0 : Int32) then some (.inr w) else (if (w 0 36) = (0 : Int32) then some (.inr w) else Option.bind (m_chosen (1 : Int32) w) fun x4 => Option.bind (m_elects x4.1 x4.2) fun x5 => some (.inl x5))) else some (.inr w))
def m_does_x145 : Wt → Option Wt
  | w => m_does_b177 w
def m_does_b142 (l1 : Int32) (t0 : Int32) (w : Wt) : Option Wt := nmd (upd2 w 0 39 t0) fun w6 => Option.bind (lp (m_does_L145 l1) FU w6) (m_does_x145)
def m_does_b120 (l1 : Int32) (w : Wt) : Option Wt := (if l1 = (108 : Int32) then m_does_b142 l1 (0 : Int32) w else (if l1 = (104 : Int32) then m_does_b142 l1 (1 : Int32) w else m_does_b142 l1 (2 : Int32) w))
def m_does_b102 (l1 : Int32) (w : Wt) : Option Wt := (if l1 = (108 : Int32) then m_does_b120 l1 w else (if l1 = (104 : Int32) then m_does_b120 l1 w else (if l1 = (113 : Int32) then m_does_b120 l1 w else Option.bind (lp (m_does_L145 l1) FU w) (m_does_x145))))
def m_does_b51 (l1 : Int32) (w : Wt) : Option Wt := (if l1 = (120 : Int32) then Option.bind (m_size (w 0 36)) fun x13 => (if x13 ≤ (w 0 38) then m_does_b102 l1 w else Option.bind (m_chosen (0 : Int32) w) fun x15 => nmd (upd2 x15.2 0 36 ((w 0 36) &&& (((1 : Int32) <<< (x15.1 &&& 31)) ^^^ (-1 : Int32)))) fun w16 => nmd (upd2 w16 0 40 ((w16 0 40) + (1 : Int32))) fun w17 => Option.bind (lp (m_does_L145 l1) FU w17) (m_does_x145)) else m_does_b102 l1 w)
def m_does_b18 (l1 : Int32) (w : Wt) : Option Wt := Option.bind (m_makesTally l1 w) fun x18 => Option.bind (lp (m_does_L145 l1) FU x18) (m_does_x145)
def m_does (a1 : Int32) (w : Wt) : Option Wt := (if a1 = (116 : Int32) then m_does_b18 a1 w else (if a1 = (98 : Int32) then m_does_b18 a1 w else (if a1 = (97 : Int32) then m_does_b18 a1 w else (if a1 = (109 : Int32) then (if (w 0 36) = (0 : Int32) then m_does_b51 a1 w else Option.bind (m_chosen (1 : Int32) w) fun x24 => Option.bind (m_elects x24.1 x24.2) fun x25 => Option.bind (lp (m_does_L145 a1) FU x25) (m_does_x145)) else m_does_b51 a1 w))))
def RM_m_does : Room := { frames := 3, cells := 0, slots := 0, locals := 74 }
set_option maxHeartbeats 4000000 in
set_option maxRecDepth 20000 in
theorem k_m_does (a1 : Int32) (w : Wt) (z : Wt) (hx : p.tables.exec = Jvm.exec) (hb : c.code = cX10_does) (hml : c.maxLocals = 2) (C : Cx EVm KM D dA q A s m args RX10) (fin : ∀ (H : Heap) (locs : List Loc) (ls : Array Slot) (w2 : Wt) (pc : Nat) , Sta KM D dA q A s.heap w2 H locs → some w2 = some z → decode cX10_does pc = .ok (.return_, 1) → W p l e RM_m_does s m args below meth c H locs 0 0 Q (F0 m pc ls [])) : ∀ (H : Heap) (locs : List Loc) (ls : Array Slot), lv_has ls 2 [(0, .ref (q 0)), (1, .int a1)] → Sta KM D dA q A s.heap w H locs → m_does a1 w = some z → W p l e RM_m_does s m args below meth c H locs 0 0 Q (F0 m 0 ls []) := by
  have ev : evOk EVm := EVm_ok
  have lab177 : ∀ (w : Wt) (H : Heap) (locs : List Loc) (ls : Array Slot), lv_has ls 2 [] → Sta KM D dA q A s.heap w H locs → Option.bind (m_does_b177 w) some = some z → W p l e RM_m_does s m args below meth c H locs 0 0 Q (F0 m 177 ls []) := by
    intro  w H locs ls hl S h
    unfold m_does_b177 at h
    exact fin _ _ _ w _ S h dX10_does_177
  have loop145 : ∀ (l1 : Int32) (n145 : Nat), ∀ (w : Wt) (H : Heap) (locs : List Loc) (ls : Array Slot), lv_has ls 2 [(0, .ref (q 0)), (1, .int l1)] → Sta KM D dA q A s.heap w H locs → Option.bind (lp (m_does_L145 l1) n145 w) (fun x9 => Option.bind (m_does_x145 x9) some) = some z → W p l e RM_m_does s m args below meth c H locs 0 0 Q (F0 m 145 ls []) := by
    intro l1 n145
    induction n145 with
    | zero =>
      intro  w H locs ls hl S h
      exact (h_lp0 h).elim
    | succ n145 ih145 =>
      intro  w H locs ls hl S h
      have h := h_lp h
      unfold m_does_L145 at h
      refine lv_iload_n hx hb dX10_does_145 rfl (lv_at hl 1 rfl) ?_
      refine lv_bipush (v := 114) hx hb dX10_does_146 (by decide) ?_
      refine lv_icmp_ne (tgt := 177) hx hb dX10_does_148 rfl (fun c1 => ?_) (fun c1 => ?_)
      · have h := h_f c1 h
        exact lab177 w _ _ _ (lv_sub hl [] rfl) S h
      · have h := h_t c1 h
        refine lv_aload_n hx hb dX10_does_151 rfl (lv_at hl 0 rfl) ?_
        refine g_get fl_RX10_205_X10 hx hb C S KM_0 rfl dX10_does_152 ?_
        refine lv_if_le (tgt := 177) hx hb dX10_does_155 rfl (fun c2 => ?_) (fun c2 => ?_)
        · have h := h_t c2 h
          exact lab177 w _ _ _ (lv_sub hl [] rfl) S h
        · have h := h_f c2 h
          refine lv_aload_n hx hb dX10_does_158 rfl (lv_at hl 0 rfl) ?_
          refine g_get fl_RX10_177_X10 hx hb C S KM_0 rfl dX10_does_159 ?_
          refine lv_if_eq (tgt := 177) hx hb dX10_does_162 rfl (fun c3 => ?_) (fun c3 => ?_)
          · have h := h_t c3 h
            exact lab177 w _ _ _ (lv_sub hl [] rfl) S h
          · have h := h_f c3 h
            refine lv_aload_n hx hb dX10_does_165 rfl (lv_at hl 0 rfl) ?_
            refine lv_aload_n hx hb dX10_does_166 rfl (lv_at hl 0 rfl) ?_
            refine lv_iconst (v := 1) hx hb dX10_does_167 (by decide) ?_
            obtain ⟨x4, ex4, h⟩ := h_c h
            refine k_i C S (q_V (rest := [.ref (q 0)]) (As := [.int (1 : Int32)]) lk_RX10_211 ev hx hb hml C S KM_0 rfl (c_m_chosen l D dA q (1 : Int32) w x4.2 x4.1 ex4 _) rfl rfl ⟨(Nat.le_of_ble_eq_true rfl), (Nat.le_of_ble_eq_true rfl)⟩ rfl hl.1 rfl (Nat.le_of_ble_eq_true rfl) dX10_does_168 ⟨(Nat.le_of_ble_eq_true rfl), (Nat.le_of_ble_eq_true rfl)⟩) (fun H locs S => ?_)
            obtain ⟨x5, ex5, h⟩ := h_c h
            refine k_v C S (q_V (rest := []) (As := [.int x4.1]) lk_RX10_215 ev hx hb hml C S KM_0 rfl (c_m_elects l D dA q x4.1 x4.2 x5 ex5 _) rfl rfl ⟨(Nat.le_of_ble_eq_true rfl), (Nat.le_of_ble_eq_true rfl)⟩ rfl hl.1 rfl (Nat.le_of_ble_eq_true rfl) dX10_does_171 ⟨(Nat.le_of_ble_eq_true rfl), (Nat.le_of_ble_eq_true rfl)⟩) (fun H locs S => ?_)
            refine lv_goto (tgt := 145) hx hb dX10_does_174 rfl ?_
            exact ih145 x5 _ _ _ (lv_sub hl [0, 1] rfl) S h
  have lab142 : ∀ (l1 : Int32) (t0 : Int32) (w : Wt) (H : Heap) (locs : List Loc) (ls : Array Slot), lv_has ls 2 [(0, .ref (q 0)), (1, .int l1)] → Sta KM D dA q A s.heap w H locs → Option.bind (m_does_b142 l1 t0 w) some = some z → W p l e RM_m_does s m args below meth c H locs 0 0 Q (F0 m 142 ls [.int t0, .ref (q 0)]) := by
    intro l1 t0 w H locs ls hl S h
    unfold m_does_b142 at h
    refine g_put fl_RX10_199_X10 pl_X10_39 hx hb C S KM_0 rfl ⟨rfl, rfl⟩ dX10_does_142 (fun w6 ew6 H locs S => ?_)
    have h := h_l h w6 ew6
    exact loop145 l1 FU w6 _ _ _ (lv_sub hl [0, 1] rfl) S (h_bb h)
  have lab120 : ∀ (l1 : Int32) (w : Wt) (H : Heap) (locs : List Loc) (ls : Array Slot), lv_has ls 2 [(0, .ref (q 0)), (1, .int l1)] → Sta KM D dA q A s.heap w H locs → Option.bind (m_does_b120 l1 w) some = some z → W p l e RM_m_does s m args below meth c H locs 0 0 Q (F0 m 120 ls []) := by
    intro l1 w H locs ls hl S h
    unfold m_does_b120 at h
    refine lv_aload_n hx hb dX10_does_120 rfl (lv_at hl 0 rfl) ?_
    refine lv_iload_n hx hb dX10_does_121 rfl (lv_at hl 1 rfl) ?_
    refine lv_bipush (v := 108) hx hb dX10_does_122 (by decide) ?_
    refine lv_icmp_ne (tgt := 131) hx hb dX10_does_124 rfl (fun c7 => ?_) (fun c7 => ?_)
    · have h := h_f c7 h
      refine lv_iload_n hx hb dX10_does_131 rfl (lv_at hl 1 rfl) ?_
      refine lv_bipush (v := 104) hx hb dX10_does_132 (by decide) ?_
      refine lv_icmp_ne (tgt := 141) hx hb dX10_does_134 rfl (fun c8 => ?_) (fun c8 => ?_)
      · have h := h_f c8 h
        refine lv_iconst (v := 2) hx hb dX10_does_141 (by decide) ?_
        exact lab142 l1 (2 : Int32) w _ _ _ (lv_sub hl [0, 1] rfl) S h
      · have h := h_t c8 h
        refine lv_iconst (v := 1) hx hb dX10_does_137 (by decide) ?_
        refine lv_goto (tgt := 142) hx hb dX10_does_138 rfl ?_
        exact lab142 l1 (1 : Int32) w _ _ _ (lv_sub hl [0, 1] rfl) S h
    · have h := h_t c7 h
      refine lv_iconst (v := 0) hx hb dX10_does_127 (by decide) ?_
      refine lv_goto (tgt := 142) hx hb dX10_does_128 rfl ?_
      exact lab142 l1 (0 : Int32) w _ _ _ (lv_sub hl [0, 1] rfl) S h
  have lab102 : ∀ (l1 : Int32) (w : Wt) (H : Heap) (locs : List Loc) (ls : Array Slot), lv_has ls 2 [(0, .ref (q 0)), (1, .int l1)] → Sta KM D dA q A s.heap w H locs → Option.bind (m_does_b102 l1 w) some = some z → W p l e RM_m_does s m args below meth c H locs 0 0 Q (F0 m 102 ls []) := by
    intro l1 w H locs ls hl S h
    unfold m_does_b102 at h
    refine lv_iload_n hx hb dX10_does_102 rfl (lv_at hl 1 rfl) ?_
    refine lv_bipush (v := 108) hx hb dX10_does_103 (by decide) ?_
    refine lv_icmp_eq (tgt := 120) hx hb dX10_does_105 rfl (fun c9 => ?_) (fun c9 => ?_)
    · have h := h_t c9 h
      exact lab120 l1 w _ _ _ (lv_sub hl [0, 1] rfl) S h
    · have h := h_f c9 h
      refine lv_iload_n hx hb dX10_does_108 rfl (lv_at hl 1 rfl) ?_
      refine lv_bipush (v := 104) hx hb dX10_does_109 (by decide) ?_
      refine lv_icmp_eq (tgt := 120) hx hb dX10_does_111 rfl (fun c10 => ?_) (fun c10 => ?_)
      · have h := h_t c10 h
        exact lab120 l1 w _ _ _ (lv_sub hl [0, 1] rfl) S h
      · have h := h_f c10 h
        refine lv_iload_n hx hb dX10_does_114 rfl (lv_at hl 1 rfl) ?_
        refine lv_bipush (v := 113) hx hb dX10_does_115 (by decide) ?_
        refine lv_icmp_ne (tgt := 145) hx hb dX10_does_117 rfl (fun c11 => ?_) (fun c11 => ?_)
        · have h := h_f c11 h
          exact loop145 l1 FU w _ _ _ (lv_sub hl [0, 1] rfl) S (h_bb h)
        · have h := h_t c11 h
          exact lab120 l1 w _ _ _ (lv_sub hl [0, 1] rfl) S h
  have lab51 : ∀ (l1 : Int32) (w : Wt) (H : Heap) (locs : List Loc) (ls : Array Slot), lv_has ls 2 [(0, .ref (q 0)), (1, .int l1)] → Sta KM D dA q A s.heap w H locs → Option.bind (m_does_b51 l1 w) some = some z → W p l e RM_m_does s m args below meth c H locs 0 0 Q (F0 m 51 ls []) := by
    intro l1 w H locs ls hl S h
    unfold m_does_b51 at h
    refine lv_iload_n hx hb dX10_does_51 rfl (lv_at hl 1 rfl) ?_
    refine lv_bipush (v := 120) hx hb dX10_does_52 (by decide) ?_
    refine lv_icmp_ne (tgt := 102) hx hb dX10_does_54 rfl (fun c12 => ?_) (fun c12 => ?_)
    · have h := h_f c12 h
      exact lab102 l1 w _ _ _ (lv_sub hl [0, 1] rfl) S h
    · have h := h_t c12 h
      refine lv_aload_n hx hb dX10_does_57 rfl (lv_at hl 0 rfl) ?_
      refine g_get fl_RX10_177_X10 hx hb C S KM_0 rfl dX10_does_58 ?_
      obtain ⟨x13, ex13, h⟩ := h_c h
      refine k_i C S (q_S (rest := []) (As := [.int (w 0 36)]) lk_RX10_180 ev hx hb hml C S (c_m_size l D dA q (w 0 36) w x13 ex13 _) rfl rfl ⟨(Nat.le_of_ble_eq_true rfl), (Nat.le_of_ble_eq_true rfl)⟩ rfl hl.1 rfl (Nat.le_of_ble_eq_true rfl) dX10_does_61 ⟨(Nat.le_of_ble_eq_true rfl), (Nat.le_of_ble_eq_true rfl)⟩) (fun H locs S => ?_)
      refine lv_aload_n hx hb dX10_does_64 rfl (lv_at hl 0 rfl) ?_
      refine g_get fl_RX10_205_X10 hx hb C S KM_0 rfl dX10_does_65 ?_
      refine lv_icmp_le (tgt := 102) hx hb dX10_does_68 rfl (fun c14 => ?_) (fun c14 => ?_)
      · have h := h_t c14 h
        exact lab102 l1 w _ _ _ (lv_sub hl [0, 1] rfl) S h
      · have h := h_f c14 h
        refine lv_aload_n hx hb dX10_does_71 rfl (lv_at hl 0 rfl) ?_
        refine lv_dup hx hb dX10_does_72 rfl ?_
        refine g_get fl_RX10_177_X10 hx hb C S KM_0 rfl dX10_does_73 ?_
        refine lv_iconst (v := 1) hx hb dX10_does_76 (by decide) ?_
        refine lv_aload_n hx hb dX10_does_77 rfl (lv_at hl 0 rfl) ?_
        refine lv_iconst (v := 0) hx hb dX10_does_78 (by decide) ?_
        obtain ⟨x15, ex15, h⟩ := h_c h
        refine k_i C S (q_V (rest := [.int (1 : Int32), .int (w 0 36), .ref (q 0)]) (As := [.int (0 : Int32)]) lk_RX10_211 ev hx hb hml C S KM_0 rfl (c_m_chosen l D dA q (0 : Int32) w x15.2 x15.1 ex15 _) rfl rfl ⟨(Nat.le_of_ble_eq_true rfl), (Nat.le_of_ble_eq_true rfl)⟩ rfl hl.1 rfl (Nat.le_of_ble_eq_true rfl) dX10_does_79 ⟨(Nat.le_of_ble_eq_true rfl), (Nat.le_of_ble_eq_true rfl)⟩) (fun H locs S => ?_)
        refine lv_ishl hx hb dX10_does_82 ?_
        refine lv_iconst (v := -1) hx hb dX10_does_83 (by decide) ?_
        refine lv_ixor hx hb dX10_does_84 ?_
        refine lv_iand hx hb dX10_does_85 ?_
        refine g_put fl_RX10_177_X10 pl_X10_36 hx hb C S KM_0 rfl ⟨rfl, rfl⟩ dX10_does_86 (fun w16 ew16 H locs S => ?_)
        have h := h_l h w16 ew16
        refine lv_aload_n hx hb dX10_does_89 rfl (lv_at hl 0 rfl) ?_
        refine lv_dup hx hb dX10_does_90 rfl ?_
        refine g_get fl_RX10_208_X10 hx hb C S KM_0 rfl dX10_does_91 ?_
        refine lv_iconst (v := 1) hx hb dX10_does_94 (by decide) ?_
        refine lv_iadd hx hb dX10_does_95 ?_
        refine g_put fl_RX10_208_X10 pl_X10_40 hx hb C S KM_0 rfl ⟨rfl, rfl⟩ dX10_does_96 (fun w17 ew17 H locs S => ?_)
        have h := h_l h w17 ew17
        refine lv_goto (tgt := 145) hx hb dX10_does_99 rfl ?_
        exact loop145 l1 FU w17 _ _ _ (lv_sub hl [0, 1] rfl) S (h_bb h)
  have lab18 : ∀ (l1 : Int32) (w : Wt) (H : Heap) (locs : List Loc) (ls : Array Slot), lv_has ls 2 [(0, .ref (q 0)), (1, .int l1)] → Sta KM D dA q A s.heap w H locs → Option.bind (m_does_b18 l1 w) some = some z → W p l e RM_m_does s m args below meth c H locs 0 0 Q (F0 m 18 ls []) := by
    intro l1 w H locs ls hl S h
    unfold m_does_b18 at h
    refine lv_aload_n hx hb dX10_does_18 rfl (lv_at hl 0 rfl) ?_
    refine lv_iload_n hx hb dX10_does_19 rfl (lv_at hl 1 rfl) ?_
    obtain ⟨x18, ex18, h⟩ := h_c h
    refine k_v C S (q_V (rest := []) (As := [.int l1]) lk_RX10_218 ev hx hb hml C S KM_0 rfl (c_m_makesTally l D dA q l1 w x18 ex18 _) rfl rfl ⟨(Nat.le_of_ble_eq_true rfl), (Nat.le_of_ble_eq_true rfl)⟩ rfl hl.1 rfl (Nat.le_of_ble_eq_true rfl) dX10_does_20 ⟨(Nat.le_of_ble_eq_true rfl), (Nat.le_of_ble_eq_true rfl)⟩) (fun H locs S => ?_)
    refine lv_goto (tgt := 145) hx hb dX10_does_23 rfl ?_
    exact loop145 l1 FU x18 _ _ _ (lv_sub hl [0, 1] rfl) S (h_bb h)
  intro H locs ls hl S h
  have h := h_0 h
  unfold m_does at h
  refine lv_iload_n hx hb dX10_does_0 rfl (lv_at hl 1 rfl) ?_
  refine lv_bipush (v := 116) hx hb dX10_does_1 (by decide) ?_
  refine lv_icmp_eq (tgt := 18) hx hb dX10_does_3 rfl (fun c19 => ?_) (fun c19 => ?_)
  · have h := h_t c19 h
    exact lab18 a1 w _ _ _ (lv_sub hl [0, 1] rfl) S h
  · have h := h_f c19 h
    refine lv_iload_n hx hb dX10_does_6 rfl (lv_at hl 1 rfl) ?_
    refine lv_bipush (v := 98) hx hb dX10_does_7 (by decide) ?_
    refine lv_icmp_eq (tgt := 18) hx hb dX10_does_9 rfl (fun c20 => ?_) (fun c20 => ?_)
    · have h := h_t c20 h
      exact lab18 a1 w _ _ _ (lv_sub hl [0, 1] rfl) S h
    · have h := h_f c20 h
      refine lv_iload_n hx hb dX10_does_12 rfl (lv_at hl 1 rfl) ?_
      refine lv_bipush (v := 97) hx hb dX10_does_13 (by decide) ?_
      refine lv_icmp_ne (tgt := 26) hx hb dX10_does_15 rfl (fun c21 => ?_) (fun c21 => ?_)
      · have h := h_f c21 h
        refine lv_iload_n hx hb dX10_does_26 rfl (lv_at hl 1 rfl) ?_
        refine lv_bipush (v := 109) hx hb dX10_does_27 (by decide) ?_
        refine lv_icmp_ne (tgt := 51) hx hb dX10_does_29 rfl (fun c22 => ?_) (fun c22 => ?_)
        · have h := h_f c22 h
          exact lab51 a1 w _ _ _ (lv_sub hl [0, 1] rfl) S h
        · have h := h_t c22 h
          refine lv_aload_n hx hb dX10_does_32 rfl (lv_at hl 0 rfl) ?_
          refine g_get fl_RX10_177_X10 hx hb C S KM_0 rfl dX10_does_33 ?_
          refine lv_if_eq (tgt := 51) hx hb dX10_does_36 rfl (fun c23 => ?_) (fun c23 => ?_)
          · have h := h_t c23 h
            exact lab51 a1 w _ _ _ (lv_sub hl [0, 1] rfl) S h
          · have h := h_f c23 h
            refine lv_aload_n hx hb dX10_does_39 rfl (lv_at hl 0 rfl) ?_
            refine lv_aload_n hx hb dX10_does_40 rfl (lv_at hl 0 rfl) ?_
            refine lv_iconst (v := 1) hx hb dX10_does_41 (by decide) ?_
            obtain ⟨x24, ex24, h⟩ := h_c h
            refine k_i C S (q_V (rest := [.ref (q 0)]) (As := [.int (1 : Int32)]) lk_RX10_211 ev hx hb hml C S KM_0 rfl (c_m_chosen l D dA q (1 : Int32) w x24.2 x24.1 ex24 _) rfl rfl ⟨(Nat.le_of_ble_eq_true rfl), (Nat.le_of_ble_eq_true rfl)⟩ rfl hl.1 rfl (Nat.le_of_ble_eq_true rfl) dX10_does_42 ⟨(Nat.le_of_ble_eq_true rfl), (Nat.le_of_ble_eq_true rfl)⟩) (fun H locs S => ?_)
            obtain ⟨x25, ex25, h⟩ := h_c h
            refine k_v C S (q_V (rest := []) (As := [.int x24.1]) lk_RX10_215 ev hx hb hml C S KM_0 rfl (c_m_elects l D dA q x24.1 x24.2 x25 ex25 _) rfl rfl ⟨(Nat.le_of_ble_eq_true rfl), (Nat.le_of_ble_eq_true rfl)⟩ rfl hl.1 rfl (Nat.le_of_ble_eq_true rfl) dX10_does_45 ⟨(Nat.le_of_ble_eq_true rfl), (Nat.le_of_ble_eq_true rfl)⟩) (fun H locs S => ?_)
            refine lv_goto (tgt := 145) hx hb dX10_does_48 rfl ?_
            exact loop145 a1 FU x25 _ _ _ (lv_sub hl [0, 1] rfl) S (h_bb h)
      · have h := h_t c21 h
        exact lab18 a1 w _ _ _ (lv_sub hl [0, 1] rfl) S h
theorem c_m_does (l : Launch) (D : va_G) (dA : Nat → ClassId) (q : Nat → Nat) (a1 : Int32) (w w' : Wt) (h : m_does a1 w = some w') : Mv l EVm KM D dA q yX10_does cX10_does 2 none RM_m_does [.ref (q 0), .int a1] w w' :=
  mk_v (by decide) rfl EVm_ok (Nat.le_of_ble_eq_true rfl) (fun p e s m args below meth c A Q ls hx hb hml C S hl fin => k_m_does a1 w w' hx hb hml C (fun H locs ls w2 pc S h d => fin H locs ls w2 pc S h d) _ _ _ hl S h)
/-! BallotscriptModel.electsAbove(I)V m_electsAbove -/
def m_electsAbove_b91 (w : Wt) : Option Wt := some w
def m_electsAbove_b75 (l1 : Int32) (l2 : Int32) (l4 : Int32) (t0 : Int32) (w : Wt) : Option ((Int32 × Wt) ⊕ Wt) := nmd (upd2 w 0 35 t0) fun w1 => (if l2 = (0 : Int32) then some (.inl (l2, w1)) else Option.bind (m_elects l4 w1) fun x3 => some (.inl (l2, x3)))
def m_electsAbove_b61 (l1 : Int32) (l3 : Int32) (l4 : Int32) (t0 : Int32) (w : Wt) : Option ((Int32 × Wt) ⊕ Wt) := (if t0 = (0 : Int32) then m_electsAbove_b75 l1 t0 l4 l3 w else m_electsAbove_b75 l1 t0 l4 (w 0 35) w)
def m_electsAbove_L2 (l1 : Int32) : (Int32 × Wt) → Option ((Int32 × Wt) ⊕ Wt)
  | (l2, w) => (if l2 = (0 : Int32) then some (.inr w) else (if (w 0 38) ≤ (0 : Int32) then some (.inr w) else (if (w 0 36) = (0 : Int32) then some (.inr w) else nmd (w 0 35) fun v8 => Option.bind (m_chosen (1 : Int32) w) fun x9 => nmd x9.1 fun v10 => Option.bind (m_votesIn ((x9.2 0 32) - (1 : Int32)) v10 x9.2) fun x11 => (if ((100 : Int32) * x11) ≤ (l1 * (x9.2 0 33)) then m_electsAbove_b61 l1 v8 v10 (0 : Int32) x9.2 else m_electsAbove_b61 l1 v8 v10 (1 : Int32) x9.2))))
def m_electsAbove_x2 : Wt → Option Wt
  | w => m_electsAbove_b91 w
def m_electsAbove (a1 : Int32) (w : Wt) : Option Wt := Option.bind (lp (m_electsAbove_L2 a1) FU ((1 : Int32), w)) (m_electsAbove_x2)
def RM_m_electsAbove : Room := { frames := 3, cells := 0, slots := 0, locals := 74 }
set_option maxHeartbeats 4000000 in
set_option maxRecDepth 20000 in
theorem k_m_electsAbove (a1 : Int32) (w : Wt) (z : Wt) (hx : p.tables.exec = Jvm.exec) (hb : c.code = cX10_electsAbove) (hml : c.maxLocals = 5) (C : Cx EVm KM D dA q A s m args RX10) (fin : ∀ (H : Heap) (locs : List Loc) (ls : Array Slot) (w2 : Wt) (pc : Nat) , Sta KM D dA q A s.heap w2 H locs → some w2 = some z → decode cX10_electsAbove pc = .ok (.return_, 1) → W p l e RM_m_electsAbove s m args below meth c H locs 0 0 Q (F0 m pc ls [])) : ∀ (H : Heap) (locs : List Loc) (ls : Array Slot), lv_has ls 5 [(0, .ref (q 0)), (1, .int a1)] → Sta KM D dA q A s.heap w H locs → m_electsAbove a1 w = some z → W p l e RM_m_electsAbove s m args below meth c H locs 0 0 Q (F0 m 0 ls []) := by
  have ev : evOk EVm := EVm_ok
  have lab91 : ∀ (w : Wt) (H : Heap) (locs : List Loc) (ls : Array Slot), lv_has ls 5 [] → Sta KM D dA q A s.heap w H locs → Option.bind (m_electsAbove_b91 w) some = some z → W p l e RM_m_electsAbove s m args below meth c H locs 0 0 Q (F0 m 91 ls []) := by
    intro  w H locs ls hl S h
    unfold m_electsAbove_b91 at h
    exact fin _ _ _ w _ S h dX10_electsAbove_91
  have loop2 : ∀ (l1 : Int32) (n2 : Nat), ∀ (l2 : Int32) (w : Wt) (H : Heap) (locs : List Loc) (ls : Array Slot), lv_has ls 5 [(0, .ref (q 0)), (1, .int l1), (2, .int l2)] → Sta KM D dA q A s.heap w H locs → Option.bind (lp (m_electsAbove_L2 l1) n2 (l2, w)) (fun x9 => Option.bind (m_electsAbove_x2 x9) some) = some z → W p l e RM_m_electsAbove s m args below meth c H locs 0 0 Q (F0 m 2 ls []) := by
    intro l1 n2
    induction n2 with
    | zero =>
      intro l2 w H locs ls hl S h
      exact (h_lp0 h).elim
    | succ n2 ih2 =>
      have lab75 : ∀ (l2 : Int32) (l4 : Int32) (t0 : Int32) (w : Wt) (H : Heap) (locs : List Loc) (ls : Array Slot), lv_has ls 5 [(0, .ref (q 0)), (1, .int l1), (2, .int l2), (4, .int l4)] → Sta KM D dA q A s.heap w H locs → Option.bind (m_electsAbove_b75 l1 l2 l4 t0 w) (seqF (fun s9 => Option.bind (lp (m_electsAbove_L2 l1) n2 s9) (fun x9 => Option.bind (m_electsAbove_x2 x9) some)) (fun x9 => Option.bind (m_electsAbove_x2 x9) some)) = some z → W p l e RM_m_electsAbove s m args below meth c H locs 0 0 Q (F0 m 75 ls [.int t0, .ref (q 0)]) := by
        intro l2 l4 t0 w H locs ls hl S h
        unfold m_electsAbove_b75 at h
        refine g_put fl_RX10_196_X10 pl_X10_35 hx hb C S KM_0 rfl ⟨rfl, rfl⟩ dX10_electsAbove_75 (fun w1 ew1 H locs S => ?_)
        have h := h_l h w1 ew1
        refine lv_iload_n hx hb dX10_electsAbove_78 rfl (lv_at hl 2 rfl) ?_
        refine lv_if_eq (tgt := 88) hx hb dX10_electsAbove_79 rfl (fun c2 => ?_) (fun c2 => ?_)
        · have h := h_t c2 h
          refine lv_goto (tgt := 2) hx hb dX10_electsAbove_88 rfl ?_
          exact ih2 l2 w1 _ _ _ (lv_sub hl [0, 1, 2] rfl) S h
        · have h := h_f c2 h
          refine lv_aload_n hx hb dX10_electsAbove_82 rfl (lv_at hl 0 rfl) ?_
          refine lv_iload hx hb dX10_electsAbove_83 (lv_at hl 3 rfl) ?_
          obtain ⟨x3, ex3, h⟩ := h_c h
          refine k_v C S (q_V (rest := []) (As := [.int l4]) lk_RX10_215 ev hx hb hml C S KM_0 rfl (c_m_elects l D dA q l4 w1 x3 ex3 _) rfl rfl ⟨(Nat.le_of_ble_eq_true rfl), (Nat.le_of_ble_eq_true rfl)⟩ rfl hl.1 rfl (Nat.le_of_ble_eq_true rfl) dX10_electsAbove_85 ⟨(Nat.le_of_ble_eq_true rfl), (Nat.le_of_ble_eq_true rfl)⟩) (fun H locs S => ?_)
          refine lv_goto (tgt := 2) hx hb dX10_electsAbove_88 rfl ?_
          exact ih2 l2 x3 _ _ _ (lv_sub hl [0, 1, 2] rfl) S h
      have lab61 : ∀ (l3 : Int32) (l4 : Int32) (t0 : Int32) (w : Wt) (H : Heap) (locs : List Loc) (ls : Array Slot), lv_has ls 5 [(0, .ref (q 0)), (1, .int l1), (3, .int l3), (4, .int l4)] → Sta KM D dA q A s.heap w H locs → Option.bind (m_electsAbove_b61 l1 l3 l4 t0 w) (seqF (fun s9 => Option.bind (lp (m_electsAbove_L2 l1) n2 s9) (fun x9 => Option.bind (m_electsAbove_x2 x9) some)) (fun x9 => Option.bind (m_electsAbove_x2 x9) some)) = some z → W p l e RM_m_electsAbove s m args below meth c H locs 0 0 Q (F0 m 61 ls [.int t0]) := by
        intro l3 l4 t0 w H locs ls hl S h
        unfold m_electsAbove_b61 at h
        refine lv_istore_n (lv' := [(2, .int t0), (0, .ref (q 0)), (1, .int l1), (3, .int l3), (4, .int l4)]) hx hb dX10_electsAbove_61 rfl hl (Nat.le_of_ble_eq_true rfl) rfl (fun ls hl => ?_)
        refine lv_aload_n hx hb dX10_electsAbove_62 rfl (lv_at hl 1 rfl) ?_
        refine lv_iload_n hx hb dX10_electsAbove_63 rfl (lv_at hl 0 rfl) ?_
        refine lv_if_eq (tgt := 74) hx hb dX10_electsAbove_64 rfl (fun c4 => ?_) (fun c4 => ?_)
        · have h := h_t c4 h
          refine lv_iload_n hx hb dX10_electsAbove_74 rfl (lv_at hl 3 rfl) ?_
          exact lab75 t0 l4 l3 w _ _ _ (lv_sub hl [1, 2, 0, 4] rfl) S h
        · have h := h_f c4 h
          refine lv_aload_n hx hb dX10_electsAbove_67 rfl (lv_at hl 1 rfl) ?_
          refine g_get fl_RX10_196_X10 hx hb C S KM_0 rfl dX10_electsAbove_68 ?_
          refine lv_goto (tgt := 75) hx hb dX10_electsAbove_71 rfl ?_
          exact lab75 t0 l4 (w 0 35) w _ _ _ (lv_sub hl [1, 2, 0, 4] rfl) S h
      intro l2 w H locs ls hl S h
      have h := h_lp h
      unfold m_electsAbove_L2 at h
      refine lv_iload_n hx hb dX10_electsAbove_2 rfl (lv_at hl 2 rfl) ?_
      refine lv_if_eq (tgt := 91) hx hb dX10_electsAbove_3 rfl (fun c5 => ?_) (fun c5 => ?_)
      · have h := h_t c5 h
        exact lab91 w _ _ _ (lv_sub hl [] rfl) S h
      · have h := h_f c5 h
        refine lv_aload_n hx hb dX10_electsAbove_6 rfl (lv_at hl 0 rfl) ?_
        refine g_get fl_RX10_205_X10 hx hb C S KM_0 rfl dX10_electsAbove_7 ?_
        refine lv_if_le (tgt := 91) hx hb dX10_electsAbove_10 rfl (fun c6 => ?_) (fun c6 => ?_)
        · have h := h_t c6 h
          exact lab91 w _ _ _ (lv_sub hl [] rfl) S h
        · have h := h_f c6 h
          refine lv_aload_n hx hb dX10_electsAbove_13 rfl (lv_at hl 0 rfl) ?_
          refine g_get fl_RX10_177_X10 hx hb C S KM_0 rfl dX10_electsAbove_14 ?_
          refine lv_if_eq (tgt := 91) hx hb dX10_electsAbove_17 rfl (fun c7 => ?_) (fun c7 => ?_)
          · have h := h_t c7 h
            exact lab91 w _ _ _ (lv_sub hl [] rfl) S h
          · have h := h_f c7 h
            refine lv_aload_n hx hb dX10_electsAbove_20 rfl (lv_at hl 0 rfl) ?_
            refine g_get fl_RX10_196_X10 hx hb C S KM_0 rfl dX10_electsAbove_21 ?_
            refine lv_topi (fun v8 ev8 => ?_)
            have h := h_l h v8 ev8
            refine lv_istore_n (lv' := [(3, .int v8), (0, .ref (q 0)), (1, .int l1), (2, .int l2)]) hx hb dX10_electsAbove_24 rfl hl (Nat.le_of_ble_eq_true rfl) rfl (fun ls hl => ?_)
            refine lv_aload_n hx hb dX10_electsAbove_25 rfl (lv_at hl 1 rfl) ?_
            refine lv_iconst (v := 1) hx hb dX10_electsAbove_26 (by decide) ?_
            obtain ⟨x9, ex9, h⟩ := h_c h
            refine k_i C S (q_V (rest := []) (As := [.int (1 : Int32)]) lk_RX10_211 ev hx hb hml C S KM_0 rfl (c_m_chosen l D dA q (1 : Int32) w x9.2 x9.1 ex9 _) rfl rfl ⟨(Nat.le_of_ble_eq_true rfl), (Nat.le_of_ble_eq_true rfl)⟩ rfl hl.1 rfl (Nat.le_of_ble_eq_true rfl) dX10_electsAbove_27 ⟨(Nat.le_of_ble_eq_true rfl), (Nat.le_of_ble_eq_true rfl)⟩) (fun H locs S => ?_)
            refine lv_topi (fun v10 ev10 => ?_)
            have h := h_l h v10 ev10
            refine lv_istore (lv' := [(4, .int v10), (3, .int v8), (0, .ref (q 0)), (1, .int l1), (2, .int l2)]) hx hb dX10_electsAbove_30 hl (Nat.le_of_ble_eq_true rfl) rfl (fun ls hl => ?_)
            refine lv_bipush (v := 100) hx hb dX10_electsAbove_32 (by decide) ?_
            refine lv_aload_n hx hb dX10_electsAbove_34 rfl (lv_at hl 2 rfl) ?_
            refine lv_aload_n hx hb dX10_electsAbove_35 rfl (lv_at hl 2 rfl) ?_
            refine g_get fl_RX10_174_X10 hx hb C S KM_0 rfl dX10_electsAbove_36 ?_
            refine lv_iconst (v := 1) hx hb dX10_electsAbove_39 (by decide) ?_
            refine lv_isub hx hb dX10_electsAbove_40 ?_
            refine lv_iload hx hb dX10_electsAbove_41 (lv_at hl 0 rfl) ?_
            obtain ⟨x11, ex11, h⟩ := h_c h
            refine k_i C S (q_V (rest := [.int (100 : Int32)]) (As := [.int ((x9.2 0 32) - (1 : Int32)), .int v10]) lk_RX10_189 ev hx hb hml C S KM_0 rfl (c_m_votesIn l D dA q ((x9.2 0 32) - (1 : Int32)) v10 x9.2 x11 ex11 _) rfl rfl ⟨(Nat.le_of_ble_eq_true rfl), (Nat.le_of_ble_eq_true rfl)⟩ rfl hl.1 rfl (Nat.le_of_ble_eq_true rfl) dX10_electsAbove_43 ⟨(Nat.le_of_ble_eq_true rfl), (Nat.le_of_ble_eq_true rfl)⟩) (fun H locs S => ?_)
            refine lv_imul hx hb dX10_electsAbove_46 ?_
            refine lv_iload_n hx hb dX10_electsAbove_47 rfl (lv_at hl 3 rfl) ?_
            refine lv_aload_n hx hb dX10_electsAbove_48 rfl (lv_at hl 2 rfl) ?_
            refine g_get fl_RX10_186_X10 hx hb C S KM_0 rfl dX10_electsAbove_49 ?_
            refine lv_imul hx hb dX10_electsAbove_52 ?_
            refine lv_icmp_le (tgt := 60) hx hb dX10_electsAbove_53 rfl (fun c12 => ?_) (fun c12 => ?_)
            · have h := h_t c12 h
              refine lv_iconst (v := 0) hx hb dX10_electsAbove_60 (by decide) ?_
              exact lab61 v8 v10 (0 : Int32) x9.2 _ _ _ (lv_sub hl [2, 3, 1, 0] rfl) S h
            · have h := h_f c12 h
              refine lv_iconst (v := 1) hx hb dX10_electsAbove_56 (by decide) ?_
              refine lv_goto (tgt := 61) hx hb dX10_electsAbove_57 rfl ?_
              exact lab61 v8 v10 (1 : Int32) x9.2 _ _ _ (lv_sub hl [2, 3, 1, 0] rfl) S h
  intro H locs ls hl S h
  have h := h_0 h
  unfold m_electsAbove at h
  refine lv_iconst (v := 1) hx hb dX10_electsAbove_0 (by decide) ?_
  refine lv_istore_n (lv' := [(2, .int (1 : Int32)), (0, .ref (q 0)), (1, .int a1)]) hx hb dX10_electsAbove_1 rfl hl (Nat.le_of_ble_eq_true rfl) rfl (fun ls hl => ?_)
  exact loop2 a1 FU (1 : Int32) w _ _ _ (lv_sub hl [1, 2, 0] rfl) S (h_bb h)
theorem c_m_electsAbove (l : Launch) (D : va_G) (dA : Nat → ClassId) (q : Nat → Nat) (a1 : Int32) (w w' : Wt) (h : m_electsAbove a1 w = some w') : Mv l EVm KM D dA q yX10_electsAbove cX10_electsAbove 5 none RM_m_electsAbove [.ref (q 0), .int a1] w w' :=
  mk_v (by decide) rfl EVm_ok (Nat.le_of_ble_eq_true rfl) (fun p e s m args below meth c A Q ls hx hb hml C S hl fin => k_m_electsAbove a1 w w' hx hb hml C (fun H locs ls w2 pc S h d => fin H locs ls w2 pc S h d) _ _ _ hl S h)
end WALKS

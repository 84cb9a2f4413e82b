section WALKS
variable {p : Program} {l : Launch} {e : Env} {s : State} {m : MethodId} {args : Array Value} {below : List Frame} {meth : Method} {c : Code} {Q : State → Prop} {D : va_G} {dA : Nat → ClassId} {q : Nat → Nat} {A : Nat → Prop}
/-! BallotscriptModel.goesOn(II)I m_goesOn -/
def m_goesOn_b190 (l3 : Int32) (l4 : Int32) (l5 : Int32) (w : Wt) : Option (Int32 × Wt) := (if l3 = (101 : Int32) then Option.bind (m_electsAbove l5 w) fun x3 => some ((l4 + (1 : Int32)), x3) else Option.bind (m_does l3 w) fun x2 => some ((l4 + (1 : Int32)), x2))
def m_goesOn_L150 (l1 : Int32) (l3 : Int32) (w : Wt) : (Int32 × Int32) → Option ((Int32 × Int32) ⊕ (Int32 × Int32))
  | (l4, l5) => gd (inb (l1 + l4) 192) ((if (w 7 ((l1 + l4)).toNatClampNeg) = (59 : Int32) then some (.inr (l4, l5)) else gd (inb (l1 + l4) 192) (nmd ((((10 : Int32) * l5) + (w 7 ((l1 + l4)).toNatClampNeg)) - (48 : Int32)) fun v7 => some (.inl ((l4 + 1), v7)))))
def m_goesOn_x150 (l3 : Int32) (w : Wt) : (Int32 × Int32) → Option (Int32 × Wt)
  | (l4, l5) => m_goesOn_b190 l3 l4 l5 w
def m_goesOn_b115 (l2 : Int32) (l4 : Int32) (t0 : Int32) (t1 : Int32) (w : Wt) : Option (Int32 × Wt) := nmd (upd2 w 0 43 (t1 - t0)) fun w8 => (if l4 = (0 : Int32) then some ((l2 + (1 : Int32)), w8) else gd (inb ((w8 0 43) - (1 : Int32)) 24) (some ((w8 27 (((w8 0 43) - (1 : Int32))).toNatClampNeg), w8)))
def m_goesOn_b83 (l2 : Int32) (t0 : Int32) (w : Wt) : Option (Int32 × Wt) := gd (inb ((w 0 43) - (1 : Int32)) 24) (nmd (upd2 w 28 (((w 0 43) - (1 : Int32))).toNatClampNeg (w 0 40)) fun w12 => (if t0 = (0 : Int32) then m_goesOn_b115 l2 t0 (1 : Int32) (w12 0 43) w12 else m_goesOn_b115 l2 t0 (0 : Int32) (w12 0 43) w12))
def m_goesOn (a1 : Int32) (a2 : Int32) (w : Wt) : Option (Int32 × Wt) := gd (inb (a1 + a2) 192) (nmd (w 7 ((a1 + a2)).toNatClampNeg) fun v15 => (if v15 = (40 : Int32) then gd (inb (w 0 43) 24) (nmd (upd2 w 27 ((w 0 43)).toNatClampNeg (a2 + (1 : Int32))) fun w22 => gd (inb (w22 0 43) 24) (nmd (upd2 w22 28 ((w22 0 43)).toNatClampNeg (w22 0 40)) fun w24 => nmd (upd2 w24 0 43 ((w24 0 43) + (1 : Int32))) fun w25 => some ((a2 + (1 : Int32)), w25))) else (if v15 = (41 : Int32) then gd (inb ((w 0 43) - (1 : Int32)) 24) ((if (w 0 40) ≤ (w 28 (((w 0 43) - (1 : Int32))).toNatClampNeg) then m_goesOn_b83 a2 (0 : Int32) w else m_goesOn_b83 a2 (1 : Int32) w)) else nmd (a2 + (1 : Int32)) fun v18 => Option.bind (lp (m_goesOn_L150 a1 v15 w) FU (v18, (0 : Int32))) (m_goesOn_x150 v15 w))))
def RM_m_goesOn : Room := { frames := 4, cells := 0, slots := 0, locals := 98 }
set_option maxHeartbeats 4000000 in
set_option maxRecDepth 20000 in
theorem k_m_goesOn (a1 : Int32) (a2 : Int32) (w : Wt) (z : (Int32 × Wt)) (hx : p.tables.exec = Jvm.exec) (hb : c.code = cX10_goesOn) (hml : c.maxLocals = 6) (C : Cx EVm KM D dA q A s m args RX10) (fin : ∀ (H : Heap) (locs : List Loc) (ls : Array Slot) (r' : Int32) (w2 : Wt) (pc : Nat) , Sta KM D dA q A s.heap w2 H locs → some (r', w2) = some z → decode cX10_goesOn pc = .ok (.ireturn, 1) → W p l e RM_m_goesOn s m args below meth c H locs 0 0 Q (F0 m pc ls [.int r'])) : ∀ (H : Heap) (locs : List Loc) (ls : Array Slot), lv_has ls 6 [(0, .ref (q 0)), (1, .int a1), (2, .int a2)] → Sta KM D dA q A s.heap w H locs → m_goesOn a1 a2 w = some z → W p l e RM_m_goesOn s m args below meth c H locs 0 0 Q (F0 m 0 ls []) := by
  have ev : evOk EVm := EVm_ok
  have lab190 : ∀ (l3 : Int32) (l4 : Int32) (l5 : Int32) (w : Wt) (H : Heap) (locs : List Loc) (ls : Array Slot), lv_has ls 6 [(0, .ref (q 0)), (3, .int l3), (4, .int l4), (5, .int l5)] → Sta KM D dA q A s.heap w H locs → Option.bind (m_goesOn_b190 l3 l4 l5 w) some = some z → W p l e RM_m_goesOn s m args below meth c H locs 0 0 Q (F0 m 190 ls []) := by
    intro l3 l4 l5 w H locs ls hl S h
    unfold m_goesOn_b190 at h
    refine lv_iload_n hx hb dX10_goesOn_190 rfl (lv_at hl 1 rfl) ?_
    refine lv_bipush (v := 101) hx hb dX10_goesOn_191 (by decide) ?_
    refine lv_icmp_ne (tgt := 205) hx hb dX10_goesOn_193 rfl (fun c1 => ?_) (fun c1 => ?_)
    · have h := h_f c1 h
      refine lv_aload_n hx hb dX10_goesOn_205 rfl (lv_at hl 0 rfl) ?_
      refine lv_iload_n hx hb dX10_goesOn_206 rfl (lv_at hl 1 rfl) ?_
      obtain ⟨x2, ex2, h⟩ := h_c h
      refine k_v C S (q_V (rest := []) (As := [.int l3]) lk_RX10_227 ev hx hb hml C S KM_0 rfl (c_m_does l D dA q l3 w x2 ex2 _) rfl rfl ⟨(Nat.le_of_ble_eq_true rfl), (Nat.le_of_ble_eq_true rfl)⟩ rfl hl.1 rfl (Nat.le_of_ble_eq_true rfl) dX10_goesOn_207 ⟨(Nat.le_of_ble_eq_true rfl), (Nat.le_of_ble_eq_true rfl)⟩) (fun H locs S => ?_)
      refine lv_iload hx hb dX10_goesOn_210 (lv_at hl 2 rfl) ?_
      refine lv_iconst (v := 1) hx hb dX10_goesOn_212 (by decide) ?_
      refine lv_iadd hx hb dX10_goesOn_213 ?_
      exact fin _ _ _ (l4 + (1 : Int32)) x2 _ S h dX10_goesOn_214
    · have h := h_t c1 h
      refine lv_aload_n hx hb dX10_goesOn_196 rfl (lv_at hl 0 rfl) ?_
      refine lv_iload hx hb dX10_goesOn_197 (lv_at hl 3 rfl) ?_
      obtain ⟨x3, ex3, h⟩ := h_c h
      refine k_v C S (q_V (rest := []) (As := [.int l5]) lk_RX10_224 ev hx hb hml C S KM_0 rfl (c_m_electsAbove l D dA q l5 w x3 ex3 _) rfl rfl ⟨(Nat.le_of_ble_eq_true rfl), (Nat.le_of_ble_eq_true rfl)⟩ rfl hl.1 rfl (Nat.le_of_ble_eq_true rfl) dX10_goesOn_199 ⟨(Nat.le_of_ble_eq_true rfl), (Nat.le_of_ble_eq_true rfl)⟩) (fun H locs S => ?_)
      refine lv_goto (tgt := 210) hx hb dX10_goesOn_202 rfl ?_
      refine lv_iload hx hb dX10_goesOn_210 (lv_at hl 2 rfl) ?_
      refine lv_iconst (v := 1) hx hb dX10_goesOn_212 (by decide) ?_
      refine lv_iadd hx hb dX10_goesOn_213 ?_
      exact fin _ _ _ (l4 + (1 : Int32)) x3 _ S h dX10_goesOn_214
  have loop150 : ∀ (l1 : Int32) (l3 : Int32) (w : Wt) (n150 : Nat), ∀ (l4 : Int32) (l5 : Int32) (H : Heap) (locs : List Loc) (ls : Array Slot), lv_has ls 6 [(0, .ref (q 0)), (1, .int l1), (3, .int l3), (4, .int l4), (5, .int l5)] → Sta KM D dA q A s.heap w H locs → Option.bind (lp (m_goesOn_L150 l1 l3 w) n150 (l4, l5)) (fun x9 => Option.bind (m_goesOn_x150 l3 w x9) some) = some z → W p l e RM_m_goesOn s m args below meth c H locs 0 0 Q (F0 m 150 ls []) := by
    intro l1 l3 w n150
    induction n150 with
    | zero =>
      intro l4 l5 H locs ls hl S h
      exact (h_lp0 h).elim
    | succ n150 ih150 =>
      intro l4 l5 H locs ls hl S h
      have h := h_lp h
      unfold m_goesOn_L150 at h
      refine lv_aload_n hx hb dX10_goesOn_150 rfl (lv_at hl 0 rfl) ?_
      refine g_getR fl_RX10_29_X10 hx hb C S KM_0 rfl dX10_goesOn_151 ?_
      refine lv_iload_n hx hb dX10_goesOn_154 rfl (lv_at hl 1 rfl) ?_
      refine lv_iload hx hb dX10_goesOn_155 (lv_at hl 3 rfl) ?_
      refine lv_iadd hx hb dX10_goesOn_157 ?_
      obtain ⟨g4, h⟩ := h_gd h
      refine r_iald hx hb C S KM_7 (h_in g4) dX10_goesOn_158 ?_
      refine lv_bipush (v := 59) hx hb dX10_goesOn_159 (by decide) ?_
      refine lv_icmp_eq (tgt := 190) hx hb dX10_goesOn_161 rfl (fun c5 => ?_) (fun c5 => ?_)
      · have h := h_t c5 h
        exact lab190 l3 l4 l5 w _ _ _ (lv_sub hl [0, 2, 3, 4] rfl) S h
      · have h := h_f c5 h
        refine lv_bipush (v := 10) hx hb dX10_goesOn_164 (by decide) ?_
        refine lv_iload hx hb dX10_goesOn_166 (lv_at hl 4 rfl) ?_
        refine lv_imul hx hb dX10_goesOn_168 ?_
        refine lv_aload_n hx hb dX10_goesOn_169 rfl (lv_at hl 0 rfl) ?_
        refine g_getR fl_RX10_29_X10 hx hb C S KM_0 rfl dX10_goesOn_170 ?_
        refine lv_iload_n hx hb dX10_goesOn_173 rfl (lv_at hl 1 rfl) ?_
        refine lv_iload hx hb dX10_goesOn_174 (lv_at hl 3 rfl) ?_
        refine lv_iadd hx hb dX10_goesOn_176 ?_
        obtain ⟨g6, h⟩ := h_gd h
        refine r_iald hx hb C S KM_7 (h_in g6) dX10_goesOn_177 ?_
        refine lv_iadd hx hb dX10_goesOn_178 ?_
        refine lv_bipush (v := 48) hx hb dX10_goesOn_179 (by decide) ?_
        refine lv_isub hx hb dX10_goesOn_181 ?_
        refine lv_topi (fun v7 ev7 => ?_)
        have h := h_l h v7 ev7
        refine lv_istore (lv' := [(5, .int v7), (0, .ref (q 0)), (1, .int l1), (3, .int l3), (4, .int l4)]) hx hb dX10_goesOn_182 hl (Nat.le_of_ble_eq_true rfl) rfl (fun ls hl => ?_)
        refine lv_iinc (v := (l4 + 1)) (lv' := [(4, .int (l4 + 1)), (5, .int v7), (0, .ref (q 0)), (1, .int l1), (3, .int l3)]) hx hb dX10_goesOn_184 hl (k := 4) rfl rfl (Nat.le_of_ble_eq_true rfl) rfl (fun ls hl => ?_)
        refine lv_goto (tgt := 150) hx hb dX10_goesOn_187 rfl ?_
        exact ih150 (l4 + 1) v7 _ _ _ (lv_sub hl [2, 3, 4, 0, 1] rfl) S h
  have lab115 : ∀ (l2 : Int32) (l4 : Int32) (t0 : Int32) (t1 : Int32) (w : Wt) (H : Heap) (locs : List Loc) (ls : Array Slot), lv_has ls 6 [(0, .ref (q 0)), (2, .int l2), (4, .int l4)] → Sta KM D dA q A s.heap w H locs → Option.bind (m_goesOn_b115 l2 l4 t0 t1 w) some = some z → W p l e RM_m_goesOn s m args below meth c H locs 0 0 Q (F0 m 115 ls [.int t0, .int t1, .ref (q 0)]) := by
    intro l2 l4 t0 t1 w H locs ls hl S h
    unfold m_goesOn_b115 at h
    refine lv_isub hx hb dX10_goesOn_115 ?_
    refine g_put fl_RX10_221_X10 pl_X10_43 hx hb C S KM_0 rfl ⟨rfl, rfl⟩ dX10_goesOn_116 (fun w8 ew8 H locs S => ?_)
    have h := h_l h w8 ew8
    refine lv_iload hx hb dX10_goesOn_119 (lv_at hl 2 rfl) ?_
    refine lv_if_eq (tgt := 138) hx hb dX10_goesOn_121 rfl (fun c9 => ?_) (fun c9 => ?_)
    · have h := h_t c9 h
      refine lv_iload_n hx hb dX10_goesOn_138 rfl (lv_at hl 1 rfl) ?_
      refine lv_iconst (v := 1) hx hb dX10_goesOn_139 (by decide) ?_
      refine lv_iadd hx hb dX10_goesOn_140 ?_
      exact fin _ _ _ (l2 + (1 : Int32)) w8 _ S h dX10_goesOn_141
    · have h := h_f c9 h
      refine lv_aload_n hx hb dX10_goesOn_124 rfl (lv_at hl 0 rfl) ?_
      refine g_getR fl_RX10_89_X10 hx hb C S KM_0 rfl dX10_goesOn_125 ?_
      refine lv_aload_n hx hb dX10_goesOn_128 rfl (lv_at hl 0 rfl) ?_
      refine g_get fl_RX10_221_X10 hx hb C S KM_0 rfl dX10_goesOn_129 ?_
      refine lv_iconst (v := 1) hx hb dX10_goesOn_132 (by decide) ?_
      refine lv_isub hx hb dX10_goesOn_133 ?_
      obtain ⟨g10, h⟩ := h_gd h
      refine r_iald hx hb C S KM_27 (h_in g10) dX10_goesOn_134 ?_
      refine lv_goto (tgt := 141) hx hb dX10_goesOn_135 rfl ?_
      exact fin _ _ _ (w8 27 (((w8 0 43) - (1 : Int32))).toNatClampNeg) w8 _ S h dX10_goesOn_141
  have lab83 : ∀ (l2 : Int32) (t0 : Int32) (w : Wt) (H : Heap) (locs : List Loc) (ls : Array Slot), lv_has ls 6 [(0, .ref (q 0)), (2, .int l2)] → Sta KM D dA q A s.heap w H locs → Option.bind (m_goesOn_b83 l2 t0 w) some = some z → W p l e RM_m_goesOn s m args below meth c H locs 0 0 Q (F0 m 83 ls [.int t0]) := by
    intro l2 t0 w H locs ls hl S h
    unfold m_goesOn_b83 at h
    refine lv_istore (lv' := [(4, .int t0), (0, .ref (q 0)), (2, .int l2)]) hx hb dX10_goesOn_83 hl (Nat.le_of_ble_eq_true rfl) rfl (fun ls hl => ?_)
    refine lv_aload_n hx hb dX10_goesOn_85 rfl (lv_at hl 1 rfl) ?_
    refine g_getR fl_RX10_92_X10 hx hb C S KM_0 rfl dX10_goesOn_86 ?_
    refine lv_aload_n hx hb dX10_goesOn_89 rfl (lv_at hl 1 rfl) ?_
    refine g_get fl_RX10_221_X10 hx hb C S KM_0 rfl dX10_goesOn_90 ?_
    refine lv_iconst (v := 1) hx hb dX10_goesOn_93 (by decide) ?_
    refine lv_isub hx hb dX10_goesOn_94 ?_
    refine lv_aload_n hx hb dX10_goesOn_95 rfl (lv_at hl 1 rfl) ?_
    refine g_get fl_RX10_208_X10 hx hb C S KM_0 rfl dX10_goesOn_96 ?_
    obtain ⟨g11, h⟩ := h_gd h
    refine r_iast hx hb C S KM_28 (h_in g11) dX10_goesOn_99 (fun w12 ew12 H locs S => ?_)
    have h := h_l h w12 ew12
    refine lv_aload_n hx hb dX10_goesOn_100 rfl (lv_at hl 1 rfl) ?_
    refine lv_dup hx hb dX10_goesOn_101 rfl ?_
    refine g_get fl_RX10_221_X10 hx hb C S KM_0 rfl dX10_goesOn_102 ?_
    refine lv_iload hx hb dX10_goesOn_105 (lv_at hl 0 rfl) ?_
    refine lv_if_eq (tgt := 114) hx hb dX10_goesOn_107 rfl (fun c13 => ?_) (fun c13 => ?_)
    · have h := h_t c13 h
      refine lv_iconst (v := 1) hx hb dX10_goesOn_114 (by decide) ?_
      exact lab115 l2 t0 (1 : Int32) (w12 0 43) w12 _ _ _ (lv_sub hl [1, 2, 0] rfl) S h
    · have h := h_f c13 h
      refine lv_iconst (v := 0) hx hb dX10_goesOn_110 (by decide) ?_
      refine lv_goto (tgt := 115) hx hb dX10_goesOn_111 rfl ?_
      exact lab115 l2 t0 (0 : Int32) (w12 0 43) w12 _ _ _ (lv_sub hl [1, 2, 0] rfl) S h
  intro H locs ls hl S h
  have h := h_0 h
  unfold m_goesOn at h
  refine lv_aload_n hx hb dX10_goesOn_0 rfl (lv_at hl 0 rfl) ?_
  refine g_getR fl_RX10_29_X10 hx hb C S KM_0 rfl dX10_goesOn_1 ?_
  refine lv_iload_n hx hb dX10_goesOn_4 rfl (lv_at hl 1 rfl) ?_
  refine lv_iload_n hx hb dX10_goesOn_5 rfl (lv_at hl 2 rfl) ?_
  refine lv_iadd hx hb dX10_goesOn_6 ?_
  obtain ⟨g14, h⟩ := h_gd h
  refine r_iald hx hb C S KM_7 (h_in g14) dX10_goesOn_7 ?_
  refine lv_topi (fun v15 ev15 => ?_)
  have h := h_l h v15 ev15
  refine lv_istore_n (lv' := [(3, .int v15), (0, .ref (q 0)), (1, .int a1), (2, .int a2)]) hx hb dX10_goesOn_8 rfl hl (Nat.le_of_ble_eq_true rfl) rfl (fun ls hl => ?_)
  refine lv_iload_n hx hb dX10_goesOn_9 rfl (lv_at hl 0 rfl) ?_
  refine lv_bipush (v := 40) hx hb dX10_goesOn_10 (by decide) ?_
  refine lv_icmp_ne (tgt := 54) hx hb dX10_goesOn_12 rfl (fun c16 => ?_) (fun c16 => ?_)
  · have h := h_f c16 h
    refine lv_iload_n hx hb dX10_goesOn_54 rfl (lv_at hl 0 rfl) ?_
    refine lv_bipush (v := 41) hx hb dX10_goesOn_55 (by decide) ?_
    refine lv_icmp_ne (tgt := 142) hx hb dX10_goesOn_57 rfl (fun c17 => ?_) (fun c17 => ?_)
    · have h := h_f c17 h
      refine lv_iload_n hx hb dX10_goesOn_142 rfl (lv_at hl 3 rfl) ?_
      refine lv_iconst (v := 1) hx hb dX10_goesOn_143 (by decide) ?_
      refine lv_iadd hx hb dX10_goesOn_144 ?_
      refine lv_topi (fun v18 ev18 => ?_)
      have h := h_l h v18 ev18
      refine lv_istore (lv' := [(4, .int v18), (3, .int v15), (0, .ref (q 0)), (1, .int a1), (2, .int a2)]) hx hb dX10_goesOn_145 hl (Nat.le_of_ble_eq_true rfl) rfl (fun ls hl => ?_)
      refine lv_iconst (v := 0) hx hb dX10_goesOn_147 (by decide) ?_
      refine lv_istore (lv' := [(5, .int (0 : Int32)), (4, .int v18), (3, .int v15), (0, .ref (q 0)), (1, .int a1), (2, .int a2)]) hx hb dX10_goesOn_148 hl (Nat.le_of_ble_eq_true rfl) rfl (fun ls hl => ?_)
      exact loop150 a1 v15 w FU v18 (0 : Int32) _ _ _ (lv_sub hl [3, 4, 2, 1, 0] rfl) S (h_bb h)
    · have h := h_t c17 h
      refine lv_aload_n hx hb dX10_goesOn_60 rfl (lv_at hl 1 rfl) ?_
      refine g_get fl_RX10_208_X10 hx hb C S KM_0 rfl dX10_goesOn_61 ?_
      refine lv_aload_n hx hb dX10_goesOn_64 rfl (lv_at hl 1 rfl) ?_
      refine g_getR fl_RX10_92_X10 hx hb C S KM_0 rfl dX10_goesOn_65 ?_
      refine lv_aload_n hx hb dX10_goesOn_68 rfl (lv_at hl 1 rfl) ?_
      refine g_get fl_RX10_221_X10 hx hb C S KM_0 rfl dX10_goesOn_69 ?_
      refine lv_iconst (v := 1) hx hb dX10_goesOn_72 (by decide) ?_
      refine lv_isub hx hb dX10_goesOn_73 ?_
      obtain ⟨g19, h⟩ := h_gd h
      refine r_iald hx hb C S KM_28 (h_in g19) dX10_goesOn_74 ?_
      refine lv_icmp_le (tgt := 82) hx hb dX10_goesOn_75 rfl (fun c20 => ?_) (fun c20 => ?_)
      · have h := h_t c20 h
        refine lv_iconst (v := 0) hx hb dX10_goesOn_82 (by decide) ?_
        exact lab83 a2 (0 : Int32) w _ _ _ (lv_sub hl [1, 3] rfl) S h
      · have h := h_f c20 h
        refine lv_iconst (v := 1) hx hb dX10_goesOn_78 (by decide) ?_
        refine lv_goto (tgt := 83) hx hb dX10_goesOn_79 rfl ?_
        exact lab83 a2 (1 : Int32) w _ _ _ (lv_sub hl [1, 3] rfl) S h
  · have h := h_t c16 h
    refine lv_aload_n hx hb dX10_goesOn_15 rfl (lv_at hl 1 rfl) ?_
    refine g_getR fl_RX10_89_X10 hx hb C S KM_0 rfl dX10_goesOn_16 ?_
    refine lv_aload_n hx hb dX10_goesOn_19 rfl (lv_at hl 1 rfl) ?_
    refine g_get fl_RX10_221_X10 hx hb C S KM_0 rfl dX10_goesOn_20 ?_
    refine lv_iload_n hx hb dX10_goesOn_23 rfl (lv_at hl 3 rfl) ?_
    refine lv_iconst (v := 1) hx hb dX10_goesOn_24 (by decide) ?_
    refine lv_iadd hx hb dX10_goesOn_25 ?_
    obtain ⟨g21, h⟩ := h_gd h
    refine r_iast hx hb C S KM_27 (h_in g21) dX10_goesOn_26 (fun w22 ew22 H locs S => ?_)
    have h := h_l h w22 ew22
    refine lv_aload_n hx hb dX10_goesOn_27 rfl (lv_at hl 1 rfl) ?_
    refine g_getR fl_RX10_92_X10 hx hb C S KM_0 rfl dX10_goesOn_28 ?_
    refine lv_aload_n hx hb dX10_goesOn_31 rfl (lv_at hl 1 rfl) ?_
    refine g_get fl_RX10_221_X10 hx hb C S KM_0 rfl dX10_goesOn_32 ?_
    refine lv_aload_n hx hb dX10_goesOn_35 rfl (lv_at hl 1 rfl) ?_
    refine g_get fl_RX10_208_X10 hx hb C S KM_0 rfl dX10_goesOn_36 ?_
    obtain ⟨g23, h⟩ := h_gd h
    refine r_iast hx hb C S KM_28 (h_in g23) dX10_goesOn_39 (fun w24 ew24 H locs S => ?_)
    have h := h_l h w24 ew24
    refine lv_aload_n hx hb dX10_goesOn_40 rfl (lv_at hl 1 rfl) ?_
    refine lv_dup hx hb dX10_goesOn_41 rfl ?_
    refine g_get fl_RX10_221_X10 hx hb C S KM_0 rfl dX10_goesOn_42 ?_
    refine lv_iconst (v := 1) hx hb dX10_goesOn_45 (by decide) ?_
    refine lv_iadd hx hb dX10_goesOn_46 ?_
    refine g_put fl_RX10_221_X10 pl_X10_43 hx hb C S KM_0 rfl ⟨rfl, rfl⟩ dX10_goesOn_47 (fun w25 ew25 H locs S => ?_)
    have h := h_l h w25 ew25
    refine lv_iload_n hx hb dX10_goesOn_50 rfl (lv_at hl 3 rfl) ?_
    refine lv_iconst (v := 1) hx hb dX10_goesOn_51 (by decide) ?_
    refine lv_iadd hx hb dX10_goesOn_52 ?_
    exact fin _ _ _ (a2 + (1 : Int32)) w25 _ S h dX10_goesOn_53
theorem c_m_goesOn (l : Launch) (D : va_G) (dA : Nat → ClassId) (q : Nat → Nat) (a1 : Int32) (a2 : Int32) (w w' : Wt) (r : Int32) (h : m_goesOn a1 a2 w = some (r, w')) : Mi l EVm KM D dA q yX10_goesOn cX10_goesOn 6 (some .int) RM_m_goesOn [.ref (q 0), .int a1, .int a2] w r w' :=
  mk_i (by decide) rfl EVm_ok (Nat.le_of_ble_eq_true rfl) (fun p e s m args below meth c A Q ls hx hb hml C S hl fin => k_m_goesOn a1 a2 w (r, w') hx hb hml C (fun H locs ls r' w2 pc S h d => fin H locs ls r' w2 pc S h d) _ _ _ hl S h)
/-! BallotscriptModel.winnersOf(I)I m_winnersOf -/
def m_winnersOf_b146 (w : Wt) : Option (Int32 × Wt) := some ((w 0 37), w)
def m_winnersOf_L106 (l1 : Int32) : (Int32 × Wt) → Option ((Int32 × Wt) ⊕ Wt)
  | (l2, w) => gd (inb l1 8) (gd (inb (w 12 (l1).toNatClampNeg) 8) ((if (w 8 ((w 12 (l1).toNatClampNeg)).toNatClampNeg) ≤ l2 then some (.inr w) else (if (w 0 38) ≤ (0 : Int32) then some (.inr w) else gd (inb l1 8) (Option.bind (m_goesOn ((24 : Int32) * (w 12 (l1).toNatClampNeg)) l2 w) fun x6 => nmd x6.1 fun v7 => some (.inl (v7, x6.2)))))))
def m_winnersOf_x106 : Wt → Option (Int32 × Wt)
  | w => m_winnersOf_b146 w
def m_winnersOf_b104 (l1 : Int32) (w : Wt) : Option (Int32 × Wt) := Option.bind (lp (m_winnersOf_L106 l1) FU ((0 : Int32), w)) (m_winnersOf_x106)
def m_winnersOf_L61 (l1 : Int32) : (Int32 × Wt) → Option ((Int32 × Wt) ⊕ Wt)
  | (l2, w) => (if (w 0 27) ≤ l2 then some (.inr w) else gd (inb l2 100) ((if (w 19 (l2).toNatClampNeg) = l1 then Option.bind (m_reason l2 w) fun x13 => (if x13 = (0 : Int32) then gd (inb l2 100) (nmd (upd2 w 24 (l2).toNatClampNeg (vp_nar .boolean (1 : Int32))) fun w18 => some (.inl ((l2 + 1), w18))) else gd (inb l2 100) (nmd (upd2 w 24 (l2).toNatClampNeg (vp_nar .boolean (0 : Int32))) fun w16 => some (.inl ((l2 + 1), w16)))) else gd (inb l2 100) (nmd (upd2 w 24 (l2).toNatClampNeg (vp_nar .boolean (0 : Int32))) fun w12 => some (.inl ((l2 + 1), w12))))))
def m_winnersOf_x61 (l1 : Int32) : Wt → Option (Int32 × Wt)
  | w => m_winnersOf_b104 l1 w
def m_winnersOf (a1 : Int32) (w : Wt) : Option (Int32 × Wt) := nmd (upd2 w 0 32 (0 : Int32)) fun w19 => nmd (upd2 w19 0 35 (0 : Int32)) fun w20 => nmd (upd2 w20 0 33 (0 : Int32)) fun w21 => gd (inb a1 8) (nmd (upd2 w21 0 36 (((1 : Int32) <<< ((w21 10 (a1).toNatClampNeg) &&& 31)) - (1 : Int32))) fun w23 => nmd (upd2 w23 0 37 (0 : Int32)) fun w24 => gd (inb a1 8) (nmd (upd2 w24 0 38 (w24 11 (a1).toNatClampNeg)) fun w26 => nmd (upd2 w26 0 39 (0 : Int32)) fun w27 => nmd (upd2 w27 0 40 (0 : Int32)) fun w28 => nmd (upd2 w28 0 43 (0 : Int32)) fun w29 => Option.bind (lp (m_winnersOf_L61 a1) FU ((0 : Int32), w29)) (m_winnersOf_x61 a1)))
def RM_m_winnersOf : Room := { frames := 5, cells := 0, slots := 0, locals := 123 }
set_option maxHeartbeats 4000000 in
set_option maxRecDepth 20000 in
theorem k_m_winnersOf (a1 : Int32) (w : Wt) (z : (Int32 × Wt)) (hx : p.tables.exec = Jvm.exec) (hb : c.code = cX10_winnersOf) (hml : c.maxLocals = 3) (C : Cx EVm KM D dA q A s m args RX10) (fin : ∀ (H : Heap) (locs : List Loc) (ls : Array Slot) (r' : Int32) (w2 : Wt) (pc : Nat) , Sta KM D dA q A s.heap w2 H locs → some (r', w2) = some z → decode cX10_winnersOf pc = .ok (.ireturn, 1) → W p l e RM_m_winnersOf s m args below meth c H locs 0 0 Q (F0 m pc ls [.int r'])) : ∀ (H : Heap) (locs : List Loc) (ls : Array Slot), lv_has ls 3 [(0, .ref (q 0)), (1, .int a1)] → Sta KM D dA q A s.heap w H locs → m_winnersOf a1 w = some z → W p l e RM_m_winnersOf s m args below meth c H locs 0 0 Q (F0 m 0 ls []) := by
  have ev : evOk EVm := EVm_ok
  have lab146 : ∀ (w : Wt) (H : Heap) (locs : List Loc) (ls : Array Slot), lv_has ls 3 [(0, .ref (q 0))] → Sta KM D dA q A s.heap w H locs → Option.bind (m_winnersOf_b146 w) some = some z → W p l e RM_m_winnersOf s m args below meth c H locs 0 0 Q (F0 m 146 ls []) := by
    intro  w H locs ls hl S h
    unfold m_winnersOf_b146 at h
    refine lv_aload_n hx hb dX10_winnersOf_146 rfl (lv_at hl 0 rfl) ?_
    refine g_get fl_RX10_202_X10 hx hb C S KM_0 rfl dX10_winnersOf_147 ?_
    exact fin _ _ _ (w 0 37) w _ S h dX10_winnersOf_150
  have loop106 : ∀ (l1 : Int32) (n106 : Nat), ∀ (l2 : Int32) (w : Wt) (H : Heap) (locs : List Loc) (ls : Array Slot), lv_has ls 3 [(0, .ref (q 0)), (1, .int l1), (2, .int l2)] → Sta KM D dA q A s.heap w H locs → Option.bind (lp (m_winnersOf_L106 l1) n106 (l2, w)) (fun x9 => Option.bind (m_winnersOf_x106 x9) some) = some z → W p l e RM_m_winnersOf s m args below meth c H locs 0 0 Q (F0 m 106 ls []) := by
    intro l1 n106
    induction n106 with
    | zero =>
      intro l2 w H locs ls hl S h
      exact (h_lp0 h).elim
    | succ n106 ih106 =>
      intro l2 w H locs ls hl S h
      have h := h_lp h
      unfold m_winnersOf_L106 at h
      refine lv_iload_n hx hb dX10_winnersOf_106 rfl (lv_at hl 2 rfl) ?_
      refine lv_aload_n hx hb dX10_winnersOf_107 rfl (lv_at hl 0 rfl) ?_
      refine g_getR fl_RX10_32_X10 hx hb C S KM_0 rfl dX10_winnersOf_108 ?_
      refine lv_aload_n hx hb dX10_winnersOf_111 rfl (lv_at hl 0 rfl) ?_
      refine g_getR fl_RX10_44_X10 hx hb C S KM_0 rfl dX10_winnersOf_112 ?_
      refine lv_iload_n hx hb dX10_winnersOf_115 rfl (lv_at hl 1 rfl) ?_
      obtain ⟨g1, h⟩ := h_gd h
      refine r_iald hx hb C S KM_12 (h_in g1) dX10_winnersOf_116 ?_
      obtain ⟨g2, h⟩ := h_gd h
      refine r_iald hx hb C S KM_8 (h_in g2) dX10_winnersOf_117 ?_
      refine lv_icmp_ge (tgt := 146) hx hb dX10_winnersOf_118 rfl (fun c3 => ?_) (fun c3 => ?_)
      · have h := h_t c3 h
        exact lab146 w _ _ _ (lv_sub hl [0] rfl) S h
      · have h := h_f c3 h
        refine lv_aload_n hx hb dX10_winnersOf_121 rfl (lv_at hl 0 rfl) ?_
        refine g_get fl_RX10_205_X10 hx hb C S KM_0 rfl dX10_winnersOf_122 ?_
        refine lv_if_le (tgt := 146) hx hb dX10_winnersOf_125 rfl (fun c4 => ?_) (fun c4 => ?_)
        · have h := h_t c4 h
          exact lab146 w _ _ _ (lv_sub hl [0] rfl) S h
        · have h := h_f c4 h
          refine lv_aload_n hx hb dX10_winnersOf_128 rfl (lv_at hl 0 rfl) ?_
          refine lv_bipush (v := 24) hx hb dX10_winnersOf_129 (by decide) ?_
          refine lv_aload_n hx hb dX10_winnersOf_131 rfl (lv_at hl 0 rfl) ?_
          refine g_getR fl_RX10_44_X10 hx hb C S KM_0 rfl dX10_winnersOf_132 ?_
          refine lv_iload_n hx hb dX10_winnersOf_135 rfl (lv_at hl 1 rfl) ?_
          obtain ⟨g5, h⟩ := h_gd h
          refine r_iald hx hb C S KM_12 (h_in g5) dX10_winnersOf_136 ?_
          refine lv_imul hx hb dX10_winnersOf_137 ?_
          refine lv_iload_n hx hb dX10_winnersOf_138 rfl (lv_at hl 2 rfl) ?_
          obtain ⟨x6, ex6, h⟩ := h_c h
          refine k_i C S (q_V (rest := []) (As := [.int ((24 : Int32) * (w 12 (l1).toNatClampNeg)), .int l2]) lk_RX10_230 ev hx hb hml C S KM_0 rfl (c_m_goesOn l D dA q ((24 : Int32) * (w 12 (l1).toNatClampNeg)) l2 w x6.2 x6.1 ex6 _) rfl rfl ⟨(Nat.le_of_ble_eq_true rfl), (Nat.le_of_ble_eq_true rfl)⟩ rfl hl.1 rfl (Nat.le_of_ble_eq_true rfl) dX10_winnersOf_139 ⟨(Nat.le_of_ble_eq_true rfl), (Nat.le_of_ble_eq_true rfl)⟩) (fun H locs S => ?_)
          refine lv_topi (fun v7 ev7 => ?_)
          have h := h_l h v7 ev7
          refine lv_istore_n (lv' := [(2, .int v7), (0, .ref (q 0)), (1, .int l1)]) hx hb dX10_winnersOf_142 rfl hl (Nat.le_of_ble_eq_true rfl) rfl (fun ls hl => ?_)
          refine lv_goto (tgt := 106) hx hb dX10_winnersOf_143 rfl ?_
          exact ih106 v7 x6.2 _ _ _ (lv_sub hl [1, 2, 0] rfl) S h
  have lab104 : ∀ (l1 : Int32) (w : Wt) (H : Heap) (locs : List Loc) (ls : Array Slot), lv_has ls 3 [(0, .ref (q 0)), (1, .int l1)] → Sta KM D dA q A s.heap w H locs → Option.bind (m_winnersOf_b104 l1 w) some = some z → W p l e RM_m_winnersOf s m args below meth c H locs 0 0 Q (F0 m 104 ls []) := by
    intro l1 w H locs ls hl S h
    unfold m_winnersOf_b104 at h
    refine lv_iconst (v := 0) hx hb dX10_winnersOf_104 (by decide) ?_
    refine lv_istore_n (lv' := [(2, .int (0 : Int32)), (0, .ref (q 0)), (1, .int l1)]) hx hb dX10_winnersOf_105 rfl hl (Nat.le_of_ble_eq_true rfl) rfl (fun ls hl => ?_)
    exact loop106 l1 FU (0 : Int32) w _ _ _ (lv_sub hl [1, 2, 0] rfl) S (h_bb h)
  have loop61 : ∀ (l1 : Int32) (n61 : Nat), ∀ (l2 : Int32) (w : Wt) (H : Heap) (locs : List Loc) (ls : Array Slot), lv_has ls 3 [(0, .ref (q 0)), (1, .int l1), (2, .int l2)] → Sta KM D dA q A s.heap w H locs → Option.bind (lp (m_winnersOf_L61 l1) n61 (l2, w)) (fun x9 => Option.bind (m_winnersOf_x61 l1 x9) some) = some z → W p l e RM_m_winnersOf s m args below meth c H locs 0 0 Q (F0 m 61 ls []) := by
    intro l1 n61
    induction n61 with
    | zero =>
      intro l2 w H locs ls hl S h
      exact (h_lp0 h).elim
    | succ n61 ih61 =>
      intro l2 w H locs ls hl S h
      have h := h_lp h
      unfold m_winnersOf_L61 at h
      refine lv_iload_n hx hb dX10_winnersOf_61 rfl (lv_at hl 2 rfl) ?_
      refine lv_aload_n hx hb dX10_winnersOf_62 rfl (lv_at hl 0 rfl) ?_
      refine g_get fl_RX10_117_X10 hx hb C S KM_0 rfl dX10_winnersOf_63 ?_
      refine lv_icmp_ge (tgt := 104) hx hb dX10_winnersOf_66 rfl (fun c8 => ?_) (fun c8 => ?_)
      · have h := h_t c8 h
        exact lab104 l1 w _ _ _ (lv_sub hl [0, 1] rfl) S h
      · have h := h_f c8 h
        refine lv_aload_n hx hb dX10_winnersOf_69 rfl (lv_at hl 0 rfl) ?_
        refine g_getR fl_RX10_80_X10 hx hb C S KM_0 rfl dX10_winnersOf_70 ?_
        refine lv_iload_n hx hb dX10_winnersOf_73 rfl (lv_at hl 2 rfl) ?_
        refine lv_aload_n hx hb dX10_winnersOf_74 rfl (lv_at hl 0 rfl) ?_
        refine g_getR fl_RX10_65_X10 hx hb C S KM_0 rfl dX10_winnersOf_75 ?_
        refine lv_iload_n hx hb dX10_winnersOf_78 rfl (lv_at hl 2 rfl) ?_
        obtain ⟨g9, h⟩ := h_gd h
        refine r_iald hx hb C S KM_19 (h_in g9) dX10_winnersOf_79 ?_
        refine lv_iload_n hx hb dX10_winnersOf_80 rfl (lv_at hl 1 rfl) ?_
        refine lv_icmp_ne (tgt := 96) hx hb dX10_winnersOf_81 rfl (fun c10 => ?_) (fun c10 => ?_)
        · have h := h_f c10 h
          refine lv_iconst (v := 0) hx hb dX10_winnersOf_96 (by decide) ?_
          obtain ⟨g11, h⟩ := h_gd h
          refine r_zast hx hb C S KM_24 (h_in g11) dX10_winnersOf_97 (fun w12 ew12 H locs S => ?_)
          have h := h_l h w12 ew12
          refine lv_iinc (v := (l2 + 1)) (lv' := [(2, .int (l2 + 1)), (0, .ref (q 0)), (1, .int l1)]) hx hb dX10_winnersOf_98 hl (k := 2) rfl rfl (Nat.le_of_ble_eq_true rfl) rfl (fun ls hl => ?_)
          refine lv_goto (tgt := 61) hx hb dX10_winnersOf_101 rfl ?_
          exact ih61 (l2 + 1) w12 _ _ _ (lv_sub hl [1, 2, 0] rfl) S h
        · have h := h_t c10 h
          refine lv_aload_n hx hb dX10_winnersOf_84 rfl (lv_at hl 0 rfl) ?_
          refine lv_iload_n hx hb dX10_winnersOf_85 rfl (lv_at hl 2 rfl) ?_
          obtain ⟨x13, ex13, h⟩ := h_c h
          refine k_i C S (q_V (rest := [.int l2, .ref (q 24)]) (As := [.int l2]) lk_RX10_120 ev hx hb hml C S KM_0 rfl (c_m_reason l D dA q l2 w x13 ex13 _) rfl rfl ⟨(Nat.le_of_ble_eq_true rfl), (Nat.le_of_ble_eq_true rfl)⟩ rfl hl.1 rfl (Nat.le_of_ble_eq_true rfl) dX10_winnersOf_86 ⟨(Nat.le_of_ble_eq_true rfl), (Nat.le_of_ble_eq_true rfl)⟩) (fun H locs S => ?_)
          refine lv_if_ne (tgt := 96) hx hb dX10_winnersOf_89 rfl (fun c14 => ?_) (fun c14 => ?_)
          · have h := h_f c14 h
            refine lv_iconst (v := 0) hx hb dX10_winnersOf_96 (by decide) ?_
            obtain ⟨g15, h⟩ := h_gd h
            refine r_zast hx hb C S KM_24 (h_in g15) dX10_winnersOf_97 (fun w16 ew16 H locs S => ?_)
            have h := h_l h w16 ew16
            refine lv_iinc (v := (l2 + 1)) (lv' := [(2, .int (l2 + 1)), (0, .ref (q 0)), (1, .int l1)]) hx hb dX10_winnersOf_98 hl (k := 2) rfl rfl (Nat.le_of_ble_eq_true rfl) rfl (fun ls hl => ?_)
            refine lv_goto (tgt := 61) hx hb dX10_winnersOf_101 rfl ?_
            exact ih61 (l2 + 1) w16 _ _ _ (lv_sub hl [1, 2, 0] rfl) S h
          · have h := h_t c14 h
            refine lv_iconst (v := 1) hx hb dX10_winnersOf_92 (by decide) ?_
            refine lv_goto (tgt := 97) hx hb dX10_winnersOf_93 rfl ?_
            obtain ⟨g17, h⟩ := h_gd h
            refine r_zast hx hb C S KM_24 (h_in g17) dX10_winnersOf_97 (fun w18 ew18 H locs S => ?_)
            have h := h_l h w18 ew18
            refine lv_iinc (v := (l2 + 1)) (lv' := [(2, .int (l2 + 1)), (0, .ref (q 0)), (1, .int l1)]) hx hb dX10_winnersOf_98 hl (k := 2) rfl rfl (Nat.le_of_ble_eq_true rfl) rfl (fun ls hl => ?_)
            refine lv_goto (tgt := 61) hx hb dX10_winnersOf_101 rfl ?_
            exact ih61 (l2 + 1) w18 _ _ _ (lv_sub hl [1, 2, 0] rfl) S h
  intro H locs ls hl S h
  have h := h_0 h
  unfold m_winnersOf at h
  refine lv_aload_n hx hb dX10_winnersOf_0 rfl (lv_at hl 0 rfl) ?_
  refine lv_iconst (v := 0) hx hb dX10_winnersOf_1 (by decide) ?_
  refine g_put fl_RX10_174_X10 pl_X10_32 hx hb C S KM_0 rfl ⟨rfl, rfl⟩ dX10_winnersOf_2 (fun w19 ew19 H locs S => ?_)
  have h := h_l h w19 ew19
  refine lv_aload_n hx hb dX10_winnersOf_5 rfl (lv_at hl 0 rfl) ?_
  refine lv_iconst (v := 0) hx hb dX10_winnersOf_6 (by decide) ?_
  refine g_put fl_RX10_196_X10 pl_X10_35 hx hb C S KM_0 rfl ⟨rfl, rfl⟩ dX10_winnersOf_7 (fun w20 ew20 H locs S => ?_)
  have h := h_l h w20 ew20
  refine lv_aload_n hx hb dX10_winnersOf_10 rfl (lv_at hl 0 rfl) ?_
  refine lv_iconst (v := 0) hx hb dX10_winnersOf_11 (by decide) ?_
  refine g_put fl_RX10_186_X10 pl_X10_33 hx hb C S KM_0 rfl ⟨rfl, rfl⟩ dX10_winnersOf_12 (fun w21 ew21 H locs S => ?_)
  have h := h_l h w21 ew21
  refine lv_aload_n hx hb dX10_winnersOf_15 rfl (lv_at hl 0 rfl) ?_
  refine lv_iconst (v := 1) hx hb dX10_winnersOf_16 (by decide) ?_
  refine lv_aload_n hx hb dX10_winnersOf_17 rfl (lv_at hl 0 rfl) ?_
  refine g_getR fl_RX10_38_X10 hx hb C S KM_0 rfl dX10_winnersOf_18 ?_
  refine lv_iload_n hx hb dX10_winnersOf_21 rfl (lv_at hl 1 rfl) ?_
  obtain ⟨g22, h⟩ := h_gd h
  refine r_iald hx hb C S KM_10 (h_in g22) dX10_winnersOf_22 ?_
  refine lv_ishl hx hb dX10_winnersOf_23 ?_
  refine lv_iconst (v := 1) hx hb dX10_winnersOf_24 (by decide) ?_
  refine lv_isub hx hb dX10_winnersOf_25 ?_
  refine g_put fl_RX10_177_X10 pl_X10_36 hx hb C S KM_0 rfl ⟨rfl, rfl⟩ dX10_winnersOf_26 (fun w23 ew23 H locs S => ?_)
  have h := h_l h w23 ew23
  refine lv_aload_n hx hb dX10_winnersOf_29 rfl (lv_at hl 0 rfl) ?_
  refine lv_iconst (v := 0) hx hb dX10_winnersOf_30 (by decide) ?_
  refine g_put fl_RX10_202_X10 pl_X10_37 hx hb C S KM_0 rfl ⟨rfl, rfl⟩ dX10_winnersOf_31 (fun w24 ew24 H locs S => ?_)
  have h := h_l h w24 ew24
  refine lv_aload_n hx hb dX10_winnersOf_34 rfl (lv_at hl 0 rfl) ?_
  refine lv_aload_n hx hb dX10_winnersOf_35 rfl (lv_at hl 0 rfl) ?_
  refine g_getR fl_RX10_41_X10 hx hb C S KM_0 rfl dX10_winnersOf_36 ?_
  refine lv_iload_n hx hb dX10_winnersOf_39 rfl (lv_at hl 1 rfl) ?_
  obtain ⟨g25, h⟩ := h_gd h
  refine r_iald hx hb C S KM_11 (h_in g25) dX10_winnersOf_40 ?_
  refine g_put fl_RX10_205_X10 pl_X10_38 hx hb C S KM_0 rfl ⟨rfl, rfl⟩ dX10_winnersOf_41 (fun w26 ew26 H locs S => ?_)
  have h := h_l h w26 ew26
  refine lv_aload_n hx hb dX10_winnersOf_44 rfl (lv_at hl 0 rfl) ?_
  refine lv_iconst (v := 0) hx hb dX10_winnersOf_45 (by decide) ?_
  refine g_put fl_RX10_199_X10 pl_X10_39 hx hb C S KM_0 rfl ⟨rfl, rfl⟩ dX10_winnersOf_46 (fun w27 ew27 H locs S => ?_)
  have h := h_l h w27 ew27
  refine lv_aload_n hx hb dX10_winnersOf_49 rfl (lv_at hl 0 rfl) ?_
  refine lv_iconst (v := 0) hx hb dX10_winnersOf_50 (by decide) ?_
  refine g_put fl_RX10_208_X10 pl_X10_40 hx hb C S KM_0 rfl ⟨rfl, rfl⟩ dX10_winnersOf_51 (fun w28 ew28 H locs S => ?_)
  have h := h_l h w28 ew28
  refine lv_aload_n hx hb dX10_winnersOf_54 rfl (lv_at hl 0 rfl) ?_
  refine lv_iconst (v := 0) hx hb dX10_winnersOf_55 (by decide) ?_
  refine g_put fl_RX10_221_X10 pl_X10_43 hx hb C S KM_0 rfl ⟨rfl, rfl⟩ dX10_winnersOf_56 (fun w29 ew29 H locs S => ?_)
  have h := h_l h w29 ew29
  refine lv_iconst (v := 0) hx hb dX10_winnersOf_59 (by decide) ?_
  refine lv_istore_n (lv' := [(2, .int (0 : Int32)), (0, .ref (q 0)), (1, .int a1)]) hx hb dX10_winnersOf_60 rfl hl (Nat.le_of_ble_eq_true rfl) rfl (fun ls hl => ?_)
  exact loop61 a1 FU (0 : Int32) w29 _ _ _ (lv_sub hl [1, 2, 0] rfl) S (h_bb h)
theorem c_m_winnersOf (l : Launch) (D : va_G) (dA : Nat → ClassId) (q : Nat → Nat) (a1 : Int32) (w w' : Wt) (r : Int32) (h : m_winnersOf a1 w = some (r, w')) : Mi l EVm KM D dA q yX10_winnersOf cX10_winnersOf 3 (some .int) RM_m_winnersOf [.ref (q 0), .int a1] w r w' :=
  mk_i (by decide) rfl EVm_ok (Nat.le_of_ble_eq_true rfl) (fun p e s m args below meth c A Q ls hx hb hml C S hl fin => k_m_winnersOf a1 w (r, w') hx hb hml C (fun H locs ls r' w2 pc S h d => fin H locs ls r' w2 pc S h d) _ _ _ hl S h)
/-! BallotscriptModel.mend(I)I m_mend -/
def m_mend_b103 (l2 : Int32) (w : Wt) : Option (Int32 × Wt) := some (l2, w)
def m_mend_L67 : (Int32 × Int32 × Wt) → Option ((Int32 × Int32 × Wt) ⊕ (Int32 × Wt))
  | (l2, l3, w) => (if (w 0 20) ≤ l3 then some (.inr (l2, w)) else gd (inb l3 8) (Option.bind (m_winnersOf l3 w) fun x3 => (if (w 29 (l3).toNatClampNeg) = x3.1 then nmd (l2 + (0 : Int32)) fun v5 => some (.inl (v5, (l3 + 1), x3.2)) else nmd (l2 + (1 : Int32)) fun v6 => some (.inl (v6, (l3 + 1), x3.2)))))
def m_mend_x67 : (Int32 × Wt) → Option (Int32 × Wt)
  | (l2, w) => m_mend_b103 l2 w
def m_mend_b58 (l1 : Int32) (w : Wt) : Option (Int32 × Wt) := Option.bind (m_writes l1 w) fun x7 => Option.bind (lp (m_mend_L67) FU ((0 : Int32), (0 : Int32), x7)) (m_mend_x67)
def m_mend_L33 (l1 : Int32) : (Int32 × Wt) → Option ((Int32 × Wt) ⊕ Wt)
  | (l2, w) => (if (w 0 20) ≤ l2 then some (.inr w) else Option.bind (m_winnersOf l2 w) fun x9 => gd (inb l2 8) (nmd (upd2 x9.2 29 (l2).toNatClampNeg x9.1) fun w11 => some (.inl ((l2 + 1), w11))))
def m_mend_x33 (l1 : Int32) : Wt → Option (Int32 × Wt)
  | w => m_mend_b58 l1 w
def m_mend_b22 (l1 : Int32) (t0 : Int32) (t1 : Int32) (w : Wt) : Option (Int32 × Wt) := Option.bind (m_goes t1 t0 (1 : Int32) w) fun x12 => (if x12.1 = (0 : Int32) then some ((0 : Int32), x12.2) else Option.bind (lp (m_mend_L33 l1) FU ((0 : Int32), x12.2)) (m_mend_x33 l1))
def m_mend (a1 : Int32) (w : Wt) : Option (Int32 × Wt) := Option.bind (m_isBelow a1 (w 0 11)) fun x14 => Option.bind (m_faultOf w) fun x15 => (if x15 = (-1 : Int32) then m_mend_b22 a1 (1 : Int32) x14 w else m_mend_b22 a1 (0 : Int32) x14 w)
def RM_m_mend : Room := { frames := 6, cells := 0, slots := 0, locals := 145 }
set_option maxHeartbeats 4000000 in
set_option maxRecDepth 20000 in
theorem k_m_mend (a1 : Int32) (w : Wt) (z : (Int32 × Wt)) (hx : p.tables.exec = Jvm.exec) (hb : c.code = cX10_mend) (hml : c.maxLocals = 4) (C : Cx EVm KM D dA q A s m args RX10) (fin : ∀ (H : Heap) (locs : List Loc) (ls : Array Slot) (r' : Int32) (w2 : Wt) (pc : Nat) , Sta KM D dA q A s.heap w2 H locs → some (r', w2) = some z → decode cX10_mend pc = .ok (.ireturn, 1) → W p l e RM_m_mend s m args below meth c H locs 0 0 Q (F0 m pc ls [.int r'])) : ∀ (H : Heap) (locs : List Loc) (ls : Array Slot), lv_has ls 4 [(0, .ref (q 0)), (1, .int a1)] → Sta KM D dA q A s.heap w H locs → m_mend a1 w = some z → W p l e RM_m_mend s m args below meth c H locs 0 0 Q (F0 m 0 ls []) := by
  have ev : evOk EVm := EVm_ok
  have lab103 : ∀ (l2 : Int32) (w : Wt) (H : Heap) (locs : List Loc) (ls : Array Slot), lv_has ls 4 [(2, .int l2)] → Sta KM D dA q A s.heap w H locs → Option.bind (m_mend_b103 l2 w) some = some z → W p l e RM_m_mend s m args below meth c H locs 0 0 Q (F0 m 103 ls []) := by
    intro l2 w H locs ls hl S h
    unfold m_mend_b103 at h
    refine lv_iload_n hx hb dX10_mend_103 rfl (lv_at hl 0 rfl) ?_
    exact fin _ _ _ l2 w _ S h dX10_mend_104
  have loop67 : ∀ (n67 : Nat), ∀ (l2 : Int32) (l3 : Int32) (w : Wt) (H : Heap) (locs : List Loc) (ls : Array Slot), lv_has ls 4 [(0, .ref (q 0)), (2, .int l2), (3, .int l3)] → Sta KM D dA q A s.heap w H locs → Option.bind (lp (m_mend_L67) n67 (l2, l3, w)) (fun x9 => Option.bind (m_mend_x67 x9) some) = some z → W p l e RM_m_mend s m args below meth c H locs 0 0 Q (F0 m 67 ls []) := by
    intro  n67
    induction n67 with
    | zero =>
      intro l2 l3 w H locs ls hl S h
      exact (h_lp0 h).elim
    | succ n67 ih67 =>
      intro l2 l3 w H locs ls hl S h
      have h := h_lp h
      unfold m_mend_L67 at h
      refine lv_iload_n hx hb dX10_mend_67 rfl (lv_at hl 2 rfl) ?_
      refine lv_aload_n hx hb dX10_mend_68 rfl (lv_at hl 0 rfl) ?_
      refine g_get fl_RX10_154_X10 hx hb C S KM_0 rfl dX10_mend_69 ?_
      refine lv_icmp_ge (tgt := 103) hx hb dX10_mend_72 rfl (fun c1 => ?_) (fun c1 => ?_)
      · have h := h_t c1 h
        exact lab103 l2 w _ _ _ (lv_sub hl [1] rfl) S h
      · have h := h_f c1 h
        refine lv_iload_n hx hb dX10_mend_75 rfl (lv_at hl 1 rfl) ?_
        refine lv_aload_n hx hb dX10_mend_76 rfl (lv_at hl 0 rfl) ?_
        refine g_getR fl_RX10_95_X10 hx hb C S KM_0 rfl dX10_mend_77 ?_
        refine lv_iload_n hx hb dX10_mend_80 rfl (lv_at hl 2 rfl) ?_
        obtain ⟨g2, h⟩ := h_gd h
        refine r_iald hx hb C S KM_29 (h_in g2) dX10_mend_81 ?_
        refine lv_aload_n hx hb dX10_mend_82 rfl (lv_at hl 0 rfl) ?_
        refine lv_iload_n hx hb dX10_mend_83 rfl (lv_at hl 2 rfl) ?_
        obtain ⟨x3, ex3, h⟩ := h_c h
        refine k_i C S (q_V (rest := [.int (w 29 (l3).toNatClampNeg), .int l2]) (As := [.int l3]) lk_RX10_157 ev hx hb hml C S KM_0 rfl (c_m_winnersOf l D dA q l3 w x3.2 x3.1 ex3 _) rfl rfl ⟨(Nat.le_of_ble_eq_true rfl), (Nat.le_of_ble_eq_true rfl)⟩ rfl hl.1 rfl (Nat.le_of_ble_eq_true rfl) dX10_mend_84 ⟨(Nat.le_of_ble_eq_true rfl), (Nat.le_of_ble_eq_true rfl)⟩) (fun H locs S => ?_)
        refine lv_icmp_eq (tgt := 94) hx hb dX10_mend_87 rfl (fun c4 => ?_) (fun c4 => ?_)
        · have h := h_t c4 h
          refine lv_iconst (v := 0) hx hb dX10_mend_94 (by decide) ?_
          refine lv_iadd hx hb dX10_mend_95 ?_
          refine lv_topi (fun v5 ev5 => ?_)
          have h := h_l h v5 ev5
          refine lv_istore_n (lv' := [(2, .int v5), (0, .ref (q 0)), (3, .int l3)]) hx hb dX10_mend_96 rfl hl (Nat.le_of_ble_eq_true rfl) rfl (fun ls hl => ?_)
          refine lv_iinc (v := (l3 + 1)) (lv' := [(3, .int (l3 + 1)), (2, .int v5), (0, .ref (q 0))]) hx hb dX10_mend_97 hl (k := 2) rfl rfl (Nat.le_of_ble_eq_true rfl) rfl (fun ls hl => ?_)
          refine lv_goto (tgt := 67) hx hb dX10_mend_100 rfl ?_
          exact ih67 v5 (l3 + 1) x3.2 _ _ _ (lv_sub hl [2, 1, 0] rfl) S h
        · have h := h_f c4 h
          refine lv_iconst (v := 1) hx hb dX10_mend_90 (by decide) ?_
          refine lv_goto (tgt := 95) hx hb dX10_mend_91 rfl ?_
          refine lv_iadd hx hb dX10_mend_95 ?_
          refine lv_topi (fun v6 ev6 => ?_)
          have h := h_l h v6 ev6
          refine lv_istore_n (lv' := [(2, .int v6), (0, .ref (q 0)), (3, .int l3)]) hx hb dX10_mend_96 rfl hl (Nat.le_of_ble_eq_true rfl) rfl (fun ls hl => ?_)
          refine lv_iinc (v := (l3 + 1)) (lv' := [(3, .int (l3 + 1)), (2, .int v6), (0, .ref (q 0))]) hx hb dX10_mend_97 hl (k := 2) rfl rfl (Nat.le_of_ble_eq_true rfl) rfl (fun ls hl => ?_)
          refine lv_goto (tgt := 67) hx hb dX10_mend_100 rfl ?_
          exact ih67 v6 (l3 + 1) x3.2 _ _ _ (lv_sub hl [2, 1, 0] rfl) S h
  have lab58 : ∀ (l1 : Int32) (w : Wt) (H : Heap) (locs : List Loc) (ls : Array Slot), lv_has ls 4 [(0, .ref (q 0)), (1, .int l1)] → Sta KM D dA q A s.heap w H locs → Option.bind (m_mend_b58 l1 w) some = some z → W p l e RM_m_mend s m args below meth c H locs 0 0 Q (F0 m 58 ls []) := by
    intro l1 w H locs ls hl S h
    unfold m_mend_b58 at h
    refine lv_aload_n hx hb dX10_mend_58 rfl (lv_at hl 0 rfl) ?_
    refine lv_iload_n hx hb dX10_mend_59 rfl (lv_at hl 1 rfl) ?_
    obtain ⟨x7, ex7, h⟩ := h_c h
    refine k_v C S (q_V (rest := []) (As := [.int l1]) lk_RX10_150 ev hx hb hml C S KM_0 rfl (c_m_writes l D dA q l1 w x7 ex7 _) rfl rfl ⟨(Nat.le_of_ble_eq_true rfl), (Nat.le_of_ble_eq_true rfl)⟩ rfl hl.1 rfl (Nat.le_of_ble_eq_true rfl) dX10_mend_60 ⟨(Nat.le_of_ble_eq_true rfl), (Nat.le_of_ble_eq_true rfl)⟩) (fun H locs S => ?_)
    refine lv_iconst (v := 0) hx hb dX10_mend_63 (by decide) ?_
    refine lv_istore_n (lv' := [(2, .int (0 : Int32)), (0, .ref (q 0)), (1, .int l1)]) hx hb dX10_mend_64 rfl hl (Nat.le_of_ble_eq_true rfl) rfl (fun ls hl => ?_)
    refine lv_iconst (v := 0) hx hb dX10_mend_65 (by decide) ?_
    refine lv_istore_n (lv' := [(3, .int (0 : Int32)), (2, .int (0 : Int32)), (0, .ref (q 0)), (1, .int l1)]) hx hb dX10_mend_66 rfl hl (Nat.le_of_ble_eq_true rfl) rfl (fun ls hl => ?_)
    exact loop67  FU (0 : Int32) (0 : Int32) x7 _ _ _ (lv_sub hl [2, 1, 0] rfl) S (h_bb h)
  have loop33 : ∀ (l1 : Int32) (n33 : Nat), ∀ (l2 : Int32) (w : Wt) (H : Heap) (locs : List Loc) (ls : Array Slot), lv_has ls 4 [(0, .ref (q 0)), (1, .int l1), (2, .int l2)] → Sta KM D dA q A s.heap w H locs → Option.bind (lp (m_mend_L33 l1) n33 (l2, w)) (fun x9 => Option.bind (m_mend_x33 l1 x9) some) = some z → W p l e RM_m_mend s m args below meth c H locs 0 0 Q (F0 m 33 ls []) := by
    intro l1 n33
    induction n33 with
    | zero =>
      intro l2 w H locs ls hl S h
      exact (h_lp0 h).elim
    | succ n33 ih33 =>
      intro l2 w H locs ls hl S h
      have h := h_lp h
      unfold m_mend_L33 at h
      refine lv_iload_n hx hb dX10_mend_33 rfl (lv_at hl 2 rfl) ?_
      refine lv_aload_n hx hb dX10_mend_34 rfl (lv_at hl 0 rfl) ?_
      refine g_get fl_RX10_154_X10 hx hb C S KM_0 rfl dX10_mend_35 ?_
      refine lv_icmp_ge (tgt := 58) hx hb dX10_mend_38 rfl (fun c8 => ?_) (fun c8 => ?_)
      · have h := h_t c8 h
        exact lab58 l1 w _ _ _ (lv_sub hl [0, 1] rfl) S h
      · have h := h_f c8 h
        refine lv_aload_n hx hb dX10_mend_41 rfl (lv_at hl 0 rfl) ?_
        refine g_getR fl_RX10_95_X10 hx hb C S KM_0 rfl dX10_mend_42 ?_
        refine lv_iload_n hx hb dX10_mend_45 rfl (lv_at hl 2 rfl) ?_
        refine lv_aload_n hx hb dX10_mend_46 rfl (lv_at hl 0 rfl) ?_
        refine lv_iload_n hx hb dX10_mend_47 rfl (lv_at hl 2 rfl) ?_
        obtain ⟨x9, ex9, h⟩ := h_c h
        refine k_i C S (q_V (rest := [.int l2, .ref (q 29)]) (As := [.int l2]) lk_RX10_157 ev hx hb hml C S KM_0 rfl (c_m_winnersOf l D dA q l2 w x9.2 x9.1 ex9 _) rfl rfl ⟨(Nat.le_of_ble_eq_true rfl), (Nat.le_of_ble_eq_true rfl)⟩ rfl hl.1 rfl (Nat.le_of_ble_eq_true rfl) dX10_mend_48 ⟨(Nat.le_of_ble_eq_true rfl), (Nat.le_of_ble_eq_true rfl)⟩) (fun H locs S => ?_)
        obtain ⟨g10, h⟩ := h_gd h
        refine r_iast hx hb C S KM_29 (h_in g10) dX10_mend_51 (fun w11 ew11 H locs S => ?_)
        have h := h_l h w11 ew11
        refine lv_iinc (v := (l2 + 1)) (lv' := [(2, .int (l2 + 1)), (0, .ref (q 0)), (1, .int l1)]) hx hb dX10_mend_52 hl (k := 2) rfl rfl (Nat.le_of_ble_eq_true rfl) rfl (fun ls hl => ?_)
        refine lv_goto (tgt := 33) hx hb dX10_mend_55 rfl ?_
        exact ih33 (l2 + 1) w11 _ _ _ (lv_sub hl [1, 2, 0] rfl) S h
  have lab22 : ∀ (l1 : Int32) (t0 : Int32) (t1 : Int32) (w : Wt) (H : Heap) (locs : List Loc) (ls : Array Slot), lv_has ls 4 [(0, .ref (q 0)), (1, .int l1)] → Sta KM D dA q A s.heap w H locs → Option.bind (m_mend_b22 l1 t0 t1 w) some = some z → W p l e RM_m_mend s m args below meth c H locs 0 0 Q (F0 m 22 ls [.int t0, .int t1, .ref (q 0)]) := by
    intro l1 t0 t1 w H locs ls hl S h
    unfold m_mend_b22 at h
    refine lv_iconst (v := 1) hx hb dX10_mend_22 (by decide) ?_
    obtain ⟨x12, ex12, h⟩ := h_c h
    refine k_i C S (q_V (rest := []) (As := [.int t1, .int t0, .int (1 : Int32)]) lk_RX10_113 ev hx hb hml C S KM_0 rfl (c_m_goes l D dA q t1 t0 (1 : Int32) w x12.2 x12.1 ex12 _) rfl rfl ⟨(Nat.le_of_ble_eq_true rfl), (Nat.le_of_ble_eq_true rfl)⟩ rfl hl.1 rfl (Nat.le_of_ble_eq_true rfl) dX10_mend_23 ⟨(Nat.le_of_ble_eq_true rfl), (Nat.le_of_ble_eq_true rfl)⟩) (fun H locs S => ?_)
    refine lv_if_ne (tgt := 31) hx hb dX10_mend_26 rfl (fun c13 => ?_) (fun c13 => ?_)
    · have h := h_f c13 h
      refine lv_iconst (v := 0) hx hb dX10_mend_31 (by decide) ?_
      refine lv_istore_n (lv' := [(2, .int (0 : Int32)), (0, .ref (q 0)), (1, .int l1)]) hx hb dX10_mend_32 rfl hl (Nat.le_of_ble_eq_true rfl) rfl (fun ls hl => ?_)
      exact loop33 l1 FU (0 : Int32) x12.2 _ _ _ (lv_sub hl [1, 2, 0] rfl) S (h_bb h)
    · have h := h_t c13 h
      refine lv_iconst (v := 0) hx hb dX10_mend_29 (by decide) ?_
      exact fin _ _ _ (0 : Int32) x12.2 _ S h dX10_mend_30
  intro H locs ls hl S h
  have h := h_0 h
  unfold m_mend at h
  refine lv_aload_n hx hb dX10_mend_0 rfl (lv_at hl 0 rfl) ?_
  refine lv_iload_n hx hb dX10_mend_1 rfl (lv_at hl 1 rfl) ?_
  refine lv_aload_n hx hb dX10_mend_2 rfl (lv_at hl 0 rfl) ?_
  refine g_get fl_RX10_147_X10 hx hb C S KM_0 rfl dX10_mend_3 ?_
  obtain ⟨x14, ex14, h⟩ := h_c h
  refine k_i C S (q_S (rest := [.ref (q 0)]) (As := [.int a1, .int (w 0 11)]) lk_RX10_106 ev hx hb hml C S (c_m_isBelow l D dA q a1 (w 0 11) w x14 ex14 _) rfl rfl ⟨(Nat.le_of_ble_eq_true rfl), (Nat.le_of_ble_eq_true rfl)⟩ rfl hl.1 rfl (Nat.le_of_ble_eq_true rfl) dX10_mend_6 ⟨(Nat.le_of_ble_eq_true rfl), (Nat.le_of_ble_eq_true rfl)⟩) (fun H locs S => ?_)
  refine lv_aload_n hx hb dX10_mend_9 rfl (lv_at hl 0 rfl) ?_
  obtain ⟨x15, ex15, h⟩ := h_c h
  refine k_i C S (q_V (rest := [.int x14, .ref (q 0)]) (As := []) lk_RX10_144 ev hx hb hml C S KM_0 rfl (c_m_faultOf l D dA q w x15 ex15 _) rfl rfl ⟨(Nat.le_of_ble_eq_true rfl), (Nat.le_of_ble_eq_true rfl)⟩ rfl hl.1 rfl (Nat.le_of_ble_eq_true rfl) dX10_mend_10 ⟨(Nat.le_of_ble_eq_true rfl), (Nat.le_of_ble_eq_true rfl)⟩) (fun H locs S => ?_)
  refine lv_iconst (v := -1) hx hb dX10_mend_13 (by decide) ?_
  refine lv_icmp_ne (tgt := 21) hx hb dX10_mend_14 rfl (fun c16 => ?_) (fun c16 => ?_)
  · have h := h_f c16 h
    refine lv_iconst (v := 0) hx hb dX10_mend_21 (by decide) ?_
    exact lab22 a1 (0 : Int32) x14 w _ _ _ (lv_sub hl [0, 1] rfl) S h
  · have h := h_t c16 h
    refine lv_iconst (v := 1) hx hb dX10_mend_17 (by decide) ?_
    refine lv_goto (tgt := 22) hx hb dX10_mend_18 rfl ?_
    exact lab22 a1 (1 : Int32) x14 w _ _ _ (lv_sub hl [0, 1] rfl) S h
theorem c_m_mend (l : Launch) (D : va_G) (dA : Nat → ClassId) (q : Nat → Nat) (a1 : Int32) (w w' : Wt) (r : Int32) (h : m_mend a1 w = some (r, w')) : Mi l EVm KM D dA q yX10_mend cX10_mend 4 (some .int) RM_m_mend [.ref (q 0), .int a1] w r w' :=
  mk_i (by decide) rfl EVm_ok (Nat.le_of_ble_eq_true rfl) (fun p e s m args below meth c A Q ls hx hb hml C S hl fin => k_m_mend a1 w (r, w') hx hb hml C (fun H locs ls r' w2 pc S h d => fin H locs ls r' w2 pc S h d) _ _ _ hl S h)
/-! BallotscriptModel.commands(I)I m_commands -/
def m_commands_b63 (l2 : Int32) (w : Wt) : Option (Int32 × Wt) := some (l2, w)
def m_commands_L23 (l1 : Int32) (w : Wt) : (Int32 × Int32) → Option ((Int32 × Int32) ⊕ Int32)
  | (l2, l3) => gd (inb l1 8) ((if (w 8 (l1).toNatClampNeg) ≤ l3 then some (.inr l2) else gd (inb (((24 : Int32) * l1) + l3) 192) ((if (w 7 ((((24 : Int32) * l1) + l3)).toNatClampNeg) = (59 : Int32) then nmd (l2 + (1 : Int32)) fun v6 => some (.inl (v6, (l3 + 1))) else nmd (l2 + (0 : Int32)) fun v5 => some (.inl (v5, (l3 + 1)))))))
def m_commands_x23 (w : Wt) : Int32 → Option (Int32 × Wt)
  | l2 => m_commands_b63 l2 w
def m_commands (a1 : Int32) (w : Wt) : Option (Int32 × Wt) := Option.bind (m_isBelow a1 (w 0 11)) fun x7 => Option.bind (m_goes x7 (1 : Int32) (1 : Int32) w) fun x8 => (if x8.1 = (0 : Int32) then some ((0 : Int32), x8.2) else Option.bind (lp (m_commands_L23 a1 x8.2) FU ((0 : Int32), (0 : Int32))) (m_commands_x23 x8.2))
def RM_m_commands : Room := { frames := 1, cells := 0, slots := 0, locals := 23 }
set_option maxHeartbeats 4000000 in
set_option maxRecDepth 20000 in
theorem k_m_commands (a1 : Int32) (w : Wt) (z : (Int32 × Wt)) (hx : p.tables.exec = Jvm.exec) (hb : c.code = cX10_commands) (hml : c.maxLocals = 4) (C : Cx EVm KM D dA q A s m args RX10) (fin : ∀ (H : Heap) (locs : List Loc) (ls : Array Slot) (r' : Int32) (w2 : Wt) (pc : Nat) , Sta KM D dA q A s.heap w2 H locs → some (r', w2) = some z → decode cX10_commands pc = .ok (.ireturn, 1) → W p l e RM_m_commands s m args below meth c H locs 0 0 Q (F0 m pc ls [.int r'])) : ∀ (H : Heap) (locs : List Loc) (ls : Array Slot), lv_has ls 4 [(0, .ref (q 0)), (1, .int a1)] → Sta KM D dA q A s.heap w H locs → m_commands a1 w = some z → W p l e RM_m_commands s m args below meth c H locs 0 0 Q (F0 m 0 ls []) := by
  have ev : evOk EVm := EVm_ok
  have lab63 : ∀ (l2 : Int32) (w : Wt) (H : Heap) (locs : List Loc) (ls : Array Slot), lv_has ls 4 [(2, .int l2)] → Sta KM D dA q A s.heap w H locs → Option.bind (m_commands_b63 l2 w) some = some z → W p l e RM_m_commands s m args below meth c H locs 0 0 Q (F0 m 63 ls []) := by
    intro l2 w H locs ls hl S h
    unfold m_commands_b63 at h
    refine lv_iload_n hx hb dX10_commands_63 rfl (lv_at hl 0 rfl) ?_
    exact fin _ _ _ l2 w _ S h dX10_commands_64
  have loop23 : ∀ (l1 : Int32) (w : Wt) (n23 : Nat), ∀ (l2 : Int32) (l3 : Int32) (H : Heap) (locs : List Loc) (ls : Array Slot), lv_has ls 4 [(0, .ref (q 0)), (1, .int l1), (2, .int l2), (3, .int l3)] → Sta KM D dA q A s.heap w H locs → Option.bind (lp (m_commands_L23 l1 w) n23 (l2, l3)) (fun x9 => Option.bind (m_commands_x23 w x9) some) = some z → W p l e RM_m_commands s m args below meth c H locs 0 0 Q (F0 m 23 ls []) := by
    intro l1 w n23
    induction n23 with
    | zero =>
      intro l2 l3 H locs ls hl S h
      exact (h_lp0 h).elim
    | succ n23 ih23 =>
      intro l2 l3 H locs ls hl S h
      have h := h_lp h
      unfold m_commands_L23 at h
      refine lv_iload_n hx hb dX10_commands_23 rfl (lv_at hl 3 rfl) ?_
      refine lv_aload_n hx hb dX10_commands_24 rfl (lv_at hl 0 rfl) ?_
      refine g_getR fl_RX10_32_X10 hx hb C S KM_0 rfl dX10_commands_25 ?_
      refine lv_iload_n hx hb dX10_commands_28 rfl (lv_at hl 1 rfl) ?_
      obtain ⟨g1, h⟩ := h_gd h
      refine r_iald hx hb C S KM_8 (h_in g1) dX10_commands_29 ?_
      refine lv_icmp_ge (tgt := 63) hx hb dX10_commands_30 rfl (fun c2 => ?_) (fun c2 => ?_)
      · have h := h_t c2 h
        exact lab63 l2 w _ _ _ (lv_sub hl [2] rfl) S h
      · have h := h_f c2 h
        refine lv_iload_n hx hb dX10_commands_33 rfl (lv_at hl 2 rfl) ?_
        refine lv_aload_n hx hb dX10_commands_34 rfl (lv_at hl 0 rfl) ?_
        refine g_getR fl_RX10_29_X10 hx hb C S KM_0 rfl dX10_commands_35 ?_
        refine lv_bipush (v := 24) hx hb dX10_commands_38 (by decide) ?_
        refine lv_iload_n hx hb dX10_commands_40 rfl (lv_at hl 1 rfl) ?_
        refine lv_imul hx hb dX10_commands_41 ?_
        refine lv_iload_n hx hb dX10_commands_42 rfl (lv_at hl 3 rfl) ?_
        refine lv_iadd hx hb dX10_commands_43 ?_
        obtain ⟨g3, h⟩ := h_gd h
        refine r_iald hx hb C S KM_7 (h_in g3) dX10_commands_44 ?_
        refine lv_bipush (v := 59) hx hb dX10_commands_45 (by decide) ?_
        refine lv_icmp_ne (tgt := 54) hx hb dX10_commands_47 rfl (fun c4 => ?_) (fun c4 => ?_)
        · have h := h_f c4 h
          refine lv_iconst (v := 0) hx hb dX10_commands_54 (by decide) ?_
          refine lv_iadd hx hb dX10_commands_55 ?_
          refine lv_topi (fun v5 ev5 => ?_)
          have h := h_l h v5 ev5
          refine lv_istore_n (lv' := [(2, .int v5), (0, .ref (q 0)), (1, .int l1), (3, .int l3)]) hx hb dX10_commands_56 rfl hl (Nat.le_of_ble_eq_true rfl) rfl (fun ls hl => ?_)
          refine lv_iinc (v := (l3 + 1)) (lv' := [(3, .int (l3 + 1)), (2, .int v5), (0, .ref (q 0)), (1, .int l1)]) hx hb dX10_commands_57 hl (k := 3) rfl rfl (Nat.le_of_ble_eq_true rfl) rfl (fun ls hl => ?_)
          refine lv_goto (tgt := 23) hx hb dX10_commands_60 rfl ?_
          exact ih23 v5 (l3 + 1) _ _ _ (lv_sub hl [2, 3, 1, 0] rfl) S h
        · have h := h_t c4 h
          refine lv_iconst (v := 1) hx hb dX10_commands_50 (by decide) ?_
          refine lv_goto (tgt := 55) hx hb dX10_commands_51 rfl ?_
          refine lv_iadd hx hb dX10_commands_55 ?_
          refine lv_topi (fun v6 ev6 => ?_)
          have h := h_l h v6 ev6
          refine lv_istore_n (lv' := [(2, .int v6), (0, .ref (q 0)), (1, .int l1), (3, .int l3)]) hx hb dX10_commands_56 rfl hl (Nat.le_of_ble_eq_true rfl) rfl (fun ls hl => ?_)
          refine lv_iinc (v := (l3 + 1)) (lv' := [(3, .int (l3 + 1)), (2, .int v6), (0, .ref (q 0)), (1, .int l1)]) hx hb dX10_commands_57 hl (k := 3) rfl rfl (Nat.le_of_ble_eq_true rfl) rfl (fun ls hl => ?_)
          refine lv_goto (tgt := 23) hx hb dX10_commands_60 rfl ?_
          exact ih23 v6 (l3 + 1) _ _ _ (lv_sub hl [2, 3, 1, 0] rfl) S h
  intro H locs ls hl S h
  have h := h_0 h
  unfold m_commands at h
  refine lv_aload_n hx hb dX10_commands_0 rfl (lv_at hl 0 rfl) ?_
  refine lv_iload_n hx hb dX10_commands_1 rfl (lv_at hl 1 rfl) ?_
  refine lv_aload_n hx hb dX10_commands_2 rfl (lv_at hl 0 rfl) ?_
  refine g_get fl_RX10_147_X10 hx hb C S KM_0 rfl dX10_commands_3 ?_
  obtain ⟨x7, ex7, h⟩ := h_c h
  refine k_i C S (q_S (rest := [.ref (q 0)]) (As := [.int a1, .int (w 0 11)]) lk_RX10_106 ev hx hb hml C S (c_m_isBelow l D dA q a1 (w 0 11) w x7 ex7 _) rfl rfl ⟨(Nat.le_of_ble_eq_true rfl), (Nat.le_of_ble_eq_true rfl)⟩ rfl hl.1 rfl (Nat.le_of_ble_eq_true rfl) dX10_commands_6 ⟨(Nat.le_of_ble_eq_true rfl), (Nat.le_of_ble_eq_true rfl)⟩) (fun H locs S => ?_)
  refine lv_iconst (v := 1) hx hb dX10_commands_9 (by decide) ?_
  refine lv_iconst (v := 1) hx hb dX10_commands_10 (by decide) ?_
  obtain ⟨x8, ex8, h⟩ := h_c h
  refine k_i C S (q_V (rest := []) (As := [.int x7, .int (1 : Int32), .int (1 : Int32)]) lk_RX10_113 ev hx hb hml C S KM_0 rfl (c_m_goes l D dA q x7 (1 : Int32) (1 : Int32) w x8.2 x8.1 ex8 _) rfl rfl ⟨(Nat.le_of_ble_eq_true rfl), (Nat.le_of_ble_eq_true rfl)⟩ rfl hl.1 rfl (Nat.le_of_ble_eq_true rfl) dX10_commands_11 ⟨(Nat.le_of_ble_eq_true rfl), (Nat.le_of_ble_eq_true rfl)⟩) (fun H locs S => ?_)
  refine lv_if_ne (tgt := 19) hx hb dX10_commands_14 rfl (fun c9 => ?_) (fun c9 => ?_)
  · have h := h_f c9 h
    refine lv_iconst (v := 0) hx hb dX10_commands_19 (by decide) ?_
    refine lv_istore_n (lv' := [(2, .int (0 : Int32)), (0, .ref (q 0)), (1, .int a1)]) hx hb dX10_commands_20 rfl hl (Nat.le_of_ble_eq_true rfl) rfl (fun ls hl => ?_)
    refine lv_iconst (v := 0) hx hb dX10_commands_21 (by decide) ?_
    refine lv_istore_n (lv' := [(3, .int (0 : Int32)), (2, .int (0 : Int32)), (0, .ref (q 0)), (1, .int a1)]) hx hb dX10_commands_22 rfl hl (Nat.le_of_ble_eq_true rfl) rfl (fun ls hl => ?_)
    exact loop23 a1 x8.2 FU (0 : Int32) (0 : Int32) _ _ _ (lv_sub hl [2, 3, 1, 0] rfl) S (h_bb h)
  · have h := h_t c9 h
    refine lv_iconst (v := 0) hx hb dX10_commands_17 (by decide) ?_
    exact fin _ _ _ (0 : Int32) x8.2 _ S h dX10_commands_18
theorem c_m_commands (l : Launch) (D : va_G) (dA : Nat → ClassId) (q : Nat → Nat) (a1 : Int32) (w w' : Wt) (r : Int32) (h : m_commands a1 w = some (r, w')) : Mi l EVm KM D dA q yX10_commands cX10_commands 4 (some .int) RM_m_commands [.ref (q 0), .int a1] w r w' :=
  mk_i (by decide) rfl EVm_ok (Nat.le_of_ble_eq_true rfl) (fun p e s m args below meth c A Q ls hx hb hml C S hl fin => k_m_commands a1 w (r, w') hx hb hml C (fun H locs ls r' w2 pc S h d => fin H locs ls r' w2 pc S h d) _ _ _ hl S h)
/-! BallotscriptModel.open(IIII)I m_open -/
def m_open_b69 (l1 : Int32) (l2 : Int32) (l3 : Int32) (l4 : Int32) (t0 : Int32) (t1 : Int32) (t2 : Int32) (w : Wt) : Option (Int32 × Wt) := Option.bind (m_goes t2 t1 t0 w) fun x1 => (if x1.1 = (0 : Int32) then some ((0 : Int32), x1.2) else gd (inb (x1.2 0 20) 8) (nmd (upd2 x1.2 9 ((x1.2 0 20)).toNatClampNeg l1) fun w4 => gd (inb (w4 0 20) 8) (nmd (upd2 w4 10 ((w4 0 20)).toNatClampNeg l2) fun w6 => gd (inb (w6 0 20) 8) (nmd (upd2 w6 11 ((w6 0 20)).toNatClampNeg l3) fun w8 => gd (inb (w8 0 20) 8) (nmd (upd2 w8 12 ((w8 0 20)).toNatClampNeg l4) fun w10 => gd (inb (w10 0 20) 8) (nmd (upd2 w10 14 ((w10 0 20)).toNatClampNeg (-1 : Int32)) fun w12 => nmd (upd2 w12 0 20 ((w12 0 20) + (1 : Int32))) fun w13 => some (((w13 0 20) - (1 : Int32)), w13)))))))
def m_open_b53 (l1 : Int32) (l2 : Int32) (l3 : Int32) (l4 : Int32) (l5 : Int32) (t0 : Int32) (w : Wt) : Option (Int32 × Wt) := (if (8 : Int32) ≤ (w 0 20) then m_open_b69 l1 l2 l3 l4 (0 : Int32) l5 t0 w else m_open_b69 l1 l2 l3 l4 (1 : Int32) l5 t0 w)
def m_open_b52 (l1 : Int32) (l2 : Int32) (l3 : Int32) (l4 : Int32) (l5 : Int32) (w : Wt) : Option (Int32 × Wt) := m_open_b53 l1 l2 l3 l4 l5 (0 : Int32) w
def m_open_b25 (l1 : Int32) (l2 : Int32) (l3 : Int32) (l4 : Int32) (t0 : Int32) (w : Wt) : Option (Int32 × Wt) := Option.bind (m_isBelow l1 (3 : Int32)) fun x15 => (if x15 = (0 : Int32) then m_open_b52 l1 l2 l3 l4 t0 w else Option.bind (m_isBelow l4 (w 0 11)) fun x17 => (if x17 = (0 : Int32) then m_open_b52 l1 l2 l3 l4 t0 w else m_open_b53 l1 l2 l3 l4 t0 (1 : Int32) w))
def m_open_b24 (l1 : Int32) (l2 : Int32) (l3 : Int32) (l4 : Int32) (w : Wt) : Option (Int32 × Wt) := m_open_b25 l1 l2 l3 l4 (0 : Int32) w
def m_open (a1 : Int32) (a2 : Int32) (a3 : Int32) (a4 : Int32) (w : Wt) : Option (Int32 × Wt) := Option.bind (m_isWithin a2 (2 : Int32) (6 : Int32)) fun x19 => (if x19 = (0 : Int32) then m_open_b24 a1 a2 a3 a4 w else (if a3 < (1 : Int32) then m_open_b24 a1 a2 a3 a4 w else (if a2 ≤ a3 then m_open_b24 a1 a2 a3 a4 w else m_open_b25 a1 a2 a3 a4 (1 : Int32) w)))
def RM_m_open : Room := { frames := 1, cells := 0, slots := 0, locals := 23 }
set_option maxHeartbeats 4000000 in
set_option maxRecDepth 20000 in
theorem k_m_open (a1 : Int32) (a2 : Int32) (a3 : Int32) (a4 : Int32) (w : Wt) (z : (Int32 × Wt)) (hx : p.tables.exec = Jvm.exec) (hb : c.code = cX10_open) (hml : c.maxLocals = 6) (C : Cx EVm KM D dA q A s m args RX10) (fin : ∀ (H : Heap) (locs : List Loc) (ls : Array Slot) (r' : Int32) (w2 : Wt) (pc : Nat) , Sta KM D dA q A s.heap w2 H locs → some (r', w2) = some z → decode cX10_open pc = .ok (.ireturn, 1) → W p l e RM_m_open s m args below meth c H locs 0 0 Q (F0 m pc ls [.int r'])) : ∀ (H : Heap) (locs : List Loc) (ls : Array Slot), lv_has ls 6 [(0, .ref (q 0)), (1, .int a1), (2, .int a2), (3, .int a3), (4, .int a4)] → Sta KM D dA q A s.heap w H locs → m_open a1 a2 a3 a4 w = some z → W p l e RM_m_open s m args below meth c H locs 0 0 Q (F0 m 0 ls []) := by
  have ev : evOk EVm := EVm_ok
  have lab69 : ∀ (l1 : Int32) (l2 : Int32) (l3 : Int32) (l4 : Int32) (t0 : Int32) (t1 : Int32) (t2 : Int32) (w : Wt) (H : Heap) (locs : List Loc) (ls : Array Slot), lv_has ls 6 [(0, .ref (q 0)), (1, .int l1), (2, .int l2), (3, .int l3), (4, .int l4)] → Sta KM D dA q A s.heap w H locs → Option.bind (m_open_b69 l1 l2 l3 l4 t0 t1 t2 w) some = some z → W p l e RM_m_open s m args below meth c H locs 0 0 Q (F0 m 69 ls [.int t0, .int t1, .int t2, .ref (q 0)]) := by
    intro l1 l2 l3 l4 t0 t1 t2 w H locs ls hl S h
    unfold m_open_b69 at h
    obtain ⟨x1, ex1, h⟩ := h_c h
    refine k_i C S (q_V (rest := []) (As := [.int t2, .int t1, .int t0]) lk_RX10_113 ev hx hb hml C S KM_0 rfl (c_m_goes l D dA q t2 t1 t0 w x1.2 x1.1 ex1 _) rfl rfl ⟨(Nat.le_of_ble_eq_true rfl), (Nat.le_of_ble_eq_true rfl)⟩ rfl hl.1 rfl (Nat.le_of_ble_eq_true rfl) dX10_open_69 ⟨(Nat.le_of_ble_eq_true rfl), (Nat.le_of_ble_eq_true rfl)⟩) (fun H locs S => ?_)
    refine lv_if_ne (tgt := 77) hx hb dX10_open_72 rfl (fun c2 => ?_) (fun c2 => ?_)
    · have h := h_f c2 h
      refine lv_aload_n hx hb dX10_open_77 rfl (lv_at hl 0 rfl) ?_
      refine g_getR fl_RX10_35_X10 hx hb C S KM_0 rfl dX10_open_78 ?_
      refine lv_aload_n hx hb dX10_open_81 rfl (lv_at hl 0 rfl) ?_
      refine g_get fl_RX10_154_X10 hx hb C S KM_0 rfl dX10_open_82 ?_
      refine lv_iload_n hx hb dX10_open_85 rfl (lv_at hl 1 rfl) ?_
      obtain ⟨g3, h⟩ := h_gd h
      refine r_iast hx hb C S KM_9 (h_in g3) dX10_open_86 (fun w4 ew4 H locs S => ?_)
      have h := h_l h w4 ew4
      refine lv_aload_n hx hb dX10_open_87 rfl (lv_at hl 0 rfl) ?_
      refine g_getR fl_RX10_38_X10 hx hb C S KM_0 rfl dX10_open_88 ?_
      refine lv_aload_n hx hb dX10_open_91 rfl (lv_at hl 0 rfl) ?_
      refine g_get fl_RX10_154_X10 hx hb C S KM_0 rfl dX10_open_92 ?_
      refine lv_iload_n hx hb dX10_open_95 rfl (lv_at hl 2 rfl) ?_
      obtain ⟨g5, h⟩ := h_gd h
      refine r_iast hx hb C S KM_10 (h_in g5) dX10_open_96 (fun w6 ew6 H locs S => ?_)
      have h := h_l h w6 ew6
      refine lv_aload_n hx hb dX10_open_97 rfl (lv_at hl 0 rfl) ?_
      refine g_getR fl_RX10_41_X10 hx hb C S KM_0 rfl dX10_open_98 ?_
      refine lv_aload_n hx hb dX10_open_101 rfl (lv_at hl 0 rfl) ?_
      refine g_get fl_RX10_154_X10 hx hb C S KM_0 rfl dX10_open_102 ?_
      refine lv_iload_n hx hb dX10_open_105 rfl (lv_at hl 3 rfl) ?_
      obtain ⟨g7, h⟩ := h_gd h
      refine r_iast hx hb C S KM_11 (h_in g7) dX10_open_106 (fun w8 ew8 H locs S => ?_)
      have h := h_l h w8 ew8
      refine lv_aload_n hx hb dX10_open_107 rfl (lv_at hl 0 rfl) ?_
      refine g_getR fl_RX10_44_X10 hx hb C S KM_0 rfl dX10_open_108 ?_
      refine lv_aload_n hx hb dX10_open_111 rfl (lv_at hl 0 rfl) ?_
      refine g_get fl_RX10_154_X10 hx hb C S KM_0 rfl dX10_open_112 ?_
      refine lv_iload hx hb dX10_open_115 (lv_at hl 4 rfl) ?_
      obtain ⟨g9, h⟩ := h_gd h
      refine r_iast hx hb C S KM_12 (h_in g9) dX10_open_117 (fun w10 ew10 H locs S => ?_)
      have h := h_l h w10 ew10
      refine lv_aload_n hx hb dX10_open_118 rfl (lv_at hl 0 rfl) ?_
      refine g_getR fl_RX10_50_X10 hx hb C S KM_0 rfl dX10_open_119 ?_
      refine lv_aload_n hx hb dX10_open_122 rfl (lv_at hl 0 rfl) ?_
      refine g_get fl_RX10_154_X10 hx hb C S KM_0 rfl dX10_open_123 ?_
      refine lv_iconst (v := -1) hx hb dX10_open_126 (by decide) ?_
      obtain ⟨g11, h⟩ := h_gd h
      refine r_iast hx hb C S KM_14 (h_in g11) dX10_open_127 (fun w12 ew12 H locs S => ?_)
      have h := h_l h w12 ew12
      refine lv_aload_n hx hb dX10_open_128 rfl (lv_at hl 0 rfl) ?_
      refine lv_dup hx hb dX10_open_129 rfl ?_
      refine g_get fl_RX10_154_X10 hx hb C S KM_0 rfl dX10_open_130 ?_
      refine lv_iconst (v := 1) hx hb dX10_open_133 (by decide) ?_
      refine lv_iadd hx hb dX10_open_134 ?_
      refine g_put fl_RX10_154_X10 pl_X10_20 hx hb C S KM_0 rfl ⟨rfl, rfl⟩ dX10_open_135 (fun w13 ew13 H locs S => ?_)
      have h := h_l h w13 ew13
      refine lv_aload_n hx hb dX10_open_138 rfl (lv_at hl 0 rfl) ?_
      refine g_get fl_RX10_154_X10 hx hb C S KM_0 rfl dX10_open_139 ?_
      refine lv_iconst (v := 1) hx hb dX10_open_142 (by decide) ?_
      refine lv_isub hx hb dX10_open_143 ?_
      exact fin _ _ _ ((w13 0 20) - (1 : Int32)) w13 _ S h dX10_open_144
    · have h := h_t c2 h
      refine lv_iconst (v := 0) hx hb dX10_open_75 (by decide) ?_
      exact fin _ _ _ (0 : Int32) x1.2 _ S h dX10_open_76
  have lab53 : ∀ (l1 : Int32) (l2 : Int32) (l3 : Int32) (l4 : Int32) (l5 : Int32) (t0 : Int32) (w : Wt) (H : Heap) (locs : List Loc) (ls : Array Slot), lv_has ls 6 [(0, .ref (q 0)), (1, .int l1), (2, .int l2), (3, .int l3), (4, .int l4), (5, .int l5)] → Sta KM D dA q A s.heap w H locs → Option.bind (m_open_b53 l1 l2 l3 l4 l5 t0 w) some = some z → W p l e RM_m_open s m args below meth c H locs 0 0 Q (F0 m 53 ls [.int t0, .ref (q 0)]) := by
    intro l1 l2 l3 l4 l5 t0 w H locs ls hl S h
    unfold m_open_b53 at h
    refine lv_iload hx hb dX10_open_53 (lv_at hl 5 rfl) ?_
    refine lv_aload_n hx hb dX10_open_55 rfl (lv_at hl 0 rfl) ?_
    refine g_get fl_RX10_154_X10 hx hb C S KM_0 rfl dX10_open_56 ?_
    refine lv_bipush (v := 8) hx hb dX10_open_59 (by decide) ?_
    refine lv_icmp_ge (tgt := 68) hx hb dX10_open_61 rfl (fun c14 => ?_) (fun c14 => ?_)
    · have h := h_t c14 h
      refine lv_iconst (v := 0) hx hb dX10_open_68 (by decide) ?_
      exact lab69 l1 l2 l3 l4 (0 : Int32) l5 t0 w _ _ _ (lv_sub hl [0, 1, 2, 3, 4] rfl) S h
    · have h := h_f c14 h
      refine lv_iconst (v := 1) hx hb dX10_open_64 (by decide) ?_
      refine lv_goto (tgt := 69) hx hb dX10_open_65 rfl ?_
      exact lab69 l1 l2 l3 l4 (1 : Int32) l5 t0 w _ _ _ (lv_sub hl [0, 1, 2, 3, 4] rfl) S h
  have lab52 : ∀ (l1 : Int32) (l2 : Int32) (l3 : Int32) (l4 : Int32) (l5 : Int32) (w : Wt) (H : Heap) (locs : List Loc) (ls : Array Slot), lv_has ls 6 [(0, .ref (q 0)), (1, .int l1), (2, .int l2), (3, .int l3), (4, .int l4), (5, .int l5)] → Sta KM D dA q A s.heap w H locs → Option.bind (m_open_b52 l1 l2 l3 l4 l5 w) some = some z → W p l e RM_m_open s m args below meth c H locs 0 0 Q (F0 m 52 ls [.ref (q 0)]) := by
    intro l1 l2 l3 l4 l5 w H locs ls hl S h
    unfold m_open_b52 at h
    refine lv_iconst (v := 0) hx hb dX10_open_52 (by decide) ?_
    exact lab53 l1 l2 l3 l4 l5 (0 : Int32) w _ _ _ (lv_sub hl [0, 1, 2, 3, 4, 5] rfl) S h
  have lab25 : ∀ (l1 : Int32) (l2 : Int32) (l3 : Int32) (l4 : Int32) (t0 : Int32) (w : Wt) (H : Heap) (locs : List Loc) (ls : Array Slot), lv_has ls 6 [(0, .ref (q 0)), (1, .int l1), (2, .int l2), (3, .int l3), (4, .int l4)] → Sta KM D dA q A s.heap w H locs → Option.bind (m_open_b25 l1 l2 l3 l4 t0 w) some = some z → W p l e RM_m_open s m args below meth c H locs 0 0 Q (F0 m 25 ls [.int t0]) := by
    intro l1 l2 l3 l4 t0 w H locs ls hl S h
    unfold m_open_b25 at h
    refine lv_istore (lv' := [(5, .int t0), (0, .ref (q 0)), (1, .int l1), (2, .int l2), (3, .int l3), (4, .int l4)]) hx hb dX10_open_25 hl (Nat.le_of_ble_eq_true rfl) rfl (fun ls hl => ?_)
    refine lv_aload_n hx hb dX10_open_27 rfl (lv_at hl 1 rfl) ?_
    refine lv_iload_n hx hb dX10_open_28 rfl (lv_at hl 2 rfl) ?_
    refine lv_iconst (v := 3) hx hb dX10_open_29 (by decide) ?_
    obtain ⟨x15, ex15, h⟩ := h_c h
    refine k_i C S (q_S (rest := [.ref (q 0)]) (As := [.int l1, .int (3 : Int32)]) lk_RX10_106 ev hx hb hml C S (c_m_isBelow l D dA q l1 (3 : Int32) w x15 ex15 _) rfl rfl ⟨(Nat.le_of_ble_eq_true rfl), (Nat.le_of_ble_eq_true rfl)⟩ rfl hl.1 rfl (Nat.le_of_ble_eq_true rfl) dX10_open_30 ⟨(Nat.le_of_ble_eq_true rfl), (Nat.le_of_ble_eq_true rfl)⟩) (fun H locs S => ?_)
    refine lv_if_eq (tgt := 52) hx hb dX10_open_33 rfl (fun c16 => ?_) (fun c16 => ?_)
    · have h := h_t c16 h
      exact lab52 l1 l2 l3 l4 t0 w _ _ _ (lv_sub hl [1, 2, 3, 4, 5, 0] rfl) S h
    · have h := h_f c16 h
      refine lv_iload hx hb dX10_open_36 (lv_at hl 5 rfl) ?_
      refine lv_aload_n hx hb dX10_open_38 rfl (lv_at hl 1 rfl) ?_
      refine g_get fl_RX10_147_X10 hx hb C S KM_0 rfl dX10_open_39 ?_
      obtain ⟨x17, ex17, h⟩ := h_c h
      refine k_i C S (q_S (rest := [.ref (q 0)]) (As := [.int l4, .int (w 0 11)]) lk_RX10_106 ev hx hb hml C S (c_m_isBelow l D dA q l4 (w 0 11) w x17 ex17 _) rfl rfl ⟨(Nat.le_of_ble_eq_true rfl), (Nat.le_of_ble_eq_true rfl)⟩ rfl hl.1 rfl (Nat.le_of_ble_eq_true rfl) dX10_open_42 ⟨(Nat.le_of_ble_eq_true rfl), (Nat.le_of_ble_eq_true rfl)⟩) (fun H locs S => ?_)
      refine lv_if_eq (tgt := 52) hx hb dX10_open_45 rfl (fun c18 => ?_) (fun c18 => ?_)
      · have h := h_t c18 h
        exact lab52 l1 l2 l3 l4 t0 w _ _ _ (lv_sub hl [1, 2, 3, 4, 5, 0] rfl) S h
      · have h := h_f c18 h
        refine lv_iconst (v := 1) hx hb dX10_open_48 (by decide) ?_
        refine lv_goto (tgt := 53) hx hb dX10_open_49 rfl ?_
        exact lab53 l1 l2 l3 l4 t0 (1 : Int32) w _ _ _ (lv_sub hl [1, 2, 3, 4, 5, 0] rfl) S h
  have lab24 : ∀ (l1 : Int32) (l2 : Int32) (l3 : Int32) (l4 : Int32) (w : Wt) (H : Heap) (locs : List Loc) (ls : Array Slot), lv_has ls 6 [(0, .ref (q 0)), (1, .int l1), (2, .int l2), (3, .int l3), (4, .int l4)] → Sta KM D dA q A s.heap w H locs → Option.bind (m_open_b24 l1 l2 l3 l4 w) some = some z → W p l e RM_m_open s m args below meth c H locs 0 0 Q (F0 m 24 ls []) := by
    intro l1 l2 l3 l4 w H locs ls hl S h
    unfold m_open_b24 at h
    refine lv_iconst (v := 0) hx hb dX10_open_24 (by decide) ?_
    exact lab25 l1 l2 l3 l4 (0 : Int32) w _ _ _ (lv_sub hl [0, 1, 2, 3, 4] rfl) S h
  intro H locs ls hl S h
  have h := h_0 h
  unfold m_open at h
  refine lv_iload_n hx hb dX10_open_0 rfl (lv_at hl 2 rfl) ?_
  refine lv_iconst (v := 2) hx hb dX10_open_1 (by decide) ?_
  refine lv_bipush (v := 6) hx hb dX10_open_2 (by decide) ?_
  obtain ⟨x19, ex19, h⟩ := h_c h
  refine k_i C S (q_S (rest := []) (As := [.int a2, .int (2 : Int32), .int (6 : Int32)]) lk_RX10_102 ev hx hb hml C S (c_m_isWithin l D dA q a2 (2 : Int32) (6 : Int32) w x19 ex19 _) rfl rfl ⟨(Nat.le_of_ble_eq_true rfl), (Nat.le_of_ble_eq_true rfl)⟩ rfl hl.1 rfl (Nat.le_of_ble_eq_true rfl) dX10_open_4 ⟨(Nat.le_of_ble_eq_true rfl), (Nat.le_of_ble_eq_true rfl)⟩) (fun H locs S => ?_)
  refine lv_if_eq (tgt := 24) hx hb dX10_open_7 rfl (fun c20 => ?_) (fun c20 => ?_)
  · have h := h_t c20 h
    exact lab24 a1 a2 a3 a4 w _ _ _ (lv_sub hl [0, 1, 2, 3, 4] rfl) S h
  · have h := h_f c20 h
    refine lv_iload_n hx hb dX10_open_10 rfl (lv_at hl 3 rfl) ?_
    refine lv_iconst (v := 1) hx hb dX10_open_11 (by decide) ?_
    refine lv_icmp_lt (tgt := 24) hx hb dX10_open_12 rfl (fun c21 => ?_) (fun c21 => ?_)
    · have h := h_t c21 h
      exact lab24 a1 a2 a3 a4 w _ _ _ (lv_sub hl [0, 1, 2, 3, 4] rfl) S h
    · have h := h_f c21 h
      refine lv_iload_n hx hb dX10_open_15 rfl (lv_at hl 3 rfl) ?_
      refine lv_iload_n hx hb dX10_open_16 rfl (lv_at hl 2 rfl) ?_
      refine lv_icmp_ge (tgt := 24) hx hb dX10_open_17 rfl (fun c22 => ?_) (fun c22 => ?_)
      · have h := h_t c22 h
        exact lab24 a1 a2 a3 a4 w _ _ _ (lv_sub hl [0, 1, 2, 3, 4] rfl) S h
      · have h := h_f c22 h
        refine lv_iconst (v := 1) hx hb dX10_open_20 (by decide) ?_
        refine lv_goto (tgt := 25) hx hb dX10_open_21 rfl ?_
        exact lab25 a1 a2 a3 a4 (1 : Int32) w _ _ _ (lv_sub hl [0, 1, 2, 3, 4] rfl) S h
theorem c_m_open (l : Launch) (D : va_G) (dA : Nat → ClassId) (q : Nat → Nat) (a1 : Int32) (a2 : Int32) (a3 : Int32) (a4 : Int32) (w w' : Wt) (r : Int32) (h : m_open a1 a2 a3 a4 w = some (r, w')) : Mi l EVm KM D dA q yX10_open cX10_open 6 (some .int) RM_m_open [.ref (q 0), .int a1, .int a2, .int a3, .int a4] w r w' :=
  mk_i (by decide) rfl EVm_ok (Nat.le_of_ble_eq_true rfl) (fun p e s m args below meth c A Q ls hx hb hml C S hl fin => k_m_open a1 a2 a3 a4 w (r, w') hx hb hml C (fun H locs ls r' w2 pc S h d => fin H locs ls r' w2 pc S h d) _ _ _ hl S h)
/-! BallotscriptModel.countingIn(I)I m_countingIn -/
def m_countingIn_b44 (l2 : Int32) (w : Wt) : Option Int32 := some l2
def m_countingIn_L4 (l1 : Int32) (w : Wt) : (Int32 × Int32) → Option ((Int32 × Int32) ⊕ Int32)
  | (l2, l3) => (if (w 0 27) ≤ l3 then some (.inr l2) else gd (inb l3 100) ((if (w 19 (l3).toNatClampNeg) = l1 then Option.bind (m_reason l3 w) fun x5 => (if x5 = (0 : Int32) then nmd (l2 + (1 : Int32)) fun v8 => some (.inl (v8, (l3 + 1))) else nmd (l2 + (0 : Int32)) fun v7 => some (.inl (v7, (l3 + 1)))) else nmd (l2 + (0 : Int32)) fun v4 => some (.inl (v4, (l3 + 1))))))
def m_countingIn_x4 (w : Wt) : Int32 → Option Int32
  | l2 => m_countingIn_b44 l2 w
def m_countingIn (a1 : Int32) (w : Wt) : Option Int32 := Option.bind (lp (m_countingIn_L4 a1 w) FU ((0 : Int32), (0 : Int32))) (m_countingIn_x4 w)
def RM_m_countingIn : Room := { frames := 3, cells := 0, slots := 0, locals := 70 }
set_option maxHeartbeats 4000000 in
set_option maxRecDepth 20000 in
theorem k_m_countingIn (a1 : Int32) (w : Wt) (z : Int32) (hx : p.tables.exec = Jvm.exec) (hb : c.code = cX10_countingIn) (hml : c.maxLocals = 4) (C : Cx EVm KM D dA q A s m args RX10) (fin : ∀ (H : Heap) (locs : List Loc) (ls : Array Slot) (r' : Int32) (pc : Nat) , Sta KM D dA q A s.heap w H locs → some r' = some z → decode cX10_countingIn pc = .ok (.ireturn, 1) → W p l e RM_m_countingIn s m args below meth c H locs 0 0 Q (F0 m pc ls [.int r'])) : ∀ (H : Heap) (locs : List Loc) (ls : Array Slot), lv_has ls 4 [(0, .ref (q 0)), (1, .int a1)] → Sta KM D dA q A s.heap w H locs → m_countingIn a1 w = some z → W p l e RM_m_countingIn s m args below meth c H locs 0 0 Q (F0 m 0 ls []) := by
  have ev : evOk EVm := EVm_ok
  have lab44 : ∀ (l2 : Int32) (H : Heap) (locs : List Loc) (ls : Array Slot), lv_has ls 4 [(2, .int l2)] → Sta KM D dA q A s.heap w H locs → Option.bind (m_countingIn_b44 l2 w) some = some z → W p l e RM_m_countingIn s m args below meth c H locs 0 0 Q (F0 m 44 ls []) := by
    intro l2 H locs ls hl S h
    unfold m_countingIn_b44 at h
    refine lv_iload_n hx hb dX10_countingIn_44 rfl (lv_at hl 0 rfl) ?_
    exact fin _ _ _ l2 _ S h dX10_countingIn_45
  have loop4 : ∀ (l1 : Int32) (n4 : Nat), ∀ (l2 : Int32) (l3 : Int32) (H : Heap) (locs : List Loc) (ls : Array Slot), lv_has ls 4 [(0, .ref (q 0)), (1, .int l1), (2, .int l2), (3, .int l3)] → Sta KM D dA q A s.heap w H locs → Option.bind (lp (m_countingIn_L4 l1 w) n4 (l2, l3)) (fun x9 => Option.bind (m_countingIn_x4 w x9) some) = some z → W p l e RM_m_countingIn s m args below meth c H locs 0 0 Q (F0 m 4 ls []) := by
    intro l1 n4
    induction n4 with
    | zero =>
      intro l2 l3 H locs ls hl S h
      exact (h_lp0 h).elim
    | succ n4 ih4 =>
      intro l2 l3 H locs ls hl S h
      have h := h_lp h
      unfold m_countingIn_L4 at h
      refine lv_iload_n hx hb dX10_countingIn_4 rfl (lv_at hl 3 rfl) ?_
      refine lv_aload_n hx hb dX10_countingIn_5 rfl (lv_at hl 0 rfl) ?_
      refine g_get fl_RX10_117_X10 hx hb C S KM_0 rfl dX10_countingIn_6 ?_
      refine lv_icmp_ge (tgt := 44) hx hb dX10_countingIn_9 rfl (fun c1 => ?_) (fun c1 => ?_)
      · have h := h_t c1 h
        exact lab44 l2 _ _ _ (lv_sub hl [2] rfl) S h
      · have h := h_f c1 h
        refine lv_iload_n hx hb dX10_countingIn_12 rfl (lv_at hl 2 rfl) ?_
        refine lv_aload_n hx hb dX10_countingIn_13 rfl (lv_at hl 0 rfl) ?_
        refine g_getR fl_RX10_65_X10 hx hb C S KM_0 rfl dX10_countingIn_14 ?_
        refine lv_iload_n hx hb dX10_countingIn_17 rfl (lv_at hl 3 rfl) ?_
        obtain ⟨g2, h⟩ := h_gd h
        refine r_iald hx hb C S KM_19 (h_in g2) dX10_countingIn_18 ?_
        refine lv_iload_n hx hb dX10_countingIn_19 rfl (lv_at hl 1 rfl) ?_
        refine lv_icmp_ne (tgt := 35) hx hb dX10_countingIn_20 rfl (fun c3 => ?_) (fun c3 => ?_)
        · have h := h_f c3 h
          refine lv_iconst (v := 0) hx hb dX10_countingIn_35 (by decide) ?_
          refine lv_iadd hx hb dX10_countingIn_36 ?_
          refine lv_topi (fun v4 ev4 => ?_)
          have h := h_l h v4 ev4
          refine lv_istore_n (lv' := [(2, .int v4), (0, .ref (q 0)), (1, .int l1), (3, .int l3)]) hx hb dX10_countingIn_37 rfl hl (Nat.le_of_ble_eq_true rfl) rfl (fun ls hl => ?_)
          refine lv_iinc (v := (l3 + 1)) (lv' := [(3, .int (l3 + 1)), (2, .int v4), (0, .ref (q 0)), (1, .int l1)]) hx hb dX10_countingIn_38 hl (k := 3) rfl rfl (Nat.le_of_ble_eq_true rfl) rfl (fun ls hl => ?_)
          refine lv_goto (tgt := 4) hx hb dX10_countingIn_41 rfl ?_
          exact ih4 v4 (l3 + 1) _ _ _ (lv_sub hl [2, 3, 1, 0] rfl) S h
        · have h := h_t c3 h
          refine lv_aload_n hx hb dX10_countingIn_23 rfl (lv_at hl 0 rfl) ?_
          refine lv_iload_n hx hb dX10_countingIn_24 rfl (lv_at hl 3 rfl) ?_
          obtain ⟨x5, ex5, h⟩ := h_c h
          refine k_i C S (q_V (rest := [.int l2]) (As := [.int l3]) lk_RX10_120 ev hx hb hml C S KM_0 rfl (c_m_reason l D dA q l3 w x5 ex5 _) rfl rfl ⟨(Nat.le_of_ble_eq_true rfl), (Nat.le_of_ble_eq_true rfl)⟩ rfl hl.1 rfl (Nat.le_of_ble_eq_true rfl) dX10_countingIn_25 ⟨(Nat.le_of_ble_eq_true rfl), (Nat.le_of_ble_eq_true rfl)⟩) (fun H locs S => ?_)
          refine lv_if_ne (tgt := 35) hx hb dX10_countingIn_28 rfl (fun c6 => ?_) (fun c6 => ?_)
          · have h := h_f c6 h
            refine lv_iconst (v := 0) hx hb dX10_countingIn_35 (by decide) ?_
            refine lv_iadd hx hb dX10_countingIn_36 ?_
            refine lv_topi (fun v7 ev7 => ?_)
            have h := h_l h v7 ev7
            refine lv_istore_n (lv' := [(2, .int v7), (0, .ref (q 0)), (1, .int l1), (3, .int l3)]) hx hb dX10_countingIn_37 rfl hl (Nat.le_of_ble_eq_true rfl) rfl (fun ls hl => ?_)
            refine lv_iinc (v := (l3 + 1)) (lv' := [(3, .int (l3 + 1)), (2, .int v7), (0, .ref (q 0)), (1, .int l1)]) hx hb dX10_countingIn_38 hl (k := 3) rfl rfl (Nat.le_of_ble_eq_true rfl) rfl (fun ls hl => ?_)
            refine lv_goto (tgt := 4) hx hb dX10_countingIn_41 rfl ?_
            exact ih4 v7 (l3 + 1) _ _ _ (lv_sub hl [2, 3, 1, 0] rfl) S h
          · have h := h_t c6 h
            refine lv_iconst (v := 1) hx hb dX10_countingIn_31 (by decide) ?_
            refine lv_goto (tgt := 36) hx hb dX10_countingIn_32 rfl ?_
            refine lv_iadd hx hb dX10_countingIn_36 ?_
            refine lv_topi (fun v8 ev8 => ?_)
            have h := h_l h v8 ev8
            refine lv_istore_n (lv' := [(2, .int v8), (0, .ref (q 0)), (1, .int l1), (3, .int l3)]) hx hb dX10_countingIn_37 rfl hl (Nat.le_of_ble_eq_true rfl) rfl (fun ls hl => ?_)
            refine lv_iinc (v := (l3 + 1)) (lv' := [(3, .int (l3 + 1)), (2, .int v8), (0, .ref (q 0)), (1, .int l1)]) hx hb dX10_countingIn_38 hl (k := 3) rfl rfl (Nat.le_of_ble_eq_true rfl) rfl (fun ls hl => ?_)
            refine lv_goto (tgt := 4) hx hb dX10_countingIn_41 rfl ?_
            exact ih4 v8 (l3 + 1) _ _ _ (lv_sub hl [2, 3, 1, 0] rfl) S h
  intro H locs ls hl S h
  have h := h_0 h
  unfold m_countingIn at h
  refine lv_iconst (v := 0) hx hb dX10_countingIn_0 (by decide) ?_
  refine lv_istore_n (lv' := [(2, .int (0 : Int32)), (0, .ref (q 0)), (1, .int a1)]) hx hb dX10_countingIn_1 rfl hl (Nat.le_of_ble_eq_true rfl) rfl (fun ls hl => ?_)
  refine lv_iconst (v := 0) hx hb dX10_countingIn_2 (by decide) ?_
  refine lv_istore_n (lv' := [(3, .int (0 : Int32)), (2, .int (0 : Int32)), (0, .ref (q 0)), (1, .int a1)]) hx hb dX10_countingIn_3 rfl hl (Nat.le_of_ble_eq_true rfl) rfl (fun ls hl => ?_)
  exact loop4 a1 FU (0 : Int32) (0 : Int32) _ _ _ (lv_sub hl [2, 3, 1, 0] rfl) S (h_bb h)
theorem c_m_countingIn (l : Launch) (D : va_G) (dA : Nat → ClassId) (q : Nat → Nat) (a1 : Int32) (w : Wt) (r : Int32) (h : m_countingIn a1 w = some r) : Mi l EVm KM D dA q yX10_countingIn cX10_countingIn 4 (some .int) RM_m_countingIn [.ref (q 0), .int a1] w r w :=
  mk_i (by decide) rfl EVm_ok (Nat.le_of_ble_eq_true rfl) (fun p e s m args below meth c A Q ls hx hb hml C S hl fin => k_m_countingIn a1 w r hx hb hml C (fun H locs ls r' pc S h d => fin H locs ls r' w pc S (by rw [Option.some.inj h]) d) _ _ _ hl S h)
/-! BallotscriptModel.close(I)I m_close -/
def m_close_b29 (l1 : Int32) (t0 : Int32) (t1 : Int32) (w : Wt) : Option (Int32 × Wt) := Option.bind (m_goes t1 t0 (1 : Int32) w) fun x1 => (if x1.1 = (0 : Int32) then some ((0 : Int32), x1.2) else gd (inb l1 8) (nmd (upd2 x1.2 13 (l1).toNatClampNeg (vp_nar .boolean (1 : Int32))) fun w4 => Option.bind (m_countingIn l1 w4) fun x5 => some (x5, w4)))
def m_close_b28 (l1 : Int32) (t0 : Int32) (w : Wt) : Option (Int32 × Wt) := m_close_b29 l1 (0 : Int32) t0 w
def m_close (a1 : Int32) (w : Wt) : Option (Int32 × Wt) := Option.bind (m_isBelow a1 (w 0 20)) fun x6 => (if x6 = (0 : Int32) then m_close_b28 a1 x6 w else gd (inb a1 8) ((if (w 13 (a1).toNatClampNeg) = (0 : Int32) then m_close_b29 a1 (1 : Int32) x6 w else m_close_b28 a1 x6 w)))
def RM_m_close : Room := { frames := 4, cells := 0, slots := 0, locals := 93 }
set_option maxHeartbeats 4000000 in
set_option maxRecDepth 20000 in
theorem k_m_close (a1 : Int32) (w : Wt) (z : (Int32 × Wt)) (hx : p.tables.exec = Jvm.exec) (hb : c.code = cX10_close) (hml : c.maxLocals = 3) (C : Cx EVm KM D dA q A s m args RX10) (fin : ∀ (H : Heap) (locs : List Loc) (ls : Array Slot) (r' : Int32) (w2 : Wt) (pc : Nat) , Sta KM D dA q A s.heap w2 H locs → some (r', w2) = some z → decode cX10_close pc = .ok (.ireturn, 1) → W p l e RM_m_close s m args below meth c H locs 0 0 Q (F0 m pc ls [.int r'])) : ∀ (H : Heap) (locs : List Loc) (ls : Array Slot), lv_has ls 3 [(0, .ref (q 0)), (1, .int a1)] → Sta KM D dA q A s.heap w H locs → m_close a1 w = some z → W p l e RM_m_close s m args below meth c H locs 0 0 Q (F0 m 0 ls []) := by
  have ev : evOk EVm := EVm_ok
  have lab29 : ∀ (l1 : Int32) (t0 : Int32) (t1 : Int32) (w : Wt) (H : Heap) (locs : List Loc) (ls : Array Slot), lv_has ls 3 [(0, .ref (q 0)), (1, .int l1)] → Sta KM D dA q A s.heap w H locs → Option.bind (m_close_b29 l1 t0 t1 w) some = some z → W p l e RM_m_close s m args below meth c H locs 0 0 Q (F0 m 29 ls [.int t0, .int t1, .ref (q 0)]) := by
    intro l1 t0 t1 w H locs ls hl S h
    unfold m_close_b29 at h
    refine lv_iconst (v := 1) hx hb dX10_close_29 (by decide) ?_
    obtain ⟨x1, ex1, h⟩ := h_c h
    refine k_i C S (q_V (rest := []) (As := [.int t1, .int t0, .int (1 : Int32)]) lk_RX10_113 ev hx hb hml C S KM_0 rfl (c_m_goes l D dA q t1 t0 (1 : Int32) w x1.2 x1.1 ex1 _) rfl rfl ⟨(Nat.le_of_ble_eq_true rfl), (Nat.le_of_ble_eq_true rfl)⟩ rfl hl.1 rfl (Nat.le_of_ble_eq_true rfl) dX10_close_30 ⟨(Nat.le_of_ble_eq_true rfl), (Nat.le_of_ble_eq_true rfl)⟩) (fun H locs S => ?_)
    refine lv_if_ne (tgt := 38) hx hb dX10_close_33 rfl (fun c2 => ?_) (fun c2 => ?_)
    · have h := h_f c2 h
      refine lv_aload_n hx hb dX10_close_38 rfl (lv_at hl 0 rfl) ?_
      refine g_getR fl_RX10_47_X10 hx hb C S KM_0 rfl dX10_close_39 ?_
      refine lv_iload_n hx hb dX10_close_42 rfl (lv_at hl 1 rfl) ?_
      refine lv_iconst (v := 1) hx hb dX10_close_43 (by decide) ?_
      obtain ⟨g3, h⟩ := h_gd h
      refine r_zast hx hb C S KM_13 (h_in g3) dX10_close_44 (fun w4 ew4 H locs S => ?_)
      have h := h_l h w4 ew4
      refine lv_aload_n hx hb dX10_close_45 rfl (lv_at hl 0 rfl) ?_
      refine lv_iload_n hx hb dX10_close_46 rfl (lv_at hl 1 rfl) ?_
      obtain ⟨x5, ex5, h⟩ := h_c h
      refine k_i C S (q_V (rest := []) (As := [.int l1]) lk_RX10_160 ev hx hb hml C S KM_0 rfl (c_m_countingIn l D dA q l1 w4 x5 ex5 _) rfl rfl ⟨(Nat.le_of_ble_eq_true rfl), (Nat.le_of_ble_eq_true rfl)⟩ rfl hl.1 rfl (Nat.le_of_ble_eq_true rfl) dX10_close_47 ⟨(Nat.le_of_ble_eq_true rfl), (Nat.le_of_ble_eq_true rfl)⟩) (fun H locs S => ?_)
      exact fin _ _ _ x5 w4 _ S h dX10_close_50
    · have h := h_t c2 h
      refine lv_iconst (v := 0) hx hb dX10_close_36 (by decide) ?_
      exact fin _ _ _ (0 : Int32) x1.2 _ S h dX10_close_37
  have lab28 : ∀ (l1 : Int32) (t0 : Int32) (w : Wt) (H : Heap) (locs : List Loc) (ls : Array Slot), lv_has ls 3 [(0, .ref (q 0)), (1, .int l1)] → Sta KM D dA q A s.heap w H locs → Option.bind (m_close_b28 l1 t0 w) some = some z → W p l e RM_m_close s m args below meth c H locs 0 0 Q (F0 m 28 ls [.int t0, .ref (q 0)]) := by
    intro l1 t0 w H locs ls hl S h
    unfold m_close_b28 at h
    refine lv_iconst (v := 0) hx hb dX10_close_28 (by decide) ?_
    exact lab29 l1 (0 : Int32) t0 w _ _ _ (lv_sub hl [0, 1] rfl) S h
  intro H locs ls hl S h
  have h := h_0 h
  unfold m_close at h
  refine lv_iload_n hx hb dX10_close_0 rfl (lv_at hl 1 rfl) ?_
  refine lv_aload_n hx hb dX10_close_1 rfl (lv_at hl 0 rfl) ?_
  refine g_get fl_RX10_154_X10 hx hb C S KM_0 rfl dX10_close_2 ?_
  obtain ⟨x6, ex6, h⟩ := h_c h
  refine k_i C S (q_S (rest := []) (As := [.int a1, .int (w 0 20)]) lk_RX10_106 ev hx hb hml C S (c_m_isBelow l D dA q a1 (w 0 20) w x6 ex6 _) rfl rfl ⟨(Nat.le_of_ble_eq_true rfl), (Nat.le_of_ble_eq_true rfl)⟩ rfl hl.1 rfl (Nat.le_of_ble_eq_true rfl) dX10_close_5 ⟨(Nat.le_of_ble_eq_true rfl), (Nat.le_of_ble_eq_true rfl)⟩) (fun H locs S => ?_)
  refine lv_istore_n (lv' := [(2, .int x6), (0, .ref (q 0)), (1, .int a1)]) hx hb dX10_close_8 rfl hl (Nat.le_of_ble_eq_true rfl) rfl (fun ls hl => ?_)
  refine lv_aload_n hx hb dX10_close_9 rfl (lv_at hl 1 rfl) ?_
  refine lv_iload_n hx hb dX10_close_10 rfl (lv_at hl 0 rfl) ?_
  refine lv_iload_n hx hb dX10_close_11 rfl (lv_at hl 0 rfl) ?_
  refine lv_if_eq (tgt := 28) hx hb dX10_close_12 rfl (fun c7 => ?_) (fun c7 => ?_)
  · have h := h_t c7 h
    exact lab28 a1 x6 w _ _ _ (lv_sub hl [1, 2] rfl) S h
  · have h := h_f c7 h
    refine lv_aload_n hx hb dX10_close_15 rfl (lv_at hl 1 rfl) ?_
    refine g_getR fl_RX10_47_X10 hx hb C S KM_0 rfl dX10_close_16 ?_
    refine lv_iload_n hx hb dX10_close_19 rfl (lv_at hl 2 rfl) ?_
    obtain ⟨g8, h⟩ := h_gd h
    refine r_zald hx hb C S KM_13 (h_in g8) dX10_close_20 ?_
    refine lv_if_ne (tgt := 28) hx hb dX10_close_21 rfl (fun c9 => ?_) (fun c9 => ?_)
    · have h := h_f c9 h
      exact lab28 a1 x6 w _ _ _ (lv_sub hl [1, 2] rfl) S h
    · have h := h_t c9 h
      refine lv_iconst (v := 1) hx hb dX10_close_24 (by decide) ?_
      refine lv_goto (tgt := 29) hx hb dX10_close_25 rfl ?_
      exact lab29 a1 (1 : Int32) x6 w _ _ _ (lv_sub hl [1, 2] rfl) S h
theorem c_m_close (l : Launch) (D : va_G) (dA : Nat → ClassId) (q : Nat → Nat) (a1 : Int32) (w w' : Wt) (r : Int32) (h : m_close a1 w = some (r, w')) : Mi l EVm KM D dA q yX10_close cX10_close 3 (some .int) RM_m_close [.ref (q 0), .int a1] w r w' :=
  mk_i (by decide) rfl EVm_ok (Nat.le_of_ble_eq_true rfl) (fun p e s m args below meth c A Q ls hx hb hml C S hl fin => k_m_close a1 w (r, w') hx hb hml C (fun H locs ls r' w2 pc S h d => fin H locs ls r' w2 pc S h d) _ _ _ hl S h)
end WALKS

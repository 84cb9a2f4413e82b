section WALKS
variable {p : Program} {l : Launch} {e : Env} {s : State} {m : MethodId} {args : Array Value} {below : List Frame} {meth : Method} {c : Code} {Q : State → Prop} {D : va_G} {dA : Nat → ClassId} {q : Nat → Nat} {A : Nat → Prop}
/-! Ballotscript$Box.putRight(I)Z f_Box_putRight -/
def f_Box_putRight (a1 : Int32) (w : Wt) : Option (Int32 × Wt) := gd (inb a1 100) (nmd (w 20 (a1).toNatClampNeg) fun v2 => gd (inb a1 100) (nmd (upd2 w 20 (a1).toNatClampNeg (vp_nar .boolean (0 : Int32))) fun w4 => gd (bob v2) (some (v2, w4))))
def RM_f_Box_putRight : Room := { frames := 0, cells := 0, slots := 0, locals := 0 }
set_option maxHeartbeats 4000000 in
set_option maxRecDepth 20000 in
theorem k_f_Box_putRight (a1 : Int32) (w : Wt) (z : (Int32 × Wt)) (hx : p.tables.exec = Jvm.exec) (hb : c.code = cX0_putRight) (hml : c.maxLocals = 3) (C : Cx EVc KC D dA q A s m args RX0) (fin : ∀ (H : Heap) (locs : List Loc) (ls : Array Slot) (r' : Int32) (w2 : Wt) (pc : Nat) , narrow .boolean (.int r') = .int r' → Sta KC D dA q A s.heap w2 H locs → some (r', w2) = some z → decode cX0_putRight pc = .ok (.ireturn, 1) → W p l e RM_f_Box_putRight s m args below meth c H locs 0 0 Q (F0 m pc ls [.int r'])) : ∀ (H : Heap) (locs : List Loc) (ls : Array Slot), lv_has ls 3 [(0, .ref (q 13)), (1, .int a1)] → Sta KC D dA q A s.heap w H locs → f_Box_putRight a1 w = some z → W p l e RM_f_Box_putRight s m args below meth c H locs 0 0 Q (F0 m 0 ls []) := by
  have ev : evOk EVc := EVc_ok
  intro H locs ls hl S h
  have h := h_0 h
  unfold f_Box_putRight at h
  refine lv_aload_n hx hb dX0_putRight_0 rfl (lv_at hl 0 rfl) ?_
  refine g_getR fl_RX0_30_X0 hx hb C S KC_13 rfl dX0_putRight_1 ?_
  refine lv_iload_n hx hb dX0_putRight_4 rfl (lv_at hl 1 rfl) ?_
  obtain ⟨g1, h⟩ := h_gd h
  refine r_zald hx hb C S KC_20 (h_in g1) dX0_putRight_5 ?_
  refine lv_topi (fun v2 ev2 => ?_)
  have h := h_l h v2 ev2
  refine lv_istore_n (lv' := [(2, .int v2), (0, .ref (q 13)), (1, .int a1)]) hx hb dX0_putRight_6 rfl hl (Nat.le_of_ble_eq_true rfl) rfl (fun ls hl => ?_)
  refine lv_aload_n hx hb dX0_putRight_7 rfl (lv_at hl 1 rfl) ?_
  refine g_getR fl_RX0_30_X0 hx hb C S KC_13 rfl dX0_putRight_8 ?_
  refine lv_iload_n hx hb dX0_putRight_11 rfl (lv_at hl 2 rfl) ?_
  refine lv_iconst (v := 0) hx hb dX0_putRight_12 (by decide) ?_
  obtain ⟨g3, h⟩ := h_gd h
  refine r_zast hx hb C S KC_20 (h_in g3) dX0_putRight_13 (fun w4 ew4 H locs S => ?_)
  have h := h_l h w4 ew4
  refine lv_iload_n hx hb dX0_putRight_14 rfl (lv_at hl 0 rfl) ?_
  obtain ⟨g5, h⟩ := h_gd h
  exact fin _ _ _ v2 w4 _ (bo_of g5).1 S h dX0_putRight_15
theorem c_f_Box_putRight (l : Launch) (D : va_G) (dA : Nat → ClassId) (q : Nat → Nat) (a1 : Int32) (w w' : Wt) (r : Int32) (h : f_Box_putRight a1 w = some (r, w')) : Mi l EVc KC D dA q yX0_putRight cX0_putRight 3 (some .boolean) RM_f_Box_putRight [.ref (q 13), .int a1] w r w' :=
  mk_z (by decide) rfl EVc_ok (Nat.le_of_ble_eq_true rfl) (fun p e s m args below meth c A Q ls hx hb hml C S hl fin => k_f_Box_putRight a1 w (r, w') hx hb hml C (fun H locs ls r' w2 pc hn S h d => fin H locs ls r' w2 pc hn S h d) _ _ _ hl S h)
/-! Ballotscript.sample(III)I f_Ballotscript_sample -/
def f_Ballotscript_sample_b131 (l1 : Int32) (l3 : Int32) (l5 : Int32) (w : Wt) : Option ((Nat ⊕ Int32) × Wt) := gd (inb l1 8) (nmd (upd2 w (64 + (l1).toNatClampNeg) 5 ((w (64 + (l1).toNatClampNeg) 5) + l3)) fun w2 => gd (inb l1 8) (nmd (upd2 w2 (64 + (l1).toNatClampNeg) 6 ((w2 (64 + (l1).toNatClampNeg) 6) + l5)) fun w4 => some (.inr l5, w4)))
def f_Ballotscript_sample_L73 (l1 : Int32) (l3 : Int32) : (Int32 × Int32 × Int32 × Wt) → Option ((Int32 × Int32 × Int32 × Wt) ⊕ (Int32 × Wt))
  | (l4, l5, l6, w) => (if l3 ≤ l6 then some (.inr (l5, w)) else gd (nzb (65536 : Int32)) (nmd ((((1103 : Int32) * l4) + (12345 : Int32)) - (((1103 : Int32) * l4) + (12345 : Int32)) / (65536 : Int32) * (65536 : Int32)) fun v7 => gd (nzb (w 13 10)) (gd (inb (v7 - v7 / (w 13 10) * (w 13 10)) 100) (Option.bind (f_Box_putRight (w 21 ((v7 - v7 / (w 13 10) * (w 13 10))).toNatClampNeg) w) fun x10 => (if x10.1 = (0 : Int32) then some (.inl (v7, l5, (l6 + 1), x10.2)) else some (.inl (v7, (l5 + 1), (l6 + 1), x10.2)))))))
def f_Ballotscript_sample_x73 (l1 : Int32) (l3 : Int32) : (Int32 × Wt) → Option ((Nat ⊕ Int32) × Wt)
  | (l5, w) => f_Ballotscript_sample_b131 l1 l3 l5 w
def f_Ballotscript_sample_b26 (w : Wt) : Option ((Nat ⊕ Int32) × Wt) := some (.inl 1, w)
def f_Ballotscript_sample (a1 : Int32) (a2 : Int32) (a3 : Int32) (w : Wt) : Option ((Nat ⊕ Int32) × Wt) := Option.bind (f_Ballotscript_needVote a1 w) fun x12 => onX x12 (fun k2 => some (.inl k2, w)) (fun _ => Option.bind (f_Ballotscript_isWithin a2 (0 : Int32) (9999 : Int32)) fun x13 => (if x13 = (0 : Int32) then f_Ballotscript_sample_b26 w else Option.bind (f_Ballotscript_isWithin a3 (1 : Int32) (20 : Int32)) fun x15 => (if x15 = (0 : Int32) then f_Ballotscript_sample_b26 w else Option.bind (f_Box_gather a1 w) fun x17 => (if (0 : Int32) < (x17 13 10) then Option.bind (lp (f_Ballotscript_sample_L73 a1 a3) FU (a2, (0 : Int32), (0 : Int32), x17)) (f_Ballotscript_sample_x73 a1 a3) else some (.inl 2, x17)))))
def RM_f_Ballotscript_sample : Room := { frames := 11, cells := 4, slots := 24, locals := 171 }
set_option maxHeartbeats 4000000 in
set_option maxRecDepth 20000 in
theorem k_f_Ballotscript_sample (a1 : Int32) (a2 : Int32) (a3 : Int32) (w : Wt) (z : ((Nat ⊕ Int32) × Wt)) (hfl : l.stackTraces = false) (hx : p.tables.exec = Jvm.exec) (hb : c.code = cX9_sample) (hml : c.maxLocals = 7) (C : Cx EVc KC D dA q A s m args RX9) (fin : ∀ (H : Heap) (locs : List Loc) (ls : Array Slot) (r' : Int32) (w2 : Wt) (pc : Nat) (cl sl : Nat) , cl ≤ 4 → sl ≤ 24 → Sta KC D dA q A s.heap w2 H locs → some ((.inr r' : Nat ⊕ Int32), w2) = some z → decode cX9_sample pc = .ok (.ireturn, 1) → W p l e RM_f_Ballotscript_sample s m args below meth c H locs cl sl Q (F0 m pc ls [.int r'])) (thr : ∀ (H : Heap) (locs : List Loc) (ls : Array Slot) (w2 : Wt) (k pc cl sl : Nat), cl + 1 ≤ 4 → sl + 6 ≤ 24 → ls.size = 7 → Sta KC D dA q A s.heap w2 H locs → some ((.inl k : Nat ⊕ Int32), w2) = some z → thF RX9 cX9_sample pc k → W p l e RM_f_Ballotscript_sample s m args below meth c H locs cl sl Q (F0 m pc ls [])) (pro : ∀ (H : Heap) (locs : List Loc) (ls : Array Slot) (w2 : Wt) (k pc cl sl : Nat) (rest : List Value) (q9 : Nat) (ce : Cell), cl ≤ 4 → sl ≤ 24 → Sta KC D dA q A s.heap w2 H locs → some ((.inl k : Nat ⊕ Int32), w2) = some z → H[q9]? = some ce → ce.vm = .none → s.vm.findClass (exn k) = some ce.cls → vx_W p l e RM_f_Ballotscript_sample s m args below meth c H locs cl sl Q (F0 m pc ls rest) q9) : ∀ (H : Heap) (locs : List Loc) (ls : Array Slot), lv_has ls 7 [(0, .ref (q 0)), (1, .int a1), (2, .int a2), (3, .int a3)] → Sta KC D dA q A s.heap w H locs → f_Ballotscript_sample a1 a2 a3 w = some z → W p l e RM_f_Ballotscript_sample s m args below meth c H locs 0 0 Q (F0 m 0 ls []) := by
  have ev : evOk EVc := EVc_ok
  have lab131 : ∀ (l1 : Int32) (l3 : Int32) (l5 : Int32) (w : Wt) (H : Heap) (locs : List Loc) (ls : Array Slot), lv_has ls 7 [(0, .ref (q 0)), (1, .int l1), (3, .int l3), (5, .int l5)] → Sta KC D dA q A s.heap w H locs → Option.bind (f_Ballotscript_sample_b131 l1 l3 l5 w) some = some z → W p l e RM_f_Ballotscript_sample s m args below meth c H locs 1 6 Q (F0 m 131 ls []) := by
    intro l1 l3 l5 w H locs ls hl S h
    unfold f_Ballotscript_sample_b131 at h
    refine lv_aload_n hx hb dX9_sample_131 rfl (lv_at hl 0 rfl) ?_
    refine g_getR fl_RX9_31_X9 hx hb C S KC_0 rfl dX9_sample_132 ?_
    refine lv_iload_n hx hb dX9_sample_135 rfl (lv_at hl 1 rfl) ?_
    obtain ⟨g1, h⟩ := h_gd h
    refine r_aald (t := 4) rfl hx hb C S KC_10 (h_in g1) dX9_sample_136 ?_
    refine lv_dup hx hb dX9_sample_137 rfl ?_
    refine g_get fl_RX9_253_X8 hx hb C S (KC_64 (nt_lt (h_in g1))) rfl dX9_sample_138 ?_
    refine lv_iload_n hx hb dX9_sample_141 rfl (lv_at hl 2 rfl) ?_
    refine lv_iadd hx hb dX9_sample_142 ?_
    refine g_put fl_RX9_253_X8 pl_X8_5 hx hb C S (KC_64 (nt_lt (h_in g1))) rfl ⟨rfl, rfl⟩ dX9_sample_143 (fun w2 ew2 H locs S => ?_)
    have h := h_l h w2 ew2
    refine lv_aload_n hx hb dX9_sample_146 rfl (lv_at hl 0 rfl) ?_
    refine g_getR fl_RX9_31_X9 hx hb C S KC_0 rfl dX9_sample_147 ?_
    refine lv_iload_n hx hb dX9_sample_150 rfl (lv_at hl 1 rfl) ?_
    obtain ⟨g3, h⟩ := h_gd h
    refine r_aald (t := 4) rfl hx hb C S KC_10 (h_in g3) dX9_sample_151 ?_
    refine lv_dup hx hb dX9_sample_152 rfl ?_
    refine g_get fl_RX9_256_X8 hx hb C S (KC_64 (nt_lt (h_in g3))) rfl dX9_sample_153 ?_
    refine lv_iload hx hb dX9_sample_156 (lv_at hl 3 rfl) ?_
    refine lv_iadd hx hb dX9_sample_158 ?_
    refine g_put fl_RX9_256_X8 pl_X8_6 hx hb C S (KC_64 (nt_lt (h_in g3))) rfl ⟨rfl, rfl⟩ dX9_sample_159 (fun w4 ew4 H locs S => ?_)
    have h := h_l h w4 ew4
    refine lv_iload hx hb dX9_sample_162 (lv_at hl 3 rfl) ?_
    exact fin _ _ _ l5 w4 _ 1 6 (Nat.le_of_ble_eq_true rfl) (Nat.le_of_ble_eq_true rfl) S h dX9_sample_164
  have loop73 : ∀ (l1 : Int32) (l3 : Int32) (n73 : Nat), ∀ (l4 : Int32) (l5 : Int32) (l6 : Int32) (w : Wt) (H : Heap) (locs : List Loc) (ls : Array Slot), lv_has ls 7 [(0, .ref (q 0)), (1, .int l1), (3, .int l3), (4, .int l4), (5, .int l5), (6, .int l6)] → Sta KC D dA q A s.heap w H locs → Option.bind (lp (f_Ballotscript_sample_L73 l1 l3) n73 (l4, l5, l6, w)) (fun x9 => Option.bind (f_Ballotscript_sample_x73 l1 l3 x9) some) = some z → W p l e RM_f_Ballotscript_sample s m args below meth c H locs 1 6 Q (F0 m 73 ls []) := by
    intro l1 l3 n73
    induction n73 with
    | zero =>
      intro l4 l5 l6 w H locs ls hl S h
      exact (h_lp0 h).elim
    | succ n73 ih73 =>
      intro l4 l5 l6 w H locs ls hl S h
      have h := h_lp h
      unfold f_Ballotscript_sample_L73 at h
      refine lv_iload hx hb dX9_sample_73 (lv_at hl 5 rfl) ?_
      refine lv_iload_n hx hb dX9_sample_75 rfl (lv_at hl 2 rfl) ?_
      refine lv_icmp_ge (tgt := 131) hx hb dX9_sample_76 rfl (fun c5 => ?_) (fun c5 => ?_)
      · have h := h_t c5 h
        exact lab131 l1 l3 l5 w _ _ _ (lv_sub hl [0, 1, 2, 4] rfl) S h
      · have h := h_f c5 h
        refine lv_sipush (v := 1103) hx hb dX9_sample_79 (by decide) ?_
        refine lv_iload hx hb dX9_sample_82 (lv_at hl 3 rfl) ?_
        refine lv_imul hx hb dX9_sample_84 ?_
        refine lv_sipush (v := 12345) hx hb dX9_sample_85 (by decide) ?_
        refine lv_iadd hx hb dX9_sample_88 ?_
        refine lv_ldc hx hb C.1 (C.2.1 _ cw_RX9_246) dX9_sample_89 ?_
        obtain ⟨g6, h⟩ := h_gd h
        refine lv_irem hx hb dX9_sample_91 (nz_of g6) ?_
        refine lv_topi (fun v7 ev7 => ?_)
        have h := h_l h v7 ev7
        refine lv_istore (lv' := [(4, .int v7), (0, .ref (q 0)), (1, .int l1), (3, .int l3), (5, .int l5), (6, .int l6)]) hx hb dX9_sample_92 hl (Nat.le_of_ble_eq_true rfl) rfl (fun ls hl => ?_)
        refine lv_aload_n hx hb dX9_sample_94 rfl (lv_at hl 1 rfl) ?_
        refine g_getR fl_RX9_47_X9 hx hb C S KC_0 rfl dX9_sample_95 ?_
        refine lv_aload_n hx hb dX9_sample_98 rfl (lv_at hl 1 rfl) ?_
        refine g_getR fl_RX9_47_X9 hx hb C S KC_0 rfl dX9_sample_99 ?_
        refine g_getR fl_RX9_247_X0 hx hb C S KC_13 rfl dX9_sample_102 ?_
        refine lv_iload hx hb dX9_sample_105 (lv_at hl 0 rfl) ?_
        refine lv_aload_n hx hb dX9_sample_107 rfl (lv_at hl 1 rfl) ?_
        refine g_getR fl_RX9_47_X9 hx hb C S KC_0 rfl dX9_sample_108 ?_
        refine g_get fl_RX9_189_X0 hx hb C S KC_13 rfl dX9_sample_111 ?_
        obtain ⟨g8, h⟩ := h_gd h
        refine lv_irem hx hb dX9_sample_114 (nz_of g8) ?_
        obtain ⟨g9, h⟩ := h_gd h
        refine r_iald hx hb C S KC_21 (h_in g9) dX9_sample_115 ?_
        obtain ⟨x10, ex10, h⟩ := h_c h
        refine k_i C S (q_V (rest := []) (As := [.int (w 21 ((v7 - v7 / (w 13 10) * (w 13 10))).toNatClampNeg)]) lk_RX9_250 ev hx hb hml C S KC_13 rfl (c_f_Box_putRight l D dA q (w 21 ((v7 - v7 / (w 13 10) * (w 13 10))).toNatClampNeg) w x10.2 x10.1 ex10 _) rfl rfl ⟨(Nat.le_of_ble_eq_true rfl), (Nat.le_of_ble_eq_true rfl)⟩ rfl hl.1 rfl (Nat.le_of_ble_eq_true rfl) dX9_sample_116 ⟨(Nat.le_of_ble_eq_true rfl), (Nat.le_of_ble_eq_true rfl)⟩) (fun H locs S => ?_)
        refine lv_if_eq (tgt := 125) hx hb dX9_sample_119 rfl (fun c11 => ?_) (fun c11 => ?_)
        · have h := h_t c11 h
          refine lv_iinc (v := (l6 + 1)) (lv' := [(6, .int (l6 + 1)), (4, .int v7), (0, .ref (q 0)), (1, .int l1), (3, .int l3), (5, .int l5)]) hx hb dX9_sample_125 hl (k := 5) rfl rfl (Nat.le_of_ble_eq_true rfl) rfl (fun ls hl => ?_)
          refine lv_goto (tgt := 73) hx hb dX9_sample_128 rfl ?_
          exact ih73 v7 l5 (l6 + 1) x10.2 _ _ _ (lv_sub hl [2, 3, 4, 1, 5, 0] rfl) S h
        · have h := h_f c11 h
          refine lv_iinc (v := (l5 + 1)) (lv' := [(5, .int (l5 + 1)), (4, .int v7), (0, .ref (q 0)), (1, .int l1), (3, .int l3), (6, .int l6)]) hx hb dX9_sample_122 hl (k := 4) rfl rfl (Nat.le_of_ble_eq_true rfl) rfl (fun ls hl => ?_)
          refine lv_iinc (v := (l6 + 1)) (lv' := [(6, .int (l6 + 1)), (5, .int (l5 + 1)), (4, .int v7), (0, .ref (q 0)), (1, .int l1), (3, .int l3)]) hx hb dX9_sample_125 hl (k := 5) rfl rfl (Nat.le_of_ble_eq_true rfl) rfl (fun ls hl => ?_)
          refine lv_goto (tgt := 73) hx hb dX9_sample_128 rfl ?_
          exact ih73 v7 (l5 + 1) (l6 + 1) x10.2 _ _ _ (lv_sub hl [3, 4, 5, 2, 1, 0] rfl) S h
  have lab26 : ∀ (w : Wt) (H : Heap) (locs : List Loc) (ls : Array Slot), lv_has ls 7 [] → Sta KC D dA q A s.heap w H locs → Option.bind (f_Ballotscript_sample_b26 w) some = some z → W p l e RM_f_Ballotscript_sample s m args below meth c H locs 1 6 Q (F0 m 26 ls []) := by
    intro  w H locs ls hl S h
    unfold f_Ballotscript_sample_b26 at h
    exact thr _ _ _ w _ _ 1 6 (Nat.le_of_ble_eq_true rfl) (Nat.le_of_ble_eq_true rfl) hl.1 S h th_X9_sample_26
  intro H locs ls hl S h
  have h := h_0 h
  unfold f_Ballotscript_sample at h
  refine lv_aload_n hx hb dX9_sample_0 rfl (lv_at hl 0 rfl) ?_
  refine lv_iload_n hx hb dX9_sample_1 rfl (lv_at hl 1 rfl) ?_
  obtain ⟨x12, ex12, h⟩ := h_c h
  refine k_x C S (x_V (rest := []) (As := [.int a1]) lk_RX9_176 ev hx hb hml C S KC_0 rfl (c_f_Ballotscript_needVote l hfl D dA q a1 w x12 ex12 _) rfl rfl ⟨(Nat.le_of_ble_eq_true rfl), (Nat.le_of_ble_eq_true rfl)⟩ rfl hl.1 rfl (Nat.le_of_ble_eq_true rfl) dX9_sample_2 ⟨(Nat.le_of_ble_eq_true rfl), (Nat.le_of_ble_eq_true rfl)⟩) (fun k2 er H locs q9 ce S h1 h2 h3 => ?_) (fun r2 er H locs S => ?_)
  · exact pro _ _ _ w _ _ 1 6 _ _ _ (Nat.le_of_ble_eq_true rfl) (Nat.le_of_ble_eq_true rfl) S (h_xl er h) h1 h2 h3
  · have h := h_xr er h
    refine lv_iload_n hx hb dX9_sample_5 rfl (lv_at hl 2 rfl) ?_
    refine lv_iconst (v := 0) hx hb dX9_sample_6 (by decide) ?_
    refine lv_sipush (v := 9999) hx hb dX9_sample_7 (by decide) ?_
    obtain ⟨x13, ex13, h⟩ := h_c h
    refine k_i C S (q_S (rest := []) (As := [.int a2, .int (0 : Int32), .int (9999 : Int32)]) lk_RX9_69 ev hx hb hml C S (c_f_Ballotscript_isWithin l D dA q a2 (0 : Int32) (9999 : Int32) w x13 ex13 _) rfl rfl ⟨(Nat.le_of_ble_eq_true rfl), (Nat.le_of_ble_eq_true rfl)⟩ rfl hl.1 rfl (Nat.le_of_ble_eq_true rfl) dX9_sample_10 ⟨(Nat.le_of_ble_eq_true rfl), (Nat.le_of_ble_eq_true rfl)⟩) (fun H locs S => ?_)
    refine lv_if_eq (tgt := 26) hx hb dX9_sample_13 rfl (fun c14 => ?_) (fun c14 => ?_)
    · have h := h_t c14 h
      exact lab26 w _ _ _ (lv_sub hl [] rfl) S h
    · have h := h_f c14 h
      refine lv_iload_n hx hb dX9_sample_16 rfl (lv_at hl 3 rfl) ?_
      refine lv_iconst (v := 1) hx hb dX9_sample_17 (by decide) ?_
      refine lv_bipush (v := 20) hx hb dX9_sample_18 (by decide) ?_
      obtain ⟨x15, ex15, h⟩ := h_c h
      refine k_i C S (q_S (rest := []) (As := [.int a3, .int (1 : Int32), .int (20 : Int32)]) lk_RX9_69 ev hx hb hml C S (c_f_Ballotscript_isWithin l D dA q a3 (1 : Int32) (20 : Int32) w x15 ex15 _) rfl rfl ⟨(Nat.le_of_ble_eq_true rfl), (Nat.le_of_ble_eq_true rfl)⟩ rfl hl.1 rfl (Nat.le_of_ble_eq_true rfl) dX9_sample_20 ⟨(Nat.le_of_ble_eq_true rfl), (Nat.le_of_ble_eq_true rfl)⟩) (fun H locs S => ?_)
      refine lv_if_ne (tgt := 36) hx hb dX9_sample_23 rfl (fun c16 => ?_) (fun c16 => ?_)
      · have h := h_f c16 h
        refine lv_aload_n hx hb dX9_sample_36 rfl (lv_at hl 0 rfl) ?_
        refine g_getR fl_RX9_47_X9 hx hb C S KC_0 rfl dX9_sample_37 ?_
        refine lv_iload_n hx hb dX9_sample_40 rfl (lv_at hl 1 rfl) ?_
        obtain ⟨x17, ex17, h⟩ := h_c h
        refine k_v C S (q_V (rest := []) (As := [.int a1]) lk_RX9_186 ev hx hb hml C S KC_13 rfl (c_f_Box_gather l D dA q a1 w x17 ex17 _) rfl rfl ⟨(Nat.le_of_ble_eq_true rfl), (Nat.le_of_ble_eq_true rfl)⟩ rfl hl.1 rfl (Nat.le_of_ble_eq_true rfl) dX9_sample_41 ⟨(Nat.le_of_ble_eq_true rfl), (Nat.le_of_ble_eq_true rfl)⟩) (fun H locs S => ?_)
        refine lv_aload_n hx hb dX9_sample_44 rfl (lv_at hl 0 rfl) ?_
        refine g_getR fl_RX9_47_X9 hx hb C S KC_0 rfl dX9_sample_45 ?_
        refine g_get fl_RX9_189_X0 hx hb C S KC_13 rfl dX9_sample_48 ?_
        refine lv_if_gt (tgt := 64) hx hb dX9_sample_51 rfl (fun c18 => ?_) (fun c18 => ?_)
        · have h := h_t c18 h
          refine lv_iload_n hx hb dX9_sample_64 rfl (lv_at hl 2 rfl) ?_
          refine lv_istore (lv' := [(4, .int a2), (0, .ref (q 0)), (1, .int a1), (2, .int a2), (3, .int a3)]) hx hb dX9_sample_65 hl (Nat.le_of_ble_eq_true rfl) rfl (fun ls hl => ?_)
          refine lv_iconst (v := 0) hx hb dX9_sample_67 (by decide) ?_
          refine lv_istore (lv' := [(5, .int (0 : Int32)), (4, .int a2), (0, .ref (q 0)), (1, .int a1), (2, .int a2), (3, .int a3)]) hx hb dX9_sample_68 hl (Nat.le_of_ble_eq_true rfl) rfl (fun ls hl => ?_)
          refine lv_iconst (v := 0) hx hb dX9_sample_70 (by decide) ?_
          refine lv_istore (lv' := [(6, .int (0 : Int32)), (5, .int (0 : Int32)), (4, .int a2), (0, .ref (q 0)), (1, .int a1), (2, .int a2), (3, .int a3)]) hx hb dX9_sample_71 hl (Nat.le_of_ble_eq_true rfl) rfl (fun ls hl => ?_)
          exact loop73 a1 a3 FU a2 (0 : Int32) (0 : Int32) x17 _ _ _ (lv_sub hl [3, 4, 6, 2, 1, 0] rfl) S (h_bb h)
        · have h := h_f c18 h
          exact thr _ _ _ x17 _ _ 1 6 (Nat.le_of_ble_eq_true rfl) (Nat.le_of_ble_eq_true rfl) hl.1 S h th_X9_sample_54
      · have h := h_t c16 h
        exact lab26 w _ _ _ (lv_sub hl [] rfl) S h
theorem c_f_Ballotscript_sample (l : Launch) (hfl : l.stackTraces = false) (D : va_G) (dA : Nat → ClassId) (q : Nat → Nat) (a1 : Int32) (a2 : Int32) (a3 : Int32) (w w' : Wt) (res : Nat ⊕ Int32) (h : f_Ballotscript_sample a1 a2 a3 w = some (res, w')) : Xi l EVc KC D dA q yX9_sample cX9_sample 7 (some .int) RM_f_Ballotscript_sample 4 24 [.ref (q 0), .int a1, .int a2, .int a3] w res w' :=
  mx_i (by decide) rfl hfl (Nat.le_of_ble_eq_true rfl) (Nat.le_of_ble_eq_true rfl) (Nat.le_of_ble_eq_true rfl) rfl rfl (fun p e s m args below meth c A Q ls hx hb hml C S hl fin thr pro => k_f_Ballotscript_sample a1 a2 a3 w (res, w') hfl hx hb hml C (fun H locs ls r' w2 pc cl sl hc hs S h d => fin H locs ls r' w2 pc cl sl hc hs S h d) (fun H locs ls w2 k pc cl sl hc hs hz S h t => thr H locs ls w2 k pc cl sl hc hs hz S h t) (fun H locs ls w2 k pc cl sl rest q9 ce hc hs S h h1 h2 h3 => pro H locs ls w2 k pc cl sl rest q9 ce hc hs S h h1 h2 h3) _ _ _ hl S h)
/-! Ballotscript.recount(I)I f_Ballotscript_recount -/
def f_Ballotscript_recount_b53 (l2 : Int32) (w : Wt) : Option ((Nat ⊕ Int32) × Wt) := some (.inr l2, w)
def f_Ballotscript_recount_L9 (l1 : Int32) : (Int32 × Int32 × Wt) → Option ((Int32 × Int32 × Wt) ⊕ (Int32 × Wt))
  | (l2, l3, w) => (if (w 13 8) ≤ l3 then some (.inr (l2, w)) else gd (inb l3 100) ((if (w 14 (l3).toNatClampNeg) = l1 then Option.bind (f_Box_putRight l3 w) fun x4 => (if x4.1 = (0 : Int32) then some (.inl (l2, (l3 + 1), x4.2)) else some (.inl ((l2 + 1), (l3 + 1), x4.2))) else some (.inl (l2, (l3 + 1), w)))))
def f_Ballotscript_recount_x9 : (Int32 × Wt) → Option ((Nat ⊕ Int32) × Wt)
  | (l2, w) => f_Ballotscript_recount_b53 l2 w
def f_Ballotscript_recount (a1 : Int32) (w : Wt) : Option ((Nat ⊕ Int32) × Wt) := Option.bind (f_Ballotscript_needVote a1 w) fun x6 => onX x6 (fun k2 => some (.inl k2, w)) (fun _ => Option.bind (lp (f_Ballotscript_recount_L9 a1) FU ((0 : Int32), (0 : Int32), w)) (f_Ballotscript_recount_x9))
def RM_f_Ballotscript_recount : Room := { frames := 11, cells := 4, slots := 24, locals := 171 }
set_option maxHeartbeats 4000000 in
set_option maxRecDepth 20000 in
theorem k_f_Ballotscript_recount (a1 : Int32) (w : Wt) (z : ((Nat ⊕ Int32) × Wt)) (hfl : l.stackTraces = false) (hx : p.tables.exec = Jvm.exec) (hb : c.code = cX9_recount) (hml : c.maxLocals = 4) (C : Cx EVc KC D dA q A s m args RX9) (fin : ∀ (H : Heap) (locs : List Loc) (ls : Array Slot) (r' : Int32) (w2 : Wt) (pc : Nat) (cl sl : Nat) , cl ≤ 4 → sl ≤ 24 → Sta KC D dA q A s.heap w2 H locs → some ((.inr r' : Nat ⊕ Int32), w2) = some z → decode cX9_recount pc = .ok (.ireturn, 1) → W p l e RM_f_Ballotscript_recount s m args below meth c H locs cl sl Q (F0 m pc ls [.int r'])) (thr : ∀ (H : Heap) (locs : List Loc) (ls : Array Slot) (w2 : Wt) (k pc cl sl : Nat), cl + 1 ≤ 4 → sl + 6 ≤ 24 → ls.size = 4 → Sta KC D dA q A s.heap w2 H locs → some ((.inl k : Nat ⊕ Int32), w2) = some z → thF RX9 cX9_recount pc k → W p l e RM_f_Ballotscript_recount s m args below meth c H locs cl sl Q (F0 m pc ls [])) (pro : ∀ (H : Heap) (locs : List Loc) (ls : Array Slot) (w2 : Wt) (k pc cl sl : Nat) (rest : List Value) (q9 : Nat) (ce : Cell), cl ≤ 4 → sl ≤ 24 → Sta KC D dA q A s.heap w2 H locs → some ((.inl k : Nat ⊕ Int32), w2) = some z → H[q9]? = some ce → ce.vm = .none → s.vm.findClass (exn k) = some ce.cls → vx_W p l e RM_f_Ballotscript_recount s m args below meth c H locs cl sl Q (F0 m pc ls rest) q9) : ∀ (H : Heap) (locs : List Loc) (ls : Array Slot), lv_has ls 4 [(0, .ref (q 0)), (1, .int a1)] → Sta KC D dA q A s.heap w H locs → f_Ballotscript_recount a1 w = some z → W p l e RM_f_Ballotscript_recount s m args below meth c H locs 0 0 Q (F0 m 0 ls []) := by
  have ev : evOk EVc := EVc_ok
  have lab53 : ∀ (l2 : Int32) (w : Wt) (H : Heap) (locs : List Loc) (ls : Array Slot), lv_has ls 4 [(2, .int l2)] → Sta KC D dA q A s.heap w H locs → Option.bind (f_Ballotscript_recount_b53 l2 w) some = some z → W p l e RM_f_Ballotscript_recount s m args below meth c H locs 1 6 Q (F0 m 53 ls []) := by
    intro l2 w H locs ls hl S h
    unfold f_Ballotscript_recount_b53 at h
    refine lv_iload_n hx hb dX9_recount_53 rfl (lv_at hl 0 rfl) ?_
    exact fin _ _ _ l2 w _ 1 6 (Nat.le_of_ble_eq_true rfl) (Nat.le_of_ble_eq_true rfl) S h dX9_recount_54
  have loop9 : ∀ (l1 : Int32) (n9 : Nat), ∀ (l2 : Int32) (l3 : Int32) (w : Wt) (H : Heap) (locs : List Loc) (ls : Array Slot), lv_has ls 4 [(0, .ref (q 0)), (1, .int l1), (2, .int l2), (3, .int l3)] → Sta KC D dA q A s.heap w H locs → Option.bind (lp (f_Ballotscript_recount_L9 l1) n9 (l2, l3, w)) (fun x9 => Option.bind (f_Ballotscript_recount_x9 x9) some) = some z → W p l e RM_f_Ballotscript_recount s m args below meth c H locs 1 6 Q (F0 m 9 ls []) := by
    intro l1 n9
    induction n9 with
    | zero =>
      intro l2 l3 w H locs ls hl S h
      exact (h_lp0 h).elim
    | succ n9 ih9 =>
      intro l2 l3 w H locs ls hl S h
      have h := h_lp h
      unfold f_Ballotscript_recount_L9 at h
      refine lv_iload_n hx hb dX9_recount_9 rfl (lv_at hl 3 rfl) ?_
      refine lv_aload_n hx hb dX9_recount_10 rfl (lv_at hl 0 rfl) ?_
      refine g_getR fl_RX9_47_X9 hx hb C S KC_0 rfl dX9_recount_11 ?_
      refine g_get fl_RX9_212_X0 hx hb C S KC_13 rfl dX9_recount_14 ?_
      refine lv_icmp_ge (tgt := 53) hx hb dX9_recount_17 rfl (fun c1 => ?_) (fun c1 => ?_)
      · have h := h_t c1 h
        exact lab53 l2 w _ _ _ (lv_sub hl [2] rfl) S h
      · have h := h_f c1 h
        refine lv_aload_n hx hb dX9_recount_20 rfl (lv_at hl 0 rfl) ?_
        refine g_getR fl_RX9_47_X9 hx hb C S KC_0 rfl dX9_recount_21 ?_
        refine g_getR fl_RX9_259_X0 hx hb C S KC_13 rfl dX9_recount_24 ?_
        refine lv_iload_n hx hb dX9_recount_27 rfl (lv_at hl 3 rfl) ?_
        obtain ⟨g2, h⟩ := h_gd h
        refine r_iald hx hb C S KC_14 (h_in g2) dX9_recount_28 ?_
        refine lv_iload_n hx hb dX9_recount_29 rfl (lv_at hl 1 rfl) ?_
        refine lv_icmp_ne (tgt := 47) hx hb dX9_recount_30 rfl (fun c3 => ?_) (fun c3 => ?_)
        · have h := h_f c3 h
          refine lv_iinc (v := (l3 + 1)) (lv' := [(3, .int (l3 + 1)), (0, .ref (q 0)), (1, .int l1), (2, .int l2)]) hx hb dX9_recount_47 hl (k := 3) rfl rfl (Nat.le_of_ble_eq_true rfl) rfl (fun ls hl => ?_)
          refine lv_goto (tgt := 9) hx hb dX9_recount_50 rfl ?_
          exact ih9 l2 (l3 + 1) w _ _ _ (lv_sub hl [1, 2, 3, 0] rfl) S h
        · have h := h_t c3 h
          refine lv_aload_n hx hb dX9_recount_33 rfl (lv_at hl 0 rfl) ?_
          refine g_getR fl_RX9_47_X9 hx hb C S KC_0 rfl dX9_recount_34 ?_
          refine lv_iload_n hx hb dX9_recount_37 rfl (lv_at hl 3 rfl) ?_
          obtain ⟨x4, ex4, h⟩ := h_c h
          refine k_i C S (q_V (rest := []) (As := [.int l3]) lk_RX9_250 ev hx hb hml C S KC_13 rfl (c_f_Box_putRight l D dA q l3 w x4.2 x4.1 ex4 _) rfl rfl ⟨(Nat.le_of_ble_eq_true rfl), (Nat.le_of_ble_eq_true rfl)⟩ rfl hl.1 rfl (Nat.le_of_ble_eq_true rfl) dX9_recount_38 ⟨(Nat.le_of_ble_eq_true rfl), (Nat.le_of_ble_eq_true rfl)⟩) (fun H locs S => ?_)
          refine lv_if_eq (tgt := 47) hx hb dX9_recount_41 rfl (fun c5 => ?_) (fun c5 => ?_)
          · have h := h_t c5 h
            refine lv_iinc (v := (l3 + 1)) (lv' := [(3, .int (l3 + 1)), (0, .ref (q 0)), (1, .int l1), (2, .int l2)]) hx hb dX9_recount_47 hl (k := 3) rfl rfl (Nat.le_of_ble_eq_true rfl) rfl (fun ls hl => ?_)
            refine lv_goto (tgt := 9) hx hb dX9_recount_50 rfl ?_
            exact ih9 l2 (l3 + 1) x4.2 _ _ _ (lv_sub hl [1, 2, 3, 0] rfl) S h
          · have h := h_f c5 h
            refine lv_iinc (v := (l2 + 1)) (lv' := [(2, .int (l2 + 1)), (0, .ref (q 0)), (1, .int l1), (3, .int l3)]) hx hb dX9_recount_44 hl (k := 2) rfl rfl (Nat.le_of_ble_eq_true rfl) rfl (fun ls hl => ?_)
            refine lv_iinc (v := (l3 + 1)) (lv' := [(3, .int (l3 + 1)), (2, .int (l2 + 1)), (0, .ref (q 0)), (1, .int l1)]) hx hb dX9_recount_47 hl (k := 3) rfl rfl (Nat.le_of_ble_eq_true rfl) rfl (fun ls hl => ?_)
            refine lv_goto (tgt := 9) hx hb dX9_recount_50 rfl ?_
            exact ih9 (l2 + 1) (l3 + 1) x4.2 _ _ _ (lv_sub hl [2, 3, 1, 0] rfl) S h
  intro H locs ls hl S h
  have h := h_0 h
  unfold f_Ballotscript_recount at h
  refine lv_aload_n hx hb dX9_recount_0 rfl (lv_at hl 0 rfl) ?_
  refine lv_iload_n hx hb dX9_recount_1 rfl (lv_at hl 1 rfl) ?_
  obtain ⟨x6, ex6, h⟩ := h_c h
  refine k_x C S (x_V (rest := []) (As := [.int a1]) lk_RX9_176 ev hx hb hml C S KC_0 rfl (c_f_Ballotscript_needVote l hfl D dA q a1 w x6 ex6 _) rfl rfl ⟨(Nat.le_of_ble_eq_true rfl), (Nat.le_of_ble_eq_true rfl)⟩ rfl hl.1 rfl (Nat.le_of_ble_eq_true rfl) dX9_recount_2 ⟨(Nat.le_of_ble_eq_true rfl), (Nat.le_of_ble_eq_true rfl)⟩) (fun k2 er H locs q9 ce S h1 h2 h3 => ?_) (fun r2 er H locs S => ?_)
  · exact pro _ _ _ w _ _ 1 6 _ _ _ (Nat.le_of_ble_eq_true rfl) (Nat.le_of_ble_eq_true rfl) S (h_xl er h) h1 h2 h3
  · have h := h_xr er h
    refine lv_iconst (v := 0) hx hb dX9_recount_5 (by decide) ?_
    refine lv_istore_n (lv' := [(2, .int (0 : Int32)), (0, .ref (q 0)), (1, .int a1)]) hx hb dX9_recount_6 rfl hl (Nat.le_of_ble_eq_true rfl) rfl (fun ls hl => ?_)
    refine lv_iconst (v := 0) hx hb dX9_recount_7 (by decide) ?_
    refine lv_istore_n (lv' := [(3, .int (0 : Int32)), (2, .int (0 : Int32)), (0, .ref (q 0)), (1, .int a1)]) hx hb dX9_recount_8 rfl hl (Nat.le_of_ble_eq_true rfl) rfl (fun ls hl => ?_)
    exact loop9 a1 FU (0 : Int32) (0 : Int32) w _ _ _ (lv_sub hl [2, 3, 1, 0] rfl) S (h_bb h)
theorem c_f_Ballotscript_recount (l : Launch) (hfl : l.stackTraces = false) (D : va_G) (dA : Nat → ClassId) (q : Nat → Nat) (a1 : Int32) (w w' : Wt) (res : Nat ⊕ Int32) (h : f_Ballotscript_recount a1 w = some (res, w')) : Xi l EVc KC D dA q yX9_recount cX9_recount 4 (some .int) RM_f_Ballotscript_recount 4 24 [.ref (q 0), .int a1] w res w' :=
  mx_i (by decide) rfl hfl (Nat.le_of_ble_eq_true rfl) (Nat.le_of_ble_eq_true rfl) (Nat.le_of_ble_eq_true rfl) rfl rfl (fun p e s m args below meth c A Q ls hx hb hml C S hl fin thr pro => k_f_Ballotscript_recount a1 w (res, w') hfl hx hb hml C (fun H locs ls r' w2 pc cl sl hc hs S h d => fin H locs ls r' w2 pc cl sl hc hs S h d) (fun H locs ls w2 k pc cl sl hc hs hz S h t => thr H locs ls w2 k pc cl sl hc hs hz S h t) (fun H locs ls w2 k pc cl sl rest q9 ce hc hs S h h1 h2 h3 => pro H locs ls w2 k pc cl sl rest q9 ce hc hs S h h1 h2 h3) _ _ _ hl S h)
/-! Ballotscript.doubt(I)I f_Ballotscript_doubt -/
def f_Ballotscript_doubt (a1 : Int32) (w : Wt) : Option (Nat ⊕ Int32) := Option.bind (f_Ballotscript_needVote a1 w) fun x1 => onX x1 (fun k2 => some (.inl k2)) (fun _ => gd (inb a1 8) ((if (0 : Int32) < (w (64 + (a1).toNatClampNeg) 5) then gd (inb a1 8) (gd (inb a1 8) (gd (nzb (w (64 + (a1).toNatClampNeg) 5)) (some (.inr (((100 : Int32) * (w (64 + (a1).toNatClampNeg) 6)) / (w (64 + (a1).toNatClampNeg) 5)))))) else some (.inr (0 : Int32)))))
def RM_f_Ballotscript_doubt : Room := { frames := 11, cells := 4, slots := 24, locals := 171 }
set_option maxHeartbeats 4000000 in
set_option maxRecDepth 20000 in
theorem k_f_Ballotscript_doubt (a1 : Int32) (w : Wt) (z : (Nat ⊕ Int32)) (hfl : l.stackTraces = false) (hx : p.tables.exec = Jvm.exec) (hb : c.code = cX9_doubt) (hml : c.maxLocals = 2) (C : Cx EVc KC D dA q A s m args RX9) (fin : ∀ (H : Heap) (locs : List Loc) (ls : Array Slot) (r' : Int32) (pc : Nat) (cl sl : Nat) , cl ≤ 4 → sl ≤ 24 → Sta KC D dA q A s.heap w H locs → some (.inr r' : Nat ⊕ Int32) = some z → decode cX9_doubt pc = .ok (.ireturn, 1) → W p l e RM_f_Ballotscript_doubt s m args below meth c H locs cl sl Q (F0 m pc ls [.int r'])) (thr : ∀ (H : Heap) (locs : List Loc) (ls : Array Slot) (k pc cl sl : Nat), cl + 1 ≤ 4 → sl + 6 ≤ 24 → ls.size = 2 → Sta KC D dA q A s.heap w H locs → some (.inl k : Nat ⊕ Int32) = some z → thF RX9 cX9_doubt pc k → W p l e RM_f_Ballotscript_doubt s m args below meth c H locs cl sl Q (F0 m pc ls [])) (pro : ∀ (H : Heap) (locs : List Loc) (ls : Array Slot) (k pc cl sl : Nat) (rest : List Value) (q9 : Nat) (ce : Cell), cl ≤ 4 → sl ≤ 24 → Sta KC D dA q A s.heap w H locs → some (.inl k : Nat ⊕ Int32) = some z → H[q9]? = some ce → ce.vm = .none → s.vm.findClass (exn k) = some ce.cls → vx_W p l e RM_f_Ballotscript_doubt s m args below meth c H locs cl sl Q (F0 m pc ls rest) q9) : ∀ (H : Heap) (locs : List Loc) (ls : Array Slot), lv_has ls 2 [(0, .ref (q 0)), (1, .int a1)] → Sta KC D dA q A s.heap w H locs → f_Ballotscript_doubt a1 w = some z → W p l e RM_f_Ballotscript_doubt s m args below meth c H locs 0 0 Q (F0 m 0 ls []) := by
  have ev : evOk EVc := EVc_ok
  intro H locs ls hl S h
  have h := h_0 h
  unfold f_Ballotscript_doubt at h
  refine lv_aload_n hx hb dX9_doubt_0 rfl (lv_at hl 0 rfl) ?_
  refine lv_iload_n hx hb dX9_doubt_1 rfl (lv_at hl 1 rfl) ?_
  obtain ⟨x1, ex1, h⟩ := h_c h
  refine k_x C S (x_V (rest := []) (As := [.int a1]) lk_RX9_176 ev hx hb hml C S KC_0 rfl (c_f_Ballotscript_needVote l hfl D dA q a1 w x1 ex1 _) rfl rfl ⟨(Nat.le_of_ble_eq_true rfl), (Nat.le_of_ble_eq_true rfl)⟩ rfl hl.1 rfl (Nat.le_of_ble_eq_true rfl) dX9_doubt_2 ⟨(Nat.le_of_ble_eq_true rfl), (Nat.le_of_ble_eq_true rfl)⟩) (fun k2 er H locs q9 ce S h1 h2 h3 => ?_) (fun r2 er H locs S => ?_)
  · exact pro _ _ _ _ _ 1 6 _ _ _ (Nat.le_of_ble_eq_true rfl) (Nat.le_of_ble_eq_true rfl) S (h_xl er h) h1 h2 h3
  · have h := h_xr er h
    refine lv_aload_n hx hb dX9_doubt_5 rfl (lv_at hl 0 rfl) ?_
    refine g_getR fl_RX9_31_X9 hx hb C S KC_0 rfl dX9_doubt_6 ?_
    refine lv_iload_n hx hb dX9_doubt_9 rfl (lv_at hl 1 rfl) ?_
    obtain ⟨g2, h⟩ := h_gd h
    refine r_aald (t := 4) rfl hx hb C S KC_10 (h_in g2) dX9_doubt_10 ?_
    refine g_get fl_RX9_253_X8 hx hb C S (KC_64 (nt_lt (h_in g2))) rfl dX9_doubt_11 ?_
    refine lv_if_gt (tgt := 21) hx hb dX9_doubt_14 rfl (fun c3 => ?_) (fun c3 => ?_)
    · have h := h_t c3 h
      refine lv_bipush (v := 100) hx hb dX9_doubt_21 (by decide) ?_
      refine lv_aload_n hx hb dX9_doubt_23 rfl (lv_at hl 0 rfl) ?_
      refine g_getR fl_RX9_31_X9 hx hb C S KC_0 rfl dX9_doubt_24 ?_
      refine lv_iload_n hx hb dX9_doubt_27 rfl (lv_at hl 1 rfl) ?_
      obtain ⟨g4, h⟩ := h_gd h
      refine r_aald (t := 4) rfl hx hb C S KC_10 (h_in g4) dX9_doubt_28 ?_
      refine g_get fl_RX9_256_X8 hx hb C S (KC_64 (nt_lt (h_in g4))) rfl dX9_doubt_29 ?_
      refine lv_imul hx hb dX9_doubt_32 ?_
      refine lv_aload_n hx hb dX9_doubt_33 rfl (lv_at hl 0 rfl) ?_
      refine g_getR fl_RX9_31_X9 hx hb C S KC_0 rfl dX9_doubt_34 ?_
      refine lv_iload_n hx hb dX9_doubt_37 rfl (lv_at hl 1 rfl) ?_
      obtain ⟨g5, h⟩ := h_gd h
      refine r_aald (t := 4) rfl hx hb C S KC_10 (h_in g5) dX9_doubt_38 ?_
      refine g_get fl_RX9_253_X8 hx hb C S (KC_64 (nt_lt (h_in g5))) rfl dX9_doubt_39 ?_
      obtain ⟨g6, h⟩ := h_gd h
      refine lv_idiv hx hb dX9_doubt_42 (nz_of g6) ?_
      exact fin _ _ _ (((100 : Int32) * (w (64 + (a1).toNatClampNeg) 6)) / (w (64 + (a1).toNatClampNeg) 5)) _ 1 6 (Nat.le_of_ble_eq_true rfl) (Nat.le_of_ble_eq_true rfl) S h dX9_doubt_43
    · have h := h_f c3 h
      refine lv_iconst (v := 0) hx hb dX9_doubt_17 (by decide) ?_
      refine lv_goto (tgt := 43) hx hb dX9_doubt_18 rfl ?_
      exact fin _ _ _ (0 : Int32) _ 1 6 (Nat.le_of_ble_eq_true rfl) (Nat.le_of_ble_eq_true rfl) S h dX9_doubt_43
theorem c_f_Ballotscript_doubt (l : Launch) (hfl : l.stackTraces = false) (D : va_G) (dA : Nat → ClassId) (q : Nat → Nat) (a1 : Int32) (w : Wt) (res : Nat ⊕ Int32) (h : f_Ballotscript_doubt a1 w = some res) : Xi l EVc KC D dA q yX9_doubt cX9_doubt 2 (some .int) RM_f_Ballotscript_doubt 4 24 [.ref (q 0), .int a1] w res w :=
  mx_i (by decide) rfl hfl (Nat.le_of_ble_eq_true rfl) (Nat.le_of_ble_eq_true rfl) (Nat.le_of_ble_eq_true rfl) rfl rfl (fun p e s m args below meth c A Q ls hx hb hml C S hl fin thr pro => k_f_Ballotscript_doubt a1 w res hfl hx hb hml C (fun H locs ls r' pc cl sl hc hs S h d => fin H locs ls r' w pc cl sl hc hs S (by rw [Option.some.inj h]) d) (fun H locs ls k pc cl sl hc hs hz S h t => thr H locs ls w k pc cl sl hc hs hz S (by rw [Option.some.inj h]) t) (fun H locs ls k pc cl sl rest q9 ce hc hs S h h1 h2 h3 => pro H locs ls w k pc cl sl rest q9 ce hc hs S (by rw [Option.some.inj h]) h1 h2 h3) _ _ _ hl S h)
/-! Ballotscript.winners(I)I f_Ballotscript_winners -/
def f_Ballotscript_winners (a1 : Int32) (w : Wt) : Option ((Nat ⊕ Int32) × Wt) := Option.bind (f_Ballotscript_needVote a1 w) fun x1 => onX x1 (fun k2 => some (.inl k2, w)) (fun _ => Option.bind (f_Ballotscript_countVote a1 w) fun x2 => some (.inr (x2 22 6), x2))
def RM_f_Ballotscript_winners : Room := { frames := 11, cells := 4, slots := 24, locals := 267 }
set_option maxHeartbeats 4000000 in
set_option maxRecDepth 20000 in
theorem k_f_Ballotscript_winners (a1 : Int32) (w : Wt) (z : ((Nat ⊕ Int32) × Wt)) (hfl : l.stackTraces = false) (hx : p.tables.exec = Jvm.exec) (hb : c.code = cX9_winners) (hml : c.maxLocals = 2) (C : Cx EVc KC D dA q A s m args RX9) (fin : ∀ (H : Heap) (locs : List Loc) (ls : Array Slot) (r' : Int32) (w2 : Wt) (pc : Nat) (cl sl : Nat) , cl ≤ 4 → sl ≤ 24 → Sta KC D dA q A s.heap w2 H locs → some ((.inr r' : Nat ⊕ Int32), w2) = some z → decode cX9_winners pc = .ok (.ireturn, 1) → W p l e RM_f_Ballotscript_winners s m args below meth c H locs cl sl Q (F0 m pc ls [.int r'])) (thr : ∀ (H : Heap) (locs : List Loc) (ls : Array Slot) (w2 : Wt) (k pc cl sl : Nat), cl + 1 ≤ 4 → sl + 6 ≤ 24 → ls.size = 2 → Sta KC D dA q A s.heap w2 H locs → some ((.inl k : Nat ⊕ Int32), w2) = some z → thF RX9 cX9_winners pc k → W p l e RM_f_Ballotscript_winners s m args below meth c H locs cl sl Q (F0 m pc ls [])) (pro : ∀ (H : Heap) (locs : List Loc) (ls : Array Slot) (w2 : Wt) (k pc cl sl : Nat) (rest : List Value) (q9 : Nat) (ce : Cell), cl ≤ 4 → sl ≤ 24 → Sta KC D dA q A s.heap w2 H locs → some ((.inl k : Nat ⊕ Int32), w2) = some z → H[q9]? = some ce → ce.vm = .none → s.vm.findClass (exn k) = some ce.cls → vx_W p l e RM_f_Ballotscript_winners s m args below meth c H locs cl sl Q (F0 m pc ls rest) q9) : ∀ (H : Heap) (locs : List Loc) (ls : Array Slot), lv_has ls 2 [(0, .ref (q 0)), (1, .int a1)] → Sta KC D dA q A s.heap w H locs → f_Ballotscript_winners a1 w = some z → W p l e RM_f_Ballotscript_winners s m args below meth c H locs 0 0 Q (F0 m 0 ls []) := by
  have ev : evOk EVc := EVc_ok
  intro H locs ls hl S h
  have h := h_0 h
  unfold f_Ballotscript_winners at h
  refine lv_aload_n hx hb dX9_winners_0 rfl (lv_at hl 0 rfl) ?_
  refine lv_iload_n hx hb dX9_winners_1 rfl (lv_at hl 1 rfl) ?_
  obtain ⟨x1, ex1, h⟩ := h_c h
  refine k_x C S (x_V (rest := []) (As := [.int a1]) lk_RX9_176 ev hx hb hml C S KC_0 rfl (c_f_Ballotscript_needVote l hfl D dA q a1 w x1 ex1 _) rfl rfl ⟨(Nat.le_of_ble_eq_true rfl), (Nat.le_of_ble_eq_true rfl)⟩ rfl hl.1 rfl (Nat.le_of_ble_eq_true rfl) dX9_winners_2 ⟨(Nat.le_of_ble_eq_true rfl), (Nat.le_of_ble_eq_true rfl)⟩) (fun k2 er H locs q9 ce S h1 h2 h3 => ?_) (fun r2 er H locs S => ?_)
  · exact pro _ _ _ w _ _ 1 6 _ _ _ (Nat.le_of_ble_eq_true rfl) (Nat.le_of_ble_eq_true rfl) S (h_xl er h) h1 h2 h3
  · have h := h_xr er h
    refine lv_aload_n hx hb dX9_winners_5 rfl (lv_at hl 0 rfl) ?_
    refine lv_iload_n hx hb dX9_winners_6 rfl (lv_at hl 1 rfl) ?_
    obtain ⟨x2, ex2, h⟩ := h_c h
    refine k_r C S (q_V (rest := []) (As := [.int a1]) lk_RX9_153 ev hx hb hml C S KC_0 rfl (c_f_Ballotscript_countVote l D dA q a1 w x2 ex2 _) rfl rfl ⟨(Nat.le_of_ble_eq_true rfl), (Nat.le_of_ble_eq_true rfl)⟩ rfl hl.1 rfl (Nat.le_of_ble_eq_true rfl) dX9_winners_7 ⟨(Nat.le_of_ble_eq_true rfl), (Nat.le_of_ble_eq_true rfl)⟩) (fun H locs S => ?_)
    refine g_get fl_RX9_157_X3 hx hb C S KC_22 rfl dX9_winners_10 ?_
    exact fin _ _ _ (x2 22 6) x2 _ 1 6 (Nat.le_of_ble_eq_true rfl) (Nat.le_of_ble_eq_true rfl) S h dX9_winners_13
theorem c_f_Ballotscript_winners (l : Launch) (hfl : l.stackTraces = false) (D : va_G) (dA : Nat → ClassId) (q : Nat → Nat) (a1 : Int32) (w w' : Wt) (res : Nat ⊕ Int32) (h : f_Ballotscript_winners a1 w = some (res, w')) : Xi l EVc KC D dA q yX9_winners cX9_winners 2 (some .int) RM_f_Ballotscript_winners 4 24 [.ref (q 0), .int a1] w res w' :=
  mx_i (by decide) rfl hfl (Nat.le_of_ble_eq_true rfl) (Nat.le_of_ble_eq_true rfl) (Nat.le_of_ble_eq_true rfl) rfl rfl (fun p e s m args below meth c A Q ls hx hb hml C S hl fin thr pro => k_f_Ballotscript_winners a1 w (res, w') hfl hx hb hml C (fun H locs ls r' w2 pc cl sl hc hs S h d => fin H locs ls r' w2 pc cl sl hc hs S h d) (fun H locs ls w2 k pc cl sl hc hs hz S h t => thr H locs ls w2 k pc cl sl hc hs hz S h t) (fun H locs ls w2 k pc cl sl rest q9 ce hc hs S h h1 h2 h3 => pro H locs ls w2 k pc cl sl rest q9 ce hc hs S h h1 h2 h3) _ _ _ hl S h)
/-! Ballotscript$Count.begin(II)V f_Count_begin_H -/
def f_Count_begin_H (a1 : Int32) (a2 : Int32) (w : Wt) : Option Wt := nmd (upd2 w 28 2 (0 : Int32)) fun w1 => nmd (upd2 w1 28 3 (0 : Int32)) fun w2 => nmd (upd2 w2 28 4 a2) fun w3 => nmd (upd2 w3 28 5 (((1 : Int32) <<< (a1 &&& 31)) - (1 : Int32))) fun w4 => nmd (upd2 w4 28 6 (0 : Int32)) fun w5 => nmd (upd2 w5 28 7 (108 : Int32)) fun w6 => some w6
def RM_f_Count_begin_H : Room := { frames := 0, cells := 0, slots := 0, locals := 0 }
set_option maxHeartbeats 4000000 in
set_option maxRecDepth 20000 in
theorem k_f_Count_begin_H (a1 : Int32) (a2 : Int32) (w : Wt) (z : Wt) (hx : p.tables.exec = Jvm.exec) (hb : c.code = cX1_begin) (hml : c.maxLocals = 3) (C : Cx EVc KC D dA q A s m args RX1) (fin : ∀ (H : Heap) (locs : List Loc) (ls : Array Slot) (w2 : Wt) (pc : Nat) , Sta KC D dA q A s.heap w2 H locs → some w2 = some z → decode cX1_begin pc = .ok (.return_, 1) → W p l e RM_f_Count_begin_H s m args below meth c H locs 0 0 Q (F0 m pc ls [])) : ∀ (H : Heap) (locs : List Loc) (ls : Array Slot), lv_has ls 3 [(0, .ref (q 28)), (1, .int a1), (2, .int a2)] → Sta KC D dA q A s.heap w H locs → f_Count_begin_H a1 a2 w = some z → W p l e RM_f_Count_begin_H s m args below meth c H locs 0 0 Q (F0 m 0 ls []) := by
  have ev : evOk EVc := EVc_ok
  intro H locs ls hl S h
  have h := h_0 h
  unfold f_Count_begin_H at h
  refine lv_aload_n hx hb dX1_begin_0 rfl (lv_at hl 0 rfl) ?_
  refine lv_iconst (v := 0) hx hb dX1_begin_1 (by decide) ?_
  refine g_put fl_RX1_19_X2 pl_X2_2 hx hb C S KC_28 rfl ⟨rfl, rfl⟩ dX1_begin_2 (fun w1 ew1 H locs S => ?_)
  have h := h_l h w1 ew1
  refine lv_aload_n hx hb dX1_begin_5 rfl (lv_at hl 0 rfl) ?_
  refine lv_iconst (v := 0) hx hb dX1_begin_6 (by decide) ?_
  refine g_put fl_RX1_23_X2 pl_X2_3 hx hb C S KC_28 rfl ⟨rfl, rfl⟩ dX1_begin_7 (fun w2 ew2 H locs S => ?_)
  have h := h_l h w2 ew2
  refine lv_aload_n hx hb dX1_begin_10 rfl (lv_at hl 0 rfl) ?_
  refine lv_iload_n hx hb dX1_begin_11 rfl (lv_at hl 2 rfl) ?_
  refine g_put fl_RX1_26_X2 pl_X2_4 hx hb C S KC_28 rfl ⟨rfl, rfl⟩ dX1_begin_12 (fun w3 ew3 H locs S => ?_)
  have h := h_l h w3 ew3
  refine lv_aload_n hx hb dX1_begin_15 rfl (lv_at hl 0 rfl) ?_
  refine lv_iconst (v := 1) hx hb dX1_begin_16 (by decide) ?_
  refine lv_iload_n hx hb dX1_begin_17 rfl (lv_at hl 1 rfl) ?_
  refine lv_ishl hx hb dX1_begin_18 ?_
  refine lv_iconst (v := 1) hx hb dX1_begin_19 (by decide) ?_
  refine lv_isub hx hb dX1_begin_20 ?_
  refine g_put fl_RX1_29_X2 pl_X2_5 hx hb C S KC_28 rfl ⟨rfl, rfl⟩ dX1_begin_21 (fun w4 ew4 H locs S => ?_)
  have h := h_l h w4 ew4
  refine lv_aload_n hx hb dX1_begin_24 rfl (lv_at hl 0 rfl) ?_
  refine lv_iconst (v := 0) hx hb dX1_begin_25 (by decide) ?_
  refine g_put fl_RX1_32_X2 pl_X2_6 hx hb C S KC_28 rfl ⟨rfl, rfl⟩ dX1_begin_26 (fun w5 ew5 H locs S => ?_)
  have h := h_l h w5 ew5
  refine lv_aload_n hx hb dX1_begin_29 rfl (lv_at hl 0 rfl) ?_
  refine lv_bipush (v := 108) hx hb dX1_begin_30 (by decide) ?_
  refine g_put fl_RX1_35_X2 pl_X2_7 hx hb C S KC_28 rfl (by decide) dX1_begin_32 (fun w6 ew6 H locs S => ?_)
  have h := h_l h w6 ew6
  exact fin _ _ _ w6 _ S h dX1_begin_35
theorem c_f_Count_begin_H (l : Launch) (D : va_G) (dA : Nat → ClassId) (q : Nat → Nat) (a1 : Int32) (a2 : Int32) (w w' : Wt) (h : f_Count_begin_H a1 a2 w = some w') : Mv l EVc KC D dA q yX1_begin cX1_begin 3 none RM_f_Count_begin_H [.ref (q 28), .int a1, .int a2] w w' :=
  mk_v (by decide) rfl EVc_ok (Nat.le_of_ble_eq_true rfl) (fun p e s m args below meth c A Q ls hx hb hml C S hl fin => k_f_Count_begin_H a1 a2 w w' hx hb hml C (fun H locs ls w2 pc S h d => fin H locs ls w2 pc S h d) _ _ _ hl S h)
/-! Ballotscript$Count.remove(IZ)V f_Count_remove_H -/
def f_Count_remove_H (a1 : Int32) (a2 : Int32) (w : Wt) : Option Wt := nmd (upd2 w 28 5 ((w 28 5) &&& (((1 : Int32) <<< (a1 &&& 31)) ^^^ (-1 : Int32)))) fun w1 => (if a2 = (0 : Int32) then some w1 else nmd (upd2 w1 28 6 ((w1 28 6) ||| ((1 : Int32) <<< (a1 &&& 31)))) fun w3 => nmd (upd2 w3 28 4 ((w3 28 4) - (1 : Int32))) fun w4 => some w4)
def RM_f_Count_remove_H : Room := { frames := 0, cells := 0, slots := 0, locals := 0 }
set_option maxHeartbeats 4000000 in
set_option maxRecDepth 20000 in
theorem k_f_Count_remove_H (a1 : Int32) (a2 : Int32) (w : Wt) (z : Wt) (hx : p.tables.exec = Jvm.exec) (hb : c.code = cX1_remove) (hml : c.maxLocals = 3) (C : Cx EVc KC D dA q A s m args RX1) (fin : ∀ (H : Heap) (locs : List Loc) (ls : Array Slot) (w2 : Wt) (pc : Nat) , Sta KC D dA q A s.heap w2 H locs → some w2 = some z → decode cX1_remove pc = .ok (.return_, 1) → W p l e RM_f_Count_remove_H s m args below meth c H locs 0 0 Q (F0 m pc ls [])) : ∀ (H : Heap) (locs : List Loc) (ls : Array Slot), lv_has ls 3 [(0, .ref (q 28)), (1, .int a1), (2, .int a2)] → Sta KC D dA q A s.heap w H locs → f_Count_remove_H a1 a2 w = some z → W p l e RM_f_Count_remove_H s m args below meth c H locs 0 0 Q (F0 m 0 ls []) := by
  have ev : evOk EVc := EVc_ok
  intro H locs ls hl S h
  have h := h_0 h
  unfold f_Count_remove_H at h
  refine lv_aload_n hx hb dX1_remove_0 rfl (lv_at hl 0 rfl) ?_
  refine lv_dup hx hb dX1_remove_1 rfl ?_
  refine g_get fl_RX1_29_X2 hx hb C S KC_28 rfl dX1_remove_2 ?_
  refine lv_iconst (v := 1) hx hb dX1_remove_5 (by decide) ?_
  refine lv_iload_n hx hb dX1_remove_6 rfl (lv_at hl 1 rfl) ?_
  refine lv_ishl hx hb dX1_remove_7 ?_
  refine lv_iconst (v := -1) hx hb dX1_remove_8 (by decide) ?_
  refine lv_ixor hx hb dX1_remove_9 ?_
  refine lv_iand hx hb dX1_remove_10 ?_
  refine g_put fl_RX1_29_X2 pl_X2_5 hx hb C S KC_28 rfl ⟨rfl, rfl⟩ dX1_remove_11 (fun w1 ew1 H locs S => ?_)
  have h := h_l h w1 ew1
  refine lv_iload_n hx hb dX1_remove_14 rfl (lv_at hl 2 rfl) ?_
  refine lv_if_eq (tgt := 40) hx hb dX1_remove_15 rfl (fun c2 => ?_) (fun c2 => ?_)
  · have h := h_t c2 h
    exact fin _ _ _ w1 _ S h dX1_remove_40
  · have h := h_f c2 h
    refine lv_aload_n hx hb dX1_remove_18 rfl (lv_at hl 0 rfl) ?_
    refine lv_dup hx hb dX1_remove_19 rfl ?_
    refine g_get fl_RX1_32_X2 hx hb C S KC_28 rfl dX1_remove_20 ?_
    refine lv_iconst (v := 1) hx hb dX1_remove_23 (by decide) ?_
    refine lv_iload_n hx hb dX1_remove_24 rfl (lv_at hl 1 rfl) ?_
    refine lv_ishl hx hb dX1_remove_25 ?_
    refine lv_ior hx hb dX1_remove_26 ?_
    refine g_put fl_RX1_32_X2 pl_X2_6 hx hb C S KC_28 rfl ⟨rfl, rfl⟩ dX1_remove_27 (fun w3 ew3 H locs S => ?_)
    have h := h_l h w3 ew3
    refine lv_aload_n hx hb dX1_remove_30 rfl (lv_at hl 0 rfl) ?_
    refine lv_dup hx hb dX1_remove_31 rfl ?_
    refine g_get fl_RX1_26_X2 hx hb C S KC_28 rfl dX1_remove_32 ?_
    refine lv_iconst (v := 1) hx hb dX1_remove_35 (by decide) ?_
    refine lv_isub hx hb dX1_remove_36 ?_
    refine g_put fl_RX1_26_X2 pl_X2_4 hx hb C S KC_28 rfl ⟨rfl, rfl⟩ dX1_remove_37 (fun w4 ew4 H locs S => ?_)
    have h := h_l h w4 ew4
    exact fin _ _ _ w4 _ S h dX1_remove_40
theorem c_f_Count_remove_H (l : Launch) (D : va_G) (dA : Nat → ClassId) (q : Nat → Nat) (a1 : Int32) (a2 : Int32) (w w' : Wt) (h : f_Count_remove_H a1 a2 w = some w') : Mv l EVc KC D dA q yX1_remove cX1_remove 3 none RM_f_Count_remove_H [.ref (q 28), .int a1, .int a2] w w' :=
  mk_v (by decide) rfl EVc_ok (Nat.le_of_ble_eq_true rfl) (fun p e s m args below meth c A Q ls hx hb hml C S hl fin => k_f_Count_remove_H a1 a2 w w' hx hb hml C (fun H locs ls w2 pc S h d => fin H locs ls w2 pc S h d) _ _ _ hl S h)
/-! Ballotscript$HandCount.givenBy(III)I f_HandCount_givenBy -/
def f_HandCount_givenBy_b117 (w : Wt) : Option Int32 := some (0 : Int32)
def f_HandCount_givenBy_L6 (l1 : Int32) (l2 : Int32) (l3 : Int32) (w : Wt) : (Int32 × Int32) → Option ((Int32 × Int32) ⊕ (Unit ⊕ Int32))
  | (l4, l5) => gd (inb l1 100) ((if (w 18 (l1).toNatClampNeg) ≤ l5 then some (.inr (.inl ())) else Option.bind (f_Box_candidateAt l1 l5 w) fun x3 => (if x3 = l3 then gd (inb l2 156) ((if (w 30 (l2).toNatClampNeg) = (98 : Int32) then gd (inb l2 156) (Option.bind (f_Integer_bitCount (w 31 (l2).toNatClampNeg)) fun x11 => some (.inr (.inr (x11 - l4)))) else gd (inb l2 156) ((if (w 30 (l2).toNatClampNeg) = (97 : Int32) then some (.inr (.inr (1 : Int32))) else (if l4 = (0 : Int32) then some (.inr (.inr (1 : Int32))) else some (.inr (.inr (0 : Int32)))))))) else gd (inb l2 156) (Option.bind (f_Count_hasBit (w 31 (l2).toNatClampNeg) x3) fun x13 => (if x13 = (0 : Int32) then nmd (l4 + (0 : Int32)) fun v15 => some (.inl (v15, (l5 + 1))) else nmd (l4 + (1 : Int32)) fun v16 => some (.inl (v16, (l5 + 1))))))))
def f_HandCount_givenBy_x6 (w : Wt) : (Unit ⊕ Int32) → Option Int32
  | .inl () => f_HandCount_givenBy_b117 w
  | .inr t => some t
def f_HandCount_givenBy (a1 : Int32) (a2 : Int32) (a3 : Int32) (w : Wt) : Option Int32 := Option.bind (lp (f_HandCount_givenBy_L6 a1 a2 a3 w) FU ((0 : Int32), (0 : Int32))) (f_HandCount_givenBy_x6 w)
def RM_f_HandCount_givenBy : Room := { frames := 1, cells := 0, slots := 0, locals := 23 }
set_option maxHeartbeats 4000000 in
set_option maxRecDepth 20000 in
theorem k_f_HandCount_givenBy (a1 : Int32) (a2 : Int32) (a3 : Int32) (w : Wt) (z : Int32) (hx : p.tables.exec = Jvm.exec) (hb : c.code = cX2_givenBy) (hml : c.maxLocals = 7) (C : Cx EVc KC D dA q A s m args RX2) (fin : ∀ (H : Heap) (locs : List Loc) (ls : Array Slot) (r' : Int32) (pc : Nat) , Sta KC D dA q A s.heap w H locs → some r' = some z → decode cX2_givenBy pc = .ok (.ireturn, 1) → W p l e RM_f_HandCount_givenBy s m args below meth c H locs 0 0 Q (F0 m pc ls [.int r'])) : ∀ (H : Heap) (locs : List Loc) (ls : Array Slot), lv_has ls 7 [(0, .ref (q 28)), (1, .int a1), (2, .int a2), (3, .int a3)] → Sta KC D dA q A s.heap w H locs → f_HandCount_givenBy a1 a2 a3 w = some z → W p l e RM_f_HandCount_givenBy s m args below meth c H locs 0 0 Q (F0 m 0 ls []) := by
  have ev : evOk EVc := EVc_ok
  have lab117 : ∀ (H : Heap) (locs : List Loc) (ls : Array Slot), lv_has ls 7 [] → Sta KC D dA q A s.heap w H locs → Option.bind (f_HandCount_givenBy_b117 w) some = some z → W p l e RM_f_HandCount_givenBy s m args below meth c H locs 0 0 Q (F0 m 117 ls []) := by
    intro  H locs ls hl S h
    unfold f_HandCount_givenBy_b117 at h
    refine lv_iconst (v := 0) hx hb dX2_givenBy_117 (by decide) ?_
    exact fin _ _ _ (0 : Int32) _ S h dX2_givenBy_118
  have loop6 : ∀ (l1 : Int32) (l2 : Int32) (l3 : Int32) (n6 : Nat), ∀ (l4 : Int32) (l5 : Int32) (H : Heap) (locs : List Loc) (ls : Array Slot), lv_has ls 7 [(0, .ref (q 28)), (1, .int l1), (2, .int l2), (3, .int l3), (4, .int l4), (5, .int l5)] → Sta KC D dA q A s.heap w H locs → Option.bind (lp (f_HandCount_givenBy_L6 l1 l2 l3 w) n6 (l4, l5)) (fun x9 => Option.bind (f_HandCount_givenBy_x6 w x9) some) = some z → W p l e RM_f_HandCount_givenBy s m args below meth c H locs 0 0 Q (F0 m 6 ls []) := by
    intro l1 l2 l3 n6
    induction n6 with
    | zero =>
      intro l4 l5 H locs ls hl S h
      exact (h_lp0 h).elim
    | succ n6 ih6 =>
      intro l4 l5 H locs ls hl S h
      have h := h_lp h
      unfold f_HandCount_givenBy_L6 at h
      refine lv_iload hx hb dX2_givenBy_6 (lv_at hl 5 rfl) ?_
      refine lv_aload_n hx hb dX2_givenBy_8 rfl (lv_at hl 0 rfl) ?_
      refine g_getR fl_RX2_49_X2 hx hb C S KC_28 rfl dX2_givenBy_9 ?_
      refine g_getR fl_RX2_65_X0 hx hb C S KC_13 rfl dX2_givenBy_12 ?_
      refine lv_iload_n hx hb dX2_givenBy_15 rfl (lv_at hl 1 rfl) ?_
      obtain ⟨g1, h⟩ := h_gd h
      refine r_iald hx hb C S KC_18 (h_in g1) dX2_givenBy_16 ?_
      refine lv_icmp_ge (tgt := 117) hx hb dX2_givenBy_17 rfl (fun c2 => ?_) (fun c2 => ?_)
      · have h := h_t c2 h
        exact lab117  _ _ _ (lv_sub hl [] rfl) S h
      · have h := h_f c2 h
        refine lv_aload_n hx hb dX2_givenBy_20 rfl (lv_at hl 0 rfl) ?_
        refine g_getR fl_RX2_49_X2 hx hb C S KC_28 rfl dX2_givenBy_21 ?_
        refine lv_iload_n hx hb dX2_givenBy_24 rfl (lv_at hl 1 rfl) ?_
        refine lv_iload hx hb dX2_givenBy_25 (lv_at hl 5 rfl) ?_
        obtain ⟨x3, ex3, h⟩ := h_c h
        refine k_i C S (q_V (rest := []) (As := [.int l1, .int l5]) lk_RX2_68 ev hx hb hml C S KC_13 rfl (c_f_Box_candidateAt l D dA q l1 l5 w x3 ex3 _) rfl rfl ⟨(Nat.le_of_ble_eq_true rfl), (Nat.le_of_ble_eq_true rfl)⟩ rfl hl.1 rfl (Nat.le_of_ble_eq_true rfl) dX2_givenBy_27 ⟨(Nat.le_of_ble_eq_true rfl), (Nat.le_of_ble_eq_true rfl)⟩) (fun H locs S => ?_)
        refine lv_istore (lv' := [(6, .int x3), (0, .ref (q 28)), (1, .int l1), (2, .int l2), (3, .int l3), (4, .int l4), (5, .int l5)]) hx hb dX2_givenBy_30 hl (Nat.le_of_ble_eq_true rfl) rfl (fun ls hl => ?_)
        refine lv_iload hx hb dX2_givenBy_32 (lv_at hl 0 rfl) ?_
        refine lv_iload_n hx hb dX2_givenBy_34 rfl (lv_at hl 4 rfl) ?_
        refine lv_icmp_eq (tgt := 65) hx hb dX2_givenBy_35 rfl (fun c4 => ?_) (fun c4 => ?_)
        · have h := h_t c4 h
          refine lv_aload_n hx hb dX2_givenBy_65 rfl (lv_at hl 1 rfl) ?_
          refine g_getR fl_RX2_9_X2 hx hb C S KC_28 rfl dX2_givenBy_66 ?_
          refine lv_iload_n hx hb dX2_givenBy_69 rfl (lv_at hl 3 rfl) ?_
          obtain ⟨g5, h⟩ := h_gd h
          refine r_cald hx hb C S KC_30 (h_in g5) dX2_givenBy_70 ?_
          refine lv_bipush (v := 98) hx hb dX2_givenBy_71 (by decide) ?_
          refine lv_icmp_ne (tgt := 89) hx hb dX2_givenBy_73 rfl (fun c6 => ?_) (fun c6 => ?_)
          · have h := h_f c6 h
            refine lv_aload_n hx hb dX2_givenBy_89 rfl (lv_at hl 1 rfl) ?_
            refine g_getR fl_RX2_9_X2 hx hb C S KC_28 rfl dX2_givenBy_90 ?_
            refine lv_iload_n hx hb dX2_givenBy_93 rfl (lv_at hl 3 rfl) ?_
            obtain ⟨g7, h⟩ := h_gd h
            refine r_cald hx hb C S KC_30 (h_in g7) dX2_givenBy_94 ?_
            refine lv_bipush (v := 97) hx hb dX2_givenBy_95 (by decide) ?_
            refine lv_icmp_eq (tgt := 105) hx hb dX2_givenBy_97 rfl (fun c8 => ?_) (fun c8 => ?_)
            · have h := h_t c8 h
              refine lv_iconst (v := 1) hx hb dX2_givenBy_105 (by decide) ?_
              refine lv_goto (tgt := 110) hx hb dX2_givenBy_106 rfl ?_
              exact fin _ _ _ (1 : Int32) _ S h dX2_givenBy_110
            · have h := h_f c8 h
              refine lv_iload hx hb dX2_givenBy_100 (lv_at hl 5 rfl) ?_
              refine lv_if_ne (tgt := 109) hx hb dX2_givenBy_102 rfl (fun c9 => ?_) (fun c9 => ?_)
              · have h := h_f c9 h
                refine lv_iconst (v := 0) hx hb dX2_givenBy_109 (by decide) ?_
                exact fin _ _ _ (0 : Int32) _ S h dX2_givenBy_110
              · have h := h_t c9 h
                refine lv_iconst (v := 1) hx hb dX2_givenBy_105 (by decide) ?_
                refine lv_goto (tgt := 110) hx hb dX2_givenBy_106 rfl ?_
                exact fin _ _ _ (1 : Int32) _ S h dX2_givenBy_110
          · have h := h_t c6 h
            refine lv_aload_n hx hb dX2_givenBy_76 rfl (lv_at hl 1 rfl) ?_
            refine g_getR fl_RX2_15_X2 hx hb C S KC_28 rfl dX2_givenBy_77 ?_
            refine lv_iload_n hx hb dX2_givenBy_80 rfl (lv_at hl 3 rfl) ?_
            obtain ⟨g10, h⟩ := h_gd h
            refine r_iald hx hb C S KC_31 (h_in g10) dX2_givenBy_81 ?_
            obtain ⟨x11, ex11, h⟩ := h_c h
            refine k_i C S (q_S (rest := []) (As := [.int (w 31 (l2).toNatClampNeg)]) lk_RX2_76 ev hx hb hml C S (c_f_Integer_bitCount l D dA q (w 31 (l2).toNatClampNeg) w x11 ex11 _) rfl rfl ⟨(Nat.le_of_ble_eq_true rfl), (Nat.le_of_ble_eq_true rfl)⟩ rfl hl.1 rfl (Nat.le_of_ble_eq_true rfl) dX2_givenBy_82 ⟨(Nat.le_of_ble_eq_true rfl), (Nat.le_of_ble_eq_true rfl)⟩) (fun H locs S => ?_)
            refine lv_iload hx hb dX2_givenBy_85 (lv_at hl 5 rfl) ?_
            refine lv_isub hx hb dX2_givenBy_87 ?_
            exact fin _ _ _ (x11 - l4) _ S h dX2_givenBy_88
        · have h := h_f c4 h
          refine lv_iload hx hb dX2_givenBy_38 (lv_at hl 5 rfl) ?_
          refine lv_aload_n hx hb dX2_givenBy_40 rfl (lv_at hl 1 rfl) ?_
          refine g_getR fl_RX2_15_X2 hx hb C S KC_28 rfl dX2_givenBy_41 ?_
          refine lv_iload_n hx hb dX2_givenBy_44 rfl (lv_at hl 3 rfl) ?_
          obtain ⟨g12, h⟩ := h_gd h
          refine r_iald hx hb C S KC_31 (h_in g12) dX2_givenBy_45 ?_
          refine lv_iload hx hb dX2_givenBy_46 (lv_at hl 0 rfl) ?_
          obtain ⟨x13, ex13, h⟩ := h_c h
          refine k_i C S (q_SU (rest := [.int l4]) (As := [.int (w 31 (l2).toNatClampNeg), .int x3]) lk_RX2_72 ev hx hb hml C S (c_f_Count_hasBit l D dA q (w 31 (l2).toNatClampNeg) x3 w x13 ex13 _) rfl rfl ⟨(Nat.le_of_ble_eq_true rfl), (Nat.le_of_ble_eq_true rfl)⟩ rfl hl.1 rfl (Nat.le_of_ble_eq_true rfl) dX2_givenBy_48 ⟨(Nat.le_of_ble_eq_true rfl), (Nat.le_of_ble_eq_true rfl)⟩) (fun H locs S => ?_)
          refine lv_if_eq (tgt := 58) hx hb dX2_givenBy_51 rfl (fun c14 => ?_) (fun c14 => ?_)
          · have h := h_t c14 h
            refine lv_iconst (v := 0) hx hb dX2_givenBy_58 (by decide) ?_
            refine lv_iadd hx hb dX2_givenBy_59 ?_
            refine lv_topi (fun v15 ev15 => ?_)
            have h := h_l h v15 ev15
            refine lv_istore (lv' := [(4, .int v15), (6, .int x3), (0, .ref (q 28)), (1, .int l1), (2, .int l2), (3, .int l3), (5, .int l5)]) hx hb dX2_givenBy_60 hl (Nat.le_of_ble_eq_true rfl) rfl (fun ls hl => ?_)
            refine lv_goto (tgt := 111) hx hb dX2_givenBy_62 rfl ?_
            refine lv_iinc (v := (l5 + 1)) (lv' := [(5, .int (l5 + 1)), (4, .int v15), (6, .int x3), (0, .ref (q 28)), (1, .int l1), (2, .int l2), (3, .int l3)]) hx hb dX2_givenBy_111 hl (k := 6) rfl rfl (Nat.le_of_ble_eq_true rfl) rfl (fun ls hl => ?_)
            refine lv_goto (tgt := 6) hx hb dX2_givenBy_114 rfl ?_
            exact ih6 v15 (l5 + 1) _ _ _ (lv_sub hl [3, 4, 5, 6, 1, 0] rfl) S h
          · have h := h_f c14 h
            refine lv_iconst (v := 1) hx hb dX2_givenBy_54 (by decide) ?_
            refine lv_goto (tgt := 59) hx hb dX2_givenBy_55 rfl ?_
            refine lv_iadd hx hb dX2_givenBy_59 ?_
            refine lv_topi (fun v16 ev16 => ?_)
            have h := h_l h v16 ev16
            refine lv_istore (lv' := [(4, .int v16), (6, .int x3), (0, .ref (q 28)), (1, .int l1), (2, .int l2), (3, .int l3), (5, .int l5)]) hx hb dX2_givenBy_60 hl (Nat.le_of_ble_eq_true rfl) rfl (fun ls hl => ?_)
            refine lv_goto (tgt := 111) hx hb dX2_givenBy_62 rfl ?_
            refine lv_iinc (v := (l5 + 1)) (lv' := [(5, .int (l5 + 1)), (4, .int v16), (6, .int x3), (0, .ref (q 28)), (1, .int l1), (2, .int l2), (3, .int l3)]) hx hb dX2_givenBy_111 hl (k := 6) rfl rfl (Nat.le_of_ble_eq_true rfl) rfl (fun ls hl => ?_)
            refine lv_goto (tgt := 6) hx hb dX2_givenBy_114 rfl ?_
            exact ih6 v16 (l5 + 1) _ _ _ (lv_sub hl [3, 4, 5, 6, 1, 0] rfl) S h
  intro H locs ls hl S h
  have h := h_0 h
  unfold f_HandCount_givenBy at h
  refine lv_iconst (v := 0) hx hb dX2_givenBy_0 (by decide) ?_
  refine lv_istore (lv' := [(4, .int (0 : Int32)), (0, .ref (q 28)), (1, .int a1), (2, .int a2), (3, .int a3)]) hx hb dX2_givenBy_1 hl (Nat.le_of_ble_eq_true rfl) rfl (fun ls hl => ?_)
  refine lv_iconst (v := 0) hx hb dX2_givenBy_3 (by decide) ?_
  refine lv_istore (lv' := [(5, .int (0 : Int32)), (4, .int (0 : Int32)), (0, .ref (q 28)), (1, .int a1), (2, .int a2), (3, .int a3)]) hx hb dX2_givenBy_4 hl (Nat.le_of_ble_eq_true rfl) rfl (fun ls hl => ?_)
  exact loop6 a1 a2 a3 FU (0 : Int32) (0 : Int32) _ _ _ (lv_sub hl [2, 3, 4, 5, 1, 0] rfl) S (h_bb h)
theorem c_f_HandCount_givenBy (l : Launch) (D : va_G) (dA : Nat → ClassId) (q : Nat → Nat) (a1 : Int32) (a2 : Int32) (a3 : Int32) (w : Wt) (r : Int32) (h : f_HandCount_givenBy a1 a2 a3 w = some r) : Mi l EVc KC D dA q yX2_givenBy cX2_givenBy 7 (some .int) RM_f_HandCount_givenBy [.ref (q 28), .int a1, .int a2, .int a3] w r w :=
  mk_i (by decide) rfl EVc_ok (Nat.le_of_ble_eq_true rfl) (fun p e s m args below meth c A Q ls hx hb hml C S hl fin => k_f_HandCount_givenBy a1 a2 a3 w r hx hb hml C (fun H locs ls r' pc S h d => fin H locs ls r' w pc S (by rw [Option.some.inj h]) d) _ _ _ hl S h)
/-! Ballotscript$HandCount.votesIn(II)I f_HandCount_votesIn -/
def f_HandCount_votesIn_b48 (l3 : Int32) (w : Wt) : Option Int32 := some l3
def f_HandCount_votesIn_L11 (l1 : Int32) (l2 : Int32) (w : Wt) : (Int32 × Int32) → Option ((Int32 × Int32) ⊕ Int32)
  | (l3, l4) => (if (w 13 10) ≤ l4 then some (.inr l3) else gd (inb l4 100) (Option.bind (f_HandCount_givenBy (w 21 (l4).toNatClampNeg) l1 l2 w) fun x3 => nmd (l3 + x3) fun v4 => some (.inl (v4, (l4 + 1)))))
def f_HandCount_votesIn_x11 (w : Wt) : Int32 → Option Int32
  | l3 => f_HandCount_votesIn_b48 l3 w
def f_HandCount_votesIn (a1 : Int32) (a2 : Int32) (w : Wt) : Option Int32 := (if (0 : Int32) ≤ a1 then Option.bind (lp (f_HandCount_votesIn_L11 a1 a2 w) FU ((0 : Int32), (0 : Int32))) (f_HandCount_votesIn_x11 w) else some (0 : Int32))
def RM_f_HandCount_votesIn : Room := { frames := 2, cells := 0, slots := 0, locals := 49 }
set_option maxHeartbeats 4000000 in
set_option maxRecDepth 20000 in
theorem k_f_HandCount_votesIn (a1 : Int32) (a2 : Int32) (w : Wt) (z : Int32) (hx : p.tables.exec = Jvm.exec) (hb : c.code = cX2_votesIn) (hml : c.maxLocals = 5) (C : Cx EVc KC D dA q A s m args RX2) (fin : ∀ (H : Heap) (locs : List Loc) (ls : Array Slot) (r' : Int32) (pc : Nat) , Sta KC D dA q A s.heap w H locs → some r' = some z → decode cX2_votesIn pc = .ok (.ireturn, 1) → W p l e RM_f_HandCount_votesIn s m args below meth c H locs 0 0 Q (F0 m pc ls [.int r'])) : ∀ (H : Heap) (locs : List Loc) (ls : Array Slot), lv_has ls 5 [(0, .ref (q 28)), (1, .int a1), (2, .int a2)] → Sta KC D dA q A s.heap w H locs → f_HandCount_votesIn a1 a2 w = some z → W p l e RM_f_HandCount_votesIn s m args below meth c H locs 0 0 Q (F0 m 0 ls []) := by
  have ev : evOk EVc := EVc_ok
  have lab48 : ∀ (l3 : Int32) (H : Heap) (locs : List Loc) (ls : Array Slot), lv_has ls 5 [(3, .int l3)] → Sta KC D dA q A s.heap w H locs → Option.bind (f_HandCount_votesIn_b48 l3 w) some = some z → W p l e RM_f_HandCount_votesIn s m args below meth c H locs 0 0 Q (F0 m 48 ls []) := by
    intro l3 H locs ls hl S h
    unfold f_HandCount_votesIn_b48 at h
    refine lv_iload_n hx hb dX2_votesIn_48 rfl (lv_at hl 0 rfl) ?_
    exact fin _ _ _ l3 _ S h dX2_votesIn_49
  have loop11 : ∀ (l1 : Int32) (l2 : Int32) (n11 : Nat), ∀ (l3 : Int32) (l4 : Int32) (H : Heap) (locs : List Loc) (ls : Array Slot), lv_has ls 5 [(0, .ref (q 28)), (1, .int l1), (2, .int l2), (3, .int l3), (4, .int l4)] → Sta KC D dA q A s.heap w H locs → Option.bind (lp (f_HandCount_votesIn_L11 l1 l2 w) n11 (l3, l4)) (fun x9 => Option.bind (f_HandCount_votesIn_x11 w x9) some) = some z → W p l e RM_f_HandCount_votesIn s m args below meth c H locs 0 0 Q (F0 m 11 ls []) := by
    intro l1 l2 n11
    induction n11 with
    | zero =>
      intro l3 l4 H locs ls hl S h
      exact (h_lp0 h).elim
    | succ n11 ih11 =>
      intro l3 l4 H locs ls hl S h
      have h := h_lp h
      unfold f_HandCount_votesIn_L11 at h
      refine lv_iload hx hb dX2_votesIn_11 (lv_at hl 4 rfl) ?_
      refine lv_aload_n hx hb dX2_votesIn_13 rfl (lv_at hl 0 rfl) ?_
      refine g_getR fl_RX2_49_X2 hx hb C S KC_28 rfl dX2_votesIn_14 ?_
      refine g_get fl_RX2_53_X0 hx hb C S KC_13 rfl dX2_votesIn_17 ?_
      refine lv_icmp_ge (tgt := 48) hx hb dX2_votesIn_20 rfl (fun c1 => ?_) (fun c1 => ?_)
      · have h := h_t c1 h
        exact lab48 l3 _ _ _ (lv_sub hl [3] rfl) S h
      · have h := h_f c1 h
        refine lv_iload_n hx hb dX2_votesIn_23 rfl (lv_at hl 3 rfl) ?_
        refine lv_aload_n hx hb dX2_votesIn_24 rfl (lv_at hl 0 rfl) ?_
        refine lv_aload_n hx hb dX2_votesIn_25 rfl (lv_at hl 0 rfl) ?_
        refine g_getR fl_RX2_49_X2 hx hb C S KC_28 rfl dX2_votesIn_26 ?_
        refine g_getR fl_RX2_58_X0 hx hb C S KC_13 rfl dX2_votesIn_29 ?_
        refine lv_iload hx hb dX2_votesIn_32 (lv_at hl 4 rfl) ?_
        obtain ⟨g2, h⟩ := h_gd h
        refine r_iald hx hb C S KC_21 (h_in g2) dX2_votesIn_34 ?_
        refine lv_iload_n hx hb dX2_votesIn_35 rfl (lv_at hl 1 rfl) ?_
        refine lv_iload_n hx hb dX2_votesIn_36 rfl (lv_at hl 2 rfl) ?_
        obtain ⟨x3, ex3, h⟩ := h_c h
        refine k_i C S (q_V (rest := [.int l3]) (As := [.int (w 21 (l4).toNatClampNeg), .int l1, .int l2]) lk_RX2_61 ev hx hb hml C S KC_28 rfl (c_f_HandCount_givenBy l D dA q (w 21 (l4).toNatClampNeg) l1 l2 w x3 ex3 _) rfl rfl ⟨(Nat.le_of_ble_eq_true rfl), (Nat.le_of_ble_eq_true rfl)⟩ rfl hl.1 rfl (Nat.le_of_ble_eq_true rfl) dX2_votesIn_37 ⟨(Nat.le_of_ble_eq_true rfl), (Nat.le_of_ble_eq_true rfl)⟩) (fun H locs S => ?_)
        refine lv_iadd hx hb dX2_votesIn_40 ?_
        refine lv_topi (fun v4 ev4 => ?_)
        have h := h_l h v4 ev4
        refine lv_istore_n (lv' := [(3, .int v4), (0, .ref (q 28)), (1, .int l1), (2, .int l2), (4, .int l4)]) hx hb dX2_votesIn_41 rfl hl (Nat.le_of_ble_eq_true rfl) rfl (fun ls hl => ?_)
        refine lv_iinc (v := (l4 + 1)) (lv' := [(4, .int (l4 + 1)), (3, .int v4), (0, .ref (q 28)), (1, .int l1), (2, .int l2)]) hx hb dX2_votesIn_42 hl (k := 4) rfl rfl (Nat.le_of_ble_eq_true rfl) rfl (fun ls hl => ?_)
        refine lv_goto (tgt := 11) hx hb dX2_votesIn_45 rfl ?_
        exact ih11 v4 (l4 + 1) _ _ _ (lv_sub hl [2, 3, 4, 1, 0] rfl) S h
  intro H locs ls hl S h
  have h := h_0 h
  unfold f_HandCount_votesIn at h
  refine lv_iload_n hx hb dX2_votesIn_0 rfl (lv_at hl 1 rfl) ?_
  refine lv_if_ge (tgt := 6) hx hb dX2_votesIn_1 rfl (fun c5 => ?_) (fun c5 => ?_)
  · have h := h_t c5 h
    refine lv_iconst (v := 0) hx hb dX2_votesIn_6 (by decide) ?_
    refine lv_istore_n (lv' := [(3, .int (0 : Int32)), (0, .ref (q 28)), (1, .int a1), (2, .int a2)]) hx hb dX2_votesIn_7 rfl hl (Nat.le_of_ble_eq_true rfl) rfl (fun ls hl => ?_)
    refine lv_iconst (v := 0) hx hb dX2_votesIn_8 (by decide) ?_
    refine lv_istore (lv' := [(4, .int (0 : Int32)), (3, .int (0 : Int32)), (0, .ref (q 28)), (1, .int a1), (2, .int a2)]) hx hb dX2_votesIn_9 hl (Nat.le_of_ble_eq_true rfl) rfl (fun ls hl => ?_)
    exact loop11 a1 a2 FU (0 : Int32) (0 : Int32) _ _ _ (lv_sub hl [2, 3, 4, 1, 0] rfl) S (h_bb h)
  · have h := h_f c5 h
    refine lv_iconst (v := 0) hx hb dX2_votesIn_4 (by decide) ?_
    exact fin _ _ _ (0 : Int32) _ S h dX2_votesIn_5
theorem c_f_HandCount_votesIn (l : Launch) (D : va_G) (dA : Nat → ClassId) (q : Nat → Nat) (a1 : Int32) (a2 : Int32) (w : Wt) (r : Int32) (h : f_HandCount_votesIn a1 a2 w = some r) : Mi l EVc KC D dA q yX2_votesIn cX2_votesIn 5 (some .int) RM_f_HandCount_votesIn [.ref (q 28), .int a1, .int a2] w r w :=
  mk_i (by decide) rfl EVc_ok (Nat.le_of_ble_eq_true rfl) (fun p e s m args below meth c A Q ls hx hb hml C S hl fin => k_f_HandCount_votesIn a1 a2 w r hx hb hml C (fun H locs ls r' pc S h d => fin H locs ls r' w pc S (by rw [Option.some.inj h]) d) _ _ _ hl S h)
end WALKS

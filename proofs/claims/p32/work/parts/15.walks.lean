section WALKS
variable {p : Program} {l : Launch} {e : Env} {s : State} {m : MethodId} {args : Array Value} {below : List Frame} {meth : Method} {c : Code} {Q : State → Prop} {D : va_G} {dA : Nat → ClassId} {q : Nat → Nat} {A : Nat → Prop}
/-! Ballotscript$MachineCount.stepAfterPass(II)I f_MachineCount_stepAfterPass -/
def f_MachineCount_stepAfterPass_b27 (l1 : Int32) (l2 : Int32) (t0 : Int32) (w : Wt) : Option Int32 := (if t0 = (0 : Int32) then some (l1 + (1 : Int32)) else some l2)
def f_MachineCount_stepAfterPass_b26 (l1 : Int32) (l2 : Int32) (w : Wt) : Option Int32 := f_MachineCount_stepAfterPass_b27 l1 l2 (0 : Int32) w
def f_MachineCount_stepAfterPass (a1 : Int32) (a2 : Int32) (w : Wt) : Option Int32 := Option.bind (f_Ballotscript_isWithin a2 (0 : Int32) a1) fun x2 => (if x2 = (0 : Int32) then f_MachineCount_stepAfterPass_b26 a1 a2 w else gd (inb a2 24) ((if (w 27 (a2).toNatClampNeg) = (w 22 5) then f_MachineCount_stepAfterPass_b26 a1 a2 w else f_MachineCount_stepAfterPass_b27 a1 a2 (1 : Int32) w)))
def RM_f_MachineCount_stepAfterPass : Room := { frames := 1, cells := 0, slots := 0, locals := 22 }
set_option maxHeartbeats 4000000 in
set_option maxRecDepth 20000 in
theorem k_f_MachineCount_stepAfterPass (a1 : Int32) (a2 : Int32) (w : Wt) (z : Int32) (hx : p.tables.exec = Jvm.exec) (hb : c.code = cX3_stepAfterPass) (hml : c.maxLocals = 4) (C : Cx EVc KC D dA q A s m args RX3) (fin : ∀ (H : Heap) (locs : List Loc) (ls : Array Slot) (r' : Int32) (pc : Nat) , Sta KC D dA q A s.heap w H locs → some r' = some z → decode cX3_stepAfterPass pc = .ok (.ireturn, 1) → W p l e RM_f_MachineCount_stepAfterPass s m args below meth c H locs 0 0 Q (F0 m pc ls [.int r'])) : ∀ (H : Heap) (locs : List Loc) (ls : Array Slot), lv_has ls 4 [(0, .ref (q 22)), (1, .int a1), (2, .int a2)] → Sta KC D dA q A s.heap w H locs → f_MachineCount_stepAfterPass a1 a2 w = some z → W p l e RM_f_MachineCount_stepAfterPass s m args below meth c H locs 0 0 Q (F0 m 0 ls []) := by
  have ev : evOk EVc := EVc_ok
  have lab27 : ∀ (l1 : Int32) (l2 : Int32) (t0 : Int32) (H : Heap) (locs : List Loc) (ls : Array Slot), lv_has ls 4 [(1, .int l1), (2, .int l2)] → Sta KC D dA q A s.heap w H locs → Option.bind (f_MachineCount_stepAfterPass_b27 l1 l2 t0 w) some = some z → W p l e RM_f_MachineCount_stepAfterPass s m args below meth c H locs 0 0 Q (F0 m 27 ls [.int t0]) := by
    intro l1 l2 t0 H locs ls hl S h
    unfold f_MachineCount_stepAfterPass_b27 at h
    refine lv_istore_n (lv' := [(3, .int t0), (1, .int l1), (2, .int l2)]) hx hb dX3_stepAfterPass_27 rfl hl (Nat.le_of_ble_eq_true rfl) rfl (fun ls hl => ?_)
    refine lv_iload_n hx hb dX3_stepAfterPass_28 rfl (lv_at hl 0 rfl) ?_
    refine lv_if_eq (tgt := 36) hx hb dX3_stepAfterPass_29 rfl (fun c1 => ?_) (fun c1 => ?_)
    · have h := h_t c1 h
      refine lv_iload_n hx hb dX3_stepAfterPass_36 rfl (lv_at hl 1 rfl) ?_
      refine lv_iconst (v := 1) hx hb dX3_stepAfterPass_37 (by decide) ?_
      refine lv_iadd hx hb dX3_stepAfterPass_38 ?_
      exact fin _ _ _ (l1 + (1 : Int32)) _ S h dX3_stepAfterPass_39
    · have h := h_f c1 h
      refine lv_iload_n hx hb dX3_stepAfterPass_32 rfl (lv_at hl 2 rfl) ?_
      refine lv_goto (tgt := 39) hx hb dX3_stepAfterPass_33 rfl ?_
      exact fin _ _ _ l2 _ S h dX3_stepAfterPass_39
  have lab26 : ∀ (l1 : Int32) (l2 : Int32) (H : Heap) (locs : List Loc) (ls : Array Slot), lv_has ls 4 [(1, .int l1), (2, .int l2)] → Sta KC D dA q A s.heap w H locs → Option.bind (f_MachineCount_stepAfterPass_b26 l1 l2 w) some = some z → W p l e RM_f_MachineCount_stepAfterPass s m args below meth c H locs 0 0 Q (F0 m 26 ls []) := by
    intro l1 l2 H locs ls hl S h
    unfold f_MachineCount_stepAfterPass_b26 at h
    refine lv_iconst (v := 0) hx hb dX3_stepAfterPass_26 (by decide) ?_
    exact lab27 l1 l2 (0 : Int32) _ _ _ (lv_sub hl [0, 1] rfl) S h
  intro H locs ls hl S h
  have h := h_0 h
  unfold f_MachineCount_stepAfterPass at h
  refine lv_iload_n hx hb dX3_stepAfterPass_0 rfl (lv_at hl 2 rfl) ?_
  refine lv_iconst (v := 0) hx hb dX3_stepAfterPass_1 (by decide) ?_
  refine lv_iload_n hx hb dX3_stepAfterPass_2 rfl (lv_at hl 1 rfl) ?_
  obtain ⟨x2, ex2, h⟩ := h_c h
  refine k_i C S (q_N (rest := []) (As := [.int a2, .int (0 : Int32), .int a1]) lk_RX3_51 (nm_lk_RX3_51 C) ev hx hb hml C S (c_f_Ballotscript_isWithin l D dA q a2 (0 : Int32) a1 w x2 ex2 _) rfl rfl ⟨(Nat.le_of_ble_eq_true rfl), (Nat.le_of_ble_eq_true rfl)⟩ rfl hl.1 rfl (Nat.le_of_ble_eq_true rfl) dX3_stepAfterPass_3 ⟨(Nat.le_of_ble_eq_true rfl), (Nat.le_of_ble_eq_true rfl)⟩) (fun H locs S => ?_)
  refine lv_if_eq (tgt := 26) hx hb dX3_stepAfterPass_6 rfl (fun c3 => ?_) (fun c3 => ?_)
  · have h := h_t c3 h
    exact lab26 a1 a2 _ _ _ (lv_sub hl [1, 2] rfl) S h
  · have h := h_f c3 h
    refine lv_aload_n hx hb dX3_stepAfterPass_9 rfl (lv_at hl 0 rfl) ?_
    refine g_getR fl_RX3_21_X3 hx hb C S KC_22 rfl dX3_stepAfterPass_10 ?_
    refine lv_iload_n hx hb dX3_stepAfterPass_13 rfl (lv_at hl 2 rfl) ?_
    obtain ⟨g4, h⟩ := h_gd h
    refine r_iald hx hb C S KC_27 (h_in g4) dX3_stepAfterPass_14 ?_
    refine lv_aload_n hx hb dX3_stepAfterPass_15 rfl (lv_at hl 0 rfl) ?_
    refine g_get fl_RX3_44_X3 hx hb C S KC_22 rfl dX3_stepAfterPass_16 ?_
    refine lv_icmp_eq (tgt := 26) hx hb dX3_stepAfterPass_19 rfl (fun c5 => ?_) (fun c5 => ?_)
    · have h := h_t c5 h
      exact lab26 a1 a2 _ _ _ (lv_sub hl [1, 2] rfl) S h
    · have h := h_f c5 h
      refine lv_iconst (v := 1) hx hb dX3_stepAfterPass_22 (by decide) ?_
      refine lv_goto (tgt := 27) hx hb dX3_stepAfterPass_23 rfl ?_
      exact lab27 a1 a2 (1 : Int32) _ _ _ (lv_sub hl [1, 2] rfl) S h
theorem c_f_MachineCount_stepAfterPass (l : Launch) (D : va_G) (dA : Nat → ClassId) (q : Nat → Nat) (a1 : Int32) (a2 : Int32) (w : Wt) (r : Int32) (h : f_MachineCount_stepAfterPass a1 a2 w = some r) : Mi l EVc KC D dA q yX3_stepAfterPass cX3_stepAfterPass 4 (some .int) RM_f_MachineCount_stepAfterPass [.ref (q 22), .int a1, .int a2] w r w :=
  mk_i (by decide) rfl EVc_ok (Nat.le_of_ble_eq_true rfl) (fun p e s m args below meth c A Q ls hx hb hml C S hl fin => k_f_MachineCount_stepAfterPass a1 a2 w r hx hb hml C (fun H locs ls r' pc S h d => fin H locs ls r' w pc S (by rw [Option.some.inj h]) d) _ _ _ hl S h)
/-! Ballotscript$MachineCount.follow(LBallotscript$Rule;)V f_MachineCount_follow -/
def f_MachineCount_follow_b102 (ro : Nat) (w : Wt) : Option Wt := some w
def f_MachineCount_follow_L4 (ro : Nat) : (Int32 × Int32 × Wt) → Option ((Int32 × Int32 × Wt) ⊕ (Wt ⊕ Wt))
  | (l2, l3, w) => (if (10000 : Int32) ≤ l3 then some (.inr (.inl w)) else (if (w 22 4) ≤ (0 : Int32) then some (.inr (.inl w)) else (if l2 < (0 : Int32) then some (.inr (.inr w)) else (if l2 < (w (32 + ro) 4) then gd (inb l2 24) (nmd (w (48 + ro) (l2).toNatClampNeg) fun v6 => (if v6 = (41 : Int32) then gd (inb l2 24) (Option.bind (f_MachineCount_stepAfterPass l2 (w (56 + ro) (l2).toNatClampNeg) w) fun x14 => some (.inl (x14, (l3 + 1), w))) else (if v6 = (40 : Int32) then gd (inb l2 24) (nmd (upd2 w 27 (l2).toNatClampNeg (w 22 5)) fun w12 => some (.inl ((l2 + 1), (l3 + 1), w12))) else gd (inb l2 24) (Option.bind (f_Count_obey_M v6 (w (56 + ro) (l2).toNatClampNeg) w) fun x10 => some (.inl ((l2 + 1), (l3 + 1), x10)))))) else some (.inr (.inr w))))))
def f_MachineCount_follow_x4 (ro : Nat) : (Wt ⊕ Wt) → Option Wt
  | .inl w => f_MachineCount_follow_b102 ro w
  | .inr t => some t
def f_MachineCount_follow (ro : Nat) (w : Wt) : Option Wt := Option.bind (lp (f_MachineCount_follow_L4 ro) FU ((0 : Int32), (0 : Int32), w)) (f_MachineCount_follow_x4 ro)
def RM_f_MachineCount_follow : Room := { frames := 9, cells := 0, slots := 0, locals := 222 }
set_option maxHeartbeats 4000000 in
set_option maxRecDepth 20000 in
theorem k_f_MachineCount_follow (ro : Nat) (hro : ro < 8) (w : Wt) (z : Wt) (hx : p.tables.exec = Jvm.exec) (hb : c.code = cX3_follow) (hml : c.maxLocals = 5) (C : Cx EVc KC D dA q A s m args RX3) (fin : ∀ (H : Heap) (locs : List Loc) (ls : Array Slot) (w2 : Wt) (pc : Nat) , Sta KC D dA q A s.heap w2 H locs → some w2 = some z → decode cX3_follow pc = .ok (.return_, 1) → W p l e RM_f_MachineCount_follow s m args below meth c H locs 0 0 Q (F0 m pc ls [])) : ∀ (H : Heap) (locs : List Loc) (ls : Array Slot), lv_has ls 5 [(0, .ref (q 22)), (1, .ref (q (32 + ro)))] → Sta KC D dA q A s.heap w H locs → f_MachineCount_follow ro w = some z → W p l e RM_f_MachineCount_follow s m args below meth c H locs 0 0 Q (F0 m 0 ls []) := by
  have ev : evOk EVc := EVc_ok
  have lab102 : ∀ (w : Wt) (H : Heap) (locs : List Loc) (ls : Array Slot), lv_has ls 5 [] → Sta KC D dA q A s.heap w H locs → Option.bind (f_MachineCount_follow_b102 ro w) some = some z → W p l e RM_f_MachineCount_follow s m args below meth c H locs 0 0 Q (F0 m 102 ls []) := by
    intro  w H locs ls hl S h
    unfold f_MachineCount_follow_b102 at h
    exact fin _ _ _ w _ S h dX3_follow_102
  have loop4 : ∀ (n4 : Nat), ∀ (l2 : Int32) (l3 : Int32) (w : Wt) (H : Heap) (locs : List Loc) (ls : Array Slot), lv_has ls 5 [(0, .ref (q 22)), (1, .ref (q (32 + ro))), (2, .int l2), (3, .int l3)] → Sta KC D dA q A s.heap w H locs → Option.bind (lp (f_MachineCount_follow_L4 ro) n4 (l2, l3, w)) (fun x9 => Option.bind (f_MachineCount_follow_x4 ro x9) some) = some z → W p l e RM_f_MachineCount_follow s m args below meth c H locs 0 0 Q (F0 m 4 ls []) := by
    intro  n4
    induction n4 with
    | zero =>
      intro l2 l3 w H locs ls hl S h
      exact (h_lp0 h).elim
    | succ n4 ih4 =>
      intro l2 l3 w H locs ls hl S h
      have h := h_lp h
      unfold f_MachineCount_follow_L4 at h
      refine lv_iload_n hx hb dX3_follow_4 rfl (lv_at hl 3 rfl) ?_
      refine lv_sipush (v := 10000) hx hb dX3_follow_5 (by decide) ?_
      refine lv_icmp_ge (tgt := 102) hx hb dX3_follow_8 rfl (fun c1 => ?_) (fun c1 => ?_)
      · have h := h_t c1 h
        exact lab102 w _ _ _ (lv_sub hl [] rfl) S h
      · have h := h_f c1 h
        refine lv_aload_n hx hb dX3_follow_11 rfl (lv_at hl 0 rfl) ?_
        refine g_get fl_RX3_24_X3 hx hb C S KC_22 rfl dX3_follow_12 ?_
        refine lv_if_le (tgt := 102) hx hb dX3_follow_15 rfl (fun c2 => ?_) (fun c2 => ?_)
        · have h := h_t c2 h
          exact lab102 w _ _ _ (lv_sub hl [] rfl) S h
        · have h := h_f c2 h
          refine lv_iload_n hx hb dX3_follow_18 rfl (lv_at hl 2 rfl) ?_
          refine lv_if_lt (tgt := 30) hx hb dX3_follow_19 rfl (fun c3 => ?_) (fun c3 => ?_)
          · have h := h_t c3 h
            exact fin _ _ _ w _ S h dX3_follow_30
          · have h := h_f c3 h
            refine lv_iload_n hx hb dX3_follow_22 rfl (lv_at hl 2 rfl) ?_
            refine lv_aload_n hx hb dX3_follow_23 rfl (lv_at hl 1 rfl) ?_
            refine g_get fl_RX3_28_X5 hx hb C S (KC_32 hro) rfl dX3_follow_24 ?_
            refine lv_icmp_lt (tgt := 31) hx hb dX3_follow_27 rfl (fun c4 => ?_) (fun c4 => ?_)
            · have h := h_t c4 h
              refine lv_aload_n hx hb dX3_follow_31 rfl (lv_at hl 1 rfl) ?_
              refine g_getR fl_RX3_33_X5 hx hb C S (KC_32 hro) rfl dX3_follow_32 ?_
              refine lv_iload_n hx hb dX3_follow_35 rfl (lv_at hl 2 rfl) ?_
              obtain ⟨g5, h⟩ := h_gd h
              refine r_cald hx hb C S (KC_48 hro) (h_in g5) dX3_follow_36 ?_
              refine lv_topi (fun v6 ev6 => ?_)
              have h := h_l h v6 ev6
              refine lv_istore (lv' := [(4, .int v6), (0, .ref (q 22)), (1, .ref (q (32 + ro))), (2, .int l2), (3, .int l3)]) hx hb dX3_follow_37 hl (Nat.le_of_ble_eq_true rfl) rfl (fun ls hl => ?_)
              refine lv_iload hx hb dX3_follow_39 (lv_at hl 0 rfl) ?_
              refine lv_bipush (v := 41) hx hb dX3_follow_41 (by decide) ?_
              refine lv_icmp_ne (tgt := 61) hx hb dX3_follow_43 rfl (fun c7 => ?_) (fun c7 => ?_)
              · have h := h_f c7 h
                refine lv_iload hx hb dX3_follow_61 (lv_at hl 0 rfl) ?_
                refine lv_bipush (v := 40) hx hb dX3_follow_63 (by decide) ?_
                refine lv_icmp_ne (tgt := 81) hx hb dX3_follow_65 rfl (fun c8 => ?_) (fun c8 => ?_)
                · have h := h_f c8 h
                  refine lv_aload_n hx hb dX3_follow_81 rfl (lv_at hl 1 rfl) ?_
                  refine lv_iload hx hb dX3_follow_82 (lv_at hl 0 rfl) ?_
                  refine lv_aload_n hx hb dX3_follow_84 rfl (lv_at hl 2 rfl) ?_
                  refine g_getR fl_RX3_37_X5 hx hb C S (KC_32 hro) rfl dX3_follow_85 ?_
                  refine lv_iload_n hx hb dX3_follow_88 rfl (lv_at hl 3 rfl) ?_
                  obtain ⟨g9, h⟩ := h_gd h
                  refine r_iald hx hb C S (KC_56 hro) (h_in g9) dX3_follow_89 ?_
                  obtain ⟨x10, ex10, h⟩ := h_c h
                  refine k_v C S (q_U (rest := []) (As := [.int v6, .int (w (56 + ro) (l2).toNatClampNeg)]) lk_RX3_47_X3 (ud_lk_RX3_47_X3 C) (us_lk_RX3_47_X3 C) ev hx hb hml C S KC_22 rfl (c_f_Count_obey_M l D dA q v6 (w (56 + ro) (l2).toNatClampNeg) w x10 ex10 _) rfl rfl ⟨(Nat.le_of_ble_eq_true rfl), (Nat.le_of_ble_eq_true rfl)⟩ rfl hl.1 rfl (Nat.le_of_ble_eq_true rfl) dX3_follow_90 ⟨(Nat.le_of_ble_eq_true rfl), (Nat.le_of_ble_eq_true rfl)⟩) (fun H locs S => ?_)
                  refine lv_iinc (v := (l2 + 1)) (lv' := [(2, .int (l2 + 1)), (4, .int v6), (0, .ref (q 22)), (1, .ref (q (32 + ro))), (3, .int l3)]) hx hb dX3_follow_93 hl (k := 3) rfl rfl (Nat.le_of_ble_eq_true rfl) rfl (fun ls hl => ?_)
                  refine lv_iinc (v := (l3 + 1)) (lv' := [(3, .int (l3 + 1)), (2, .int (l2 + 1)), (4, .int v6), (0, .ref (q 22)), (1, .ref (q (32 + ro)))]) hx hb dX3_follow_96 hl (k := 4) rfl rfl (Nat.le_of_ble_eq_true rfl) rfl (fun ls hl => ?_)
                  refine lv_goto (tgt := 4) hx hb dX3_follow_99 rfl ?_
                  exact ih4 (l2 + 1) (l3 + 1) x10 _ _ _ (lv_sub hl [3, 4, 1, 0] rfl) S h
                · have h := h_t c8 h
                  refine lv_aload_n hx hb dX3_follow_68 rfl (lv_at hl 1 rfl) ?_
                  refine g_getR fl_RX3_21_X3 hx hb C S KC_22 rfl dX3_follow_69 ?_
                  refine lv_iload_n hx hb dX3_follow_72 rfl (lv_at hl 3 rfl) ?_
                  refine lv_aload_n hx hb dX3_follow_73 rfl (lv_at hl 1 rfl) ?_
                  refine g_get fl_RX3_44_X3 hx hb C S KC_22 rfl dX3_follow_74 ?_
                  obtain ⟨g11, h⟩ := h_gd h
                  refine r_iast hx hb C S KC_27 (h_in g11) dX3_follow_77 (fun w12 ew12 H locs S => ?_)
                  have h := h_l h w12 ew12
                  refine lv_goto (tgt := 93) hx hb dX3_follow_78 rfl ?_
                  refine lv_iinc (v := (l2 + 1)) (lv' := [(2, .int (l2 + 1)), (4, .int v6), (0, .ref (q 22)), (1, .ref (q (32 + ro))), (3, .int l3)]) hx hb dX3_follow_93 hl (k := 3) rfl rfl (Nat.le_of_ble_eq_true rfl) rfl (fun ls hl => ?_)
                  refine lv_iinc (v := (l3 + 1)) (lv' := [(3, .int (l3 + 1)), (2, .int (l2 + 1)), (4, .int v6), (0, .ref (q 22)), (1, .ref (q (32 + ro)))]) hx hb dX3_follow_96 hl (k := 4) rfl rfl (Nat.le_of_ble_eq_true rfl) rfl (fun ls hl => ?_)
                  refine lv_goto (tgt := 4) hx hb dX3_follow_99 rfl ?_
                  exact ih4 (l2 + 1) (l3 + 1) w12 _ _ _ (lv_sub hl [3, 4, 1, 0] rfl) S h
              · have h := h_t c7 h
                refine lv_aload_n hx hb dX3_follow_46 rfl (lv_at hl 1 rfl) ?_
                refine lv_iload_n hx hb dX3_follow_47 rfl (lv_at hl 3 rfl) ?_
                refine lv_aload_n hx hb dX3_follow_48 rfl (lv_at hl 2 rfl) ?_
                refine g_getR fl_RX3_37_X5 hx hb C S (KC_32 hro) rfl dX3_follow_49 ?_
                refine lv_iload_n hx hb dX3_follow_52 rfl (lv_at hl 3 rfl) ?_
                obtain ⟨g13, h⟩ := h_gd h
                refine r_iald hx hb C S (KC_56 hro) (h_in g13) dX3_follow_53 ?_
                obtain ⟨x14, ex14, h⟩ := h_c h
                refine k_i C S (q_V (rest := []) (As := [.int l2, .int (w (56 + ro) (l2).toNatClampNeg)]) lk_RX3_40 ev hx hb hml C S KC_22 rfl (c_f_MachineCount_stepAfterPass l D dA q l2 (w (56 + ro) (l2).toNatClampNeg) w x14 ex14 _) rfl rfl ⟨(Nat.le_of_ble_eq_true rfl), (Nat.le_of_ble_eq_true rfl)⟩ rfl hl.1 rfl (Nat.le_of_ble_eq_true rfl) dX3_follow_54 ⟨(Nat.le_of_ble_eq_true rfl), (Nat.le_of_ble_eq_true rfl)⟩) (fun H locs S => ?_)
                refine lv_istore_n (lv' := [(2, .int x14), (4, .int v6), (0, .ref (q 22)), (1, .ref (q (32 + ro))), (3, .int l3)]) hx hb dX3_follow_57 rfl hl (Nat.le_of_ble_eq_true rfl) rfl (fun ls hl => ?_)
                refine lv_goto (tgt := 96) hx hb dX3_follow_58 rfl ?_
                refine lv_iinc (v := (l3 + 1)) (lv' := [(3, .int (l3 + 1)), (2, .int x14), (4, .int v6), (0, .ref (q 22)), (1, .ref (q (32 + ro)))]) hx hb dX3_follow_96 hl (k := 4) rfl rfl (Nat.le_of_ble_eq_true rfl) rfl (fun ls hl => ?_)
                refine lv_goto (tgt := 4) hx hb dX3_follow_99 rfl ?_
                exact ih4 x14 (l3 + 1) w _ _ _ (lv_sub hl [3, 4, 1, 0] rfl) S h
            · have h := h_f c4 h
              exact fin _ _ _ w _ S h dX3_follow_30
  intro H locs ls hl S h
  have h := h_0 h
  unfold f_MachineCount_follow at h
  refine lv_iconst (v := 0) hx hb dX3_follow_0 (by decide) ?_
  refine lv_istore_n (lv' := [(2, .int (0 : Int32)), (0, .ref (q 22)), (1, .ref (q (32 + ro)))]) hx hb dX3_follow_1 rfl hl (Nat.le_of_ble_eq_true rfl) rfl (fun ls hl => ?_)
  refine lv_iconst (v := 0) hx hb dX3_follow_2 (by decide) ?_
  refine lv_istore_n (lv' := [(3, .int (0 : Int32)), (2, .int (0 : Int32)), (0, .ref (q 22)), (1, .ref (q (32 + ro)))]) hx hb dX3_follow_3 rfl hl (Nat.le_of_ble_eq_true rfl) rfl (fun ls hl => ?_)
  exact loop4  FU (0 : Int32) (0 : Int32) w _ _ _ (lv_sub hl [2, 3, 1, 0] rfl) S (h_bb h)
theorem c_f_MachineCount_follow (l : Launch) (D : va_G) (dA : Nat → ClassId) (q : Nat → Nat) (ro : Nat) (hro : ro < 8) (w w' : Wt) (h : f_MachineCount_follow ro w = some w') : Mv l EVc KC D dA q yX3_follow cX3_follow 5 none RM_f_MachineCount_follow [.ref (q 22), .ref (q (32 + ro))] w w' :=
  mk_v (by decide) rfl EVc_ok (Nat.le_of_ble_eq_true rfl) (fun p e s m args below meth c A Q ls hx hb hml C S hl fin => k_f_MachineCount_follow ro hro w w' hx hb hml C (fun H locs ls w2 pc S h d => fin H locs ls w2 pc S h d) _ _ _ hl S h)
/-! Ballotscript.countVote(I)LBallotscript$MachineCount; f_Ballotscript_countVote -/
def f_Ballotscript_countVote (a1 : Int32) (w : Wt) : Option Wt := Option.bind (f_Box_gather a1 w) fun x1 => gd (inb a1 8) (gd (inb a1 8) (Option.bind (f_Count_begin_M (x1 (64 + (a1).toNatClampNeg) 1) (x1 (64 + (a1).toNatClampNeg) 2) x1) fun x4 => gd (inb a1 8) (gd (inb (x4 (64 + (a1).toNatClampNeg) 3) 8) (Option.bind (f_MachineCount_follow (((x4 (64 + (a1).toNatClampNeg) 3)).toNatClampNeg) x4) fun x7 => some x7))))
def RM_f_Ballotscript_countVote : Room := { frames := 10, cells := 0, slots := 0, locals := 246 }
set_option maxHeartbeats 4000000 in
set_option maxRecDepth 20000 in
theorem k_f_Ballotscript_countVote (a1 : Int32) (w : Wt) (z : Wt) (hx : p.tables.exec = Jvm.exec) (hb : c.code = cX9_countVote) (hml : c.maxLocals = 2) (C : Cx EVc KC D dA q A s m args RX9) (fin : ∀ (H : Heap) (locs : List Loc) (ls : Array Slot) (w2 : Wt) (pc : Nat) , Sta KC D dA q A s.heap w2 H locs → some w2 = some z → decode cX9_countVote pc = .ok (.areturn, 1) → W p l e RM_f_Ballotscript_countVote s m args below meth c H locs 0 0 Q (F0 m pc ls [.ref (q 22)])) : ∀ (H : Heap) (locs : List Loc) (ls : Array Slot), lv_has ls 2 [(0, .ref (q 0)), (1, .int a1)] → Sta KC D dA q A s.heap w H locs → f_Ballotscript_countVote a1 w = some z → W p l e RM_f_Ballotscript_countVote s m args below meth c H locs 0 0 Q (F0 m 0 ls []) := by
  have ev : evOk EVc := EVc_ok
  intro H locs ls hl S h
  have h := h_0 h
  unfold f_Ballotscript_countVote at h
  refine lv_aload_n hx hb dX9_countVote_0 rfl (lv_at hl 0 rfl) ?_
  refine g_getR fl_RX9_47_X9 hx hb C S KC_0 rfl dX9_countVote_1 ?_
  refine lv_iload_n hx hb dX9_countVote_4 rfl (lv_at hl 1 rfl) ?_
  obtain ⟨x1, ex1, h⟩ := h_c h
  refine k_v C S (q_V (rest := []) (As := [.int a1]) lk_RX9_186 ev hx hb hml C S KC_13 rfl (c_f_Box_gather l D dA q a1 w x1 ex1 _) rfl rfl ⟨(Nat.le_of_ble_eq_true rfl), (Nat.le_of_ble_eq_true rfl)⟩ rfl hl.1 rfl (Nat.le_of_ble_eq_true rfl) dX9_countVote_5 ⟨(Nat.le_of_ble_eq_true rfl), (Nat.le_of_ble_eq_true rfl)⟩) (fun H locs S => ?_)
  refine lv_aload_n hx hb dX9_countVote_8 rfl (lv_at hl 0 rfl) ?_
  refine g_getR fl_RX9_56_X9 hx hb C S KC_0 rfl dX9_countVote_9 ?_
  refine lv_aload_n hx hb dX9_countVote_12 rfl (lv_at hl 0 rfl) ?_
  refine g_getR fl_RX9_31_X9 hx hb C S KC_0 rfl dX9_countVote_13 ?_
  refine lv_iload_n hx hb dX9_countVote_16 rfl (lv_at hl 1 rfl) ?_
  obtain ⟨g2, h⟩ := h_gd h
  refine r_aald (t := 4) rfl hx hb C S KC_10 (h_in g2) dX9_countVote_17 ?_
  refine g_get fl_RX9_209_X8 hx hb C S (KC_64 (nt_lt (h_in g2))) rfl dX9_countVote_18 ?_
  refine lv_aload_n hx hb dX9_countVote_21 rfl (lv_at hl 0 rfl) ?_
  refine g_getR fl_RX9_31_X9 hx hb C S KC_0 rfl dX9_countVote_22 ?_
  refine lv_iload_n hx hb dX9_countVote_25 rfl (lv_at hl 1 rfl) ?_
  obtain ⟨g3, h⟩ := h_gd h
  refine r_aald (t := 4) rfl hx hb C S KC_10 (h_in g3) dX9_countVote_26 ?_
  refine g_get fl_RX9_262_X8 hx hb C S (KC_64 (nt_lt (h_in g3))) rfl dX9_countVote_27 ?_
  obtain ⟨x4, ex4, h⟩ := h_c h
  refine k_v C S (q_U (rest := []) (As := [.int (x1 (64 + (a1).toNatClampNeg) 1), .int (x1 (64 + (a1).toNatClampNeg) 2)]) lk_RX9_308_X3 (ud_lk_RX9_308_X3 C) (us_lk_RX9_308_X3 C) ev hx hb hml C S KC_22 rfl (c_f_Count_begin_M l D dA q (x1 (64 + (a1).toNatClampNeg) 1) (x1 (64 + (a1).toNatClampNeg) 2) x1 x4 ex4 _) rfl rfl ⟨(Nat.le_of_ble_eq_true rfl), (Nat.le_of_ble_eq_true rfl)⟩ rfl hl.1 rfl (Nat.le_of_ble_eq_true rfl) dX9_countVote_30 ⟨(Nat.le_of_ble_eq_true rfl), (Nat.le_of_ble_eq_true rfl)⟩) (fun H locs S => ?_)
  refine lv_aload_n hx hb dX9_countVote_33 rfl (lv_at hl 0 rfl) ?_
  refine g_getR fl_RX9_56_X9 hx hb C S KC_0 rfl dX9_countVote_34 ?_
  refine lv_aload_n hx hb dX9_countVote_37 rfl (lv_at hl 0 rfl) ?_
  refine g_getR fl_RX9_25_X9 hx hb C S KC_0 rfl dX9_countVote_38 ?_
  refine lv_aload_n hx hb dX9_countVote_41 rfl (lv_at hl 0 rfl) ?_
  refine g_getR fl_RX9_31_X9 hx hb C S KC_0 rfl dX9_countVote_42 ?_
  refine lv_iload_n hx hb dX9_countVote_45 rfl (lv_at hl 1 rfl) ?_
  obtain ⟨g5, h⟩ := h_gd h
  refine r_aald (t := 4) rfl hx hb C S KC_10 (h_in g5) dX9_countVote_46 ?_
  refine g_get fl_RX9_268_X8 hx hb C S (KC_64 (nt_lt (h_in g5))) rfl dX9_countVote_47 ?_
  obtain ⟨g6, h⟩ := h_gd h
  refine r_aald (t := 3) rfl hx hb C S KC_9 (h_in g6) dX9_countVote_50 ?_
  obtain ⟨x7, ex7, h⟩ := h_c h
  refine k_v C S (q_V (rest := []) (As := [.ref (q (32 + ((x4 (64 + (a1).toNatClampNeg) 3)).toNatClampNeg))]) lk_RX9_309 ev hx hb hml C S KC_22 rfl (c_f_MachineCount_follow l D dA q (((x4 (64 + (a1).toNatClampNeg) 3)).toNatClampNeg) (nt_lt (h_in g6)) x4 x7 ex7 _) rfl rfl ⟨(Nat.le_of_ble_eq_true rfl), (Nat.le_of_ble_eq_true rfl)⟩ rfl hl.1 rfl (Nat.le_of_ble_eq_true rfl) dX9_countVote_51 ⟨(Nat.le_of_ble_eq_true rfl), (Nat.le_of_ble_eq_true rfl)⟩) (fun H locs S => ?_)
  refine lv_aload_n hx hb dX9_countVote_54 rfl (lv_at hl 0 rfl) ?_
  refine g_getR fl_RX9_56_X9 hx hb C S KC_0 rfl dX9_countVote_55 ?_
  exact fin _ _ _ x7 _ S h dX9_countVote_58
theorem c_f_Ballotscript_countVote (l : Launch) (D : va_G) (dA : Nat → ClassId) (q : Nat → Nat) (a1 : Int32) (w w' : Wt) (h : f_Ballotscript_countVote a1 w = some w') : Mr l EVc KC D dA q yX9_countVote cX9_countVote 2 (Option.some (Jvm.ClassFile.FieldType.object "Ballotscript$MachineCount")) RM_f_Ballotscript_countVote [.ref (q 0), .int a1] w 22 w' :=
  mk_r (by decide) rfl (Or.inl ⟨_, rfl⟩) EVc_ok (Nat.le_of_ble_eq_true rfl) (fun p e s m args below meth c A Q ls hx hb hml C S hl fin => k_f_Ballotscript_countVote a1 w w' hx hb hml C (fun H locs ls w2 pc S h d => fin H locs ls w2 pc S h d) _ _ _ hl S h)
/-! Ballotscript.mend(I)I f_Ballotscript_mend -/
def f_Ballotscript_mend_b132 (l2 : Int32) (w : Wt) : Option ((Nat ⊕ Int32) × Wt) := some (.inr l2, w)
def f_Ballotscript_mend_L95 : (Int32 × Int32 × Wt) → Option ((Int32 × Int32 × Wt) ⊕ (Int32 × Wt))
  | (l2, l3, w) => (if (w 0 10) ≤ l3 then some (.inr (l2, w)) else Option.bind (f_Ballotscript_countVote l3 w) fun x2 => gd (inb l3 8) ((if (x2 22 6) = (x2 (64 + (l3).toNatClampNeg) 8) then some (.inl (l2, (l3 + 1), x2)) else some (.inl ((l2 + 1), (l3 + 1), x2)))))
def f_Ballotscript_mend_x95 : (Int32 × Wt) → Option ((Nat ⊕ Int32) × Wt)
  | (l2, w) => f_Ballotscript_mend_b132 l2 w
def f_Ballotscript_mend_b78 (l1 : Int32) (w : Wt) : Option ((Nat ⊕ Int32) × Wt) := gd (inb l1 8) (Option.bind (f_Rule_take ((l1).toNatClampNeg) w) fun x6 => Option.bind (lp (f_Ballotscript_mend_L95) FU ((0 : Int32), (0 : Int32), x6)) (f_Ballotscript_mend_x95))
def f_Ballotscript_mend_L47 (l1 : Int32) : (Int32 × Wt) → Option ((Int32 × Wt) ⊕ Wt)
  | (l2, w) => (if (w 0 10) ≤ l2 then some (.inr w) else gd (inb l2 8) (Option.bind (f_Ballotscript_countVote l2 w) fun x9 => nmd (upd2 x9 (64 + (l2).toNatClampNeg) 8 (x9 22 6)) fun w10 => some (.inl ((l2 + 1), w10))))
def f_Ballotscript_mend_x47 (l1 : Int32) : Wt → Option ((Nat ⊕ Int32) × Wt)
  | w => f_Ballotscript_mend_b78 l1 w
def f_Ballotscript_mend (a1 : Int32) (w : Wt) : Option ((Nat ⊕ Int32) × Wt) := Option.bind (f_Ballotscript_isWithin a1 (0 : Int32) ((w 0 9) - (1 : Int32))) fun x11 => (if x11 = (0 : Int32) then some (.inl 0, w) else Option.bind (f_Text_firstFault w) fun x13 => (if x13 = (-1 : Int32) then Option.bind (lp (f_Ballotscript_mend_L47 a1) FU ((0 : Int32), w)) (f_Ballotscript_mend_x47 a1) else some (.inl 1, w)))
def RM_f_Ballotscript_mend : Room := { frames := 11, cells := 4, slots := 24, locals := 267 }
set_option maxHeartbeats 4000000 in
set_option maxRecDepth 20000 in
theorem k_f_Ballotscript_mend (a1 : Int32) (w : Wt) (z : ((Nat ⊕ Int32) × Wt)) (hfl : l.stackTraces = false) (hx : p.tables.exec = Jvm.exec) (hb : c.code = cX9_mend) (hml : c.maxLocals = 4) (C : Cx EVc KC D dA q A s m args RX9) (fin : ∀ (H : Heap) (locs : List Loc) (ls : Array Slot) (r' : Int32) (w2 : Wt) (pc : Nat) (cl sl : Nat) , cl ≤ 4 → sl ≤ 24 → Sta KC D dA q A s.heap w2 H locs → some ((.inr r' : Nat ⊕ Int32), w2) = some z → decode cX9_mend pc = .ok (.ireturn, 1) → W p l e RM_f_Ballotscript_mend s m args below meth c H locs cl sl Q (F0 m pc ls [.int r'])) (thr : ∀ (H : Heap) (locs : List Loc) (ls : Array Slot) (w2 : Wt) (k pc cl sl : Nat), cl + 1 ≤ 4 → sl + 6 ≤ 24 → ls.size = 4 → Sta KC D dA q A s.heap w2 H locs → some ((.inl k : Nat ⊕ Int32), w2) = some z → thF RX9 cX9_mend pc k → W p l e RM_f_Ballotscript_mend s m args below meth c H locs cl sl Q (F0 m pc ls [])) (pro : ∀ (H : Heap) (locs : List Loc) (ls : Array Slot) (w2 : Wt) (k pc cl sl : Nat) (rest : List Value) (q9 : Nat) (ce : Cell), cl ≤ 4 → sl ≤ 24 → Sta KC D dA q A s.heap w2 H locs → some ((.inl k : Nat ⊕ Int32), w2) = some z → H[q9]? = some ce → ce.vm = .none → s.vm.findClass (exn k) = some ce.cls → vx_W p l e RM_f_Ballotscript_mend s m args below meth c H locs cl sl Q (F0 m pc ls rest) q9) : ∀ (H : Heap) (locs : List Loc) (ls : Array Slot), lv_has ls 4 [(0, .ref (q 0)), (1, .int a1)] → Sta KC D dA q A s.heap w H locs → f_Ballotscript_mend a1 w = some z → W p l e RM_f_Ballotscript_mend s m args below meth c H locs 0 0 Q (F0 m 0 ls []) := by
  have ev : evOk EVc := EVc_ok
  have lab132 : ∀ (l2 : Int32) (w : Wt) (H : Heap) (locs : List Loc) (ls : Array Slot), lv_has ls 4 [(2, .int l2)] → Sta KC D dA q A s.heap w H locs → Option.bind (f_Ballotscript_mend_b132 l2 w) some = some z → W p l e RM_f_Ballotscript_mend s m args below meth c H locs 0 0 Q (F0 m 132 ls []) := by
    intro l2 w H locs ls hl S h
    unfold f_Ballotscript_mend_b132 at h
    refine lv_iload_n hx hb dX9_mend_132 rfl (lv_at hl 0 rfl) ?_
    exact fin _ _ _ l2 w _ 0 0 (Nat.le_of_ble_eq_true rfl) (Nat.le_of_ble_eq_true rfl) S h dX9_mend_133
  have loop95 : ∀ (n95 : Nat), ∀ (l2 : Int32) (l3 : Int32) (w : Wt) (H : Heap) (locs : List Loc) (ls : Array Slot), lv_has ls 4 [(0, .ref (q 0)), (2, .int l2), (3, .int l3)] → Sta KC D dA q A s.heap w H locs → Option.bind (lp (f_Ballotscript_mend_L95) n95 (l2, l3, w)) (fun x9 => Option.bind (f_Ballotscript_mend_x95 x9) some) = some z → W p l e RM_f_Ballotscript_mend s m args below meth c H locs 0 0 Q (F0 m 95 ls []) := by
    intro  n95
    induction n95 with
    | zero =>
      intro l2 l3 w H locs ls hl S h
      exact (h_lp0 h).elim
    | succ n95 ih95 =>
      intro l2 l3 w H locs ls hl S h
      have h := h_lp h
      unfold f_Ballotscript_mend_L95 at h
      refine lv_iload_n hx hb dX9_mend_95 rfl (lv_at hl 2 rfl) ?_
      refine lv_aload_n hx hb dX9_mend_96 rfl (lv_at hl 0 rfl) ?_
      refine g_get fl_RX9_150_X9 hx hb C S KC_0 rfl dX9_mend_97 ?_
      refine lv_icmp_ge (tgt := 132) hx hb dX9_mend_100 rfl (fun c1 => ?_) (fun c1 => ?_)
      · have h := h_t c1 h
        exact lab132 l2 w _ _ _ (lv_sub hl [1] rfl) S h
      · have h := h_f c1 h
        refine lv_aload_n hx hb dX9_mend_103 rfl (lv_at hl 0 rfl) ?_
        refine lv_iload_n hx hb dX9_mend_104 rfl (lv_at hl 2 rfl) ?_
        obtain ⟨x2, ex2, h⟩ := h_c h
        refine k_r C S (q_V (rest := []) (As := [.int l3]) lk_RX9_153 ev hx hb hml C S KC_0 rfl (c_f_Ballotscript_countVote l D dA q l3 w x2 ex2 _) rfl rfl ⟨(Nat.le_of_ble_eq_true rfl), (Nat.le_of_ble_eq_true rfl)⟩ rfl hl.1 rfl (Nat.le_of_ble_eq_true rfl) dX9_mend_105 ⟨(Nat.le_of_ble_eq_true rfl), (Nat.le_of_ble_eq_true rfl)⟩) (fun H locs S => ?_)
        refine g_get fl_RX9_157_X3 hx hb C S KC_22 rfl dX9_mend_108 ?_
        refine lv_aload_n hx hb dX9_mend_111 rfl (lv_at hl 0 rfl) ?_
        refine g_getR fl_RX9_31_X9 hx hb C S KC_0 rfl dX9_mend_112 ?_
        refine lv_iload_n hx hb dX9_mend_115 rfl (lv_at hl 2 rfl) ?_
        obtain ⟨g3, h⟩ := h_gd h
        refine r_aald (t := 4) rfl hx hb C S KC_10 (h_in g3) dX9_mend_116 ?_
        refine g_get fl_RX9_160_X8 hx hb C S (KC_64 (nt_lt (h_in g3))) rfl dX9_mend_117 ?_
        refine lv_icmp_eq (tgt := 126) hx hb dX9_mend_120 rfl (fun c4 => ?_) (fun c4 => ?_)
        · have h := h_t c4 h
          refine lv_iinc (v := (l3 + 1)) (lv' := [(3, .int (l3 + 1)), (0, .ref (q 0)), (2, .int l2)]) hx hb dX9_mend_126 hl (k := 2) rfl rfl (Nat.le_of_ble_eq_true rfl) rfl (fun ls hl => ?_)
          refine lv_goto (tgt := 95) hx hb dX9_mend_129 rfl ?_
          exact ih95 l2 (l3 + 1) x2 _ _ _ (lv_sub hl [1, 2, 0] rfl) S h
        · have h := h_f c4 h
          refine lv_iinc (v := (l2 + 1)) (lv' := [(2, .int (l2 + 1)), (0, .ref (q 0)), (3, .int l3)]) hx hb dX9_mend_123 hl (k := 1) rfl rfl (Nat.le_of_ble_eq_true rfl) rfl (fun ls hl => ?_)
          refine lv_iinc (v := (l3 + 1)) (lv' := [(3, .int (l3 + 1)), (2, .int (l2 + 1)), (0, .ref (q 0))]) hx hb dX9_mend_126 hl (k := 2) rfl rfl (Nat.le_of_ble_eq_true rfl) rfl (fun ls hl => ?_)
          refine lv_goto (tgt := 95) hx hb dX9_mend_129 rfl ?_
          exact ih95 (l2 + 1) (l3 + 1) x2 _ _ _ (lv_sub hl [2, 1, 0] rfl) S h
  have lab78 : ∀ (l1 : Int32) (w : Wt) (H : Heap) (locs : List Loc) (ls : Array Slot), lv_has ls 4 [(0, .ref (q 0)), (1, .int l1)] → Sta KC D dA q A s.heap w H locs → Option.bind (f_Ballotscript_mend_b78 l1 w) some = some z → W p l e RM_f_Ballotscript_mend s m args below meth c H locs 0 0 Q (F0 m 78 ls []) := by
    intro l1 w H locs ls hl S h
    unfold f_Ballotscript_mend_b78 at h
    refine lv_aload_n hx hb dX9_mend_78 rfl (lv_at hl 0 rfl) ?_
    refine g_getR fl_RX9_25_X9 hx hb C S KC_0 rfl dX9_mend_79 ?_
    refine lv_iload_n hx hb dX9_mend_82 rfl (lv_at hl 1 rfl) ?_
    obtain ⟨g5, h⟩ := h_gd h
    refine r_aald (t := 3) rfl hx hb C S KC_9 (h_in g5) dX9_mend_83 ?_
    refine lv_aload_n hx hb dX9_mend_84 rfl (lv_at hl 0 rfl) ?_
    refine g_getR fl_RX9_19_X9 hx hb C S KC_0 rfl dX9_mend_85 ?_
    obtain ⟨x6, ex6, h⟩ := h_c h
    refine k_v C S (q_V (rest := []) (As := [.ref (q 7)]) lk_RX9_144 ev hx hb hml C S (KC_32 (nt_lt (h_in g5))) rfl (c_f_Rule_take l D dA q ((l1).toNatClampNeg) (nt_lt (h_in g5)) w x6 ex6 _) rfl rfl ⟨(Nat.le_of_ble_eq_true rfl), (Nat.le_of_ble_eq_true rfl)⟩ rfl hl.1 rfl (Nat.le_of_ble_eq_true rfl) dX9_mend_88 ⟨(Nat.le_of_ble_eq_true rfl), (Nat.le_of_ble_eq_true rfl)⟩) (fun H locs S => ?_)
    refine lv_iconst (v := 0) hx hb dX9_mend_91 (by decide) ?_
    refine lv_istore_n (lv' := [(2, .int (0 : Int32)), (0, .ref (q 0)), (1, .int l1)]) hx hb dX9_mend_92 rfl hl (Nat.le_of_ble_eq_true rfl) rfl (fun ls hl => ?_)
    refine lv_iconst (v := 0) hx hb dX9_mend_93 (by decide) ?_
    refine lv_istore_n (lv' := [(3, .int (0 : Int32)), (2, .int (0 : Int32)), (0, .ref (q 0)), (1, .int l1)]) hx hb dX9_mend_94 rfl hl (Nat.le_of_ble_eq_true rfl) rfl (fun ls hl => ?_)
    exact loop95  FU (0 : Int32) (0 : Int32) x6 _ _ _ (lv_sub hl [2, 1, 0] rfl) S (h_bb h)
  have loop47 : ∀ (l1 : Int32) (n47 : Nat), ∀ (l2 : Int32) (w : Wt) (H : Heap) (locs : List Loc) (ls : Array Slot), lv_has ls 4 [(0, .ref (q 0)), (1, .int l1), (2, .int l2)] → Sta KC D dA q A s.heap w H locs → Option.bind (lp (f_Ballotscript_mend_L47 l1) n47 (l2, w)) (fun x9 => Option.bind (f_Ballotscript_mend_x47 l1 x9) some) = some z → W p l e RM_f_Ballotscript_mend s m args below meth c H locs 0 0 Q (F0 m 47 ls []) := by
    intro l1 n47
    induction n47 with
    | zero =>
      intro l2 w H locs ls hl S h
      exact (h_lp0 h).elim
    | succ n47 ih47 =>
      intro l2 w H locs ls hl S h
      have h := h_lp h
      unfold f_Ballotscript_mend_L47 at h
      refine lv_iload_n hx hb dX9_mend_47 rfl (lv_at hl 2 rfl) ?_
      refine lv_aload_n hx hb dX9_mend_48 rfl (lv_at hl 0 rfl) ?_
      refine g_get fl_RX9_150_X9 hx hb C S KC_0 rfl dX9_mend_49 ?_
      refine lv_icmp_ge (tgt := 78) hx hb dX9_mend_52 rfl (fun c7 => ?_) (fun c7 => ?_)
      · have h := h_t c7 h
        exact lab78 l1 w _ _ _ (lv_sub hl [0, 1] rfl) S h
      · have h := h_f c7 h
        refine lv_aload_n hx hb dX9_mend_55 rfl (lv_at hl 0 rfl) ?_
        refine g_getR fl_RX9_31_X9 hx hb C S KC_0 rfl dX9_mend_56 ?_
        refine lv_iload_n hx hb dX9_mend_59 rfl (lv_at hl 2 rfl) ?_
        obtain ⟨g8, h⟩ := h_gd h
        refine r_aald (t := 4) rfl hx hb C S KC_10 (h_in g8) dX9_mend_60 ?_
        refine lv_aload_n hx hb dX9_mend_61 rfl (lv_at hl 0 rfl) ?_
        refine lv_iload_n hx hb dX9_mend_62 rfl (lv_at hl 2 rfl) ?_
        obtain ⟨x9, ex9, h⟩ := h_c h
        refine k_r C S (q_V (rest := [.ref (q (64 + (l2).toNatClampNeg))]) (As := [.int l2]) lk_RX9_153 ev hx hb hml C S KC_0 rfl (c_f_Ballotscript_countVote l D dA q l2 w x9 ex9 _) rfl rfl ⟨(Nat.le_of_ble_eq_true rfl), (Nat.le_of_ble_eq_true rfl)⟩ rfl hl.1 rfl (Nat.le_of_ble_eq_true rfl) dX9_mend_63 ⟨(Nat.le_of_ble_eq_true rfl), (Nat.le_of_ble_eq_true rfl)⟩) (fun H locs S => ?_)
        refine g_get fl_RX9_157_X3 hx hb C S KC_22 rfl dX9_mend_66 ?_
        refine g_put fl_RX9_160_X8 pl_X8_8 hx hb C S (KC_64 (nt_lt (h_in g8))) rfl ⟨rfl, rfl⟩ dX9_mend_69 (fun w10 ew10 H locs S => ?_)
        have h := h_l h w10 ew10
        refine lv_iinc (v := (l2 + 1)) (lv' := [(2, .int (l2 + 1)), (0, .ref (q 0)), (1, .int l1)]) hx hb dX9_mend_72 hl (k := 2) rfl rfl (Nat.le_of_ble_eq_true rfl) rfl (fun ls hl => ?_)
        refine lv_goto (tgt := 47) hx hb dX9_mend_75 rfl ?_
        exact ih47 (l2 + 1) w10 _ _ _ (lv_sub hl [1, 2, 0] rfl) S h
  intro H locs ls hl S h
  have h := h_0 h
  unfold f_Ballotscript_mend at h
  refine lv_iload_n hx hb dX9_mend_0 rfl (lv_at hl 1 rfl) ?_
  refine lv_iconst (v := 0) hx hb dX9_mend_1 (by decide) ?_
  refine lv_aload_n hx hb dX9_mend_2 rfl (lv_at hl 0 rfl) ?_
  refine g_get fl_RX9_139_X9 hx hb C S KC_0 rfl dX9_mend_3 ?_
  refine lv_iconst (v := 1) hx hb dX9_mend_6 (by decide) ?_
  refine lv_isub hx hb dX9_mend_7 ?_
  obtain ⟨x11, ex11, h⟩ := h_c h
  refine k_i C S (q_S (rest := []) (As := [.int a1, .int (0 : Int32), .int ((w 0 9) - (1 : Int32))]) lk_RX9_69 ev hx hb hml C S (c_f_Ballotscript_isWithin l D dA q a1 (0 : Int32) ((w 0 9) - (1 : Int32)) w x11 ex11 _) rfl rfl ⟨(Nat.le_of_ble_eq_true rfl), (Nat.le_of_ble_eq_true rfl)⟩ rfl hl.1 rfl (Nat.le_of_ble_eq_true rfl) dX9_mend_8 ⟨(Nat.le_of_ble_eq_true rfl), (Nat.le_of_ble_eq_true rfl)⟩) (fun H locs S => ?_)
  refine lv_if_ne (tgt := 24) hx hb dX9_mend_11 rfl (fun c12 => ?_) (fun c12 => ?_)
  · have h := h_f c12 h
    refine lv_aload_n hx hb dX9_mend_24 rfl (lv_at hl 0 rfl) ?_
    refine g_getR fl_RX9_19_X9 hx hb C S KC_0 rfl dX9_mend_25 ?_
    obtain ⟨x13, ex13, h⟩ := h_c h
    refine k_i C S (q_V (rest := []) (As := []) lk_RX9_134 ev hx hb hml C S KC_7 rfl (c_f_Text_firstFault l D dA q w x13 ex13 _) rfl rfl ⟨(Nat.le_of_ble_eq_true rfl), (Nat.le_of_ble_eq_true rfl)⟩ rfl hl.1 rfl (Nat.le_of_ble_eq_true rfl) dX9_mend_28 ⟨(Nat.le_of_ble_eq_true rfl), (Nat.le_of_ble_eq_true rfl)⟩) (fun H locs S => ?_)
    refine lv_iconst (v := -1) hx hb dX9_mend_31 (by decide) ?_
    refine lv_icmp_eq (tgt := 45) hx hb dX9_mend_32 rfl (fun c14 => ?_) (fun c14 => ?_)
    · have h := h_t c14 h
      refine lv_iconst (v := 0) hx hb dX9_mend_45 (by decide) ?_
      refine lv_istore_n (lv' := [(2, .int (0 : Int32)), (0, .ref (q 0)), (1, .int a1)]) hx hb dX9_mend_46 rfl hl (Nat.le_of_ble_eq_true rfl) rfl (fun ls hl => ?_)
      exact loop47 a1 FU (0 : Int32) w _ _ _ (lv_sub hl [1, 2, 0] rfl) S (h_bb h)
    · have h := h_f c14 h
      exact thr _ _ _ w _ _ 0 0 (Nat.le_of_ble_eq_true rfl) (Nat.le_of_ble_eq_true rfl) hl.1 S h th_X9_mend_35
  · have h := h_t c12 h
    exact thr _ _ _ w _ _ 0 0 (Nat.le_of_ble_eq_true rfl) (Nat.le_of_ble_eq_true rfl) hl.1 S h th_X9_mend_14
theorem c_f_Ballotscript_mend (l : Launch) (hfl : l.stackTraces = false) (D : va_G) (dA : Nat → ClassId) (q : Nat → Nat) (a1 : Int32) (w w' : Wt) (res : Nat ⊕ Int32) (h : f_Ballotscript_mend a1 w = some (res, w')) : Xi l EVc KC D dA q yX9_mend cX9_mend 4 (some .int) RM_f_Ballotscript_mend 4 24 [.ref (q 0), .int a1] w res w' :=
  mx_i (by decide) rfl hfl (Nat.le_of_ble_eq_true rfl) (Nat.le_of_ble_eq_true rfl) (Nat.le_of_ble_eq_true rfl) rfl rfl (fun p e s m args below meth c A Q ls hx hb hml C S hl fin thr pro => k_f_Ballotscript_mend a1 w (res, w') hfl hx hb hml C (fun H locs ls r' w2 pc cl sl hc hs S h d => fin H locs ls r' w2 pc cl sl hc hs S h d) (fun H locs ls w2 k pc cl sl hc hs hz S h t => thr H locs ls w2 k pc cl sl hc hs hz S h t) (fun H locs ls w2 k pc cl sl rest q9 ce hc hs S h h1 h2 h3 => pro H locs ls w2 k pc cl sl rest q9 ce hc hs S h h1 h2 h3) _ _ _ hl S h)
/-! Ballotscript.commands(I)I f_Ballotscript_commands -/
def f_Ballotscript_commands (a1 : Int32) (w : Wt) : Option (Nat ⊕ Int32) := Option.bind (f_Ballotscript_isWithin a1 (0 : Int32) ((w 0 9) - (1 : Int32))) fun x1 => (if x1 = (0 : Int32) then some (.inl 0) else gd (inb a1 8) (some (.inr (w (32 + (a1).toNatClampNeg) 5))))
def RM_f_Ballotscript_commands : Room := { frames := 10, cells := 4, slots := 24, locals := 150 }
set_option maxHeartbeats 4000000 in
set_option maxRecDepth 20000 in
theorem k_f_Ballotscript_commands (a1 : Int32) (w : Wt) (z : (Nat ⊕ Int32)) (hfl : l.stackTraces = false) (hx : p.tables.exec = Jvm.exec) (hb : c.code = cX9_commands) (hml : c.maxLocals = 2) (C : Cx EVc KC D dA q A s m args RX9) (fin : ∀ (H : Heap) (locs : List Loc) (ls : Array Slot) (r' : Int32) (pc : Nat) (cl sl : Nat) , cl ≤ 4 → sl ≤ 24 → Sta KC D dA q A s.heap w H locs → some (.inr r' : Nat ⊕ Int32) = some z → decode cX9_commands pc = .ok (.ireturn, 1) → W p l e RM_f_Ballotscript_commands s m args below meth c H locs cl sl Q (F0 m pc ls [.int r'])) (thr : ∀ (H : Heap) (locs : List Loc) (ls : Array Slot) (k pc cl sl : Nat), cl + 1 ≤ 4 → sl + 6 ≤ 24 → ls.size = 2 → Sta KC D dA q A s.heap w H locs → some (.inl k : Nat ⊕ Int32) = some z → thF RX9 cX9_commands pc k → W p l e RM_f_Ballotscript_commands s m args below meth c H locs cl sl Q (F0 m pc ls [])) (pro : ∀ (H : Heap) (locs : List Loc) (ls : Array Slot) (k pc cl sl : Nat) (rest : List Value) (q9 : Nat) (ce : Cell), cl ≤ 4 → sl ≤ 24 → Sta KC D dA q A s.heap w H locs → some (.inl k : Nat ⊕ Int32) = some z → H[q9]? = some ce → ce.vm = .none → s.vm.findClass (exn k) = some ce.cls → vx_W p l e RM_f_Ballotscript_commands s m args below meth c H locs cl sl Q (F0 m pc ls rest) q9) : ∀ (H : Heap) (locs : List Loc) (ls : Array Slot), lv_has ls 2 [(0, .ref (q 0)), (1, .int a1)] → Sta KC D dA q A s.heap w H locs → f_Ballotscript_commands a1 w = some z → W p l e RM_f_Ballotscript_commands s m args below meth c H locs 0 0 Q (F0 m 0 ls []) := by
  have ev : evOk EVc := EVc_ok
  intro H locs ls hl S h
  have h := h_0 h
  unfold f_Ballotscript_commands at h
  refine lv_iload_n hx hb dX9_commands_0 rfl (lv_at hl 1 rfl) ?_
  refine lv_iconst (v := 0) hx hb dX9_commands_1 (by decide) ?_
  refine lv_aload_n hx hb dX9_commands_2 rfl (lv_at hl 0 rfl) ?_
  refine g_get fl_RX9_139_X9 hx hb C S KC_0 rfl dX9_commands_3 ?_
  refine lv_iconst (v := 1) hx hb dX9_commands_6 (by decide) ?_
  refine lv_isub hx hb dX9_commands_7 ?_
  obtain ⟨x1, ex1, h⟩ := h_c h
  refine k_i C S (q_S (rest := []) (As := [.int a1, .int (0 : Int32), .int ((w 0 9) - (1 : Int32))]) lk_RX9_69 ev hx hb hml C S (c_f_Ballotscript_isWithin l D dA q a1 (0 : Int32) ((w 0 9) - (1 : Int32)) w x1 ex1 _) rfl rfl ⟨(Nat.le_of_ble_eq_true rfl), (Nat.le_of_ble_eq_true rfl)⟩ rfl hl.1 rfl (Nat.le_of_ble_eq_true rfl) dX9_commands_8 ⟨(Nat.le_of_ble_eq_true rfl), (Nat.le_of_ble_eq_true rfl)⟩) (fun H locs S => ?_)
  refine lv_if_ne (tgt := 24) hx hb dX9_commands_11 rfl (fun c2 => ?_) (fun c2 => ?_)
  · have h := h_f c2 h
    refine lv_aload_n hx hb dX9_commands_24 rfl (lv_at hl 0 rfl) ?_
    refine g_getR fl_RX9_25_X9 hx hb C S KC_0 rfl dX9_commands_25 ?_
    refine lv_iload_n hx hb dX9_commands_28 rfl (lv_at hl 1 rfl) ?_
    obtain ⟨g3, h⟩ := h_gd h
    refine r_aald (t := 3) rfl hx hb C S KC_9 (h_in g3) dX9_commands_29 ?_
    refine g_get fl_RX9_163_X5 hx hb C S (KC_32 (nt_lt (h_in g3))) rfl dX9_commands_30 ?_
    exact fin _ _ _ (w (32 + (a1).toNatClampNeg) 5) _ 0 0 (Nat.le_of_ble_eq_true rfl) (Nat.le_of_ble_eq_true rfl) S h dX9_commands_33
  · have h := h_t c2 h
    exact thr _ _ _ _ _ 0 0 (Nat.le_of_ble_eq_true rfl) (Nat.le_of_ble_eq_true rfl) hl.1 S h th_X9_commands_14
theorem c_f_Ballotscript_commands (l : Launch) (hfl : l.stackTraces = false) (D : va_G) (dA : Nat → ClassId) (q : Nat → Nat) (a1 : Int32) (w : Wt) (res : Nat ⊕ Int32) (h : f_Ballotscript_commands a1 w = some res) : Xi l EVc KC D dA q yX9_commands cX9_commands 2 (some .int) RM_f_Ballotscript_commands 4 24 [.ref (q 0), .int a1] w res w :=
  mx_i (by decide) rfl hfl (Nat.le_of_ble_eq_true rfl) (Nat.le_of_ble_eq_true rfl) (Nat.le_of_ble_eq_true rfl) rfl rfl (fun p e s m args below meth c A Q ls hx hb hml C S hl fin thr pro => k_f_Ballotscript_commands a1 w res hfl hx hb hml C (fun H locs ls r' pc cl sl hc hs S h d => fin H locs ls r' w pc cl sl hc hs S (by rw [Option.some.inj h]) d) (fun H locs ls k pc cl sl hc hs hz S h t => thr H locs ls w k pc cl sl hc hs hz S (by rw [Option.some.inj h]) t) (fun H locs ls k pc cl sl rest q9 ce hc hs S h h1 h2 h3 => pro H locs ls w k pc cl sl rest q9 ce hc hs S (by rw [Option.some.inj h]) h1 h2 h3) _ _ _ hl S h)
/-! Ballotscript$Vote.begin(IIII)V f_Vote_begin -/
def f_Vote_begin (ro : Nat) (a1 : Int32) (a2 : Int32) (a3 : Int32) (a4 : Int32) (w : Wt) : Option Wt := nmd (upd2 w (64 + ro) 0 a1) fun w1 => nmd (upd2 w1 (64 + ro) 1 a2) fun w2 => nmd (upd2 w2 (64 + ro) 2 a3) fun w3 => nmd (upd2 w3 (64 + ro) 3 a4) fun w4 => some w4
def RM_f_Vote_begin : Room := { frames := 0, cells := 0, slots := 0, locals := 0 }
set_option maxHeartbeats 4000000 in
set_option maxRecDepth 20000 in
theorem k_f_Vote_begin (ro : Nat) (hro : ro < 8) (a1 : Int32) (a2 : Int32) (a3 : Int32) (a4 : Int32) (w : Wt) (z : Wt) (hx : p.tables.exec = Jvm.exec) (hb : c.code = cX8_begin) (hml : c.maxLocals = 5) (C : Cx EVc KC D dA q A s m args RX8) (fin : ∀ (H : Heap) (locs : List Loc) (ls : Array Slot) (w2 : Wt) (pc : Nat) , Sta KC D dA q A s.heap w2 H locs → some w2 = some z → decode cX8_begin pc = .ok (.return_, 1) → W p l e RM_f_Vote_begin s m args below meth c H locs 0 0 Q (F0 m pc ls [])) : ∀ (H : Heap) (locs : List Loc) (ls : Array Slot), lv_has ls 5 [(0, .ref (q (64 + ro))), (1, .int a1), (2, .int a2), (3, .int a3), (4, .int a4)] → Sta KC D dA q A s.heap w H locs → f_Vote_begin ro a1 a2 a3 a4 w = some z → W p l e RM_f_Vote_begin s m args below meth c H locs 0 0 Q (F0 m 0 ls []) := by
  have ev : evOk EVc := EVc_ok
  intro H locs ls hl S h
  have h := h_0 h
  unfold f_Vote_begin at h
  refine lv_aload_n hx hb dX8_begin_0 rfl (lv_at hl 0 rfl) ?_
  refine lv_iload_n hx hb dX8_begin_1 rfl (lv_at hl 1 rfl) ?_
  refine g_put fl_RX8_15_X8 pl_X8_0 hx hb C S (KC_64 hro) rfl ⟨rfl, rfl⟩ dX8_begin_2 (fun w1 ew1 H locs S => ?_)
  have h := h_l h w1 ew1
  refine lv_aload_n hx hb dX8_begin_5 rfl (lv_at hl 0 rfl) ?_
  refine lv_iload_n hx hb dX8_begin_6 rfl (lv_at hl 2 rfl) ?_
  refine g_put fl_RX8_18_X8 pl_X8_1 hx hb C S (KC_64 hro) rfl ⟨rfl, rfl⟩ dX8_begin_7 (fun w2 ew2 H locs S => ?_)
  have h := h_l h w2 ew2
  refine lv_aload_n hx hb dX8_begin_10 rfl (lv_at hl 0 rfl) ?_
  refine lv_iload_n hx hb dX8_begin_11 rfl (lv_at hl 3 rfl) ?_
  refine g_put fl_RX8_21_X8 pl_X8_2 hx hb C S (KC_64 hro) rfl ⟨rfl, rfl⟩ dX8_begin_12 (fun w3 ew3 H locs S => ?_)
  have h := h_l h w3 ew3
  refine lv_aload_n hx hb dX8_begin_15 rfl (lv_at hl 0 rfl) ?_
  refine lv_iload hx hb dX8_begin_16 (lv_at hl 4 rfl) ?_
  refine g_put fl_RX8_24_X8 pl_X8_3 hx hb C S (KC_64 hro) rfl ⟨rfl, rfl⟩ dX8_begin_18 (fun w4 ew4 H locs S => ?_)
  have h := h_l h w4 ew4
  exact fin _ _ _ w4 _ S h dX8_begin_21
theorem c_f_Vote_begin (l : Launch) (D : va_G) (dA : Nat → ClassId) (q : Nat → Nat) (ro : Nat) (hro : ro < 8) (a1 : Int32) (a2 : Int32) (a3 : Int32) (a4 : Int32) (w w' : Wt) (h : f_Vote_begin ro a1 a2 a3 a4 w = some w') : Mv l EVc KC D dA q yX8_begin cX8_begin 5 none RM_f_Vote_begin [.ref (q (64 + ro)), .int a1, .int a2, .int a3, .int a4] w w' :=
  mk_v (by decide) rfl EVc_ok (Nat.le_of_ble_eq_true rfl) (fun p e s m args below meth c A Q ls hx hb hml C S hl fin => k_f_Vote_begin ro hro a1 a2 a3 a4 w w' hx hb hml C (fun H locs ls w2 pc S h d => fin H locs ls w2 pc S h d) _ _ _ hl S h)
/-! Ballotscript.open(IIII)I f_Ballotscript_open -/
def f_Ballotscript_open_b55 (w : Wt) : Option ((Nat ⊕ Int32) × Wt) := some (.inl 1, w)
def f_Ballotscript_open_b24 (w : Wt) : Option ((Nat ⊕ Int32) × Wt) := some (.inl 0, w)
def f_Ballotscript_open (a1 : Int32) (a2 : Int32) (a3 : Int32) (a4 : Int32) (w : Wt) : Option ((Nat ⊕ Int32) × Wt) := Option.bind (f_Ballotscript_isWithin a1 (0 : Int32) (2 : Int32)) fun x1 => (if x1 = (0 : Int32) then f_Ballotscript_open_b24 w else Option.bind (f_Ballotscript_isWithin a4 (0 : Int32) ((w 0 9) - (1 : Int32))) fun x3 => (if x3 = (0 : Int32) then f_Ballotscript_open_b24 w else Option.bind (f_Ballotscript_isWithin a2 (2 : Int32) (6 : Int32)) fun x5 => (if x5 = (0 : Int32) then f_Ballotscript_open_b55 w else Option.bind (f_Ballotscript_isWithin a3 (1 : Int32) (a2 - (1 : Int32))) fun x7 => (if x7 = (0 : Int32) then f_Ballotscript_open_b55 w else (if (w 0 10) < (8 : Int32) then gd (inb (w 0 10) 8) (Option.bind (f_Vote_begin (((w 0 10)).toNatClampNeg) a1 a2 a3 a4 w) fun x11 => nmd (upd2 x11 0 10 ((x11 0 10) + (1 : Int32))) fun w12 => some (.inr ((w12 0 10) - (1 : Int32)), w12)) else some (.inl 2, w))))))
def RM_f_Ballotscript_open : Room := { frames := 10, cells := 4, slots := 24, locals := 150 }
set_option maxHeartbeats 4000000 in
set_option maxRecDepth 20000 in
theorem k_f_Ballotscript_open (a1 : Int32) (a2 : Int32) (a3 : Int32) (a4 : Int32) (w : Wt) (z : ((Nat ⊕ Int32) × Wt)) (hfl : l.stackTraces = false) (hx : p.tables.exec = Jvm.exec) (hb : c.code = cX9_open) (hml : c.maxLocals = 5) (C : Cx EVc KC D dA q A s m args RX9) (fin : ∀ (H : Heap) (locs : List Loc) (ls : Array Slot) (r' : Int32) (w2 : Wt) (pc : Nat) (cl sl : Nat) , cl ≤ 4 → sl ≤ 24 → Sta KC D dA q A s.heap w2 H locs → some ((.inr r' : Nat ⊕ Int32), w2) = some z → decode cX9_open pc = .ok (.ireturn, 1) → W p l e RM_f_Ballotscript_open s m args below meth c H locs cl sl Q (F0 m pc ls [.int r'])) (thr : ∀ (H : Heap) (locs : List Loc) (ls : Array Slot) (w2 : Wt) (k pc cl sl : Nat), cl + 1 ≤ 4 → sl + 6 ≤ 24 → ls.size = 5 → Sta KC D dA q A s.heap w2 H locs → some ((.inl k : Nat ⊕ Int32), w2) = some z → thF RX9 cX9_open pc k → W p l e RM_f_Ballotscript_open s m args below meth c H locs cl sl Q (F0 m pc ls [])) (pro : ∀ (H : Heap) (locs : List Loc) (ls : Array Slot) (w2 : Wt) (k pc cl sl : Nat) (rest : List Value) (q9 : Nat) (ce : Cell), cl ≤ 4 → sl ≤ 24 → Sta KC D dA q A s.heap w2 H locs → some ((.inl k : Nat ⊕ Int32), w2) = some z → H[q9]? = some ce → ce.vm = .none → s.vm.findClass (exn k) = some ce.cls → vx_W p l e RM_f_Ballotscript_open s m args below meth c H locs cl sl Q (F0 m pc ls rest) q9) : ∀ (H : Heap) (locs : List Loc) (ls : Array Slot), lv_has ls 5 [(0, .ref (q 0)), (1, .int a1), (2, .int a2), (3, .int a3), (4, .int a4)] → Sta KC D dA q A s.heap w H locs → f_Ballotscript_open a1 a2 a3 a4 w = some z → W p l e RM_f_Ballotscript_open s m args below meth c H locs 0 0 Q (F0 m 0 ls []) := by
  have ev : evOk EVc := EVc_ok
  have lab55 : ∀ (w : Wt) (H : Heap) (locs : List Loc) (ls : Array Slot), lv_has ls 5 [] → Sta KC D dA q A s.heap w H locs → Option.bind (f_Ballotscript_open_b55 w) some = some z → W p l e RM_f_Ballotscript_open s m args below meth c H locs 0 0 Q (F0 m 55 ls []) := by
    intro  w H locs ls hl S h
    unfold f_Ballotscript_open_b55 at h
    exact thr _ _ _ w _ _ 0 0 (Nat.le_of_ble_eq_true rfl) (Nat.le_of_ble_eq_true rfl) hl.1 S h th_X9_open_55
  have lab24 : ∀ (w : Wt) (H : Heap) (locs : List Loc) (ls : Array Slot), lv_has ls 5 [] → Sta KC D dA q A s.heap w H locs → Option.bind (f_Ballotscript_open_b24 w) some = some z → W p l e RM_f_Ballotscript_open s m args below meth c H locs 0 0 Q (F0 m 24 ls []) := by
    intro  w H locs ls hl S h
    unfold f_Ballotscript_open_b24 at h
    exact thr _ _ _ w _ _ 0 0 (Nat.le_of_ble_eq_true rfl) (Nat.le_of_ble_eq_true rfl) hl.1 S h th_X9_open_24
  intro H locs ls hl S h
  have h := h_0 h
  unfold f_Ballotscript_open at h
  refine lv_iload_n hx hb dX9_open_0 rfl (lv_at hl 1 rfl) ?_
  refine lv_iconst (v := 0) hx hb dX9_open_1 (by decide) ?_
  refine lv_iconst (v := 2) hx hb dX9_open_2 (by decide) ?_
  obtain ⟨x1, ex1, h⟩ := h_c h
  refine k_i C S (q_S (rest := []) (As := [.int a1, .int (0 : Int32), .int (2 : Int32)]) lk_RX9_69 ev hx hb hml C S (c_f_Ballotscript_isWithin l D dA q a1 (0 : Int32) (2 : Int32) w x1 ex1 _) rfl rfl ⟨(Nat.le_of_ble_eq_true rfl), (Nat.le_of_ble_eq_true rfl)⟩ rfl hl.1 rfl (Nat.le_of_ble_eq_true rfl) dX9_open_3 ⟨(Nat.le_of_ble_eq_true rfl), (Nat.le_of_ble_eq_true rfl)⟩) (fun H locs S => ?_)
  refine lv_if_eq (tgt := 24) hx hb dX9_open_6 rfl (fun c2 => ?_) (fun c2 => ?_)
  · have h := h_t c2 h
    exact lab24 w _ _ _ (lv_sub hl [] rfl) S h
  · have h := h_f c2 h
    refine lv_iload hx hb dX9_open_9 (lv_at hl 4 rfl) ?_
    refine lv_iconst (v := 0) hx hb dX9_open_11 (by decide) ?_
    refine lv_aload_n hx hb dX9_open_12 rfl (lv_at hl 0 rfl) ?_
    refine g_get fl_RX9_139_X9 hx hb C S KC_0 rfl dX9_open_13 ?_
    refine lv_iconst (v := 1) hx hb dX9_open_16 (by decide) ?_
    refine lv_isub hx hb dX9_open_17 ?_
    obtain ⟨x3, ex3, h⟩ := h_c h
    refine k_i C S (q_S (rest := []) (As := [.int a4, .int (0 : Int32), .int ((w 0 9) - (1 : Int32))]) lk_RX9_69 ev hx hb hml C S (c_f_Ballotscript_isWithin l D dA q a4 (0 : Int32) ((w 0 9) - (1 : Int32)) w x3 ex3 _) rfl rfl ⟨(Nat.le_of_ble_eq_true rfl), (Nat.le_of_ble_eq_true rfl)⟩ rfl hl.1 rfl (Nat.le_of_ble_eq_true rfl) dX9_open_18 ⟨(Nat.le_of_ble_eq_true rfl), (Nat.le_of_ble_eq_true rfl)⟩) (fun H locs S => ?_)
    refine lv_if_ne (tgt := 34) hx hb dX9_open_21 rfl (fun c4 => ?_) (fun c4 => ?_)
    · have h := h_f c4 h
      refine lv_iload_n hx hb dX9_open_34 rfl (lv_at hl 2 rfl) ?_
      refine lv_iconst (v := 2) hx hb dX9_open_35 (by decide) ?_
      refine lv_bipush (v := 6) hx hb dX9_open_36 (by decide) ?_
      obtain ⟨x5, ex5, h⟩ := h_c h
      refine k_i C S (q_S (rest := []) (As := [.int a2, .int (2 : Int32), .int (6 : Int32)]) lk_RX9_69 ev hx hb hml C S (c_f_Ballotscript_isWithin l D dA q a2 (2 : Int32) (6 : Int32) w x5 ex5 _) rfl rfl ⟨(Nat.le_of_ble_eq_true rfl), (Nat.le_of_ble_eq_true rfl)⟩ rfl hl.1 rfl (Nat.le_of_ble_eq_true rfl) dX9_open_38 ⟨(Nat.le_of_ble_eq_true rfl), (Nat.le_of_ble_eq_true rfl)⟩) (fun H locs S => ?_)
      refine lv_if_eq (tgt := 55) hx hb dX9_open_41 rfl (fun c6 => ?_) (fun c6 => ?_)
      · have h := h_t c6 h
        exact lab55 w _ _ _ (lv_sub hl [] rfl) S h
      · have h := h_f c6 h
        refine lv_iload_n hx hb dX9_open_44 rfl (lv_at hl 3 rfl) ?_
        refine lv_iconst (v := 1) hx hb dX9_open_45 (by decide) ?_
        refine lv_iload_n hx hb dX9_open_46 rfl (lv_at hl 2 rfl) ?_
        refine lv_iconst (v := 1) hx hb dX9_open_47 (by decide) ?_
        refine lv_isub hx hb dX9_open_48 ?_
        obtain ⟨x7, ex7, h⟩ := h_c h
        refine k_i C S (q_S (rest := []) (As := [.int a3, .int (1 : Int32), .int (a2 - (1 : Int32))]) lk_RX9_69 ev hx hb hml C S (c_f_Ballotscript_isWithin l D dA q a3 (1 : Int32) (a2 - (1 : Int32)) w x7 ex7 _) rfl rfl ⟨(Nat.le_of_ble_eq_true rfl), (Nat.le_of_ble_eq_true rfl)⟩ rfl hl.1 rfl (Nat.le_of_ble_eq_true rfl) dX9_open_49 ⟨(Nat.le_of_ble_eq_true rfl), (Nat.le_of_ble_eq_true rfl)⟩) (fun H locs S => ?_)
        refine lv_if_ne (tgt := 65) hx hb dX9_open_52 rfl (fun c8 => ?_) (fun c8 => ?_)
        · have h := h_f c8 h
          refine lv_aload_n hx hb dX9_open_65 rfl (lv_at hl 0 rfl) ?_
          refine g_get fl_RX9_150_X9 hx hb C S KC_0 rfl dX9_open_66 ?_
          refine lv_bipush (v := 8) hx hb dX9_open_69 (by decide) ?_
          refine lv_icmp_lt (tgt := 84) hx hb dX9_open_71 rfl (fun c9 => ?_) (fun c9 => ?_)
          · have h := h_t c9 h
            refine lv_aload_n hx hb dX9_open_84 rfl (lv_at hl 0 rfl) ?_
            refine g_getR fl_RX9_31_X9 hx hb C S KC_0 rfl dX9_open_85 ?_
            refine lv_aload_n hx hb dX9_open_88 rfl (lv_at hl 0 rfl) ?_
            refine g_get fl_RX9_150_X9 hx hb C S KC_0 rfl dX9_open_89 ?_
            obtain ⟨g10, h⟩ := h_gd h
            refine r_aald (t := 4) rfl hx hb C S KC_10 (h_in g10) dX9_open_92 ?_
            refine lv_iload_n hx hb dX9_open_93 rfl (lv_at hl 1 rfl) ?_
            refine lv_iload_n hx hb dX9_open_94 rfl (lv_at hl 2 rfl) ?_
            refine lv_iload_n hx hb dX9_open_95 rfl (lv_at hl 3 rfl) ?_
            refine lv_iload hx hb dX9_open_96 (lv_at hl 4 rfl) ?_
            obtain ⟨x11, ex11, h⟩ := h_c h
            refine k_v C S (q_V (rest := []) (As := [.int a1, .int a2, .int a3, .int a4]) lk_RX9_172 ev hx hb hml C S (KC_64 (nt_lt (h_in g10))) rfl (c_f_Vote_begin l D dA q (((w 0 10)).toNatClampNeg) (nt_lt (h_in g10)) a1 a2 a3 a4 w x11 ex11 _) rfl rfl ⟨(Nat.le_of_ble_eq_true rfl), (Nat.le_of_ble_eq_true rfl)⟩ rfl hl.1 rfl (Nat.le_of_ble_eq_true rfl) dX9_open_98 ⟨(Nat.le_of_ble_eq_true rfl), (Nat.le_of_ble_eq_true rfl)⟩) (fun H locs S => ?_)
            refine lv_aload_n hx hb dX9_open_101 rfl (lv_at hl 0 rfl) ?_
            refine lv_dup hx hb dX9_open_102 rfl ?_
            refine g_get fl_RX9_150_X9 hx hb C S KC_0 rfl dX9_open_103 ?_
            refine lv_iconst (v := 1) hx hb dX9_open_106 (by decide) ?_
            refine lv_iadd hx hb dX9_open_107 ?_
            refine g_put fl_RX9_150_X9 pl_X9_10 hx hb C S KC_0 rfl ⟨rfl, rfl⟩ dX9_open_108 (fun w12 ew12 H locs S => ?_)
            have h := h_l h w12 ew12
            refine lv_aload_n hx hb dX9_open_111 rfl (lv_at hl 0 rfl) ?_
            refine g_get fl_RX9_150_X9 hx hb C S KC_0 rfl dX9_open_112 ?_
            refine lv_iconst (v := 1) hx hb dX9_open_115 (by decide) ?_
            refine lv_isub hx hb dX9_open_116 ?_
            exact fin _ _ _ ((w12 0 10) - (1 : Int32)) w12 _ 0 0 (Nat.le_of_ble_eq_true rfl) (Nat.le_of_ble_eq_true rfl) S h dX9_open_117
          · have h := h_f c9 h
            exact thr _ _ _ w _ _ 0 0 (Nat.le_of_ble_eq_true rfl) (Nat.le_of_ble_eq_true rfl) hl.1 S h th_X9_open_74
        · have h := h_t c8 h
          exact lab55 w _ _ _ (lv_sub hl [] rfl) S h
    · have h := h_t c4 h
      exact lab24 w _ _ _ (lv_sub hl [] rfl) S h
theorem c_f_Ballotscript_open (l : Launch) (hfl : l.stackTraces = false) (D : va_G) (dA : Nat → ClassId) (q : Nat → Nat) (a1 : Int32) (a2 : Int32) (a3 : Int32) (a4 : Int32) (w w' : Wt) (res : Nat ⊕ Int32) (h : f_Ballotscript_open a1 a2 a3 a4 w = some (res, w')) : Xi l EVc KC D dA q yX9_open cX9_open 5 (some .int) RM_f_Ballotscript_open 4 24 [.ref (q 0), .int a1, .int a2, .int a3, .int a4] w res w' :=
  mx_i (by decide) rfl hfl (Nat.le_of_ble_eq_true rfl) (Nat.le_of_ble_eq_true rfl) (Nat.le_of_ble_eq_true rfl) rfl rfl (fun p e s m args below meth c A Q ls hx hb hml C S hl fin thr pro => k_f_Ballotscript_open a1 a2 a3 a4 w (res, w') hfl hx hb hml C (fun H locs ls r' w2 pc cl sl hc hs S h d => fin H locs ls r' w2 pc cl sl hc hs S h d) (fun H locs ls w2 k pc cl sl hc hs hz S h t => thr H locs ls w2 k pc cl sl hc hs hz S h t) (fun H locs ls w2 k pc cl sl rest q9 ce hc hs S h h1 h2 h3 => pro H locs ls w2 k pc cl sl rest q9 ce hc hs S h h1 h2 h3) _ _ _ hl S h)
/-! Ballotscript.needVote(I)V f_Ballotscript_needVote -/
def f_Ballotscript_needVote (a1 : Int32) (w : Wt) : Option (Nat ⊕ Int32) := Option.bind (f_Ballotscript_isWithin a1 (0 : Int32) ((w 0 10) - (1 : Int32))) fun x1 => (if x1 = (0 : Int32) then some (.inl 0) else some (.inr 0))
def RM_f_Ballotscript_needVote : Room := { frames := 10, cells := 1, slots := 6, locals := 150 }
set_option maxHeartbeats 4000000 in
set_option maxRecDepth 20000 in
theorem k_f_Ballotscript_needVote (a1 : Int32) (w : Wt) (z : (Nat ⊕ Int32)) (hfl : l.stackTraces = false) (hx : p.tables.exec = Jvm.exec) (hb : c.code = cX9_needVote) (hml : c.maxLocals = 2) (C : Cx EVc KC D dA q A s m args RX9) (fin : ∀ (H : Heap) (locs : List Loc) (ls : Array Slot) (pc : Nat) (cl sl : Nat) , cl ≤ 1 → sl ≤ 6 → Sta KC D dA q A s.heap w H locs → some (.inr 0 : Nat ⊕ Int32) = some z → decode cX9_needVote pc = .ok (.return_, 1) → W p l e RM_f_Ballotscript_needVote s m args below meth c H locs cl sl Q (F0 m pc ls [])) (thr : ∀ (H : Heap) (locs : List Loc) (ls : Array Slot) (k pc cl sl : Nat), cl + 1 ≤ 1 → sl + 6 ≤ 6 → ls.size = 2 → Sta KC D dA q A s.heap w H locs → some (.inl k : Nat ⊕ Int32) = some z → thF RX9 cX9_needVote pc k → W p l e RM_f_Ballotscript_needVote s m args below meth c H locs cl sl Q (F0 m pc ls [])) (pro : ∀ (H : Heap) (locs : List Loc) (ls : Array Slot) (k pc cl sl : Nat) (rest : List Value) (q9 : Nat) (ce : Cell), cl ≤ 1 → sl ≤ 6 → Sta KC D dA q A s.heap w H locs → some (.inl k : Nat ⊕ Int32) = some z → H[q9]? = some ce → ce.vm = .none → s.vm.findClass (exn k) = some ce.cls → vx_W p l e RM_f_Ballotscript_needVote s m args below meth c H locs cl sl Q (F0 m pc ls rest) q9) : ∀ (H : Heap) (locs : List Loc) (ls : Array Slot), lv_has ls 2 [(0, .ref (q 0)), (1, .int a1)] → Sta KC D dA q A s.heap w H locs → f_Ballotscript_needVote a1 w = some z → W p l e RM_f_Ballotscript_needVote s m args below meth c H locs 0 0 Q (F0 m 0 ls []) := by
  have ev : evOk EVc := EVc_ok
  intro H locs ls hl S h
  have h := h_0 h
  unfold f_Ballotscript_needVote at h
  refine lv_iload_n hx hb dX9_needVote_0 rfl (lv_at hl 1 rfl) ?_
  refine lv_iconst (v := 0) hx hb dX9_needVote_1 (by decide) ?_
  refine lv_aload_n hx hb dX9_needVote_2 rfl (lv_at hl 0 rfl) ?_
  refine g_get fl_RX9_150_X9 hx hb C S KC_0 rfl dX9_needVote_3 ?_
  refine lv_iconst (v := 1) hx hb dX9_needVote_6 (by decide) ?_
  refine lv_isub hx hb dX9_needVote_7 ?_
  obtain ⟨x1, ex1, h⟩ := h_c h
  refine k_i C S (q_S (rest := []) (As := [.int a1, .int (0 : Int32), .int ((w 0 10) - (1 : Int32))]) lk_RX9_69 ev hx hb hml C S (c_f_Ballotscript_isWithin l D dA q a1 (0 : Int32) ((w 0 10) - (1 : Int32)) w x1 ex1 _) rfl rfl ⟨(Nat.le_of_ble_eq_true rfl), (Nat.le_of_ble_eq_true rfl)⟩ rfl hl.1 rfl (Nat.le_of_ble_eq_true rfl) dX9_needVote_8 ⟨(Nat.le_of_ble_eq_true rfl), (Nat.le_of_ble_eq_true rfl)⟩) (fun H locs S => ?_)
  refine lv_if_ne (tgt := 25) hx hb dX9_needVote_11 rfl (fun c2 => ?_) (fun c2 => ?_)
  · have h := h_f c2 h
    exact fin _ _ _ _ 0 0 (Nat.le_of_ble_eq_true rfl) (Nat.le_of_ble_eq_true rfl) S h dX9_needVote_25
  · have h := h_t c2 h
    exact thr _ _ _ _ _ 0 0 (Nat.le_of_ble_eq_true rfl) (Nat.le_of_ble_eq_true rfl) hl.1 S h th_X9_needVote_14
theorem c_f_Ballotscript_needVote (l : Launch) (hfl : l.stackTraces = false) (D : va_G) (dA : Nat → ClassId) (q : Nat → Nat) (a1 : Int32) (w : Wt) (res : Nat ⊕ Int32) (h : f_Ballotscript_needVote a1 w = some res) : Xv l EVc KC D dA q yX9_needVote cX9_needVote 2 none RM_f_Ballotscript_needVote 1 6 [.ref (q 0), .int a1] w res w :=
  mx_v (by decide) rfl hfl (Nat.le_of_ble_eq_true rfl) (Nat.le_of_ble_eq_true rfl) (Nat.le_of_ble_eq_true rfl) rfl rfl (fun p e s m args below meth c A Q ls hx hb hml C S hl fin thr pro => k_f_Ballotscript_needVote a1 w res hfl hx hb hml C (fun H locs ls pc cl sl hc hs S h d => fin H locs ls w pc cl sl hc hs S (by rw [Option.some.inj h]) d) (fun H locs ls k pc cl sl hc hs hz S h t => thr H locs ls w k pc cl sl hc hs hz S (by rw [Option.some.inj h]) t) (fun H locs ls k pc cl sl rest q9 ce hc hs S h h1 h2 h3 => pro H locs ls w k pc cl sl rest q9 ce hc hs S (by rw [Option.some.inj h]) h1 h2 h3) _ _ _ hl S h)
end WALKS

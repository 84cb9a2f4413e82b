section WALKS
variable {p : Program} {l : Launch} {e : Env} {s : State} {m : MethodId} {args : Array Value} {below : List Frame} {meth : Method} {c : Code} {Q : State → Prop} {D : va_G} {dA : Nat → ClassId} {q : Nat → Nat} {A : Nat → Prop}
/-! Ballotscript$Count.keepTie(I)V f_Count_keepTie_M -/
def f_Count_keepTie_M (a1 : Int32) (w : Wt) : Option Wt := Option.bind (f_Integer_bitCount a1) fun x1 => (if x1 ≤ (1 : Int32) then some w else (if (6 : Int32) ≤ (w 22 2) then some w else gd (inb (w 22 2) 6) (nmd (upd2 w 23 ((w 22 2)).toNatClampNeg a1) fun w5 => nmd (upd2 w5 22 2 ((w5 22 2) + (1 : Int32))) fun w6 => some w6)))
def RM_f_Count_keepTie_M : Room := { frames := 1, cells := 0, slots := 0, locals := 20 }
set_option maxHeartbeats 4000000 in
set_option maxRecDepth 20000 in
theorem k_f_Count_keepTie_M (a1 : Int32) (w : Wt) (z : Wt) (hx : p.tables.exec = Jvm.exec) (hb : c.code = cX1_keepTie) (hml : c.maxLocals = 2) (C : Cx EVc KC D dA q A s m args RX1) (fin : ∀ (H : Heap) (locs : List Loc) (ls : Array Slot) (w2 : Wt) (pc : Nat) , Sta KC D dA q A s.heap w2 H locs → some w2 = some z → decode cX1_keepTie pc = .ok (.return_, 1) → W p l e RM_f_Count_keepTie_M s m args below meth c H locs 0 0 Q (F0 m pc ls [])) : ∀ (H : Heap) (locs : List Loc) (ls : Array Slot), lv_has ls 2 [(0, .ref (q 22)), (1, .int a1)] → Sta KC D dA q A s.heap w H locs → f_Count_keepTie_M a1 w = some z → W p l e RM_f_Count_keepTie_M s m args below meth c H locs 0 0 Q (F0 m 0 ls []) := by
  have ev : evOk EVc := EVc_ok
  intro H locs ls hl S h
  have h := h_0 h
  unfold f_Count_keepTie_M at h
  refine lv_iload_n hx hb dX1_keepTie_0 rfl (lv_at hl 1 rfl) ?_
  obtain ⟨x1, ex1, h⟩ := h_c h
  refine k_i C S (q_S (rest := []) (As := [.int a1]) lk_RX1_69 ev hx hb hml C S (c_f_Integer_bitCount l D dA q a1 w x1 ex1 _) rfl rfl ⟨(Nat.le_of_ble_eq_true rfl), (Nat.le_of_ble_eq_true rfl)⟩ rfl hl.1 rfl (Nat.le_of_ble_eq_true rfl) dX1_keepTie_1 ⟨(Nat.le_of_ble_eq_true rfl), (Nat.le_of_ble_eq_true rfl)⟩) (fun H locs S => ?_)
  refine lv_iconst (v := 1) hx hb dX1_keepTie_4 (by decide) ?_
  refine lv_icmp_le (tgt := 37) hx hb dX1_keepTie_5 rfl (fun c2 => ?_) (fun c2 => ?_)
  · have h := h_t c2 h
    exact fin _ _ _ w _ S h dX1_keepTie_37
  · have h := h_f c2 h
    refine lv_aload_n hx hb dX1_keepTie_8 rfl (lv_at hl 0 rfl) ?_
    refine g_get fl_RX1_19_X3 hx hb C S KC_22 rfl dX1_keepTie_9 ?_
    refine lv_bipush (v := 6) hx hb dX1_keepTie_12 (by decide) ?_
    refine lv_icmp_ge (tgt := 37) hx hb dX1_keepTie_14 rfl (fun c3 => ?_) (fun c3 => ?_)
    · have h := h_t c3 h
      exact fin _ _ _ w _ S h dX1_keepTie_37
    · have h := h_f c3 h
      refine lv_aload_n hx hb dX1_keepTie_17 rfl (lv_at hl 0 rfl) ?_
      refine g_getR fl_RX1_9_X3 hx hb C S KC_22 rfl dX1_keepTie_18 ?_
      refine lv_aload_n hx hb dX1_keepTie_21 rfl (lv_at hl 0 rfl) ?_
      refine g_get fl_RX1_19_X3 hx hb C S KC_22 rfl dX1_keepTie_22 ?_
      refine lv_iload_n hx hb dX1_keepTie_25 rfl (lv_at hl 1 rfl) ?_
      obtain ⟨g4, h⟩ := h_gd h
      refine r_iast hx hb C S KC_23 (h_in g4) dX1_keepTie_26 (fun w5 ew5 H locs S => ?_)
      have h := h_l h w5 ew5
      refine lv_aload_n hx hb dX1_keepTie_27 rfl (lv_at hl 0 rfl) ?_
      refine lv_dup hx hb dX1_keepTie_28 rfl ?_
      refine g_get fl_RX1_19_X3 hx hb C S KC_22 rfl dX1_keepTie_29 ?_
      refine lv_iconst (v := 1) hx hb dX1_keepTie_32 (by decide) ?_
      refine lv_iadd hx hb dX1_keepTie_33 ?_
      refine g_put fl_RX1_19_X3 pl_X3_2 hx hb C S KC_22 rfl ⟨rfl, rfl⟩ dX1_keepTie_34 (fun w6 ew6 H locs S => ?_)
      have h := h_l h w6 ew6
      exact fin _ _ _ w6 _ S h dX1_keepTie_37
theorem c_f_Count_keepTie_M (l : Launch) (D : va_G) (dA : Nat → ClassId) (q : Nat → Nat) (a1 : Int32) (w w' : Wt) (h : f_Count_keepTie_M a1 w = some w') : Mv l EVc KC D dA q yX1_keepTie cX1_keepTie 2 none RM_f_Count_keepTie_M [.ref (q 22), .int a1] w w' :=
  mk_v (by decide) rfl EVc_ok (Nat.le_of_ble_eq_true rfl) (fun p e s m args below meth c A Q ls hx hb hml C S hl fin => k_f_Count_keepTie_M a1 w w' hx hb hml C (fun H locs ls w2 pc S h d => fin H locs ls w2 pc S h d) _ _ _ hl S h)
/-! Ballotscript$Count.letGo(CI)V f_Count_letGo_M -/
def f_Count_letGo_M_b175 (w : Wt) : Option Wt := some w
def f_Count_letGo_M_b165 (l1 : Int32) (l2 : Int32) (l3 : Int32) (l4 : Int32) (l5 : Int32) (l6 : Int32) (t0 : Int32) (w : Wt) : Option ((Int32 × Wt) ⊕ (Wt ⊕ Wt)) := Option.bind (f_Count_remove_M t0 l3 w) fun x1 => some (.inl ((l6 + 1), x1))
def f_Count_letGo_M_b142 (l1 : Int32) (l2 : Int32) (l3 : Int32) (l4 : Int32) (l5 : Int32) (l6 : Int32) (l7 : Int32) (w : Wt) : Option ((Int32 × Wt) ⊕ (Wt ⊕ Wt)) := (if (w 22 7) = (104 : Int32) then Option.bind (f_Count_highest l7) fun x4 => f_Count_letGo_M_b165 l1 l2 l3 l4 l5 l6 x4 w else Option.bind (f_Count_lowest l7) fun x3 => f_Count_letGo_M_b165 l1 l2 l3 l4 l5 l6 x3 w)
def f_Count_letGo_M_L111 (l1 : Int32) (l2 : Int32) (l3 : Int32) (l4 : Int32) (l5 : Int32) (l6 : Int32) (w : Wt) : (Int32 × Int32) → Option ((Int32 × Int32) ⊕ Int32)
  | (l7, l9) => (if l9 < (0 : Int32) then some (.inr l7) else Option.bind (f_Integer_bitCount l7) fun x6 => (if x6 ≤ (1 : Int32) then some (.inr l7) else Option.bind (f_Count_leaders_M l7 l9 l3 w) fun x8 => some (.inl (x8, (l9 + (-1))))))
def f_Count_letGo_M_x111 (l1 : Int32) (l2 : Int32) (l3 : Int32) (l4 : Int32) (l5 : Int32) (l6 : Int32) (w : Wt) : Int32 → Option ((Int32 × Wt) ⊕ (Wt ⊕ Wt))
  | l7 => f_Count_letGo_M_b142 l1 l2 l3 l4 l5 l6 l7 w
def f_Count_letGo_M_b105 (l1 : Int32) (l2 : Int32) (l3 : Int32) (l4 : Int32) (l5 : Int32) (l6 : Int32) (l7 : Int32) (t0 : Int32) (w : Wt) : Option ((Int32 × Wt) ⊕ (Wt ⊕ Wt)) := Option.bind (lp (f_Count_letGo_M_L111 l1 l2 l3 l4 l5 l6 w) FU (l7, t0)) (f_Count_letGo_M_x111 l1 l2 l3 l4 l5 l6 w)
def f_Count_letGo_M_L43 (l1 : Int32) (l2 : Int32) (l3 : Int32) (l4 : Int32) (l5 : Int32) : (Int32 × Wt) → Option ((Int32 × Wt) ⊕ (Wt ⊕ Wt))
  | (l6, w) => (if l4 ≤ l6 then some (.inr (.inl w)) else (if (w 22 4) ≤ (0 : Int32) then some (.inr (.inl w)) else Option.bind (f_Count_leaders_M (w 22 5) l5 l3 w) fun x11 => Option.bind (f_Count_maySomeGo_M l1 l2 x11 w) fun x12 => (if x12 = (0 : Int32) then some (.inr (.inr w)) else Option.bind (f_Count_keepTie_M x11 w) fun x14 => (if (x14 22 7) = (113 : Int32) then f_Count_letGo_M_b105 l1 l2 l3 l4 l5 l6 x11 (l5 - (1 : Int32)) x14 else f_Count_letGo_M_b105 l1 l2 l3 l4 l5 l6 x11 (-1 : Int32) x14))))
def f_Count_letGo_M_x43 : (Wt ⊕ Wt) → Option Wt
  | .inl w => f_Count_letGo_M_b175 w
  | .inr t => some t
def f_Count_letGo_M_b30 (l1 : Int32) (l2 : Int32) (l3 : Int32) (t0 : Int32) (w : Wt) : Option Wt := nmd ((w 22 3) - (1 : Int32)) fun v16 => Option.bind (lp (f_Count_letGo_M_L43 l1 l2 l3 t0 v16) FU ((0 : Int32), w)) (f_Count_letGo_M_x43)
def f_Count_letGo_M_b24 (l1 : Int32) (l2 : Int32) (l3 : Int32) (w : Wt) : Option Wt := f_Count_letGo_M_b30 l1 l2 l3 (6 : Int32) w
def f_Count_letGo_M_b11 (l1 : Int32) (l2 : Int32) (t0 : Int32) (w : Wt) : Option Wt := (if l1 = (101 : Int32) then f_Count_letGo_M_b24 l1 l2 t0 w else (if l1 = (114 : Int32) then f_Count_letGo_M_b24 l1 l2 t0 w else f_Count_letGo_M_b30 l1 l2 t0 (1 : Int32) w))
def f_Count_letGo_M (a1 : Int32) (a2 : Int32) (w : Wt) : Option Wt := (if a1 = (120 : Int32) then f_Count_letGo_M_b11 a1 a2 (0 : Int32) w else f_Count_letGo_M_b11 a1 a2 (1 : Int32) w)
def RM_f_Count_letGo_M : Room := { frames := 3, cells := 0, slots := 0, locals := 66 }
set_option maxHeartbeats 4000000 in
set_option maxRecDepth 20000 in
theorem k_f_Count_letGo_M (a1 : Int32) (a2 : Int32) (w : Wt) (z : Wt) (hx : p.tables.exec = Jvm.exec) (hb : c.code = cX1_letGo) (hml : c.maxLocals = 10) (C : Cx EVc KC D dA q A s m args RX1) (fin : ∀ (H : Heap) (locs : List Loc) (ls : Array Slot) (w2 : Wt) (pc : Nat) , Sta KC D dA q A s.heap w2 H locs → some w2 = some z → decode cX1_letGo pc = .ok (.return_, 1) → W p l e RM_f_Count_letGo_M s m args below meth c H locs 0 0 Q (F0 m pc ls [])) : ∀ (H : Heap) (locs : List Loc) (ls : Array Slot), lv_has ls 10 [(0, .ref (q 22)), (1, .int a1), (2, .int a2)] → Sta KC D dA q A s.heap w H locs → f_Count_letGo_M a1 a2 w = some z → W p l e RM_f_Count_letGo_M s m args below meth c H locs 0 0 Q (F0 m 0 ls []) := by
  have ev : evOk EVc := EVc_ok
  have lab175 : ∀ (w : Wt) (H : Heap) (locs : List Loc) (ls : Array Slot), lv_has ls 10 [] → Sta KC D dA q A s.heap w H locs → Option.bind (f_Count_letGo_M_b175 w) some = some z → W p l e RM_f_Count_letGo_M s m args below meth c H locs 0 0 Q (F0 m 175 ls []) := by
    intro  w H locs ls hl S h
    unfold f_Count_letGo_M_b175 at h
    exact fin _ _ _ w _ S h dX1_letGo_175
  have loop43 : ∀ (l1 : Int32) (l2 : Int32) (l3 : Int32) (l4 : Int32) (l5 : Int32) (n43 : Nat), ∀ (l6 : Int32) (w : Wt) (H : Heap) (locs : List Loc) (ls : Array Slot), lv_has ls 10 [(0, .ref (q 22)), (1, .int l1), (2, .int l2), (3, .int l3), (4, .int l4), (5, .int l5), (6, .int l6)] → Sta KC D dA q A s.heap w H locs → Option.bind (lp (f_Count_letGo_M_L43 l1 l2 l3 l4 l5) n43 (l6, w)) (fun x9 => Option.bind (f_Count_letGo_M_x43 x9) some) = some z → W p l e RM_f_Count_letGo_M s m args below meth c H locs 0 0 Q (F0 m 43 ls []) := by
    intro l1 l2 l3 l4 l5 n43
    induction n43 with
    | zero =>
      intro l6 w H locs ls hl S h
      exact (h_lp0 h).elim
    | succ n43 ih43 =>
      have lab165 : ∀ (l6 : Int32) (t0 : Int32) (w : Wt) (H : Heap) (locs : List Loc) (ls : Array Slot), lv_has ls 10 [(0, .ref (q 22)), (1, .int l1), (2, .int l2), (3, .int l3), (4, .int l4), (5, .int l5), (6, .int l6)] → Sta KC D dA q A s.heap w H locs → Option.bind (f_Count_letGo_M_b165 l1 l2 l3 l4 l5 l6 t0 w) (seqF (fun s9 => Option.bind (lp (f_Count_letGo_M_L43 l1 l2 l3 l4 l5) n43 s9) (fun x9 => Option.bind (f_Count_letGo_M_x43 x9) some)) (fun x9 => Option.bind (f_Count_letGo_M_x43 x9) some)) = some z → W p l e RM_f_Count_letGo_M s m args below meth c H locs 0 0 Q (F0 m 165 ls [.int t0, .ref (q 22)]) := by
        intro l6 t0 w H locs ls hl S h
        unfold f_Count_letGo_M_b165 at h
        refine lv_iload_n hx hb dX1_letGo_165 rfl (lv_at hl 3 rfl) ?_
        obtain ⟨x1, ex1, h⟩ := h_c h
        refine k_v C S (q_U (rest := []) (As := [.int t0, .int l3]) lk_RX1_80_X3 (ud_lk_RX1_80_X3 C) (us_lk_RX1_80_X3 C) ev hx hb hml C S KC_22 rfl (c_f_Count_remove_M l D dA q t0 l3 w x1 ex1 _) rfl rfl ⟨(Nat.le_of_ble_eq_true rfl), (Nat.le_of_ble_eq_true rfl)⟩ rfl hl.1 rfl (Nat.le_of_ble_eq_true rfl) dX1_letGo_166 ⟨(Nat.le_of_ble_eq_true rfl), (Nat.le_of_ble_eq_true rfl)⟩) (fun H locs S => ?_)
        refine lv_iinc (v := (l6 + 1)) (lv' := [(6, .int (l6 + 1)), (0, .ref (q 22)), (1, .int l1), (2, .int l2), (3, .int l3), (4, .int l4), (5, .int l5)]) hx hb dX1_letGo_169 hl (k := 6) rfl rfl (Nat.le_of_ble_eq_true rfl) rfl (fun ls hl => ?_)
        refine lv_goto (tgt := 43) hx hb dX1_letGo_172 rfl ?_
        exact ih43 (l6 + 1) x1 _ _ _ (lv_sub hl [1, 2, 3, 4, 5, 6, 0] rfl) S h
      have lab142 : ∀ (l6 : Int32) (l7 : Int32) (w : Wt) (H : Heap) (locs : List Loc) (ls : Array Slot), lv_has ls 10 [(0, .ref (q 22)), (1, .int l1), (2, .int l2), (3, .int l3), (4, .int l4), (5, .int l5), (6, .int l6), (7, .int l7)] → Sta KC D dA q A s.heap w H locs → Option.bind (f_Count_letGo_M_b142 l1 l2 l3 l4 l5 l6 l7 w) (seqF (fun s9 => Option.bind (lp (f_Count_letGo_M_L43 l1 l2 l3 l4 l5) n43 s9) (fun x9 => Option.bind (f_Count_letGo_M_x43 x9) some)) (fun x9 => Option.bind (f_Count_letGo_M_x43 x9) some)) = some z → W p l e RM_f_Count_letGo_M s m args below meth c H locs 0 0 Q (F0 m 142 ls []) := by
        intro l6 l7 w H locs ls hl S h
        unfold f_Count_letGo_M_b142 at h
        refine lv_aload_n hx hb dX1_letGo_142 rfl (lv_at hl 0 rfl) ?_
        refine lv_aload_n hx hb dX1_letGo_143 rfl (lv_at hl 0 rfl) ?_
        refine g_get fl_RX1_35_X3 hx hb C S KC_22 rfl dX1_letGo_144 ?_
        refine lv_bipush (v := 104) hx hb dX1_letGo_147 (by decide) ?_
        refine lv_icmp_ne (tgt := 160) hx hb dX1_letGo_149 rfl (fun c2 => ?_) (fun c2 => ?_)
        · have h := h_f c2 h
          refine lv_iload hx hb dX1_letGo_160 (lv_at hl 7 rfl) ?_
          obtain ⟨x3, ex3, h⟩ := h_c h
          refine k_i C S (q_S (rest := [.ref (q 22)]) (As := [.int l7]) lk_RX1_77 ev hx hb hml C S (c_f_Count_lowest l D dA q l7 w x3 ex3 _) rfl rfl ⟨(Nat.le_of_ble_eq_true rfl), (Nat.le_of_ble_eq_true rfl)⟩ rfl hl.1 rfl (Nat.le_of_ble_eq_true rfl) dX1_letGo_162 ⟨(Nat.le_of_ble_eq_true rfl), (Nat.le_of_ble_eq_true rfl)⟩) (fun H locs S => ?_)
          exact lab165 l6 x3 w _ _ _ (lv_sub hl [0, 1, 2, 3, 4, 5, 6] rfl) S h
        · have h := h_t c2 h
          refine lv_iload hx hb dX1_letGo_152 (lv_at hl 7 rfl) ?_
          obtain ⟨x4, ex4, h⟩ := h_c h
          refine k_i C S (q_S (rest := [.ref (q 22)]) (As := [.int l7]) lk_RX1_74 ev hx hb hml C S (c_f_Count_highest l D dA q l7 w x4 ex4 _) rfl rfl ⟨(Nat.le_of_ble_eq_true rfl), (Nat.le_of_ble_eq_true rfl)⟩ rfl hl.1 rfl (Nat.le_of_ble_eq_true rfl) dX1_letGo_154 ⟨(Nat.le_of_ble_eq_true rfl), (Nat.le_of_ble_eq_true rfl)⟩) (fun H locs S => ?_)
          refine lv_goto (tgt := 165) hx hb dX1_letGo_157 rfl ?_
          exact lab165 l6 x4 w _ _ _ (lv_sub hl [0, 1, 2, 3, 4, 5, 6] rfl) S h
      have loop111 : ∀ (l6 : Int32) (w : Wt) (n111 : Nat), ∀ (l7 : Int32) (l9 : Int32) (H : Heap) (locs : List Loc) (ls : Array Slot), lv_has ls 10 [(0, .ref (q 22)), (1, .int l1), (2, .int l2), (3, .int l3), (4, .int l4), (5, .int l5), (6, .int l6), (7, .int l7), (9, .int l9)] → Sta KC D dA q A s.heap w H locs → Option.bind (lp (f_Count_letGo_M_L111 l1 l2 l3 l4 l5 l6 w) n111 (l7, l9)) (fun x9 => Option.bind (f_Count_letGo_M_x111 l1 l2 l3 l4 l5 l6 w x9) (seqF (fun s9 => Option.bind (lp (f_Count_letGo_M_L43 l1 l2 l3 l4 l5) n43 s9) (fun x9 => Option.bind (f_Count_letGo_M_x43 x9) some)) (fun x9 => Option.bind (f_Count_letGo_M_x43 x9) some))) = some z → W p l e RM_f_Count_letGo_M s m args below meth c H locs 0 0 Q (F0 m 111 ls []) := by
        intro l6 w n111
        induction n111 with
        | zero =>
          intro l7 l9 H locs ls hl S h
          exact (h_lp0 h).elim
        | succ n111 ih111 =>
          intro l7 l9 H locs ls hl S h
          have h := h_lp h
          unfold f_Count_letGo_M_L111 at h
          refine lv_iload hx hb dX1_letGo_111 (lv_at hl 8 rfl) ?_
          refine lv_if_lt (tgt := 142) hx hb dX1_letGo_113 rfl (fun c5 => ?_) (fun c5 => ?_)
          · have h := h_t c5 h
            exact lab142 l6 l7 w _ _ _ (lv_sub hl [0, 1, 2, 3, 4, 5, 6, 7] rfl) S h
          · have h := h_f c5 h
            refine lv_iload hx hb dX1_letGo_116 (lv_at hl 7 rfl) ?_
            obtain ⟨x6, ex6, h⟩ := h_c h
            refine k_i C S (q_S (rest := []) (As := [.int l7]) lk_RX1_69 ev hx hb hml C S (c_f_Integer_bitCount l D dA q l7 w x6 ex6 _) rfl rfl ⟨(Nat.le_of_ble_eq_true rfl), (Nat.le_of_ble_eq_true rfl)⟩ rfl hl.1 rfl (Nat.le_of_ble_eq_true rfl) dX1_letGo_118 ⟨(Nat.le_of_ble_eq_true rfl), (Nat.le_of_ble_eq_true rfl)⟩) (fun H locs S => ?_)
            refine lv_iconst (v := 1) hx hb dX1_letGo_121 (by decide) ?_
            refine lv_icmp_le (tgt := 142) hx hb dX1_letGo_122 rfl (fun c7 => ?_) (fun c7 => ?_)
            · have h := h_t c7 h
              exact lab142 l6 l7 w _ _ _ (lv_sub hl [0, 1, 2, 3, 4, 5, 6, 7] rfl) S h
            · have h := h_f c7 h
              refine lv_aload_n hx hb dX1_letGo_125 rfl (lv_at hl 0 rfl) ?_
              refine lv_iload hx hb dX1_letGo_126 (lv_at hl 7 rfl) ?_
              refine lv_iload hx hb dX1_letGo_128 (lv_at hl 8 rfl) ?_
              refine lv_iload_n hx hb dX1_letGo_130 rfl (lv_at hl 3 rfl) ?_
              obtain ⟨x8, ex8, h⟩ := h_c h
              refine k_i C S (q_U (rest := []) (As := [.int l7, .int l9, .int l3]) lk_RX1_57_X3 (ud_lk_RX1_57_X3 C) (us_lk_RX1_57_X3 C) ev hx hb hml C S KC_22 rfl (c_f_Count_leaders_M l D dA q l7 l9 l3 w x8 ex8 _) rfl rfl ⟨(Nat.le_of_ble_eq_true rfl), (Nat.le_of_ble_eq_true rfl)⟩ rfl hl.1 rfl (Nat.le_of_ble_eq_true rfl) dX1_letGo_131 ⟨(Nat.le_of_ble_eq_true rfl), (Nat.le_of_ble_eq_true rfl)⟩) (fun H locs S => ?_)
              refine lv_istore (lv' := [(7, .int x8), (0, .ref (q 22)), (1, .int l1), (2, .int l2), (3, .int l3), (4, .int l4), (5, .int l5), (6, .int l6), (9, .int l9)]) hx hb dX1_letGo_134 hl (Nat.le_of_ble_eq_true rfl) rfl (fun ls hl => ?_)
              refine lv_iinc (v := (l9 + (-1))) (lv' := [(9, .int (l9 + (-1))), (7, .int x8), (0, .ref (q 22)), (1, .int l1), (2, .int l2), (3, .int l3), (4, .int l4), (5, .int l5), (6, .int l6)]) hx hb dX1_letGo_136 hl (k := 8) rfl rfl (Nat.le_of_ble_eq_true rfl) rfl (fun ls hl => ?_)
              refine lv_goto (tgt := 111) hx hb dX1_letGo_139 rfl ?_
              exact ih111 x8 (l9 + (-1)) _ _ _ (lv_sub hl [2, 3, 4, 5, 6, 7, 8, 1, 0] rfl) S h
      have lab105 : ∀ (l6 : Int32) (l7 : Int32) (t0 : Int32) (w : Wt) (H : Heap) (locs : List Loc) (ls : Array Slot), lv_has ls 10 [(0, .ref (q 22)), (1, .int l1), (2, .int l2), (3, .int l3), (4, .int l4), (5, .int l5), (6, .int l6), (7, .int l7)] → Sta KC D dA q A s.heap w H locs → Option.bind (f_Count_letGo_M_b105 l1 l2 l3 l4 l5 l6 l7 t0 w) (seqF (fun s9 => Option.bind (lp (f_Count_letGo_M_L43 l1 l2 l3 l4 l5) n43 s9) (fun x9 => Option.bind (f_Count_letGo_M_x43 x9) some)) (fun x9 => Option.bind (f_Count_letGo_M_x43 x9) some)) = some z → W p l e RM_f_Count_letGo_M s m args below meth c H locs 0 0 Q (F0 m 105 ls [.int t0]) := by
        intro l6 l7 t0 w H locs ls hl S h
        unfold f_Count_letGo_M_b105 at h
        refine lv_istore (lv' := [(8, .int t0), (0, .ref (q 22)), (1, .int l1), (2, .int l2), (3, .int l3), (4, .int l4), (5, .int l5), (6, .int l6), (7, .int l7)]) hx hb dX1_letGo_105 hl (Nat.le_of_ble_eq_true rfl) rfl (fun ls hl => ?_)
        refine lv_iload hx hb dX1_letGo_107 (lv_at hl 0 rfl) ?_
        refine lv_istore (lv' := [(9, .int t0), (8, .int t0), (0, .ref (q 22)), (1, .int l1), (2, .int l2), (3, .int l3), (4, .int l4), (5, .int l5), (6, .int l6), (7, .int l7)]) hx hb dX1_letGo_109 hl (Nat.le_of_ble_eq_true rfl) rfl (fun ls hl => ?_)
        exact loop111 l6 w FU l7 t0 _ _ _ (lv_sub hl [2, 3, 4, 5, 6, 7, 8, 9, 0] rfl) S (h_bb h)
      intro l6 w H locs ls hl S h
      have h := h_lp h
      unfold f_Count_letGo_M_L43 at h
      refine lv_iload hx hb dX1_letGo_43 (lv_at hl 6 rfl) ?_
      refine lv_iload hx hb dX1_letGo_45 (lv_at hl 4 rfl) ?_
      refine lv_icmp_ge (tgt := 175) hx hb dX1_letGo_47 rfl (fun c9 => ?_) (fun c9 => ?_)
      · have h := h_t c9 h
        exact lab175 w _ _ _ (lv_sub hl [] rfl) S h
      · have h := h_f c9 h
        refine lv_aload_n hx hb dX1_letGo_50 rfl (lv_at hl 0 rfl) ?_
        refine g_get fl_RX1_26_X3 hx hb C S KC_22 rfl dX1_letGo_51 ?_
        refine lv_if_le (tgt := 175) hx hb dX1_letGo_54 rfl (fun c10 => ?_) (fun c10 => ?_)
        · have h := h_t c10 h
          exact lab175 w _ _ _ (lv_sub hl [] rfl) S h
        · have h := h_f c10 h
          refine lv_aload_n hx hb dX1_letGo_57 rfl (lv_at hl 0 rfl) ?_
          refine lv_aload_n hx hb dX1_letGo_58 rfl (lv_at hl 0 rfl) ?_
          refine g_get fl_RX1_29_X3 hx hb C S KC_22 rfl dX1_letGo_59 ?_
          refine lv_iload hx hb dX1_letGo_62 (lv_at hl 5 rfl) ?_
          refine lv_iload_n hx hb dX1_letGo_64 rfl (lv_at hl 3 rfl) ?_
          obtain ⟨x11, ex11, h⟩ := h_c h
          refine k_i C S (q_U (rest := []) (As := [.int (w 22 5), .int l5, .int l3]) lk_RX1_57_X3 (ud_lk_RX1_57_X3 C) (us_lk_RX1_57_X3 C) ev hx hb hml C S KC_22 rfl (c_f_Count_leaders_M l D dA q (w 22 5) l5 l3 w x11 ex11 _) rfl rfl ⟨(Nat.le_of_ble_eq_true rfl), (Nat.le_of_ble_eq_true rfl)⟩ rfl hl.1 rfl (Nat.le_of_ble_eq_true rfl) dX1_letGo_65 ⟨(Nat.le_of_ble_eq_true rfl), (Nat.le_of_ble_eq_true rfl)⟩) (fun H locs S => ?_)
          refine lv_istore (lv' := [(7, .int x11), (0, .ref (q 22)), (1, .int l1), (2, .int l2), (3, .int l3), (4, .int l4), (5, .int l5), (6, .int l6)]) hx hb dX1_letGo_68 hl (Nat.le_of_ble_eq_true rfl) rfl (fun ls hl => ?_)
          refine lv_aload_n hx hb dX1_letGo_70 rfl (lv_at hl 1 rfl) ?_
          refine lv_iload_n hx hb dX1_letGo_71 rfl (lv_at hl 2 rfl) ?_
          refine lv_iload_n hx hb dX1_letGo_72 rfl (lv_at hl 3 rfl) ?_
          refine lv_iload hx hb dX1_letGo_73 (lv_at hl 0 rfl) ?_
          obtain ⟨x12, ex12, h⟩ := h_c h
          refine k_i C S (q_U (rest := []) (As := [.int l1, .int l2, .int x11]) lk_RX1_61_X3 (ud_lk_RX1_61_X3 C) (us_lk_RX1_61_X3 C) ev hx hb hml C S KC_22 rfl (c_f_Count_maySomeGo_M l D dA q l1 l2 x11 w x12 ex12 _) rfl rfl ⟨(Nat.le_of_ble_eq_true rfl), (Nat.le_of_ble_eq_true rfl)⟩ rfl hl.1 rfl (Nat.le_of_ble_eq_true rfl) dX1_letGo_75 ⟨(Nat.le_of_ble_eq_true rfl), (Nat.le_of_ble_eq_true rfl)⟩) (fun H locs S => ?_)
          refine lv_if_ne (tgt := 82) hx hb dX1_letGo_78 rfl (fun c13 => ?_) (fun c13 => ?_)
          · have h := h_f c13 h
            refine lv_aload_n hx hb dX1_letGo_82 rfl (lv_at hl 1 rfl) ?_
            refine lv_iload hx hb dX1_letGo_83 (lv_at hl 0 rfl) ?_
            obtain ⟨x14, ex14, h⟩ := h_c h
            refine k_v C S (q_U (rest := []) (As := [.int x11]) lk_RX1_65_X3 (ud_lk_RX1_65_X3 C) (us_lk_RX1_65_X3 C) ev hx hb hml C S KC_22 rfl (c_f_Count_keepTie_M l D dA q x11 w x14 ex14 _) rfl rfl ⟨(Nat.le_of_ble_eq_true rfl), (Nat.le_of_ble_eq_true rfl)⟩ rfl hl.1 rfl (Nat.le_of_ble_eq_true rfl) dX1_letGo_85 ⟨(Nat.le_of_ble_eq_true rfl), (Nat.le_of_ble_eq_true rfl)⟩) (fun H locs S => ?_)
            refine lv_aload_n hx hb dX1_letGo_88 rfl (lv_at hl 1 rfl) ?_
            refine g_get fl_RX1_35_X3 hx hb C S KC_22 rfl dX1_letGo_89 ?_
            refine lv_bipush (v := 113) hx hb dX1_letGo_92 (by decide) ?_
            refine lv_icmp_ne (tgt := 104) hx hb dX1_letGo_94 rfl (fun c15 => ?_) (fun c15 => ?_)
            · have h := h_f c15 h
              refine lv_iconst (v := -1) hx hb dX1_letGo_104 (by decide) ?_
              exact lab105 l6 x11 (-1 : Int32) x14 _ _ _ (lv_sub hl [1, 2, 3, 4, 5, 6, 7, 0] rfl) S h
            · have h := h_t c15 h
              refine lv_iload hx hb dX1_letGo_97 (lv_at hl 6 rfl) ?_
              refine lv_iconst (v := 1) hx hb dX1_letGo_99 (by decide) ?_
              refine lv_isub hx hb dX1_letGo_100 ?_
              refine lv_goto (tgt := 105) hx hb dX1_letGo_101 rfl ?_
              exact lab105 l6 x11 (l5 - (1 : Int32)) x14 _ _ _ (lv_sub hl [1, 2, 3, 4, 5, 6, 7, 0] rfl) S h
          · have h := h_t c13 h
            exact fin _ _ _ w _ S h dX1_letGo_81
  have lab30 : ∀ (l1 : Int32) (l2 : Int32) (l3 : Int32) (t0 : Int32) (w : Wt) (H : Heap) (locs : List Loc) (ls : Array Slot), lv_has ls 10 [(0, .ref (q 22)), (1, .int l1), (2, .int l2), (3, .int l3)] → Sta KC D dA q A s.heap w H locs → Option.bind (f_Count_letGo_M_b30 l1 l2 l3 t0 w) some = some z → W p l e RM_f_Count_letGo_M s m args below meth c H locs 0 0 Q (F0 m 30 ls [.int t0]) := by
    intro l1 l2 l3 t0 w H locs ls hl S h
    unfold f_Count_letGo_M_b30 at h
    refine lv_istore (lv' := [(4, .int t0), (0, .ref (q 22)), (1, .int l1), (2, .int l2), (3, .int l3)]) hx hb dX1_letGo_30 hl (Nat.le_of_ble_eq_true rfl) rfl (fun ls hl => ?_)
    refine lv_aload_n hx hb dX1_letGo_32 rfl (lv_at hl 1 rfl) ?_
    refine g_get fl_RX1_23_X3 hx hb C S KC_22 rfl dX1_letGo_33 ?_
    refine lv_iconst (v := 1) hx hb dX1_letGo_36 (by decide) ?_
    refine lv_isub hx hb dX1_letGo_37 ?_
    refine lv_topi (fun v16 ev16 => ?_)
    have h := h_l h v16 ev16
    refine lv_istore (lv' := [(5, .int v16), (4, .int t0), (0, .ref (q 22)), (1, .int l1), (2, .int l2), (3, .int l3)]) hx hb dX1_letGo_38 hl (Nat.le_of_ble_eq_true rfl) rfl (fun ls hl => ?_)
    refine lv_iconst (v := 0) hx hb dX1_letGo_40 (by decide) ?_
    refine lv_istore (lv' := [(6, .int (0 : Int32)), (5, .int v16), (4, .int t0), (0, .ref (q 22)), (1, .int l1), (2, .int l2), (3, .int l3)]) hx hb dX1_letGo_41 hl (Nat.le_of_ble_eq_true rfl) rfl (fun ls hl => ?_)
    exact loop43 l1 l2 l3 t0 v16 FU (0 : Int32) w _ _ _ (lv_sub hl [3, 4, 5, 6, 2, 1, 0] rfl) S (h_bb h)
  have lab24 : ∀ (l1 : Int32) (l2 : Int32) (l3 : Int32) (w : Wt) (H : Heap) (locs : List Loc) (ls : Array Slot), lv_has ls 10 [(0, .ref (q 22)), (1, .int l1), (2, .int l2), (3, .int l3)] → Sta KC D dA q A s.heap w H locs → Option.bind (f_Count_letGo_M_b24 l1 l2 l3 w) some = some z → W p l e RM_f_Count_letGo_M s m args below meth c H locs 0 0 Q (F0 m 24 ls []) := by
    intro l1 l2 l3 w H locs ls hl S h
    unfold f_Count_letGo_M_b24 at h
    refine lv_bipush (v := 6) hx hb dX1_letGo_24 (by decide) ?_
    refine lv_goto (tgt := 30) hx hb dX1_letGo_26 rfl ?_
    exact lab30 l1 l2 l3 (6 : Int32) w _ _ _ (lv_sub hl [0, 1, 2, 3] rfl) S h
  have lab11 : ∀ (l1 : Int32) (l2 : Int32) (t0 : Int32) (w : Wt) (H : Heap) (locs : List Loc) (ls : Array Slot), lv_has ls 10 [(0, .ref (q 22)), (1, .int l1), (2, .int l2)] → Sta KC D dA q A s.heap w H locs → Option.bind (f_Count_letGo_M_b11 l1 l2 t0 w) some = some z → W p l e RM_f_Count_letGo_M s m args below meth c H locs 0 0 Q (F0 m 11 ls [.int t0]) := by
    intro l1 l2 t0 w H locs ls hl S h
    unfold f_Count_letGo_M_b11 at h
    refine lv_istore_n (lv' := [(3, .int t0), (0, .ref (q 22)), (1, .int l1), (2, .int l2)]) hx hb dX1_letGo_11 rfl hl (Nat.le_of_ble_eq_true rfl) rfl (fun ls hl => ?_)
    refine lv_iload_n hx hb dX1_letGo_12 rfl (lv_at hl 2 rfl) ?_
    refine lv_bipush (v := 101) hx hb dX1_letGo_13 (by decide) ?_
    refine lv_icmp_eq (tgt := 24) hx hb dX1_letGo_15 rfl (fun c17 => ?_) (fun c17 => ?_)
    · have h := h_t c17 h
      exact lab24 l1 l2 t0 w _ _ _ (lv_sub hl [1, 2, 3, 0] rfl) S h
    · have h := h_f c17 h
      refine lv_iload_n hx hb dX1_letGo_18 rfl (lv_at hl 2 rfl) ?_
      refine lv_bipush (v := 114) hx hb dX1_letGo_19 (by decide) ?_
      refine lv_icmp_ne (tgt := 29) hx hb dX1_letGo_21 rfl (fun c18 => ?_) (fun c18 => ?_)
      · have h := h_f c18 h
        refine lv_iconst (v := 1) hx hb dX1_letGo_29 (by decide) ?_
        exact lab30 l1 l2 t0 (1 : Int32) w _ _ _ (lv_sub hl [1, 2, 3, 0] rfl) S h
      · have h := h_t c18 h
        exact lab24 l1 l2 t0 w _ _ _ (lv_sub hl [1, 2, 3, 0] rfl) S h
  intro H locs ls hl S h
  have h := h_0 h
  unfold f_Count_letGo_M at h
  refine lv_iload_n hx hb dX1_letGo_0 rfl (lv_at hl 1 rfl) ?_
  refine lv_bipush (v := 120) hx hb dX1_letGo_1 (by decide) ?_
  refine lv_icmp_eq (tgt := 10) hx hb dX1_letGo_3 rfl (fun c19 => ?_) (fun c19 => ?_)
  · have h := h_t c19 h
    refine lv_iconst (v := 0) hx hb dX1_letGo_10 (by decide) ?_
    exact lab11 a1 a2 (0 : Int32) w _ _ _ (lv_sub hl [0, 1, 2] rfl) S h
  · have h := h_f c19 h
    refine lv_iconst (v := 1) hx hb dX1_letGo_6 (by decide) ?_
    refine lv_goto (tgt := 11) hx hb dX1_letGo_7 rfl ?_
    exact lab11 a1 a2 (1 : Int32) w _ _ _ (lv_sub hl [0, 1, 2] rfl) S h
theorem c_f_Count_letGo_M (l : Launch) (D : va_G) (dA : Nat → ClassId) (q : Nat → Nat) (a1 : Int32) (a2 : Int32) (w w' : Wt) (h : f_Count_letGo_M a1 a2 w = some w') : Mv l EVc KC D dA q yX1_letGo cX1_letGo 10 none RM_f_Count_letGo_M [.ref (q 22), .int a1, .int a2] w w' :=
  mk_v (by decide) rfl EVc_ok (Nat.le_of_ble_eq_true rfl) (fun p e s m args below meth c A Q ls hx hb hml C S hl fin => k_f_Count_letGo_M a1 a2 w w' hx hb hml C (fun H locs ls w2 pc S h d => fin H locs ls w2 pc S h d) _ _ _ hl S h)
/-! Ballotscript$Box.candidateAt(II)I f_Box_candidateAt -/
def f_Box_candidateAt_b33 (l1 : Int32) (t0 : Int32) (w : Wt) : Option Int32 := gd (inb ((l1 * (6 : Int32)) + t0) 600) (some (w 19 (((l1 * (6 : Int32)) + t0)).toNatClampNeg))
def f_Box_candidateAt_b32 (l1 : Int32) (l2 : Int32) (w : Wt) : Option Int32 := f_Box_candidateAt_b33 l1 l2 w
def f_Box_candidateAt (a1 : Int32) (a2 : Int32) (w : Wt) : Option Int32 := gd (inb a1 100) ((if a2 < (w 18 (a1).toNatClampNeg) then gd (inb a1 100) ((if (w 20 (a1).toNatClampNeg) = (0 : Int32) then f_Box_candidateAt_b32 a1 a2 w else (if (2 : Int32) ≤ a2 then f_Box_candidateAt_b32 a1 a2 w else f_Box_candidateAt_b33 a1 ((1 : Int32) - a2) w))) else some (-1 : Int32)))
def RM_f_Box_candidateAt : Room := { frames := 0, cells := 0, slots := 0, locals := 0 }
set_option maxHeartbeats 4000000 in
set_option maxRecDepth 20000 in
theorem k_f_Box_candidateAt (a1 : Int32) (a2 : Int32) (w : Wt) (z : Int32) (hx : p.tables.exec = Jvm.exec) (hb : c.code = cX0_candidateAt) (hml : c.maxLocals = 4) (C : Cx EVc KC D dA q A s m args RX0) (fin : ∀ (H : Heap) (locs : List Loc) (ls : Array Slot) (r' : Int32) (pc : Nat) , Sta KC D dA q A s.heap w H locs → some r' = some z → decode cX0_candidateAt pc = .ok (.ireturn, 1) → W p l e RM_f_Box_candidateAt s m args below meth c H locs 0 0 Q (F0 m pc ls [.int r'])) : ∀ (H : Heap) (locs : List Loc) (ls : Array Slot), lv_has ls 4 [(0, .ref (q 13)), (1, .int a1), (2, .int a2)] → Sta KC D dA q A s.heap w H locs → f_Box_candidateAt a1 a2 w = some z → W p l e RM_f_Box_candidateAt s m args below meth c H locs 0 0 Q (F0 m 0 ls []) := by
  have ev : evOk EVc := EVc_ok
  have lab33 : ∀ (l1 : Int32) (t0 : Int32) (H : Heap) (locs : List Loc) (ls : Array Slot), lv_has ls 4 [(0, .ref (q 13)), (1, .int l1)] → Sta KC D dA q A s.heap w H locs → Option.bind (f_Box_candidateAt_b33 l1 t0 w) some = some z → W p l e RM_f_Box_candidateAt s m args below meth c H locs 0 0 Q (F0 m 33 ls [.int t0]) := by
    intro l1 t0 H locs ls hl S h
    unfold f_Box_candidateAt_b33 at h
    refine lv_istore_n (lv' := [(3, .int t0), (0, .ref (q 13)), (1, .int l1)]) hx hb dX0_candidateAt_33 rfl hl (Nat.le_of_ble_eq_true rfl) rfl (fun ls hl => ?_)
    refine lv_aload_n hx hb dX0_candidateAt_34 rfl (lv_at hl 1 rfl) ?_
    refine g_getR fl_RX0_27_X0 hx hb C S KC_13 rfl dX0_candidateAt_35 ?_
    refine lv_iload_n hx hb dX0_candidateAt_38 rfl (lv_at hl 2 rfl) ?_
    refine lv_bipush (v := 6) hx hb dX0_candidateAt_39 (by decide) ?_
    refine lv_imul hx hb dX0_candidateAt_41 ?_
    refine lv_iload_n hx hb dX0_candidateAt_42 rfl (lv_at hl 0 rfl) ?_
    refine lv_iadd hx hb dX0_candidateAt_43 ?_
    obtain ⟨g1, h⟩ := h_gd h
    refine r_iald hx hb C S KC_19 (h_in g1) dX0_candidateAt_44 ?_
    exact fin _ _ _ (w 19 (((l1 * (6 : Int32)) + t0)).toNatClampNeg) _ S h dX0_candidateAt_45
  have lab32 : ∀ (l1 : Int32) (l2 : Int32) (H : Heap) (locs : List Loc) (ls : Array Slot), lv_has ls 4 [(0, .ref (q 13)), (1, .int l1), (2, .int l2)] → Sta KC D dA q A s.heap w H locs → Option.bind (f_Box_candidateAt_b32 l1 l2 w) some = some z → W p l e RM_f_Box_candidateAt s m args below meth c H locs 0 0 Q (F0 m 32 ls []) := by
    intro l1 l2 H locs ls hl S h
    unfold f_Box_candidateAt_b32 at h
    refine lv_iload_n hx hb dX0_candidateAt_32 rfl (lv_at hl 2 rfl) ?_
    exact lab33 l1 l2 _ _ _ (lv_sub hl [0, 1] rfl) S h
  intro H locs ls hl S h
  have h := h_0 h
  unfold f_Box_candidateAt at h
  refine lv_iload_n hx hb dX0_candidateAt_0 rfl (lv_at hl 2 rfl) ?_
  refine lv_aload_n hx hb dX0_candidateAt_1 rfl (lv_at hl 0 rfl) ?_
  refine g_getR fl_RX0_24_X0 hx hb C S KC_13 rfl dX0_candidateAt_2 ?_
  refine lv_iload_n hx hb dX0_candidateAt_5 rfl (lv_at hl 1 rfl) ?_
  obtain ⟨g2, h⟩ := h_gd h
  refine r_iald hx hb C S KC_18 (h_in g2) dX0_candidateAt_6 ?_
  refine lv_icmp_lt (tgt := 12) hx hb dX0_candidateAt_7 rfl (fun c3 => ?_) (fun c3 => ?_)
  · have h := h_t c3 h
    refine lv_aload_n hx hb dX0_candidateAt_12 rfl (lv_at hl 0 rfl) ?_
    refine g_getR fl_RX0_30_X0 hx hb C S KC_13 rfl dX0_candidateAt_13 ?_
    refine lv_iload_n hx hb dX0_candidateAt_16 rfl (lv_at hl 1 rfl) ?_
    obtain ⟨g4, h⟩ := h_gd h
    refine r_zald hx hb C S KC_20 (h_in g4) dX0_candidateAt_17 ?_
    refine lv_if_eq (tgt := 32) hx hb dX0_candidateAt_18 rfl (fun c5 => ?_) (fun c5 => ?_)
    · have h := h_t c5 h
      exact lab32 a1 a2 _ _ _ (lv_sub hl [0, 1, 2] rfl) S h
    · have h := h_f c5 h
      refine lv_iload_n hx hb dX0_candidateAt_21 rfl (lv_at hl 2 rfl) ?_
      refine lv_iconst (v := 2) hx hb dX0_candidateAt_22 (by decide) ?_
      refine lv_icmp_ge (tgt := 32) hx hb dX0_candidateAt_23 rfl (fun c6 => ?_) (fun c6 => ?_)
      · have h := h_t c6 h
        exact lab32 a1 a2 _ _ _ (lv_sub hl [0, 1, 2] rfl) S h
      · have h := h_f c6 h
        refine lv_iconst (v := 1) hx hb dX0_candidateAt_26 (by decide) ?_
        refine lv_iload_n hx hb dX0_candidateAt_27 rfl (lv_at hl 2 rfl) ?_
        refine lv_isub hx hb dX0_candidateAt_28 ?_
        refine lv_goto (tgt := 33) hx hb dX0_candidateAt_29 rfl ?_
        exact lab33 a1 ((1 : Int32) - a2) _ _ _ (lv_sub hl [0, 1] rfl) S h
  · have h := h_f c3 h
    refine lv_iconst (v := -1) hx hb dX0_candidateAt_10 (by decide) ?_
    exact fin _ _ _ (-1 : Int32) _ S h dX0_candidateAt_11
theorem c_f_Box_candidateAt (l : Launch) (D : va_G) (dA : Nat → ClassId) (q : Nat → Nat) (a1 : Int32) (a2 : Int32) (w : Wt) (r : Int32) (h : f_Box_candidateAt a1 a2 w = some r) : Mi l EVc KC D dA q yX0_candidateAt cX0_candidateAt 4 (some .int) RM_f_Box_candidateAt [.ref (q 13), .int a1, .int a2] w r w :=
  mk_i (by decide) rfl EVc_ok (Nat.le_of_ble_eq_true rfl) (fun p e s m args below meth c A Q ls hx hb hml C S hl fin => k_f_Box_candidateAt a1 a2 w r hx hb hml C (fun H locs ls r' pc S h d => fin H locs ls r' w pc S (by rw [Option.some.inj h]) d) _ _ _ hl S h)
/-! Ballotscript$MachineCount.addBallot(ICI)I f_MachineCount_addBallot -/
def f_MachineCount_addBallot_b112 (l5 : Int32) (w : Wt) : Option (Int32 × Wt) := some (l5, w)
def f_MachineCount_addBallot_L25 (l1 : Int32) (l2 : Int32) (l3 : Int32) : (Int32 × Int32 × Int32 × Wt) → Option ((Int32 × Int32 × Int32 × Wt) ⊕ ((Int32 × Wt) ⊕ (Int32 × Wt)))
  | (l4, l5, l6, w) => gd (inb l1 100) ((if (w 18 (l1).toNatClampNeg) ≤ l6 then some (.inr (.inl (l5, w))) else Option.bind (f_Box_candidateAt l1 l6 w) fun x3 => (if x3 < (0 : Int32) then some (.inl (l4, l5, (l6 + 1), w)) else Option.bind (f_Count_hasBit (w 22 5) x3) fun x5 => (if x5 = (0 : Int32) then some (.inl (l4, l5, (l6 + 1), w)) else gd (inb (l3 + x3) 936) (gd (inb (l3 + x3) 936) (nmd (upd2 w 24 ((l3 + x3)).toNatClampNeg ((w 24 ((l3 + x3)).toNatClampNeg) + l4)) fun w9 => (if l2 = (116 : Int32) then some (.inr (.inr ((1 : Int32), w9))) else (if l2 = (98 : Int32) then some (.inl ((l4 + (-1)), (1 : Int32), (l6 + 1), w9)) else some (.inl (l4, (1 : Int32), (l6 + 1), w9))))))))))
def f_MachineCount_addBallot_x25 : ((Int32 × Wt) ⊕ (Int32 × Wt)) → Option (Int32 × Wt)
  | .inl (l5, w) => f_MachineCount_addBallot_b112 l5 w
  | .inr t => some t
def f_MachineCount_addBallot_b17 (l1 : Int32) (l2 : Int32) (l3 : Int32) (t0 : Int32) (w : Wt) : Option (Int32 × Wt) := Option.bind (lp (f_MachineCount_addBallot_L25 l1 l2 l3) FU (t0, (0 : Int32), (0 : Int32), w)) (f_MachineCount_addBallot_x25)
def f_MachineCount_addBallot (a1 : Int32) (a2 : Int32) (a3 : Int32) (w : Wt) : Option (Int32 × Wt) := (if a2 = (98 : Int32) then Option.bind (f_Integer_bitCount (w 22 5)) fun x13 => f_MachineCount_addBallot_b17 a1 a2 a3 x13 w else f_MachineCount_addBallot_b17 a1 a2 a3 (1 : Int32) w)
def RM_f_MachineCount_addBallot : Room := { frames := 1, cells := 0, slots := 0, locals := 23 }
set_option maxHeartbeats 4000000 in
set_option maxRecDepth 20000 in
theorem k_f_MachineCount_addBallot (a1 : Int32) (a2 : Int32) (a3 : Int32) (w : Wt) (z : (Int32 × Wt)) (hx : p.tables.exec = Jvm.exec) (hb : c.code = cX3_addBallot) (hml : c.maxLocals = 8) (C : Cx EVc KC D dA q A s m args RX3) (fin : ∀ (H : Heap) (locs : List Loc) (ls : Array Slot) (r' : Int32) (w2 : Wt) (pc : Nat) , Sta KC D dA q A s.heap w2 H locs → some (r', w2) = some z → decode cX3_addBallot pc = .ok (.ireturn, 1) → W p l e RM_f_MachineCount_addBallot s m args below meth c H locs 0 0 Q (F0 m pc ls [.int r'])) : ∀ (H : Heap) (locs : List Loc) (ls : Array Slot), lv_has ls 8 [(0, .ref (q 22)), (1, .int a1), (2, .int a2), (3, .int a3)] → Sta KC D dA q A s.heap w H locs → f_MachineCount_addBallot a1 a2 a3 w = some z → W p l e RM_f_MachineCount_addBallot s m args below meth c H locs 0 0 Q (F0 m 0 ls []) := by
  have ev : evOk EVc := EVc_ok
  have lab112 : ∀ (l5 : Int32) (w : Wt) (H : Heap) (locs : List Loc) (ls : Array Slot), lv_has ls 8 [(5, .int l5)] → Sta KC D dA q A s.heap w H locs → Option.bind (f_MachineCount_addBallot_b112 l5 w) some = some z → W p l e RM_f_MachineCount_addBallot s m args below meth c H locs 0 0 Q (F0 m 112 ls []) := by
    intro l5 w H locs ls hl S h
    unfold f_MachineCount_addBallot_b112 at h
    refine lv_iload hx hb dX3_addBallot_112 (lv_at hl 0 rfl) ?_
    exact fin _ _ _ l5 w _ S h dX3_addBallot_114
  have loop25 : ∀ (l1 : Int32) (l2 : Int32) (l3 : Int32) (n25 : Nat), ∀ (l4 : Int32) (l5 : Int32) (l6 : Int32) (w : Wt) (H : Heap) (locs : List Loc) (ls : Array Slot), lv_has ls 8 [(0, .ref (q 22)), (1, .int l1), (2, .int l2), (3, .int l3), (4, .int l4), (5, .int l5), (6, .int l6)] → Sta KC D dA q A s.heap w H locs → Option.bind (lp (f_MachineCount_addBallot_L25 l1 l2 l3) n25 (l4, l5, l6, w)) (fun x9 => Option.bind (f_MachineCount_addBallot_x25 x9) some) = some z → W p l e RM_f_MachineCount_addBallot s m args below meth c H locs 0 0 Q (F0 m 25 ls []) := by
    intro l1 l2 l3 n25
    induction n25 with
    | zero =>
      intro l4 l5 l6 w H locs ls hl S h
      exact (h_lp0 h).elim
    | succ n25 ih25 =>
      intro l4 l5 l6 w H locs ls hl S h
      have h := h_lp h
      unfold f_MachineCount_addBallot_L25 at h
      refine lv_iload hx hb dX3_addBallot_25 (lv_at hl 6 rfl) ?_
      refine lv_aload_n hx hb dX3_addBallot_27 rfl (lv_at hl 0 rfl) ?_
      refine g_getR fl_RX3_58_X3 hx hb C S KC_22 rfl dX3_addBallot_28 ?_
      refine g_getR fl_RX3_80_X0 hx hb C S KC_13 rfl dX3_addBallot_31 ?_
      refine lv_iload_n hx hb dX3_addBallot_34 rfl (lv_at hl 1 rfl) ?_
      obtain ⟨g1, h⟩ := h_gd h
      refine r_iald hx hb C S KC_18 (h_in g1) dX3_addBallot_35 ?_
      refine lv_icmp_ge (tgt := 112) hx hb dX3_addBallot_36 rfl (fun c2 => ?_) (fun c2 => ?_)
      · have h := h_t c2 h
        exact lab112 l5 w _ _ _ (lv_sub hl [5] rfl) S h
      · have h := h_f c2 h
        refine lv_aload_n hx hb dX3_addBallot_39 rfl (lv_at hl 0 rfl) ?_
        refine g_getR fl_RX3_58_X3 hx hb C S KC_22 rfl dX3_addBallot_40 ?_
        refine lv_iload_n hx hb dX3_addBallot_43 rfl (lv_at hl 1 rfl) ?_
        refine lv_iload hx hb dX3_addBallot_44 (lv_at hl 6 rfl) ?_
        obtain ⟨x3, ex3, h⟩ := h_c h
        refine k_i C S (q_V (rest := []) (As := [.int l1, .int l6]) lk_RX3_83 ev hx hb hml C S KC_13 rfl (c_f_Box_candidateAt l D dA q l1 l6 w x3 ex3 _) rfl rfl ⟨(Nat.le_of_ble_eq_true rfl), (Nat.le_of_ble_eq_true rfl)⟩ rfl hl.1 rfl (Nat.le_of_ble_eq_true rfl) dX3_addBallot_46 ⟨(Nat.le_of_ble_eq_true rfl), (Nat.le_of_ble_eq_true rfl)⟩) (fun H locs S => ?_)
        refine lv_istore (lv' := [(7, .int x3), (0, .ref (q 22)), (1, .int l1), (2, .int l2), (3, .int l3), (4, .int l4), (5, .int l5), (6, .int l6)]) hx hb dX3_addBallot_49 hl (Nat.le_of_ble_eq_true rfl) rfl (fun ls hl => ?_)
        refine lv_iload hx hb dX3_addBallot_51 (lv_at hl 0 rfl) ?_
        refine lv_if_lt (tgt := 106) hx hb dX3_addBallot_53 rfl (fun c4 => ?_) (fun c4 => ?_)
        · have h := h_t c4 h
          refine lv_iinc (v := (l6 + 1)) (lv' := [(6, .int (l6 + 1)), (7, .int x3), (0, .ref (q 22)), (1, .int l1), (2, .int l2), (3, .int l3), (4, .int l4), (5, .int l5)]) hx hb dX3_addBallot_106 hl (k := 7) rfl rfl (Nat.le_of_ble_eq_true rfl) rfl (fun ls hl => ?_)
          refine lv_goto (tgt := 25) hx hb dX3_addBallot_109 rfl ?_
          exact ih25 l4 l5 (l6 + 1) w _ _ _ (lv_sub hl [2, 3, 4, 5, 6, 7, 0] rfl) S h
        · have h := h_f c4 h
          refine lv_aload_n hx hb dX3_addBallot_56 rfl (lv_at hl 1 rfl) ?_
          refine g_get fl_RX3_44_X3 hx hb C S KC_22 rfl dX3_addBallot_57 ?_
          refine lv_iload hx hb dX3_addBallot_60 (lv_at hl 0 rfl) ?_
          obtain ⟨x5, ex5, h⟩ := h_c h
          refine k_i C S (q_SU (rest := []) (As := [.int (w 22 5), .int x3]) lk_RX3_86 ev hx hb hml C S (c_f_Count_hasBit l D dA q (w 22 5) x3 w x5 ex5 _) rfl rfl ⟨(Nat.le_of_ble_eq_true rfl), (Nat.le_of_ble_eq_true rfl)⟩ rfl hl.1 rfl (Nat.le_of_ble_eq_true rfl) dX3_addBallot_62 ⟨(Nat.le_of_ble_eq_true rfl), (Nat.le_of_ble_eq_true rfl)⟩) (fun H locs S => ?_)
          refine lv_if_ne (tgt := 71) hx hb dX3_addBallot_65 rfl (fun c6 => ?_) (fun c6 => ?_)
          · have h := h_f c6 h
            refine lv_aload_n hx hb dX3_addBallot_71 rfl (lv_at hl 1 rfl) ?_
            refine g_getR fl_RX3_9_X3 hx hb C S KC_22 rfl dX3_addBallot_72 ?_
            refine lv_iload_n hx hb dX3_addBallot_75 rfl (lv_at hl 4 rfl) ?_
            refine lv_iload hx hb dX3_addBallot_76 (lv_at hl 0 rfl) ?_
            refine lv_iadd hx hb dX3_addBallot_78 ?_
            refine lv_dup2_11 hx hb dX3_addBallot_79 rfl rfl ?_
            obtain ⟨g7, h⟩ := h_gd h
            refine r_iald hx hb C S KC_24 (h_in g7) dX3_addBallot_80 ?_
            refine lv_iload hx hb dX3_addBallot_81 (lv_at hl 5 rfl) ?_
            refine lv_iadd hx hb dX3_addBallot_83 ?_
            obtain ⟨g8, h⟩ := h_gd h
            refine r_iast hx hb C S KC_24 (h_in g8) dX3_addBallot_84 (fun w9 ew9 H locs S => ?_)
            have h := h_l h w9 ew9
            refine lv_iconst (v := 1) hx hb dX3_addBallot_85 (by decide) ?_
            refine lv_istore (lv' := [(5, .int (1 : Int32)), (7, .int x3), (0, .ref (q 22)), (1, .int l1), (2, .int l2), (3, .int l3), (4, .int l4), (6, .int l6)]) hx hb dX3_addBallot_86 hl (Nat.le_of_ble_eq_true rfl) rfl (fun ls hl => ?_)
            refine lv_iload_n hx hb dX3_addBallot_88 rfl (lv_at hl 4 rfl) ?_
            refine lv_bipush (v := 116) hx hb dX3_addBallot_89 (by decide) ?_
            refine lv_icmp_ne (tgt := 97) hx hb dX3_addBallot_91 rfl (fun c10 => ?_) (fun c10 => ?_)
            · have h := h_f c10 h
              refine lv_iload_n hx hb dX3_addBallot_97 rfl (lv_at hl 4 rfl) ?_
              refine lv_bipush (v := 98) hx hb dX3_addBallot_98 (by decide) ?_
              refine lv_icmp_ne (tgt := 106) hx hb dX3_addBallot_100 rfl (fun c11 => ?_) (fun c11 => ?_)
              · have h := h_f c11 h
                refine lv_iinc (v := (l6 + 1)) (lv' := [(6, .int (l6 + 1)), (5, .int (1 : Int32)), (7, .int x3), (0, .ref (q 22)), (1, .int l1), (2, .int l2), (3, .int l3), (4, .int l4)]) hx hb dX3_addBallot_106 hl (k := 7) rfl rfl (Nat.le_of_ble_eq_true rfl) rfl (fun ls hl => ?_)
                refine lv_goto (tgt := 25) hx hb dX3_addBallot_109 rfl ?_
                exact ih25 l4 (1 : Int32) (l6 + 1) w9 _ _ _ (lv_sub hl [3, 4, 5, 6, 7, 1, 0] rfl) S h
              · have h := h_t c11 h
                refine lv_iinc (v := (l4 + (-1))) (lv' := [(4, .int (l4 + (-1))), (5, .int (1 : Int32)), (7, .int x3), (0, .ref (q 22)), (1, .int l1), (2, .int l2), (3, .int l3), (6, .int l6)]) hx hb dX3_addBallot_103 hl (k := 6) rfl rfl (Nat.le_of_ble_eq_true rfl) rfl (fun ls hl => ?_)
                refine lv_iinc (v := (l6 + 1)) (lv' := [(6, .int (l6 + 1)), (4, .int (l4 + (-1))), (5, .int (1 : Int32)), (7, .int x3), (0, .ref (q 22)), (1, .int l1), (2, .int l2), (3, .int l3)]) hx hb dX3_addBallot_106 hl (k := 7) rfl rfl (Nat.le_of_ble_eq_true rfl) rfl (fun ls hl => ?_)
                refine lv_goto (tgt := 25) hx hb dX3_addBallot_109 rfl ?_
                exact ih25 (l4 + (-1)) (1 : Int32) (l6 + 1) w9 _ _ _ (lv_sub hl [4, 5, 6, 7, 1, 2, 0] rfl) S h
            · have h := h_t c10 h
              refine lv_iload hx hb dX3_addBallot_94 (lv_at hl 0 rfl) ?_
              exact fin _ _ _ (1 : Int32) w9 _ S h dX3_addBallot_96
          · have h := h_t c6 h
            refine lv_goto (tgt := 106) hx hb dX3_addBallot_68 rfl ?_
            refine lv_iinc (v := (l6 + 1)) (lv' := [(6, .int (l6 + 1)), (7, .int x3), (0, .ref (q 22)), (1, .int l1), (2, .int l2), (3, .int l3), (4, .int l4), (5, .int l5)]) hx hb dX3_addBallot_106 hl (k := 7) rfl rfl (Nat.le_of_ble_eq_true rfl) rfl (fun ls hl => ?_)
            refine lv_goto (tgt := 25) hx hb dX3_addBallot_109 rfl ?_
            exact ih25 l4 l5 (l6 + 1) w _ _ _ (lv_sub hl [2, 3, 4, 5, 6, 7, 0] rfl) S h
  have lab17 : ∀ (l1 : Int32) (l2 : Int32) (l3 : Int32) (t0 : Int32) (w : Wt) (H : Heap) (locs : List Loc) (ls : Array Slot), lv_has ls 8 [(0, .ref (q 22)), (1, .int l1), (2, .int l2), (3, .int l3)] → Sta KC D dA q A s.heap w H locs → Option.bind (f_MachineCount_addBallot_b17 l1 l2 l3 t0 w) some = some z → W p l e RM_f_MachineCount_addBallot s m args below meth c H locs 0 0 Q (F0 m 17 ls [.int t0]) := by
    intro l1 l2 l3 t0 w H locs ls hl S h
    unfold f_MachineCount_addBallot_b17 at h
    refine lv_istore (lv' := [(4, .int t0), (0, .ref (q 22)), (1, .int l1), (2, .int l2), (3, .int l3)]) hx hb dX3_addBallot_17 hl (Nat.le_of_ble_eq_true rfl) rfl (fun ls hl => ?_)
    refine lv_iconst (v := 0) hx hb dX3_addBallot_19 (by decide) ?_
    refine lv_istore (lv' := [(5, .int (0 : Int32)), (4, .int t0), (0, .ref (q 22)), (1, .int l1), (2, .int l2), (3, .int l3)]) hx hb dX3_addBallot_20 hl (Nat.le_of_ble_eq_true rfl) rfl (fun ls hl => ?_)
    refine lv_iconst (v := 0) hx hb dX3_addBallot_22 (by decide) ?_
    refine lv_istore (lv' := [(6, .int (0 : Int32)), (5, .int (0 : Int32)), (4, .int t0), (0, .ref (q 22)), (1, .int l1), (2, .int l2), (3, .int l3)]) hx hb dX3_addBallot_23 hl (Nat.le_of_ble_eq_true rfl) rfl (fun ls hl => ?_)
    exact loop25 l1 l2 l3 FU t0 (0 : Int32) (0 : Int32) w _ _ _ (lv_sub hl [3, 4, 5, 6, 2, 1, 0] rfl) S (h_bb h)
  intro H locs ls hl S h
  have h := h_0 h
  unfold f_MachineCount_addBallot at h
  refine lv_iload_n hx hb dX3_addBallot_0 rfl (lv_at hl 2 rfl) ?_
  refine lv_bipush (v := 98) hx hb dX3_addBallot_1 (by decide) ?_
  refine lv_icmp_ne (tgt := 16) hx hb dX3_addBallot_3 rfl (fun c12 => ?_) (fun c12 => ?_)
  · have h := h_f c12 h
    refine lv_iconst (v := 1) hx hb dX3_addBallot_16 (by decide) ?_
    exact lab17 a1 a2 a3 (1 : Int32) w _ _ _ (lv_sub hl [0, 1, 2, 3] rfl) S h
  · have h := h_t c12 h
    refine lv_aload_n hx hb dX3_addBallot_6 rfl (lv_at hl 0 rfl) ?_
    refine g_get fl_RX3_44_X3 hx hb C S KC_22 rfl dX3_addBallot_7 ?_
    obtain ⟨x13, ex13, h⟩ := h_c h
    refine k_i C S (q_S (rest := []) (As := [.int (w 22 5)]) lk_RX3_74 ev hx hb hml C S (c_f_Integer_bitCount l D dA q (w 22 5) w x13 ex13 _) rfl rfl ⟨(Nat.le_of_ble_eq_true rfl), (Nat.le_of_ble_eq_true rfl)⟩ rfl hl.1 rfl (Nat.le_of_ble_eq_true rfl) dX3_addBallot_10 ⟨(Nat.le_of_ble_eq_true rfl), (Nat.le_of_ble_eq_true rfl)⟩) (fun H locs S => ?_)
    refine lv_goto (tgt := 17) hx hb dX3_addBallot_13 rfl ?_
    exact lab17 a1 a2 a3 x13 w _ _ _ (lv_sub hl [0, 1, 2, 3] rfl) S h
theorem c_f_MachineCount_addBallot (l : Launch) (D : va_G) (dA : Nat → ClassId) (q : Nat → Nat) (a1 : Int32) (a2 : Int32) (a3 : Int32) (w w' : Wt) (r : Int32) (h : f_MachineCount_addBallot a1 a2 a3 w = some (r, w')) : Mi l EVc KC D dA q yX3_addBallot cX3_addBallot 8 (some .int) RM_f_MachineCount_addBallot [.ref (q 22), .int a1, .int a2, .int a3] w r w' :=
  mk_i (by decide) rfl EVc_ok (Nat.le_of_ble_eq_true rfl) (fun p e s m args below meth c A Q ls hx hb hml C S hl fin => k_f_MachineCount_addBallot a1 a2 a3 w (r, w') hx hb hml C (fun H locs ls r' w2 pc S h d => fin H locs ls r' w2 pc S h d) _ _ _ hl S h)
/-! Ballotscript$MachineCount.makeTally(C)V f_MachineCount_makeTally -/
def f_MachineCount_makeTally_b84 (l3 : Int32) (w : Wt) : Option Wt := gd (inb (w 22 3) 156) (nmd (upd2 w 25 ((w 22 3)).toNatClampNeg (w 22 5)) fun w2 => gd (inb (w2 22 3) 156) (nmd (upd2 w2 26 ((w2 22 3)).toNatClampNeg l3) fun w4 => nmd (upd2 w4 22 3 ((w4 22 3) + (1 : Int32))) fun w5 => some w5))
def f_MachineCount_makeTally_L47 (l1 : Int32) (l2 : Int32) : (Int32 × Int32 × Wt) → Option ((Int32 × Int32 × Wt) ⊕ (Int32 × Wt))
  | (l3, l4, w) => (if (w 13 10) ≤ l4 then some (.inr (l3, w)) else gd (inb l4 100) (Option.bind (f_MachineCount_addBallot (w 21 (l4).toNatClampNeg) l1 l2 w) fun x8 => nmd (l3 + x8.1) fun v9 => some (.inl (v9, (l4 + 1), x8.2))))
def f_MachineCount_makeTally_x47 : (Int32 × Wt) → Option Wt
  | (l3, w) => f_MachineCount_makeTally_b84 l3 w
def f_MachineCount_makeTally_b42 (l1 : Int32) (l2 : Int32) (w : Wt) : Option Wt := Option.bind (lp (f_MachineCount_makeTally_L47 l1 l2) FU ((0 : Int32), (0 : Int32), w)) (f_MachineCount_makeTally_x47)
def f_MachineCount_makeTally_L21 (l1 : Int32) (l2 : Int32) : (Int32 × Wt) → Option ((Int32 × Wt) ⊕ Wt)
  | (l3, w) => (if (6 : Int32) ≤ l3 then some (.inr w) else gd (inb (l2 + l3) 936) (nmd (upd2 w 24 ((l2 + l3)).toNatClampNeg (0 : Int32)) fun w12 => some (.inl ((l3 + 1), w12))))
def f_MachineCount_makeTally_x21 (l1 : Int32) (l2 : Int32) : Wt → Option Wt
  | w => f_MachineCount_makeTally_b42 l1 l2 w
def f_MachineCount_makeTally (a1 : Int32) (w : Wt) : Option Wt := (if (w 22 3) < (156 : Int32) then nmd ((w 22 3) * (6 : Int32)) fun v14 => Option.bind (lp (f_MachineCount_makeTally_L21 a1 v14) FU ((0 : Int32), w)) (f_MachineCount_makeTally_x21 a1 v14) else some w)
def RM_f_MachineCount_makeTally : Room := { frames := 2, cells := 0, slots := 0, locals := 50 }
set_option maxHeartbeats 4000000 in
set_option maxRecDepth 20000 in
theorem k_f_MachineCount_makeTally (a1 : Int32) (w : Wt) (z : Wt) (hx : p.tables.exec = Jvm.exec) (hb : c.code = cX3_makeTally) (hml : c.maxLocals = 5) (C : Cx EVc KC D dA q A s m args RX3) (fin : ∀ (H : Heap) (locs : List Loc) (ls : Array Slot) (w2 : Wt) (pc : Nat) , Sta KC D dA q A s.heap w2 H locs → some w2 = some z → decode cX3_makeTally pc = .ok (.return_, 1) → W p l e RM_f_MachineCount_makeTally s m args below meth c H locs 0 0 Q (F0 m pc ls [])) : ∀ (H : Heap) (locs : List Loc) (ls : Array Slot), lv_has ls 5 [(0, .ref (q 22)), (1, .int a1)] → Sta KC D dA q A s.heap w H locs → f_MachineCount_makeTally a1 w = some z → W p l e RM_f_MachineCount_makeTally s m args below meth c H locs 0 0 Q (F0 m 0 ls []) := by
  have ev : evOk EVc := EVc_ok
  have lab84 : ∀ (l3 : Int32) (w : Wt) (H : Heap) (locs : List Loc) (ls : Array Slot), lv_has ls 5 [(0, .ref (q 22)), (3, .int l3)] → Sta KC D dA q A s.heap w H locs → Option.bind (f_MachineCount_makeTally_b84 l3 w) some = some z → W p l e RM_f_MachineCount_makeTally s m args below meth c H locs 0 0 Q (F0 m 84 ls []) := by
    intro l3 w H locs ls hl S h
    unfold f_MachineCount_makeTally_b84 at h
    refine lv_aload_n hx hb dX3_makeTally_84 rfl (lv_at hl 0 rfl) ?_
    refine g_getR fl_RX3_15_X3 hx hb C S KC_22 rfl dX3_makeTally_85 ?_
    refine lv_aload_n hx hb dX3_makeTally_88 rfl (lv_at hl 0 rfl) ?_
    refine g_get fl_RX3_55_X3 hx hb C S KC_22 rfl dX3_makeTally_89 ?_
    refine lv_aload_n hx hb dX3_makeTally_92 rfl (lv_at hl 0 rfl) ?_
    refine g_get fl_RX3_44_X3 hx hb C S KC_22 rfl dX3_makeTally_93 ?_
    obtain ⟨g1, h⟩ := h_gd h
    refine r_iast hx hb C S KC_25 (h_in g1) dX3_makeTally_96 (fun w2 ew2 H locs S => ?_)
    have h := h_l h w2 ew2
    refine lv_aload_n hx hb dX3_makeTally_97 rfl (lv_at hl 0 rfl) ?_
    refine g_getR fl_RX3_18_X3 hx hb C S KC_22 rfl dX3_makeTally_98 ?_
    refine lv_aload_n hx hb dX3_makeTally_101 rfl (lv_at hl 0 rfl) ?_
    refine g_get fl_RX3_55_X3 hx hb C S KC_22 rfl dX3_makeTally_102 ?_
    refine lv_iload_n hx hb dX3_makeTally_105 rfl (lv_at hl 1 rfl) ?_
    obtain ⟨g3, h⟩ := h_gd h
    refine r_iast hx hb C S KC_26 (h_in g3) dX3_makeTally_106 (fun w4 ew4 H locs S => ?_)
    have h := h_l h w4 ew4
    refine lv_aload_n hx hb dX3_makeTally_107 rfl (lv_at hl 0 rfl) ?_
    refine lv_dup hx hb dX3_makeTally_108 rfl ?_
    refine g_get fl_RX3_55_X3 hx hb C S KC_22 rfl dX3_makeTally_109 ?_
    refine lv_iconst (v := 1) hx hb dX3_makeTally_112 (by decide) ?_
    refine lv_iadd hx hb dX3_makeTally_113 ?_
    refine g_put fl_RX3_55_X3 pl_X3_3 hx hb C S KC_22 rfl ⟨rfl, rfl⟩ dX3_makeTally_114 (fun w5 ew5 H locs S => ?_)
    have h := h_l h w5 ew5
    exact fin _ _ _ w5 _ S h dX3_makeTally_117
  have loop47 : ∀ (l1 : Int32) (l2 : Int32) (n47 : Nat), ∀ (l3 : Int32) (l4 : Int32) (w : Wt) (H : Heap) (locs : List Loc) (ls : Array Slot), lv_has ls 5 [(0, .ref (q 22)), (1, .int l1), (2, .int l2), (3, .int l3), (4, .int l4)] → Sta KC D dA q A s.heap w H locs → Option.bind (lp (f_MachineCount_makeTally_L47 l1 l2) n47 (l3, l4, w)) (fun x9 => Option.bind (f_MachineCount_makeTally_x47 x9) some) = some z → W p l e RM_f_MachineCount_makeTally s m args below meth c H locs 0 0 Q (F0 m 47 ls []) := by
    intro l1 l2 n47
    induction n47 with
    | zero =>
      intro l3 l4 w H locs ls hl S h
      exact (h_lp0 h).elim
    | succ n47 ih47 =>
      intro l3 l4 w H locs ls hl S h
      have h := h_lp h
      unfold f_MachineCount_makeTally_L47 at h
      refine lv_iload hx hb dX3_makeTally_47 (lv_at hl 4 rfl) ?_
      refine lv_aload_n hx hb dX3_makeTally_49 rfl (lv_at hl 0 rfl) ?_
      refine g_getR fl_RX3_58_X3 hx hb C S KC_22 rfl dX3_makeTally_50 ?_
      refine g_get fl_RX3_62_X0 hx hb C S KC_13 rfl dX3_makeTally_53 ?_
      refine lv_icmp_ge (tgt := 84) hx hb dX3_makeTally_56 rfl (fun c6 => ?_) (fun c6 => ?_)
      · have h := h_t c6 h
        exact lab84 l3 w _ _ _ (lv_sub hl [0, 3] rfl) S h
      · have h := h_f c6 h
        refine lv_iload_n hx hb dX3_makeTally_59 rfl (lv_at hl 3 rfl) ?_
        refine lv_aload_n hx hb dX3_makeTally_60 rfl (lv_at hl 0 rfl) ?_
        refine lv_aload_n hx hb dX3_makeTally_61 rfl (lv_at hl 0 rfl) ?_
        refine g_getR fl_RX3_58_X3 hx hb C S KC_22 rfl dX3_makeTally_62 ?_
        refine g_getR fl_RX3_67_X0 hx hb C S KC_13 rfl dX3_makeTally_65 ?_
        refine lv_iload hx hb dX3_makeTally_68 (lv_at hl 4 rfl) ?_
        obtain ⟨g7, h⟩ := h_gd h
        refine r_iald hx hb C S KC_21 (h_in g7) dX3_makeTally_70 ?_
        refine lv_iload_n hx hb dX3_makeTally_71 rfl (lv_at hl 1 rfl) ?_
        refine lv_iload_n hx hb dX3_makeTally_72 rfl (lv_at hl 2 rfl) ?_
        obtain ⟨x8, ex8, h⟩ := h_c h
        refine k_i C S (q_V (rest := [.int l3]) (As := [.int (w 21 (l4).toNatClampNeg), .int l1, .int l2]) lk_RX3_70 ev hx hb hml C S KC_22 rfl (c_f_MachineCount_addBallot l D dA q (w 21 (l4).toNatClampNeg) l1 l2 w x8.2 x8.1 ex8 _) rfl rfl ⟨(Nat.le_of_ble_eq_true rfl), (Nat.le_of_ble_eq_true rfl)⟩ rfl hl.1 rfl (Nat.le_of_ble_eq_true rfl) dX3_makeTally_73 ⟨(Nat.le_of_ble_eq_true rfl), (Nat.le_of_ble_eq_true rfl)⟩) (fun H locs S => ?_)
        refine lv_iadd hx hb dX3_makeTally_76 ?_
        refine lv_topi (fun v9 ev9 => ?_)
        have h := h_l h v9 ev9
        refine lv_istore_n (lv' := [(3, .int v9), (0, .ref (q 22)), (1, .int l1), (2, .int l2), (4, .int l4)]) hx hb dX3_makeTally_77 rfl hl (Nat.le_of_ble_eq_true rfl) rfl (fun ls hl => ?_)
        refine lv_iinc (v := (l4 + 1)) (lv' := [(4, .int (l4 + 1)), (3, .int v9), (0, .ref (q 22)), (1, .int l1), (2, .int l2)]) hx hb dX3_makeTally_78 hl (k := 4) rfl rfl (Nat.le_of_ble_eq_true rfl) rfl (fun ls hl => ?_)
        refine lv_goto (tgt := 47) hx hb dX3_makeTally_81 rfl ?_
        exact ih47 v9 (l4 + 1) x8.2 _ _ _ (lv_sub hl [2, 3, 4, 1, 0] rfl) S h
  have lab42 : ∀ (l1 : Int32) (l2 : Int32) (w : Wt) (H : Heap) (locs : List Loc) (ls : Array Slot), lv_has ls 5 [(0, .ref (q 22)), (1, .int l1), (2, .int l2)] → Sta KC D dA q A s.heap w H locs → Option.bind (f_MachineCount_makeTally_b42 l1 l2 w) some = some z → W p l e RM_f_MachineCount_makeTally s m args below meth c H locs 0 0 Q (F0 m 42 ls []) := by
    intro l1 l2 w H locs ls hl S h
    unfold f_MachineCount_makeTally_b42 at h
    refine lv_iconst (v := 0) hx hb dX3_makeTally_42 (by decide) ?_
    refine lv_istore_n (lv' := [(3, .int (0 : Int32)), (0, .ref (q 22)), (1, .int l1), (2, .int l2)]) hx hb dX3_makeTally_43 rfl hl (Nat.le_of_ble_eq_true rfl) rfl (fun ls hl => ?_)
    refine lv_iconst (v := 0) hx hb dX3_makeTally_44 (by decide) ?_
    refine lv_istore (lv' := [(4, .int (0 : Int32)), (3, .int (0 : Int32)), (0, .ref (q 22)), (1, .int l1), (2, .int l2)]) hx hb dX3_makeTally_45 hl (Nat.le_of_ble_eq_true rfl) rfl (fun ls hl => ?_)
    exact loop47 l1 l2 FU (0 : Int32) (0 : Int32) w _ _ _ (lv_sub hl [2, 3, 4, 1, 0] rfl) S (h_bb h)
  have loop21 : ∀ (l1 : Int32) (l2 : Int32) (n21 : Nat), ∀ (l3 : Int32) (w : Wt) (H : Heap) (locs : List Loc) (ls : Array Slot), lv_has ls 5 [(0, .ref (q 22)), (1, .int l1), (2, .int l2), (3, .int l3)] → Sta KC D dA q A s.heap w H locs → Option.bind (lp (f_MachineCount_makeTally_L21 l1 l2) n21 (l3, w)) (fun x9 => Option.bind (f_MachineCount_makeTally_x21 l1 l2 x9) some) = some z → W p l e RM_f_MachineCount_makeTally s m args below meth c H locs 0 0 Q (F0 m 21 ls []) := by
    intro l1 l2 n21
    induction n21 with
    | zero =>
      intro l3 w H locs ls hl S h
      exact (h_lp0 h).elim
    | succ n21 ih21 =>
      intro l3 w H locs ls hl S h
      have h := h_lp h
      unfold f_MachineCount_makeTally_L21 at h
      refine lv_iload_n hx hb dX3_makeTally_21 rfl (lv_at hl 3 rfl) ?_
      refine lv_bipush (v := 6) hx hb dX3_makeTally_22 (by decide) ?_
      refine lv_icmp_ge (tgt := 42) hx hb dX3_makeTally_24 rfl (fun c10 => ?_) (fun c10 => ?_)
      · have h := h_t c10 h
        exact lab42 l1 l2 w _ _ _ (lv_sub hl [0, 1, 2] rfl) S h
      · have h := h_f c10 h
        refine lv_aload_n hx hb dX3_makeTally_27 rfl (lv_at hl 0 rfl) ?_
        refine g_getR fl_RX3_9_X3 hx hb C S KC_22 rfl dX3_makeTally_28 ?_
        refine lv_iload_n hx hb dX3_makeTally_31 rfl (lv_at hl 2 rfl) ?_
        refine lv_iload_n hx hb dX3_makeTally_32 rfl (lv_at hl 3 rfl) ?_
        refine lv_iadd hx hb dX3_makeTally_33 ?_
        refine lv_iconst (v := 0) hx hb dX3_makeTally_34 (by decide) ?_
        obtain ⟨g11, h⟩ := h_gd h
        refine r_iast hx hb C S KC_24 (h_in g11) dX3_makeTally_35 (fun w12 ew12 H locs S => ?_)
        have h := h_l h w12 ew12
        refine lv_iinc (v := (l3 + 1)) (lv' := [(3, .int (l3 + 1)), (0, .ref (q 22)), (1, .int l1), (2, .int l2)]) hx hb dX3_makeTally_36 hl (k := 3) rfl rfl (Nat.le_of_ble_eq_true rfl) rfl (fun ls hl => ?_)
        refine lv_goto (tgt := 21) hx hb dX3_makeTally_39 rfl ?_
        exact ih21 (l3 + 1) w12 _ _ _ (lv_sub hl [1, 2, 3, 0] rfl) S h
  intro H locs ls hl S h
  have h := h_0 h
  unfold f_MachineCount_makeTally at h
  refine lv_aload_n hx hb dX3_makeTally_0 rfl (lv_at hl 0 rfl) ?_
  refine g_get fl_RX3_55_X3 hx hb C S KC_22 rfl dX3_makeTally_1 ?_
  refine lv_sipush (v := 156) hx hb dX3_makeTally_4 (by decide) ?_
  refine lv_icmp_lt (tgt := 11) hx hb dX3_makeTally_7 rfl (fun c13 => ?_) (fun c13 => ?_)
  · have h := h_t c13 h
    refine lv_aload_n hx hb dX3_makeTally_11 rfl (lv_at hl 0 rfl) ?_
    refine g_get fl_RX3_55_X3 hx hb C S KC_22 rfl dX3_makeTally_12 ?_
    refine lv_bipush (v := 6) hx hb dX3_makeTally_15 (by decide) ?_
    refine lv_imul hx hb dX3_makeTally_17 ?_
    refine lv_topi (fun v14 ev14 => ?_)
    have h := h_l h v14 ev14
    refine lv_istore_n (lv' := [(2, .int v14), (0, .ref (q 22)), (1, .int a1)]) hx hb dX3_makeTally_18 rfl hl (Nat.le_of_ble_eq_true rfl) rfl (fun ls hl => ?_)
    refine lv_iconst (v := 0) hx hb dX3_makeTally_19 (by decide) ?_
    refine lv_istore_n (lv' := [(3, .int (0 : Int32)), (2, .int v14), (0, .ref (q 22)), (1, .int a1)]) hx hb dX3_makeTally_20 rfl hl (Nat.le_of_ble_eq_true rfl) rfl (fun ls hl => ?_)
    exact loop21 a1 v14 FU (0 : Int32) w _ _ _ (lv_sub hl [2, 3, 1, 0] rfl) S (h_bb h)
  · have h := h_f c13 h
    exact fin _ _ _ w _ S h dX3_makeTally_10
theorem c_f_MachineCount_makeTally (l : Launch) (D : va_G) (dA : Nat → ClassId) (q : Nat → Nat) (a1 : Int32) (w w' : Wt) (h : f_MachineCount_makeTally a1 w = some w') : Mv l EVc KC D dA q yX3_makeTally cX3_makeTally 5 none RM_f_MachineCount_makeTally [.ref (q 22), .int a1] w w' :=
  mk_v (by decide) rfl EVc_ok (Nat.le_of_ble_eq_true rfl) (fun p e s m args below meth c A Q ls hx hb hml C S hl fin => k_f_MachineCount_makeTally a1 w w' hx hb hml C (fun H locs ls w2 pc S h d => fin H locs ls w2 pc S h d) _ _ _ hl S h)
/-! Ballotscript$Count.obey(CI)V f_Count_obey_M -/
def f_Count_obey_M (a1 : Int32) (a2 : Int32) (w : Wt) : Option Wt := (if (sIx 1 a1) < (0 : Int32) then (if (sIx 2 a1) < (0 : Int32) then Option.bind (f_Count_letGo_M a1 a2 w) fun x3 => some x3 else gd (chb a1) (nmd (upd2 w 22 7 a1) fun w4 => some w4)) else Option.bind (f_MachineCount_makeTally a1 w) fun x6 => some x6)
def RM_f_Count_obey_M : Room := { frames := 8, cells := 0, slots := 0, locals := 200 }
set_option maxHeartbeats 4000000 in
set_option maxRecDepth 20000 in
theorem k_f_Count_obey_M (a1 : Int32) (a2 : Int32) (w : Wt) (z : Wt) (hx : p.tables.exec = Jvm.exec) (hb : c.code = cX1_obey) (hml : c.maxLocals = 3) (C : Cx EVc KC D dA q A s m args RX1) (fin : ∀ (H : Heap) (locs : List Loc) (ls : Array Slot) (w2 : Wt) (pc : Nat) , Sta KC D dA q A s.heap w2 H locs → some w2 = some z → decode cX1_obey pc = .ok (.return_, 1) → W p l e RM_f_Count_obey_M s m args below meth c H locs 0 0 Q (F0 m pc ls [])) : ∀ (H : Heap) (locs : List Loc) (ls : Array Slot), lv_has ls 3 [(0, .ref (q 22)), (1, .int a1), (2, .int a2)] → Sta KC D dA q A s.heap w H locs → f_Count_obey_M a1 a2 w = some z → W p l e RM_f_Count_obey_M s m args below meth c H locs 0 0 Q (F0 m 0 ls []) := by
  have ev : evOk EVc := EVc_ok
  intro H locs ls hl S h
  have h := h_0 h
  unfold f_Count_obey_M at h
  refine va_ldcS hx hb C.1 (sk_1 C) dX1_obey_0 ?_
  refine lv_iload_n hx hb dX1_obey_2 rfl (lv_at hl 1 rfl) ?_
  refine k_ix (j := 1) ix_RX1_41 hx hb hml C S (Nat.le_of_ble_eq_true rfl) (Nat.le_of_ble_eq_true rfl) (Nat.le_of_ble_eq_true rfl) hl.1 (rest := []) (Nat.le_of_ble_eq_true rfl) ⟨(Nat.le_of_ble_eq_true rfl), (Nat.le_of_ble_eq_true rfl)⟩ dX1_obey_3 (fun H locs S => ?_)
  refine lv_if_lt (tgt := 17) hx hb dX1_obey_6 rfl (fun c1 => ?_) (fun c1 => ?_)
  · have h := h_t c1 h
    refine va_ldcS hx hb C.1 (sk_2 C) dX1_obey_17 ?_
    refine lv_iload_n hx hb dX1_obey_19 rfl (lv_at hl 1 rfl) ?_
    refine k_ix (j := 2) ix_RX1_41 hx hb hml C S (Nat.le_of_ble_eq_true rfl) (Nat.le_of_ble_eq_true rfl) (Nat.le_of_ble_eq_true rfl) hl.1 (rest := []) (Nat.le_of_ble_eq_true rfl) ⟨(Nat.le_of_ble_eq_true rfl), (Nat.le_of_ble_eq_true rfl)⟩ dX1_obey_20 (fun H locs S => ?_)
    refine lv_if_lt (tgt := 34) hx hb dX1_obey_23 rfl (fun c2 => ?_) (fun c2 => ?_)
    · have h := h_t c2 h
      refine lv_aload_n hx hb dX1_obey_34 rfl (lv_at hl 0 rfl) ?_
      refine lv_iload_n hx hb dX1_obey_35 rfl (lv_at hl 1 rfl) ?_
      refine lv_iload_n hx hb dX1_obey_36 rfl (lv_at hl 2 rfl) ?_
      obtain ⟨x3, ex3, h⟩ := h_c h
      refine k_v C S (q_U (rest := []) (As := [.int a1, .int a2]) lk_RX1_53_X3 (ud_lk_RX1_53_X3 C) (us_lk_RX1_53_X3 C) ev hx hb hml C S KC_22 rfl (c_f_Count_letGo_M l D dA q a1 a2 w x3 ex3 _) rfl rfl ⟨(Nat.le_of_ble_eq_true rfl), (Nat.le_of_ble_eq_true rfl)⟩ rfl hl.1 rfl (Nat.le_of_ble_eq_true rfl) dX1_obey_37 ⟨(Nat.le_of_ble_eq_true rfl), (Nat.le_of_ble_eq_true rfl)⟩) (fun H locs S => ?_)
      exact fin _ _ _ x3 _ S h dX1_obey_40
    · have h := h_f c2 h
      refine lv_aload_n hx hb dX1_obey_26 rfl (lv_at hl 0 rfl) ?_
      refine lv_iload_n hx hb dX1_obey_27 rfl (lv_at hl 1 rfl) ?_
      obtain ⟨g5, h⟩ := h_gd h
      refine g_put fl_RX1_35_X3 pl_X3_7 hx hb C S KC_22 rfl (ch_of g5) dX1_obey_28 (fun w4 ew4 H locs S => ?_)
      have h := h_l h w4 ew4
      refine lv_goto (tgt := 40) hx hb dX1_obey_31 rfl ?_
      exact fin _ _ _ w4 _ S h dX1_obey_40
  · have h := h_f c1 h
    refine lv_aload_n hx hb dX1_obey_9 rfl (lv_at hl 0 rfl) ?_
    refine lv_iload_n hx hb dX1_obey_10 rfl (lv_at hl 1 rfl) ?_
    obtain ⟨x6, ex6, h⟩ := h_c h
    refine k_v C S (q_U (rest := []) (As := [.int a1]) lk_RX1_47_X3 (ud_lk_RX1_47_X3 C) (us_lk_RX1_47_X3 C) ev hx hb hml C S KC_22 rfl (c_f_MachineCount_makeTally l D dA q a1 w x6 ex6 _) rfl rfl ⟨(Nat.le_of_ble_eq_true rfl), (Nat.le_of_ble_eq_true rfl)⟩ rfl hl.1 rfl (Nat.le_of_ble_eq_true rfl) dX1_obey_11 ⟨(Nat.le_of_ble_eq_true rfl), (Nat.le_of_ble_eq_true rfl)⟩) (fun H locs S => ?_)
    refine lv_goto (tgt := 40) hx hb dX1_obey_14 rfl ?_
    exact fin _ _ _ x6 _ S h dX1_obey_40
theorem c_f_Count_obey_M (l : Launch) (D : va_G) (dA : Nat → ClassId) (q : Nat → Nat) (a1 : Int32) (a2 : Int32) (w w' : Wt) (h : f_Count_obey_M a1 a2 w = some w') : Mv l EVc KC D dA q yX1_obey cX1_obey 3 none RM_f_Count_obey_M [.ref (q 22), .int a1, .int a2] w w' :=
  mk_v (by decide) rfl EVc_ok (Nat.le_of_ble_eq_true rfl) (fun p e s m args below meth c A Q ls hx hb hml C S hl fin => k_f_Count_obey_M a1 a2 w w' hx hb hml C (fun H locs ls w2 pc S h d => fin H locs ls w2 pc S h d) _ _ _ hl S h)
end WALKS

section WALKS
variable {p : Program} {l : Launch} {e : Env} {s : State} {m : MethodId} {args : Array Value} {below : List Frame} {meth : Method} {c : Code} {Q : State → Prop} {D : va_G} {dA : Nat → ClassId} {q : Nat → Nat} {A : Nat → Prop}
/-! Ballotscript$HandCount.makeTally(C)V f_HandCount_makeTally -/
def f_HandCount_makeTally (a1 : Int32) (w : Wt) : Option Wt := (if (156 : Int32) ≤ (w 28 3) then some w else gd (inb (w 28 3) 156) (nmd (upd2 w 30 ((w 28 3)).toNatClampNeg (vp_nar .char a1)) fun w3 => gd (inb (w3 28 3) 156) (nmd (upd2 w3 31 ((w3 28 3)).toNatClampNeg (w3 28 5)) fun w5 => nmd (upd2 w5 28 3 ((w5 28 3) + (1 : Int32))) fun w6 => some w6)))
def RM_f_HandCount_makeTally : Room := { frames := 0, cells := 0, slots := 0, locals := 0 }
set_option maxHeartbeats 4000000 in
set_option maxRecDepth 20000 in
theorem k_f_HandCount_makeTally (a1 : Int32) (w : Wt) (z : Wt) (hx : p.tables.exec = Jvm.exec) (hb : c.code = cX2_makeTally) (hml : c.maxLocals = 2) (C : Cx EVc KC D dA q A s m args RX2) (fin : ∀ (H : Heap) (locs : List Loc) (ls : Array Slot) (w2 : Wt) (pc : Nat) , Sta KC D dA q A s.heap w2 H locs → some w2 = some z → decode cX2_makeTally pc = .ok (.return_, 1) → W p l e RM_f_HandCount_makeTally s m args below meth c H locs 0 0 Q (F0 m pc ls [])) : ∀ (H : Heap) (locs : List Loc) (ls : Array Slot), lv_has ls 2 [(0, .ref (q 28)), (1, .int a1)] → Sta KC D dA q A s.heap w H locs → f_HandCount_makeTally a1 w = some z → W p l e RM_f_HandCount_makeTally s m args below meth c H locs 0 0 Q (F0 m 0 ls []) := by
  have ev : evOk EVc := EVc_ok
  intro H locs ls hl S h
  have h := h_0 h
  unfold f_HandCount_makeTally at h
  refine lv_aload_n hx hb dX2_makeTally_0 rfl (lv_at hl 0 rfl) ?_
  refine g_get fl_RX2_46_X2 hx hb C S KC_28 rfl dX2_makeTally_1 ?_
  refine lv_sipush (v := 156) hx hb dX2_makeTally_4 (by decide) ?_
  refine lv_icmp_ge (tgt := 43) hx hb dX2_makeTally_7 rfl (fun c1 => ?_) (fun c1 => ?_)
  · have h := h_t c1 h
    exact fin _ _ _ w _ S h dX2_makeTally_43
  · have h := h_f c1 h
    refine lv_aload_n hx hb dX2_makeTally_10 rfl (lv_at hl 0 rfl) ?_
    refine g_getR fl_RX2_9_X2 hx hb C S KC_28 rfl dX2_makeTally_11 ?_
    refine lv_aload_n hx hb dX2_makeTally_14 rfl (lv_at hl 0 rfl) ?_
    refine g_get fl_RX2_46_X2 hx hb C S KC_28 rfl dX2_makeTally_15 ?_
    refine lv_iload_n hx hb dX2_makeTally_18 rfl (lv_at hl 1 rfl) ?_
    obtain ⟨g2, h⟩ := h_gd h
    refine r_cast hx hb C S KC_30 (h_in g2) dX2_makeTally_19 (fun w3 ew3 H locs S => ?_)
    have h := h_l h w3 ew3
    refine lv_aload_n hx hb dX2_makeTally_20 rfl (lv_at hl 0 rfl) ?_
    refine g_getR fl_RX2_15_X2 hx hb C S KC_28 rfl dX2_makeTally_21 ?_
    refine lv_aload_n hx hb dX2_makeTally_24 rfl (lv_at hl 0 rfl) ?_
    refine g_get fl_RX2_46_X2 hx hb C S KC_28 rfl dX2_makeTally_25 ?_
    refine lv_aload_n hx hb dX2_makeTally_28 rfl (lv_at hl 0 rfl) ?_
    refine g_get fl_RX2_39_X2 hx hb C S KC_28 rfl dX2_makeTally_29 ?_
    obtain ⟨g4, h⟩ := h_gd h
    refine r_iast hx hb C S KC_31 (h_in g4) dX2_makeTally_32 (fun w5 ew5 H locs S => ?_)
    have h := h_l h w5 ew5
    refine lv_aload_n hx hb dX2_makeTally_33 rfl (lv_at hl 0 rfl) ?_
    refine lv_dup hx hb dX2_makeTally_34 rfl ?_
    refine g_get fl_RX2_46_X2 hx hb C S KC_28 rfl dX2_makeTally_35 ?_
    refine lv_iconst (v := 1) hx hb dX2_makeTally_38 (by decide) ?_
    refine lv_iadd hx hb dX2_makeTally_39 ?_
    refine g_put fl_RX2_46_X2 pl_X2_3 hx hb C S KC_28 rfl ⟨rfl, rfl⟩ dX2_makeTally_40 (fun w6 ew6 H locs S => ?_)
    have h := h_l h w6 ew6
    exact fin _ _ _ w6 _ S h dX2_makeTally_43
theorem c_f_HandCount_makeTally (l : Launch) (D : va_G) (dA : Nat → ClassId) (q : Nat → Nat) (a1 : Int32) (w w' : Wt) (h : f_HandCount_makeTally a1 w = some w') : Mv l EVc KC D dA q yX2_makeTally cX2_makeTally 2 none RM_f_HandCount_makeTally [.ref (q 28), .int a1] w w' :=
  mk_v (by decide) rfl EVc_ok (Nat.le_of_ble_eq_true rfl) (fun p e s m args below meth c A Q ls hx hb hml C S hl fin => k_f_HandCount_makeTally a1 w w' hx hb hml C (fun H locs ls w2 pc S h d => fin H locs ls w2 pc S h d) _ _ _ hl S h)
/-! Ballotscript$Count.obey(CI)V f_Count_obey_H -/
def f_Count_obey_H (a1 : Int32) (a2 : Int32) (w : Wt) : Option Wt := (if (sIx 1 a1) < (0 : Int32) then (if (sIx 2 a1) < (0 : Int32) then Option.bind (f_Count_letGo_H a1 a2 w) fun x3 => some x3 else gd (chb a1) (nmd (upd2 w 28 7 a1) fun w4 => some w4)) else Option.bind (f_HandCount_makeTally a1 w) fun x6 => some x6)
def RM_f_Count_obey_H : Room := { frames := 8, cells := 0, slots := 0, locals := 200 }
set_option maxHeartbeats 4000000 in
set_option maxRecDepth 20000 in
theorem k_f_Count_obey_H (a1 : Int32) (a2 : Int32) (w : Wt) (z : Wt) (hx : p.tables.exec = Jvm.exec) (hb : c.code = cX1_obey) (hml : c.maxLocals = 3) (C : Cx EVc KC D dA q A s m args RX1) (fin : ∀ (H : Heap) (locs : List Loc) (ls : Array Slot) (w2 : Wt) (pc : Nat) , Sta KC D dA q A s.heap w2 H locs → some w2 = some z → decode cX1_obey pc = .ok (.return_, 1) → W p l e RM_f_Count_obey_H s m args below meth c H locs 0 0 Q (F0 m pc ls [])) : ∀ (H : Heap) (locs : List Loc) (ls : Array Slot), lv_has ls 3 [(0, .ref (q 28)), (1, .int a1), (2, .int a2)] → Sta KC D dA q A s.heap w H locs → f_Count_obey_H a1 a2 w = some z → W p l e RM_f_Count_obey_H s m args below meth c H locs 0 0 Q (F0 m 0 ls []) := by
  have ev : evOk EVc := EVc_ok
  intro H locs ls hl S h
  have h := h_0 h
  unfold f_Count_obey_H at h
  refine va_ldcS hx hb C.1 (sk_1 C) dX1_obey_0 ?_
  refine lv_iload_n hx hb dX1_obey_2 rfl (lv_at hl 1 rfl) ?_
  refine k_ix (j := 1) ix_RX1_41 hx hb hml C S (Nat.le_of_ble_eq_true rfl) (Nat.le_of_ble_eq_true rfl) (Nat.le_of_ble_eq_true rfl) hl.1 (rest := []) (Nat.le_of_ble_eq_true rfl) ⟨(Nat.le_of_ble_eq_true rfl), (Nat.le_of_ble_eq_true rfl)⟩ dX1_obey_3 (fun H locs S => ?_)
  refine lv_if_lt (tgt := 17) hx hb dX1_obey_6 rfl (fun c1 => ?_) (fun c1 => ?_)
  · have h := h_t c1 h
    refine va_ldcS hx hb C.1 (sk_2 C) dX1_obey_17 ?_
    refine lv_iload_n hx hb dX1_obey_19 rfl (lv_at hl 1 rfl) ?_
    refine k_ix (j := 2) ix_RX1_41 hx hb hml C S (Nat.le_of_ble_eq_true rfl) (Nat.le_of_ble_eq_true rfl) (Nat.le_of_ble_eq_true rfl) hl.1 (rest := []) (Nat.le_of_ble_eq_true rfl) ⟨(Nat.le_of_ble_eq_true rfl), (Nat.le_of_ble_eq_true rfl)⟩ dX1_obey_20 (fun H locs S => ?_)
    refine lv_if_lt (tgt := 34) hx hb dX1_obey_23 rfl (fun c2 => ?_) (fun c2 => ?_)
    · have h := h_t c2 h
      refine lv_aload_n hx hb dX1_obey_34 rfl (lv_at hl 0 rfl) ?_
      refine lv_iload_n hx hb dX1_obey_35 rfl (lv_at hl 1 rfl) ?_
      refine lv_iload_n hx hb dX1_obey_36 rfl (lv_at hl 2 rfl) ?_
      obtain ⟨x3, ex3, h⟩ := h_c h
      refine k_v C S (q_U (rest := []) (As := [.int a1, .int a2]) lk_RX1_53_X2 (ud_lk_RX1_53_X2 C) (us_lk_RX1_53_X2 C) ev hx hb hml C S KC_28 rfl (c_f_Count_letGo_H l D dA q a1 a2 w x3 ex3 _) rfl rfl ⟨(Nat.le_of_ble_eq_true rfl), (Nat.le_of_ble_eq_true rfl)⟩ rfl hl.1 rfl (Nat.le_of_ble_eq_true rfl) dX1_obey_37 ⟨(Nat.le_of_ble_eq_true rfl), (Nat.le_of_ble_eq_true rfl)⟩) (fun H locs S => ?_)
      exact fin _ _ _ x3 _ S h dX1_obey_40
    · have h := h_f c2 h
      refine lv_aload_n hx hb dX1_obey_26 rfl (lv_at hl 0 rfl) ?_
      refine lv_iload_n hx hb dX1_obey_27 rfl (lv_at hl 1 rfl) ?_
      obtain ⟨g5, h⟩ := h_gd h
      refine g_put fl_RX1_35_X2 pl_X2_7 hx hb C S KC_28 rfl (ch_of g5) dX1_obey_28 (fun w4 ew4 H locs S => ?_)
      have h := h_l h w4 ew4
      refine lv_goto (tgt := 40) hx hb dX1_obey_31 rfl ?_
      exact fin _ _ _ w4 _ S h dX1_obey_40
  · have h := h_f c1 h
    refine lv_aload_n hx hb dX1_obey_9 rfl (lv_at hl 0 rfl) ?_
    refine lv_iload_n hx hb dX1_obey_10 rfl (lv_at hl 1 rfl) ?_
    obtain ⟨x6, ex6, h⟩ := h_c h
    refine k_v C S (q_U (rest := []) (As := [.int a1]) lk_RX1_47_X2 (ud_lk_RX1_47_X2 C) (us_lk_RX1_47_X2 C) ev hx hb hml C S KC_28 rfl (c_f_HandCount_makeTally l D dA q a1 w x6 ex6 _) rfl rfl ⟨(Nat.le_of_ble_eq_true rfl), (Nat.le_of_ble_eq_true rfl)⟩ rfl hl.1 rfl (Nat.le_of_ble_eq_true rfl) dX1_obey_11 ⟨(Nat.le_of_ble_eq_true rfl), (Nat.le_of_ble_eq_true rfl)⟩) (fun H locs S => ?_)
    refine lv_goto (tgt := 40) hx hb dX1_obey_14 rfl ?_
    exact fin _ _ _ x6 _ S h dX1_obey_40
theorem c_f_Count_obey_H (l : Launch) (D : va_G) (dA : Nat → ClassId) (q : Nat → Nat) (a1 : Int32) (a2 : Int32) (w w' : Wt) (h : f_Count_obey_H a1 a2 w = some w') : Mv l EVc KC D dA q yX1_obey cX1_obey 3 none RM_f_Count_obey_H [.ref (q 28), .int a1, .int a2] w w' :=
  mk_v (by decide) rfl EVc_ok (Nat.le_of_ble_eq_true rfl) (fun p e s m args below meth c A Q ls hx hb hml C S hl fin => k_f_Count_obey_H a1 a2 w w' hx hb hml C (fun H locs ls w2 pc S h d => fin H locs ls w2 pc S h d) _ _ _ hl S h)
/-! Ballotscript$HandCount.doRow(LBallotscript$HandCount;LBallotscript$Rule;II)I f_HandCount_doRow -/
def f_HandCount_doRow_b196 (rc : Nat → Int32 → Int32 → Wt → Option (Int32 × Wt)) (ro : Nat) (l4 : Int32) (w : Wt) : Option (Int32 × Wt) := some (l4, w)
def f_HandCount_doRow_b187 (rc : Nat → Int32 → Int32 → Wt → Option (Int32 × Wt)) (ro : Nat) (l3 : Int32) (l4 : Int32) (l5 : Int32) (w : Wt) : Option ((Int32 × Int32 × Wt) ⊕ ((Int32 × Wt) ⊕ (Int32 × Wt))) := some (.inl ((l4 + 1), (l5 + 1), w))
def f_HandCount_doRow_L147 (rc : Nat → Int32 → Int32 → Wt → Option (Int32 × Wt)) (ro : Nat) (l3 : Int32) (l5 : Int32) (l7 : Int32) : (Int32 × Int32 × Int32 × Wt) → Option ((Int32 × Int32 × Int32 × Wt) ⊕ (Int32 × Wt))
  | (l4, l8, l9, w) => (if (6 : Int32) < l9 then some (.inr (l4, w)) else (if l8 = (w 28 5) then some (.inr (l4, w)) else nmd (w 28 5) fun v3 => Option.bind (rc ro l7 (l3 + (1 : Int32)) w) fun x4 => nmd x4.1 fun v5 => some (.inl (v5, v3, (l9 + 1), x4.2))))
def f_HandCount_doRow_x147 (rc : Nat → Int32 → Int32 → Wt → Option (Int32 × Wt)) (ro : Nat) (l3 : Int32) (l5 : Int32) : (Int32 × Wt) → Option ((Int32 × Int32 × Wt) ⊕ ((Int32 × Wt) ⊕ (Int32 × Wt)))
  | (l4, w) => f_HandCount_doRow_b187 rc ro l3 l4 l5 w
def f_HandCount_doRow_b123 (rc : Nat → Int32 → Int32 → Wt → Option (Int32 × Wt)) (ro : Nat) (l3 : Int32) (l4 : Int32) (l5 : Int32) (l6 : Int32) (l7 : Int32) (w : Wt) : Option ((Int32 × Int32 × Wt) ⊕ ((Int32 × Wt) ⊕ (Int32 × Wt))) := Option.bind (f_Count_obey_H l6 l7 w) fun x6 => some (.inl ((l4 + 1), (l5 + 1), x6))
def f_HandCount_doRow_L77 (rc : Nat → Int32 → Int32 → Wt → Option (Int32 × Wt)) (ro : Nat) (l3 : Int32) (l5 : Int32) (l6 : Int32) (w : Wt) : (Int32 × Int32) → Option ((Int32 × Int32) ⊕ (Int32 × Int32))
  | (l4, l7) => (if (w (32 + ro) 3) ≤ l4 then some (.inr (l4, l7)) else gd (inb l4 24) (Option.bind (f_Ballotscript_isDigit (w (40 + ro) (l4).toNatClampNeg)) fun x9 => (if x9 = (0 : Int32) then some (.inr (l4, l7)) else gd (inb l4 24) (nmd (((10 : Int32) * l7) + ((w (40 + ro) (l4).toNatClampNeg) - (48 : Int32))) fun v12 => some (.inl ((l4 + 1), v12))))))
def f_HandCount_doRow_x77 (rc : Nat → Int32 → Int32 → Wt → Option (Int32 × Wt)) (ro : Nat) (l3 : Int32) (l5 : Int32) (l6 : Int32) (w : Wt) : (Int32 × Int32) → Option ((Int32 × Int32 × Wt) ⊕ ((Int32 × Wt) ⊕ (Int32 × Wt)))
  | (l4, l7) => f_HandCount_doRow_b123 rc ro l3 l4 l5 l6 l7 w
def f_HandCount_doRow_L17 (rc : Nat → Int32 → Int32 → Wt → Option (Int32 × Wt)) (ro : Nat) (l3 : Int32) : (Int32 × Int32 × Wt) → Option ((Int32 × Int32 × Wt) ⊕ ((Int32 × Wt) ⊕ (Int32 × Wt)))
  | (l4, l5, w) => (if (24 : Int32) ≤ l5 then some (.inr (.inl (l4, w))) else (if (w 28 4) ≤ (0 : Int32) then some (.inr (.inl (l4, w))) else (if (w (32 + ro) 3) ≤ l4 then some (.inr (.inr (l4, w))) else gd (inb l4 24) ((if (w (40 + ro) (l4).toNatClampNeg) = (41 : Int32) then some (.inr (.inr (l4, w))) else gd (inb l4 24) (nmd (w (40 + ro) (l4).toNatClampNeg) fun v19 => (if v19 = (40 : Int32) then nmd (l4 + 1) fun v21 => Option.bind (lp (f_HandCount_doRow_L147 rc ro l3 l5 v21) FU ((l4 + 1), (-1 : Int32), (0 : Int32), w)) (f_HandCount_doRow_x147 rc ro l3 l5) else Option.bind (lp (f_HandCount_doRow_L77 rc ro l3 l5 v19 w) FU ((l4 + 1), (0 : Int32))) (f_HandCount_doRow_x77 rc ro l3 l5 v19 w))))))))
def f_HandCount_doRow_x17 (rc : Nat → Int32 → Int32 → Wt → Option (Int32 × Wt)) (ro : Nat) : ((Int32 × Wt) ⊕ (Int32 × Wt)) → Option (Int32 × Wt)
  | .inl (l4, w) => f_HandCount_doRow_b196 rc ro l4 w
  | .inr t => some t
def f_HandCount_doRow_body (rc : Nat → Int32 → Int32 → Wt → Option (Int32 × Wt)) (ro : Nat) (a2 : Int32) (a3 : Int32) (w : Wt) : Option (Int32 × Wt) := (if a3 ≤ (24 : Int32) then Option.bind (lp (f_HandCount_doRow_L17 rc ro a3) FU (a2, (0 : Int32), w)) (f_HandCount_doRow_x17 rc ro) else some ((w (32 + ro) 3), w))
def f_HandCount_doRow : Nat → Nat → Int32 → Int32 → Wt → Option (Int32 × Wt)
  | 0, _, _, _, _ => none
  | n + 1, ro, a2, a3, w => f_HandCount_doRow_body (f_HandCount_doRow n) ro a2 a3 w
def RM_f_HandCount_doRow (k : Nat) : Room := { frames := 9 + k, cells := 0, slots := 0, locals := 222 + 29 * k }
set_option maxHeartbeats 4000000 in
set_option maxRecDepth 20000 in
theorem k_f_HandCount_doRow (k : Nat) (ihk : ∀ (ro : Nat) (hro : ro < 8) (a2 : Int32) (a3 : Int32) (w w' : Wt) (r : Int32), f_HandCount_doRow k ro a2 a3 w = some (r, w') → Mi l EVc KC D dA q yX2_doRow cX2_doRow 10 (some .int) (RM_f_HandCount_doRow k) [.ref (q 28), .ref (q (32 + ro)), .int a2, .int a3] w r w') (ro : Nat) (hro : ro < 8) (a2 : Int32) (a3 : Int32) (w : Wt) (z : (Int32 × Wt)) (hx : p.tables.exec = Jvm.exec) (hb : c.code = cX2_doRow) (hml : c.maxLocals = 10) (C : Cx EVc KC D dA q A s m args RX2) (fin : ∀ (H : Heap) (locs : List Loc) (ls : Array Slot) (r' : Int32) (w2 : Wt) (pc : Nat) , Sta KC D dA q A s.heap w2 H locs → some (r', w2) = some z → decode cX2_doRow pc = .ok (.ireturn, 1) → W p l e (RM_f_HandCount_doRow (k + 1)) s m args below meth c H locs 0 0 Q (F0 m pc ls [.int r'])) : ∀ (H : Heap) (locs : List Loc) (ls : Array Slot), lv_has ls 10 [(0, .ref (q 28)), (1, .ref (q (32 + ro))), (2, .int a2), (3, .int a3)] → Sta KC D dA q A s.heap w H locs → f_HandCount_doRow (k + 1) ro a2 a3 w = some z → W p l e (RM_f_HandCount_doRow (k + 1)) s m args below meth c H locs 0 0 Q (F0 m 0 ls []) := by
  have ev : evOk EVc := EVc_ok
  obtain ⟨rc, erc⟩ : ∃ rc, rc = f_HandCount_doRow k := ⟨_, rfl⟩
  have ihk : ∀ (ro : Nat) (hro : ro < 8) (a2 : Int32) (a3 : Int32) (w w' : Wt) (r : Int32), rc ro a2 a3 w = some (r, w') → Mi l EVc KC D dA q yX2_doRow cX2_doRow 10 (some .int) (RM_f_HandCount_doRow k) [.ref (q 28), .ref (q (32 + ro)), .int a2, .int a3] w r w' := by rw [erc]; exact ihk
  have lab196 : ∀ (l4 : Int32) (w : Wt) (H : Heap) (locs : List Loc) (ls : Array Slot), lv_has ls 10 [(4, .int l4)] → Sta KC D dA q A s.heap w H locs → Option.bind (f_HandCount_doRow_b196 rc ro l4 w) some = some z → W p l e (RM_f_HandCount_doRow (k + 1)) s m args below meth c H locs 0 0 Q (F0 m 196 ls []) := by
    intro l4 w H locs ls hl S h
    unfold f_HandCount_doRow_b196 at h
    refine lv_iload hx hb dX2_doRow_196 (lv_at hl 0 rfl) ?_
    exact fin _ _ _ l4 w _ S h dX2_doRow_198
  have loop17 : ∀ (l3 : Int32) (n17 : Nat), ∀ (l4 : Int32) (l5 : Int32) (w : Wt) (H : Heap) (locs : List Loc) (ls : Array Slot), lv_has ls 10 [(0, .ref (q 28)), (1, .ref (q (32 + ro))), (3, .int l3), (4, .int l4), (5, .int l5)] → Sta KC D dA q A s.heap w H locs → Option.bind (lp (f_HandCount_doRow_L17 rc ro l3) n17 (l4, l5, w)) (fun x9 => Option.bind (f_HandCount_doRow_x17 rc ro x9) some) = some z → W p l e (RM_f_HandCount_doRow (k + 1)) s m args below meth c H locs 0 0 Q (F0 m 17 ls []) := by
    intro l3 n17
    induction n17 with
    | zero =>
      intro l4 l5 w H locs ls hl S h
      exact (h_lp0 h).elim
    | succ n17 ih17 =>
      have lab187 : ∀ (l4 : Int32) (l5 : Int32) (w : Wt) (H : Heap) (locs : List Loc) (ls : Array Slot), lv_has ls 10 [(0, .ref (q 28)), (1, .ref (q (32 + ro))), (3, .int l3), (4, .int l4), (5, .int l5)] → Sta KC D dA q A s.heap w H locs → Option.bind (f_HandCount_doRow_b187 rc ro l3 l4 l5 w) (seqF (fun s9 => Option.bind (lp (f_HandCount_doRow_L17 rc ro l3) n17 s9) (fun x9 => Option.bind (f_HandCount_doRow_x17 rc ro x9) some)) (fun x9 => Option.bind (f_HandCount_doRow_x17 rc ro x9) some)) = some z → W p l e (RM_f_HandCount_doRow (k + 1)) s m args below meth c H locs 0 0 Q (F0 m 187 ls []) := by
        intro l4 l5 w H locs ls hl S h
        unfold f_HandCount_doRow_b187 at h
        refine lv_iinc (v := (l4 + 1)) (lv' := [(4, .int (l4 + 1)), (0, .ref (q 28)), (1, .ref (q (32 + ro))), (3, .int l3), (5, .int l5)]) hx hb dX2_doRow_187 hl (k := 3) rfl rfl (Nat.le_of_ble_eq_true rfl) rfl (fun ls hl => ?_)
        refine lv_iinc (v := (l5 + 1)) (lv' := [(5, .int (l5 + 1)), (4, .int (l4 + 1)), (0, .ref (q 28)), (1, .ref (q (32 + ro))), (3, .int l3)]) hx hb dX2_doRow_190 hl (k := 4) rfl rfl (Nat.le_of_ble_eq_true rfl) rfl (fun ls hl => ?_)
        refine lv_goto (tgt := 17) hx hb dX2_doRow_193 rfl ?_
        exact ih17 (l4 + 1) (l5 + 1) w _ _ _ (lv_sub hl [2, 3, 4, 1, 0] rfl) S h
      have loop147 : ∀ (l5 : Int32) (l7 : Int32) (n147 : Nat), ∀ (l4 : Int32) (l8 : Int32) (l9 : Int32) (w : Wt) (H : Heap) (locs : List Loc) (ls : Array Slot), lv_has ls 10 [(0, .ref (q 28)), (1, .ref (q (32 + ro))), (3, .int l3), (4, .int l4), (5, .int l5), (7, .int l7), (8, .int l8), (9, .int l9)] → Sta KC D dA q A s.heap w H locs → Option.bind (lp (f_HandCount_doRow_L147 rc ro l3 l5 l7) n147 (l4, l8, l9, w)) (fun x9 => Option.bind (f_HandCount_doRow_x147 rc ro l3 l5 x9) (seqF (fun s9 => Option.bind (lp (f_HandCount_doRow_L17 rc ro l3) n17 s9) (fun x9 => Option.bind (f_HandCount_doRow_x17 rc ro x9) some)) (fun x9 => Option.bind (f_HandCount_doRow_x17 rc ro x9) some))) = some z → W p l e (RM_f_HandCount_doRow (k + 1)) s m args below meth c H locs 0 0 Q (F0 m 147 ls []) := by
        intro l5 l7 n147
        induction n147 with
        | zero =>
          intro l4 l8 l9 w H locs ls hl S h
          exact (h_lp0 h).elim
        | succ n147 ih147 =>
          intro l4 l8 l9 w H locs ls hl S h
          have h := h_lp h
          unfold f_HandCount_doRow_L147 at h
          refine lv_iload hx hb dX2_doRow_147 (lv_at hl 7 rfl) ?_
          refine lv_bipush (v := 6) hx hb dX2_doRow_149 (by decide) ?_
          refine lv_icmp_gt (tgt := 187) hx hb dX2_doRow_151 rfl (fun c1 => ?_) (fun c1 => ?_)
          · have h := h_t c1 h
            exact lab187 l4 l5 w _ _ _ (lv_sub hl [0, 1, 2, 3, 4] rfl) S h
          · have h := h_f c1 h
            refine lv_iload hx hb dX2_doRow_154 (lv_at hl 6 rfl) ?_
            refine lv_aload_n hx hb dX2_doRow_156 rfl (lv_at hl 0 rfl) ?_
            refine g_get fl_RX2_39_X2 hx hb C S KC_28 rfl dX2_doRow_157 ?_
            refine lv_icmp_eq (tgt := 187) hx hb dX2_doRow_160 rfl (fun c2 => ?_) (fun c2 => ?_)
            · have h := h_t c2 h
              exact lab187 l4 l5 w _ _ _ (lv_sub hl [0, 1, 2, 3, 4] rfl) S h
            · have h := h_f c2 h
              refine lv_aload_n hx hb dX2_doRow_163 rfl (lv_at hl 0 rfl) ?_
              refine g_get fl_RX2_39_X2 hx hb C S KC_28 rfl dX2_doRow_164 ?_
              refine lv_topi (fun v3 ev3 => ?_)
              have h := h_l h v3 ev3
              refine lv_istore (lv' := [(8, .int v3), (0, .ref (q 28)), (1, .ref (q (32 + ro))), (3, .int l3), (4, .int l4), (5, .int l5), (7, .int l7), (9, .int l9)]) hx hb dX2_doRow_167 hl (Nat.le_of_ble_eq_true rfl) rfl (fun ls hl => ?_)
              refine lv_aload_n hx hb dX2_doRow_169 rfl (lv_at hl 1 rfl) ?_
              refine lv_aload_n hx hb dX2_doRow_170 rfl (lv_at hl 2 rfl) ?_
              refine lv_iload hx hb dX2_doRow_171 (lv_at hl 6 rfl) ?_
              refine lv_iload_n hx hb dX2_doRow_173 rfl (lv_at hl 3 rfl) ?_
              refine lv_iconst (v := 1) hx hb dX2_doRow_174 (by decide) ?_
              refine lv_iadd hx hb dX2_doRow_175 ?_
              obtain ⟨x4, ex4, h⟩ := h_c h
              refine k_i C S (q_S (rest := []) (As := [.ref (q 28), .ref (q (32 + ro)), .int l7, .int (l3 + (1 : Int32))]) lk_RX2_42 ev hx hb hml C S (ihk ro hro l7 (l3 + (1 : Int32)) w x4.2 x4.1 ex4 _) rfl rfl ⟨by show _ ≤ _; simp only [RM_f_HandCount_doRow]; omega, by show _ ≤ _; simp only [RM_f_HandCount_doRow]; omega⟩ rfl hl.1 rfl (Nat.le_of_ble_eq_true rfl) dX2_doRow_176 ⟨Nat.le_refl _, Nat.le_refl _⟩) (fun H locs S => ?_)
              refine lv_topi (fun v5 ev5 => ?_)
              have h := h_l h v5 ev5
              refine lv_istore (lv' := [(4, .int v5), (8, .int v3), (0, .ref (q 28)), (1, .ref (q (32 + ro))), (3, .int l3), (5, .int l5), (7, .int l7), (9, .int l9)]) hx hb dX2_doRow_179 hl (Nat.le_of_ble_eq_true rfl) rfl (fun ls hl => ?_)
              refine lv_iinc (v := (l9 + 1)) (lv' := [(9, .int (l9 + 1)), (4, .int v5), (8, .int v3), (0, .ref (q 28)), (1, .ref (q (32 + ro))), (3, .int l3), (5, .int l5), (7, .int l7)]) hx hb dX2_doRow_181 hl (k := 7) rfl rfl (Nat.le_of_ble_eq_true rfl) rfl (fun ls hl => ?_)
              refine lv_goto (tgt := 147) hx hb dX2_doRow_184 rfl ?_
              exact ih147 v5 v3 (l9 + 1) x4.2 _ _ _ (lv_sub hl [3, 4, 5, 1, 6, 7, 2, 0] rfl) S h
      have lab123 : ∀ (l4 : Int32) (l5 : Int32) (l6 : Int32) (l7 : Int32) (w : Wt) (H : Heap) (locs : List Loc) (ls : Array Slot), lv_has ls 10 [(0, .ref (q 28)), (1, .ref (q (32 + ro))), (3, .int l3), (4, .int l4), (5, .int l5), (6, .int l6), (7, .int l7)] → Sta KC D dA q A s.heap w H locs → Option.bind (f_HandCount_doRow_b123 rc ro l3 l4 l5 l6 l7 w) (seqF (fun s9 => Option.bind (lp (f_HandCount_doRow_L17 rc ro l3) n17 s9) (fun x9 => Option.bind (f_HandCount_doRow_x17 rc ro x9) some)) (fun x9 => Option.bind (f_HandCount_doRow_x17 rc ro x9) some)) = some z → W p l e (RM_f_HandCount_doRow (k + 1)) s m args below meth c H locs 0 0 Q (F0 m 123 ls []) := by
        intro l4 l5 l6 l7 w H locs ls hl S h
        unfold f_HandCount_doRow_b123 at h
        refine lv_iinc (v := (l4 + 1)) (lv' := [(4, .int (l4 + 1)), (0, .ref (q 28)), (1, .ref (q (32 + ro))), (3, .int l3), (5, .int l5), (6, .int l6), (7, .int l7)]) hx hb dX2_doRow_123 hl (k := 3) rfl rfl (Nat.le_of_ble_eq_true rfl) rfl (fun ls hl => ?_)
        refine lv_aload_n hx hb dX2_doRow_126 rfl (lv_at hl 1 rfl) ?_
        refine lv_iload hx hb dX2_doRow_127 (lv_at hl 5 rfl) ?_
        refine lv_iload hx hb dX2_doRow_129 (lv_at hl 6 rfl) ?_
        obtain ⟨x6, ex6, h⟩ := h_c h
        refine k_v C S (q_U (rest := []) (As := [.int l6, .int l7]) lk_RX2_35_X2 (ud_lk_RX2_35_X2 C) (us_lk_RX2_35_X2 C) ev hx hb hml C S KC_28 rfl (c_f_Count_obey_H l D dA q l6 l7 w x6 ex6 _) rfl rfl ⟨by show _ ≤ _; simp only [RM_f_HandCount_doRow, RM_f_Count_obey_H]; omega, by show _ ≤ _; simp only [RM_f_HandCount_doRow, RM_f_Count_obey_H]; omega⟩ rfl hl.1 rfl (Nat.le_of_ble_eq_true rfl) dX2_doRow_131 ⟨Nat.le_refl _, Nat.le_refl _⟩) (fun H locs S => ?_)
        refine lv_goto (tgt := 190) hx hb dX2_doRow_134 rfl ?_
        refine lv_iinc (v := (l5 + 1)) (lv' := [(5, .int (l5 + 1)), (4, .int (l4 + 1)), (0, .ref (q 28)), (1, .ref (q (32 + ro))), (3, .int l3), (6, .int l6), (7, .int l7)]) hx hb dX2_doRow_190 hl (k := 4) rfl rfl (Nat.le_of_ble_eq_true rfl) rfl (fun ls hl => ?_)
        refine lv_goto (tgt := 17) hx hb dX2_doRow_193 rfl ?_
        exact ih17 (l4 + 1) (l5 + 1) x6 _ _ _ (lv_sub hl [2, 3, 4, 1, 0] rfl) S h
      have loop77 : ∀ (l5 : Int32) (l6 : Int32) (w : Wt) (n77 : Nat), ∀ (l4 : Int32) (l7 : Int32) (H : Heap) (locs : List Loc) (ls : Array Slot), lv_has ls 10 [(0, .ref (q 28)), (1, .ref (q (32 + ro))), (3, .int l3), (4, .int l4), (5, .int l5), (6, .int l6), (7, .int l7)] → Sta KC D dA q A s.heap w H locs → Option.bind (lp (f_HandCount_doRow_L77 rc ro l3 l5 l6 w) n77 (l4, l7)) (fun x9 => Option.bind (f_HandCount_doRow_x77 rc ro l3 l5 l6 w x9) (seqF (fun s9 => Option.bind (lp (f_HandCount_doRow_L17 rc ro l3) n17 s9) (fun x9 => Option.bind (f_HandCount_doRow_x17 rc ro x9) some)) (fun x9 => Option.bind (f_HandCount_doRow_x17 rc ro x9) some))) = some z → W p l e (RM_f_HandCount_doRow (k + 1)) s m args below meth c H locs 0 0 Q (F0 m 77 ls []) := by
        intro l5 l6 w n77
        induction n77 with
        | zero =>
          intro l4 l7 H locs ls hl S h
          exact (h_lp0 h).elim
        | succ n77 ih77 =>
          intro l4 l7 H locs ls hl S h
          have h := h_lp h
          unfold f_HandCount_doRow_L77 at h
          refine lv_iload hx hb dX2_doRow_77 (lv_at hl 3 rfl) ?_
          refine lv_aload_n hx hb dX2_doRow_79 rfl (lv_at hl 1 rfl) ?_
          refine g_get fl_RX2_19_X5 hx hb C S (KC_32 hro) rfl dX2_doRow_80 ?_
          refine lv_icmp_ge (tgt := 123) hx hb dX2_doRow_83 rfl (fun c7 => ?_) (fun c7 => ?_)
          · have h := h_t c7 h
            exact lab123 l4 l5 l6 l7 w _ _ _ (lv_sub hl [0, 1, 2, 3, 4, 5, 6] rfl) S h
          · have h := h_f c7 h
            refine lv_aload_n hx hb dX2_doRow_86 rfl (lv_at hl 1 rfl) ?_
            refine g_getR fl_RX2_28_X5 hx hb C S (KC_32 hro) rfl dX2_doRow_87 ?_
            refine lv_iload hx hb dX2_doRow_90 (lv_at hl 3 rfl) ?_
            obtain ⟨g8, h⟩ := h_gd h
            refine r_cald hx hb C S (KC_40 hro) (h_in g8) dX2_doRow_92 ?_
            obtain ⟨x9, ex9, h⟩ := h_c h
            refine k_i C S (q_N (rest := []) (As := [.int (w (40 + ro) (l4).toNatClampNeg)]) lk_RX2_31 (nm_lk_RX2_31 C) ev hx hb hml C S (c_f_Ballotscript_isDigit l D dA q (w (40 + ro) (l4).toNatClampNeg) w x9 ex9 _) rfl rfl ⟨by show _ ≤ _; simp only [RM_f_HandCount_doRow, RM_f_Ballotscript_isDigit]; omega, by show _ ≤ _; simp only [RM_f_HandCount_doRow, RM_f_Ballotscript_isDigit]; omega⟩ rfl hl.1 rfl (Nat.le_of_ble_eq_true rfl) dX2_doRow_93 ⟨Nat.le_refl _, Nat.le_refl _⟩) (fun H locs S => ?_)
            refine lv_if_eq (tgt := 123) hx hb dX2_doRow_96 rfl (fun c10 => ?_) (fun c10 => ?_)
            · have h := h_t c10 h
              exact lab123 l4 l5 l6 l7 w _ _ _ (lv_sub hl [0, 1, 2, 3, 4, 5, 6] rfl) S h
            · have h := h_f c10 h
              refine lv_bipush (v := 10) hx hb dX2_doRow_99 (by decide) ?_
              refine lv_iload hx hb dX2_doRow_101 (lv_at hl 6 rfl) ?_
              refine lv_imul hx hb dX2_doRow_103 ?_
              refine lv_aload_n hx hb dX2_doRow_104 rfl (lv_at hl 1 rfl) ?_
              refine g_getR fl_RX2_28_X5 hx hb C S (KC_32 hro) rfl dX2_doRow_105 ?_
              refine lv_iload hx hb dX2_doRow_108 (lv_at hl 3 rfl) ?_
              obtain ⟨g11, h⟩ := h_gd h
              refine r_cald hx hb C S (KC_40 hro) (h_in g11) dX2_doRow_110 ?_
              refine lv_bipush (v := 48) hx hb dX2_doRow_111 (by decide) ?_
              refine lv_isub hx hb dX2_doRow_113 ?_
              refine lv_iadd hx hb dX2_doRow_114 ?_
              refine lv_topi (fun v12 ev12 => ?_)
              have h := h_l h v12 ev12
              refine lv_istore (lv' := [(7, .int v12), (0, .ref (q 28)), (1, .ref (q (32 + ro))), (3, .int l3), (4, .int l4), (5, .int l5), (6, .int l6)]) hx hb dX2_doRow_115 hl (Nat.le_of_ble_eq_true rfl) rfl (fun ls hl => ?_)
              refine lv_iinc (v := (l4 + 1)) (lv' := [(4, .int (l4 + 1)), (7, .int v12), (0, .ref (q 28)), (1, .ref (q (32 + ro))), (3, .int l3), (5, .int l5), (6, .int l6)]) hx hb dX2_doRow_117 hl (k := 4) rfl rfl (Nat.le_of_ble_eq_true rfl) rfl (fun ls hl => ?_)
              refine lv_goto (tgt := 77) hx hb dX2_doRow_120 rfl ?_
              exact ih77 (l4 + 1) v12 _ _ _ (lv_sub hl [2, 3, 4, 0, 5, 6, 1] rfl) S h
      intro l4 l5 w H locs ls hl S h
      have h := h_lp h
      unfold f_HandCount_doRow_L17 at h
      refine lv_iload hx hb dX2_doRow_17 (lv_at hl 4 rfl) ?_
      refine lv_bipush (v := 24) hx hb dX2_doRow_19 (by decide) ?_
      refine lv_icmp_ge (tgt := 196) hx hb dX2_doRow_21 rfl (fun c13 => ?_) (fun c13 => ?_)
      · have h := h_t c13 h
        exact lab196 l4 w _ _ _ (lv_sub hl [3] rfl) S h
      · have h := h_f c13 h
        refine lv_aload_n hx hb dX2_doRow_24 rfl (lv_at hl 0 rfl) ?_
        refine g_get fl_RX2_25_X2 hx hb C S KC_28 rfl dX2_doRow_25 ?_
        refine lv_if_le (tgt := 196) hx hb dX2_doRow_28 rfl (fun c14 => ?_) (fun c14 => ?_)
        · have h := h_t c14 h
          exact lab196 l4 w _ _ _ (lv_sub hl [3] rfl) S h
        · have h := h_f c14 h
          refine lv_iload hx hb dX2_doRow_31 (lv_at hl 3 rfl) ?_
          refine lv_aload_n hx hb dX2_doRow_33 rfl (lv_at hl 1 rfl) ?_
          refine g_get fl_RX2_19_X5 hx hb C S (KC_32 hro) rfl dX2_doRow_34 ?_
          refine lv_icmp_ge (tgt := 52) hx hb dX2_doRow_37 rfl (fun c15 => ?_) (fun c15 => ?_)
          · have h := h_t c15 h
            refine lv_iload hx hb dX2_doRow_52 (lv_at hl 3 rfl) ?_
            exact fin _ _ _ l4 w _ S h dX2_doRow_54
          · have h := h_f c15 h
            refine lv_aload_n hx hb dX2_doRow_40 rfl (lv_at hl 1 rfl) ?_
            refine g_getR fl_RX2_28_X5 hx hb C S (KC_32 hro) rfl dX2_doRow_41 ?_
            refine lv_iload hx hb dX2_doRow_44 (lv_at hl 3 rfl) ?_
            obtain ⟨g16, h⟩ := h_gd h
            refine r_cald hx hb C S (KC_40 hro) (h_in g16) dX2_doRow_46 ?_
            refine lv_bipush (v := 41) hx hb dX2_doRow_47 (by decide) ?_
            refine lv_icmp_ne (tgt := 55) hx hb dX2_doRow_49 rfl (fun c17 => ?_) (fun c17 => ?_)
            · have h := h_f c17 h
              refine lv_aload_n hx hb dX2_doRow_55 rfl (lv_at hl 1 rfl) ?_
              refine g_getR fl_RX2_28_X5 hx hb C S (KC_32 hro) rfl dX2_doRow_56 ?_
              refine lv_iload hx hb dX2_doRow_59 (lv_at hl 3 rfl) ?_
              obtain ⟨g18, h⟩ := h_gd h
              refine r_cald hx hb C S (KC_40 hro) (h_in g18) dX2_doRow_61 ?_
              refine lv_topi (fun v19 ev19 => ?_)
              have h := h_l h v19 ev19
              refine lv_istore (lv' := [(6, .int v19), (0, .ref (q 28)), (1, .ref (q (32 + ro))), (3, .int l3), (4, .int l4), (5, .int l5)]) hx hb dX2_doRow_62 hl (Nat.le_of_ble_eq_true rfl) rfl (fun ls hl => ?_)
              refine lv_iinc (v := (l4 + 1)) (lv' := [(4, .int (l4 + 1)), (6, .int v19), (0, .ref (q 28)), (1, .ref (q (32 + ro))), (3, .int l3), (5, .int l5)]) hx hb dX2_doRow_64 hl (k := 4) rfl rfl (Nat.le_of_ble_eq_true rfl) rfl (fun ls hl => ?_)
              refine lv_iload hx hb dX2_doRow_67 (lv_at hl 1 rfl) ?_
              refine lv_bipush (v := 40) hx hb dX2_doRow_69 (by decide) ?_
              refine lv_icmp_eq (tgt := 137) hx hb dX2_doRow_71 rfl (fun c20 => ?_) (fun c20 => ?_)
              · have h := h_t c20 h
                refine lv_iload hx hb dX2_doRow_137 (lv_at hl 0 rfl) ?_
                refine lv_topi (fun v21 ev21 => ?_)
                have h := h_l h v21 ev21
                refine lv_istore (lv' := [(7, .int v21), (4, .int (l4 + 1)), (6, .int v19), (0, .ref (q 28)), (1, .ref (q (32 + ro))), (3, .int l3), (5, .int l5)]) hx hb dX2_doRow_139 hl (Nat.le_of_ble_eq_true rfl) rfl (fun ls hl => ?_)
                refine lv_iconst (v := -1) hx hb dX2_doRow_141 (by decide) ?_
                refine lv_istore (lv' := [(8, .int (-1 : Int32)), (7, .int v21), (4, .int (l4 + 1)), (6, .int v19), (0, .ref (q 28)), (1, .ref (q (32 + ro))), (3, .int l3), (5, .int l5)]) hx hb dX2_doRow_142 hl (Nat.le_of_ble_eq_true rfl) rfl (fun ls hl => ?_)
                refine lv_iconst (v := 0) hx hb dX2_doRow_144 (by decide) ?_
                refine lv_istore (lv' := [(9, .int (0 : Int32)), (8, .int (-1 : Int32)), (7, .int v21), (4, .int (l4 + 1)), (6, .int v19), (0, .ref (q 28)), (1, .ref (q (32 + ro))), (3, .int l3), (5, .int l5)]) hx hb dX2_doRow_145 hl (Nat.le_of_ble_eq_true rfl) rfl (fun ls hl => ?_)
                exact loop147 l5 v21 FU (l4 + 1) (-1 : Int32) (0 : Int32) w _ _ _ (lv_sub hl [5, 6, 7, 3, 8, 2, 1, 0] rfl) S (h_bb h)
              · have h := h_f c20 h
                refine lv_iconst (v := 0) hx hb dX2_doRow_74 (by decide) ?_
                refine lv_istore (lv' := [(7, .int (0 : Int32)), (4, .int (l4 + 1)), (6, .int v19), (0, .ref (q 28)), (1, .ref (q (32 + ro))), (3, .int l3), (5, .int l5)]) hx hb dX2_doRow_75 hl (Nat.le_of_ble_eq_true rfl) rfl (fun ls hl => ?_)
                exact loop77 l5 v19 w FU (l4 + 1) (0 : Int32) _ _ _ (lv_sub hl [3, 4, 5, 1, 6, 2, 0] rfl) S (h_bb h)
            · have h := h_t c17 h
              refine lv_iload hx hb dX2_doRow_52 (lv_at hl 3 rfl) ?_
              exact fin _ _ _ l4 w _ S h dX2_doRow_54
  intro H locs ls hl S h
  have h := h_0 h
  have h : Option.bind (f_HandCount_doRow_body rc ro a2 a3 w) some = some z := by rw [erc]; exact h
  unfold f_HandCount_doRow_body at h
  refine lv_iload_n hx hb dX2_doRow_0 rfl (lv_at hl 3 rfl) ?_
  refine lv_bipush (v := 24) hx hb dX2_doRow_1 (by decide) ?_
  refine lv_icmp_le (tgt := 11) hx hb dX2_doRow_3 rfl (fun c22 => ?_) (fun c22 => ?_)
  · have h := h_t c22 h
    refine lv_iload_n hx hb dX2_doRow_11 rfl (lv_at hl 2 rfl) ?_
    refine lv_istore (lv' := [(4, .int a2), (0, .ref (q 28)), (1, .ref (q (32 + ro))), (2, .int a2), (3, .int a3)]) hx hb dX2_doRow_12 hl (Nat.le_of_ble_eq_true rfl) rfl (fun ls hl => ?_)
    refine lv_iconst (v := 0) hx hb dX2_doRow_14 (by decide) ?_
    refine lv_istore (lv' := [(5, .int (0 : Int32)), (4, .int a2), (0, .ref (q 28)), (1, .ref (q (32 + ro))), (2, .int a2), (3, .int a3)]) hx hb dX2_doRow_15 hl (Nat.le_of_ble_eq_true rfl) rfl (fun ls hl => ?_)
    exact loop17 a3 FU a2 (0 : Int32) w _ _ _ (lv_sub hl [2, 3, 5, 1, 0] rfl) S (h_bb h)
  · have h := h_f c22 h
    refine lv_aload_n hx hb dX2_doRow_6 rfl (lv_at hl 1 rfl) ?_
    refine g_get fl_RX2_19_X5 hx hb C S (KC_32 hro) rfl dX2_doRow_7 ?_
    exact fin _ _ _ (w (32 + ro) 3) w _ S h dX2_doRow_10
theorem c_f_HandCount_doRow (l : Launch) (D : va_G) (dA : Nat → ClassId) (q : Nat → Nat) : ∀ (k : Nat) (ro : Nat) (hro : ro < 8) (a2 : Int32) (a3 : Int32) (w w' : Wt) (r : Int32), f_HandCount_doRow k ro a2 a3 w = some (r, w') → Mi l EVc KC D dA q yX2_doRow cX2_doRow 10 (some .int) (RM_f_HandCount_doRow k) [.ref (q 28), .ref (q (32 + ro)), .int a2, .int a3] w r w' := by
  intro k
  induction k with
  | zero => intro ro hro a2 a3 w w' r h; cases h
  | succ k ih =>
    intro ro hro a2 a3 w w' r h
    exact mk_i (by decide) rfl EVc_ok (Nat.le_of_ble_eq_true rfl) (fun p e s m args below meth c A Q ls hx hb hml C S hl fin => k_f_HandCount_doRow k ih ro hro a2 a3 w (r, w') hx hb hml C (fun H locs ls r' w2 pc S h d => fin H locs ls r' w2 pc S h d) _ _ _ hl S h)
/-! Ballotscript.winnersByHand(I)I f_Ballotscript_winnersByHand -/
def f_Ballotscript_winnersByHand (a1 : Int32) (w : Wt) : Option ((Nat ⊕ Int32) × Wt) := Option.bind (f_Ballotscript_needVote a1 w) fun x1 => onX x1 (fun k2 => some (.inl k2, w)) (fun _ => Option.bind (f_Box_gather a1 w) fun x2 => gd (inb a1 8) (gd (inb a1 8) (Option.bind (f_Count_begin_H (x2 (64 + (a1).toNatClampNeg) 1) (x2 (64 + (a1).toNatClampNeg) 2) x2) fun x5 => gd (inb a1 8) (gd (inb (x5 (64 + (a1).toNatClampNeg) 3) 8) (Option.bind (f_HandCount_doRow FD (((x5 (64 + (a1).toNatClampNeg) 3)).toNatClampNeg) (0 : Int32) (0 : Int32) x5) fun x8 => some (.inr (x8.2 28 6), x8.2))))))
def RM_f_Ballotscript_winnersByHand : Room := { frames := 40, cells := 4, slots := 24, locals := 1121 }
set_option maxHeartbeats 4000000 in
set_option maxRecDepth 20000 in
theorem k_f_Ballotscript_winnersByHand (a1 : Int32) (w : Wt) (z : ((Nat ⊕ Int32) × Wt)) (hfl : l.stackTraces = false) (hx : p.tables.exec = Jvm.exec) (hb : c.code = cX9_winnersByHand) (hml : c.maxLocals = 2) (C : Cx EVc KC D dA q A s m args RX9) (fin : ∀ (H : Heap) (locs : List Loc) (ls : Array Slot) (r' : Int32) (w2 : Wt) (pc : Nat) (cl sl : Nat) , cl ≤ 4 → sl ≤ 24 → Sta KC D dA q A s.heap w2 H locs → some ((.inr r' : Nat ⊕ Int32), w2) = some z → decode cX9_winnersByHand pc = .ok (.ireturn, 1) → W p l e RM_f_Ballotscript_winnersByHand s m args below meth c H locs cl sl Q (F0 m pc ls [.int r'])) (thr : ∀ (H : Heap) (locs : List Loc) (ls : Array Slot) (w2 : Wt) (k pc cl sl : Nat), cl + 1 ≤ 4 → sl + 6 ≤ 24 → ls.size = 2 → Sta KC D dA q A s.heap w2 H locs → some ((.inl k : Nat ⊕ Int32), w2) = some z → thF RX9 cX9_winnersByHand pc k → W p l e RM_f_Ballotscript_winnersByHand s m args below meth c H locs cl sl Q (F0 m pc ls [])) (pro : ∀ (H : Heap) (locs : List Loc) (ls : Array Slot) (w2 : Wt) (k pc cl sl : Nat) (rest : List Value) (q9 : Nat) (ce : Cell), cl ≤ 4 → sl ≤ 24 → Sta KC D dA q A s.heap w2 H locs → some ((.inl k : Nat ⊕ Int32), w2) = some z → H[q9]? = some ce → ce.vm = .none → s.vm.findClass (exn k) = some ce.cls → vx_W p l e RM_f_Ballotscript_winnersByHand s m args below meth c H locs cl sl Q (F0 m pc ls rest) q9) : ∀ (H : Heap) (locs : List Loc) (ls : Array Slot), lv_has ls 2 [(0, .ref (q 0)), (1, .int a1)] → Sta KC D dA q A s.heap w H locs → f_Ballotscript_winnersByHand a1 w = some z → W p l e RM_f_Ballotscript_winnersByHand s m args below meth c H locs 0 0 Q (F0 m 0 ls []) := by
  have ev : evOk EVc := EVc_ok
  intro H locs ls hl S h
  have h := h_0 h
  unfold f_Ballotscript_winnersByHand at h
  refine lv_aload_n hx hb dX9_winnersByHand_0 rfl (lv_at hl 0 rfl) ?_
  refine lv_iload_n hx hb dX9_winnersByHand_1 rfl (lv_at hl 1 rfl) ?_
  obtain ⟨x1, ex1, h⟩ := h_c h
  refine k_x C S (x_V (rest := []) (As := [.int a1]) lk_RX9_176 ev hx hb hml C S KC_0 rfl (c_f_Ballotscript_needVote l hfl D dA q a1 w x1 ex1 _) rfl rfl ⟨(Nat.le_of_ble_eq_true rfl), (Nat.le_of_ble_eq_true rfl)⟩ rfl hl.1 rfl (Nat.le_of_ble_eq_true rfl) dX9_winnersByHand_2 ⟨(Nat.le_of_ble_eq_true rfl), (Nat.le_of_ble_eq_true rfl)⟩) (fun k2 er H locs q9 ce S h1 h2 h3 => ?_) (fun r2 er H locs S => ?_)
  · exact pro _ _ _ w _ _ 1 6 _ _ _ (Nat.le_of_ble_eq_true rfl) (Nat.le_of_ble_eq_true rfl) S (h_xl er h) h1 h2 h3
  · have h := h_xr er h
    refine lv_aload_n hx hb dX9_winnersByHand_5 rfl (lv_at hl 0 rfl) ?_
    refine g_getR fl_RX9_47_X9 hx hb C S KC_0 rfl dX9_winnersByHand_6 ?_
    refine lv_iload_n hx hb dX9_winnersByHand_9 rfl (lv_at hl 1 rfl) ?_
    obtain ⟨x2, ex2, h⟩ := h_c h
    refine k_v C S (q_V (rest := []) (As := [.int a1]) lk_RX9_186 ev hx hb hml C S KC_13 rfl (c_f_Box_gather l D dA q a1 w x2 ex2 _) rfl rfl ⟨(Nat.le_of_ble_eq_true rfl), (Nat.le_of_ble_eq_true rfl)⟩ rfl hl.1 rfl (Nat.le_of_ble_eq_true rfl) dX9_winnersByHand_10 ⟨(Nat.le_of_ble_eq_true rfl), (Nat.le_of_ble_eq_true rfl)⟩) (fun H locs S => ?_)
    refine lv_aload_n hx hb dX9_winnersByHand_13 rfl (lv_at hl 0 rfl) ?_
    refine g_getR fl_RX9_63_X9 hx hb C S KC_0 rfl dX9_winnersByHand_14 ?_
    refine lv_aload_n hx hb dX9_winnersByHand_17 rfl (lv_at hl 0 rfl) ?_
    refine g_getR fl_RX9_31_X9 hx hb C S KC_0 rfl dX9_winnersByHand_18 ?_
    refine lv_iload_n hx hb dX9_winnersByHand_21 rfl (lv_at hl 1 rfl) ?_
    obtain ⟨g3, h⟩ := h_gd h
    refine r_aald (t := 4) rfl hx hb C S KC_10 (h_in g3) dX9_winnersByHand_22 ?_
    refine g_get fl_RX9_209_X8 hx hb C S (KC_64 (nt_lt (h_in g3))) rfl dX9_winnersByHand_23 ?_
    refine lv_aload_n hx hb dX9_winnersByHand_26 rfl (lv_at hl 0 rfl) ?_
    refine g_getR fl_RX9_31_X9 hx hb C S KC_0 rfl dX9_winnersByHand_27 ?_
    refine lv_iload_n hx hb dX9_winnersByHand_30 rfl (lv_at hl 1 rfl) ?_
    obtain ⟨g4, h⟩ := h_gd h
    refine r_aald (t := 4) rfl hx hb C S KC_10 (h_in g4) dX9_winnersByHand_31 ?_
    refine g_get fl_RX9_262_X8 hx hb C S (KC_64 (nt_lt (h_in g4))) rfl dX9_winnersByHand_32 ?_
    obtain ⟨x5, ex5, h⟩ := h_c h
    refine k_v C S (q_U (rest := []) (As := [.int (x2 (64 + (a1).toNatClampNeg) 1), .int (x2 (64 + (a1).toNatClampNeg) 2)]) lk_RX9_265_X2 (ud_lk_RX9_265_X2 C) (us_lk_RX9_265_X2 C) ev hx hb hml C S KC_28 rfl (c_f_Count_begin_H l D dA q (x2 (64 + (a1).toNatClampNeg) 1) (x2 (64 + (a1).toNatClampNeg) 2) x2 x5 ex5 _) rfl rfl ⟨(Nat.le_of_ble_eq_true rfl), (Nat.le_of_ble_eq_true rfl)⟩ rfl hl.1 rfl (Nat.le_of_ble_eq_true rfl) dX9_winnersByHand_35 ⟨(Nat.le_of_ble_eq_true rfl), (Nat.le_of_ble_eq_true rfl)⟩) (fun H locs S => ?_)
    refine lv_aload_n hx hb dX9_winnersByHand_38 rfl (lv_at hl 0 rfl) ?_
    refine g_getR fl_RX9_63_X9 hx hb C S KC_0 rfl dX9_winnersByHand_39 ?_
    refine lv_aload_n hx hb dX9_winnersByHand_42 rfl (lv_at hl 0 rfl) ?_
    refine g_getR fl_RX9_25_X9 hx hb C S KC_0 rfl dX9_winnersByHand_43 ?_
    refine lv_aload_n hx hb dX9_winnersByHand_46 rfl (lv_at hl 0 rfl) ?_
    refine g_getR fl_RX9_31_X9 hx hb C S KC_0 rfl dX9_winnersByHand_47 ?_
    refine lv_iload_n hx hb dX9_winnersByHand_50 rfl (lv_at hl 1 rfl) ?_
    obtain ⟨g6, h⟩ := h_gd h
    refine r_aald (t := 4) rfl hx hb C S KC_10 (h_in g6) dX9_winnersByHand_51 ?_
    refine g_get fl_RX9_268_X8 hx hb C S (KC_64 (nt_lt (h_in g6))) rfl dX9_winnersByHand_52 ?_
    obtain ⟨g7, h⟩ := h_gd h
    refine r_aald (t := 3) rfl hx hb C S KC_9 (h_in g7) dX9_winnersByHand_55 ?_
    refine lv_iconst (v := 0) hx hb dX9_winnersByHand_56 (by decide) ?_
    refine lv_iconst (v := 0) hx hb dX9_winnersByHand_57 (by decide) ?_
    obtain ⟨x8, ex8, h⟩ := h_c h
    refine k_i C S (q_N (rest := []) (As := [.ref (q 28), .ref (q (32 + ((x5 (64 + (a1).toNatClampNeg) 3)).toNatClampNeg)), .int (0 : Int32), .int (0 : Int32)]) lk_RX9_271 (nm_lk_RX9_271 C) ev hx hb hml C S (c_f_HandCount_doRow l D dA q FD (((x5 (64 + (a1).toNatClampNeg) 3)).toNatClampNeg) (nt_lt (h_in g7)) (0 : Int32) (0 : Int32) x5 x8.2 x8.1 ex8 _) rfl rfl ⟨(Nat.le_of_ble_eq_true rfl), (Nat.le_of_ble_eq_true rfl)⟩ rfl hl.1 rfl (Nat.le_of_ble_eq_true rfl) dX9_winnersByHand_58 ⟨(Nat.le_of_ble_eq_true rfl), (Nat.le_of_ble_eq_true rfl)⟩) (fun H locs S => ?_)
    refine lv_pop hx hb dX9_winnersByHand_61 rfl ?_
    refine lv_aload_n hx hb dX9_winnersByHand_62 rfl (lv_at hl 0 rfl) ?_
    refine g_getR fl_RX9_63_X9 hx hb C S KC_0 rfl dX9_winnersByHand_63 ?_
    refine g_get fl_RX9_275_X2 hx hb C S KC_28 rfl dX9_winnersByHand_66 ?_
    exact fin _ _ _ (x8.2 28 6) x8.2 _ 1 6 (Nat.le_of_ble_eq_true rfl) (Nat.le_of_ble_eq_true rfl) S h dX9_winnersByHand_69
theorem c_f_Ballotscript_winnersByHand (l : Launch) (hfl : l.stackTraces = false) (D : va_G) (dA : Nat → ClassId) (q : Nat → Nat) (a1 : Int32) (w w' : Wt) (res : Nat ⊕ Int32) (h : f_Ballotscript_winnersByHand a1 w = some (res, w')) : Xi l EVc KC D dA q yX9_winnersByHand cX9_winnersByHand 2 (some .int) RM_f_Ballotscript_winnersByHand 4 24 [.ref (q 0), .int a1] w res w' :=
  mx_i (by decide) rfl hfl (Nat.le_of_ble_eq_true rfl) (Nat.le_of_ble_eq_true rfl) (Nat.le_of_ble_eq_true rfl) rfl rfl (fun p e s m args below meth c A Q ls hx hb hml C S hl fin thr pro => k_f_Ballotscript_winnersByHand a1 w (res, w') hfl hx hb hml C (fun H locs ls r' w2 pc cl sl hc hs S h d => fin H locs ls r' w2 pc cl sl hc hs S h d) (fun H locs ls w2 k pc cl sl hc hs hz S h t => thr H locs ls w2 k pc cl sl hc hs hz S h t) (fun H locs ls w2 k pc cl sl rest q9 ce hc hs S h h1 h2 h3 => pro H locs ls w2 k pc cl sl rest q9 ce hc hs S h h1 h2 h3) _ _ _ hl S h)
/-! Ballotscript.tallies(I)I f_Ballotscript_tallies -/
def f_Ballotscript_tallies (a1 : Int32) (w : Wt) : Option ((Nat ⊕ Int32) × Wt) := Option.bind (f_Ballotscript_needVote a1 w) fun x1 => onX x1 (fun k2 => some (.inl k2, w)) (fun _ => Option.bind (f_Ballotscript_countVote a1 w) fun x2 => some (.inr (x2 22 3), x2))
def RM_f_Ballotscript_tallies : Room := { frames := 11, cells := 4, slots := 24, locals := 267 }
set_option maxHeartbeats 4000000 in
set_option maxRecDepth 20000 in
theorem k_f_Ballotscript_tallies (a1 : Int32) (w : Wt) (z : ((Nat ⊕ Int32) × Wt)) (hfl : l.stackTraces = false) (hx : p.tables.exec = Jvm.exec) (hb : c.code = cX9_tallies) (hml : c.maxLocals = 2) (C : Cx EVc KC D dA q A s m args RX9) (fin : ∀ (H : Heap) (locs : List Loc) (ls : Array Slot) (r' : Int32) (w2 : Wt) (pc : Nat) (cl sl : Nat) , cl ≤ 4 → sl ≤ 24 → Sta KC D dA q A s.heap w2 H locs → some ((.inr r' : Nat ⊕ Int32), w2) = some z → decode cX9_tallies pc = .ok (.ireturn, 1) → W p l e RM_f_Ballotscript_tallies s m args below meth c H locs cl sl Q (F0 m pc ls [.int r'])) (thr : ∀ (H : Heap) (locs : List Loc) (ls : Array Slot) (w2 : Wt) (k pc cl sl : Nat), cl + 1 ≤ 4 → sl + 6 ≤ 24 → ls.size = 2 → Sta KC D dA q A s.heap w2 H locs → some ((.inl k : Nat ⊕ Int32), w2) = some z → thF RX9 cX9_tallies pc k → W p l e RM_f_Ballotscript_tallies s m args below meth c H locs cl sl Q (F0 m pc ls [])) (pro : ∀ (H : Heap) (locs : List Loc) (ls : Array Slot) (w2 : Wt) (k pc cl sl : Nat) (rest : List Value) (q9 : Nat) (ce : Cell), cl ≤ 4 → sl ≤ 24 → Sta KC D dA q A s.heap w2 H locs → some ((.inl k : Nat ⊕ Int32), w2) = some z → H[q9]? = some ce → ce.vm = .none → s.vm.findClass (exn k) = some ce.cls → vx_W p l e RM_f_Ballotscript_tallies s m args below meth c H locs cl sl Q (F0 m pc ls rest) q9) : ∀ (H : Heap) (locs : List Loc) (ls : Array Slot), lv_has ls 2 [(0, .ref (q 0)), (1, .int a1)] → Sta KC D dA q A s.heap w H locs → f_Ballotscript_tallies a1 w = some z → W p l e RM_f_Ballotscript_tallies s m args below meth c H locs 0 0 Q (F0 m 0 ls []) := by
  have ev : evOk EVc := EVc_ok
  intro H locs ls hl S h
  have h := h_0 h
  unfold f_Ballotscript_tallies at h
  refine lv_aload_n hx hb dX9_tallies_0 rfl (lv_at hl 0 rfl) ?_
  refine lv_iload_n hx hb dX9_tallies_1 rfl (lv_at hl 1 rfl) ?_
  obtain ⟨x1, ex1, h⟩ := h_c h
  refine k_x C S (x_V (rest := []) (As := [.int a1]) lk_RX9_176 ev hx hb hml C S KC_0 rfl (c_f_Ballotscript_needVote l hfl D dA q a1 w x1 ex1 _) rfl rfl ⟨(Nat.le_of_ble_eq_true rfl), (Nat.le_of_ble_eq_true rfl)⟩ rfl hl.1 rfl (Nat.le_of_ble_eq_true rfl) dX9_tallies_2 ⟨(Nat.le_of_ble_eq_true rfl), (Nat.le_of_ble_eq_true rfl)⟩) (fun k2 er H locs q9 ce S h1 h2 h3 => ?_) (fun r2 er H locs S => ?_)
  · exact pro _ _ _ w _ _ 1 6 _ _ _ (Nat.le_of_ble_eq_true rfl) (Nat.le_of_ble_eq_true rfl) S (h_xl er h) h1 h2 h3
  · have h := h_xr er h
    refine lv_aload_n hx hb dX9_tallies_5 rfl (lv_at hl 0 rfl) ?_
    refine lv_iload_n hx hb dX9_tallies_6 rfl (lv_at hl 1 rfl) ?_
    obtain ⟨x2, ex2, h⟩ := h_c h
    refine k_r C S (q_V (rest := []) (As := [.int a1]) lk_RX9_153 ev hx hb hml C S KC_0 rfl (c_f_Ballotscript_countVote l D dA q a1 w x2 ex2 _) rfl rfl ⟨(Nat.le_of_ble_eq_true rfl), (Nat.le_of_ble_eq_true rfl)⟩ rfl hl.1 rfl (Nat.le_of_ble_eq_true rfl) dX9_tallies_7 ⟨(Nat.le_of_ble_eq_true rfl), (Nat.le_of_ble_eq_true rfl)⟩) (fun H locs S => ?_)
    refine g_get fl_RX9_276_X3 hx hb C S KC_22 rfl dX9_tallies_10 ?_
    exact fin _ _ _ (x2 22 3) x2 _ 1 6 (Nat.le_of_ble_eq_true rfl) (Nat.le_of_ble_eq_true rfl) S h dX9_tallies_13
theorem c_f_Ballotscript_tallies (l : Launch) (hfl : l.stackTraces = false) (D : va_G) (dA : Nat → ClassId) (q : Nat → Nat) (a1 : Int32) (w w' : Wt) (res : Nat ⊕ Int32) (h : f_Ballotscript_tallies a1 w = some (res, w')) : Xi l EVc KC D dA q yX9_tallies cX9_tallies 2 (some .int) RM_f_Ballotscript_tallies 4 24 [.ref (q 0), .int a1] w res w' :=
  mx_i (by decide) rfl hfl (Nat.le_of_ble_eq_true rfl) (Nat.le_of_ble_eq_true rfl) (Nat.le_of_ble_eq_true rfl) rfl rfl (fun p e s m args below meth c A Q ls hx hb hml C S hl fin thr pro => k_f_Ballotscript_tallies a1 w (res, w') hfl hx hb hml C (fun H locs ls r' w2 pc cl sl hc hs S h d => fin H locs ls r' w2 pc cl sl hc hs S h d) (fun H locs ls w2 k pc cl sl hc hs hz S h t => thr H locs ls w2 k pc cl sl hc hs hz S h t) (fun H locs ls w2 k pc cl sl rest q9 ce hc hs S h h1 h2 h3 => pro H locs ls w2 k pc cl sl rest q9 ce hc hs S h h1 h2 h3) _ _ _ hl S h)
/-! Ballotscript$MachineCount.stoodIn(II)Z f_MachineCount_stoodIn -/
def f_MachineCount_stoodIn (a1 : Int32) (a2 : Int32) (w : Wt) : Option Int32 := Option.bind (f_Ballotscript_isWithin a1 (0 : Int32) ((w 22 3) - (1 : Int32))) fun x1 => (if x1 = (0 : Int32) then some (0 : Int32) else gd (inb a1 156) (Option.bind (f_Count_hasBit (w 25 (a1).toNatClampNeg) a2) fun x4 => (if x4 = (0 : Int32) then some (0 : Int32) else some (1 : Int32))))
def RM_f_MachineCount_stoodIn : Room := { frames := 1, cells := 0, slots := 0, locals := 22 }
set_option maxHeartbeats 4000000 in
set_option maxRecDepth 20000 in
theorem k_f_MachineCount_stoodIn (a1 : Int32) (a2 : Int32) (w : Wt) (z : Int32) (hx : p.tables.exec = Jvm.exec) (hb : c.code = cX3_stoodIn) (hml : c.maxLocals = 3) (C : Cx EVc KC D dA q A s m args RX3) (fin : ∀ (H : Heap) (locs : List Loc) (ls : Array Slot) (r' : Int32) (pc : Nat) , narrow .boolean (.int r') = .int r' → Sta KC D dA q A s.heap w H locs → some r' = some z → decode cX3_stoodIn pc = .ok (.ireturn, 1) → W p l e RM_f_MachineCount_stoodIn s m args below meth c H locs 0 0 Q (F0 m pc ls [.int r'])) : ∀ (H : Heap) (locs : List Loc) (ls : Array Slot), lv_has ls 3 [(0, .ref (q 22)), (1, .int a1), (2, .int a2)] → Sta KC D dA q A s.heap w H locs → f_MachineCount_stoodIn a1 a2 w = some z → W p l e RM_f_MachineCount_stoodIn s m args below meth c H locs 0 0 Q (F0 m 0 ls []) := by
  have ev : evOk EVc := EVc_ok
  intro H locs ls hl S h
  have h := h_0 h
  unfold f_MachineCount_stoodIn at h
  refine lv_iload_n hx hb dX3_stoodIn_0 rfl (lv_at hl 1 rfl) ?_
  refine lv_iconst (v := 0) hx hb dX3_stoodIn_1 (by decide) ?_
  refine lv_aload_n hx hb dX3_stoodIn_2 rfl (lv_at hl 0 rfl) ?_
  refine g_get fl_RX3_55_X3 hx hb C S KC_22 rfl dX3_stoodIn_3 ?_
  refine lv_iconst (v := 1) hx hb dX3_stoodIn_6 (by decide) ?_
  refine lv_isub hx hb dX3_stoodIn_7 ?_
  obtain ⟨x1, ex1, h⟩ := h_c h
  refine k_i C S (q_N (rest := []) (As := [.int a1, .int (0 : Int32), .int ((w 22 3) - (1 : Int32))]) lk_RX3_51 (nm_lk_RX3_51 C) ev hx hb hml C S (c_f_Ballotscript_isWithin l D dA q a1 (0 : Int32) ((w 22 3) - (1 : Int32)) w x1 ex1 _) rfl rfl ⟨(Nat.le_of_ble_eq_true rfl), (Nat.le_of_ble_eq_true rfl)⟩ rfl hl.1 rfl (Nat.le_of_ble_eq_true rfl) dX3_stoodIn_8 ⟨(Nat.le_of_ble_eq_true rfl), (Nat.le_of_ble_eq_true rfl)⟩) (fun H locs S => ?_)
  refine lv_if_eq (tgt := 31) hx hb dX3_stoodIn_11 rfl (fun c2 => ?_) (fun c2 => ?_)
  · have h := h_t c2 h
    refine lv_iconst (v := 0) hx hb dX3_stoodIn_31 (by decide) ?_
    exact fin _ _ _ (0 : Int32) _ (by decide) S h dX3_stoodIn_32
  · have h := h_f c2 h
    refine lv_aload_n hx hb dX3_stoodIn_14 rfl (lv_at hl 0 rfl) ?_
    refine g_getR fl_RX3_15_X3 hx hb C S KC_22 rfl dX3_stoodIn_15 ?_
    refine lv_iload_n hx hb dX3_stoodIn_18 rfl (lv_at hl 1 rfl) ?_
    obtain ⟨g3, h⟩ := h_gd h
    refine r_iald hx hb C S KC_25 (h_in g3) dX3_stoodIn_19 ?_
    refine lv_iload_n hx hb dX3_stoodIn_20 rfl (lv_at hl 2 rfl) ?_
    obtain ⟨x4, ex4, h⟩ := h_c h
    refine k_i C S (q_SU (rest := []) (As := [.int (w 25 (a1).toNatClampNeg), .int a2]) lk_RX3_86 ev hx hb hml C S (c_f_Count_hasBit l D dA q (w 25 (a1).toNatClampNeg) a2 w x4 ex4 _) rfl rfl ⟨(Nat.le_of_ble_eq_true rfl), (Nat.le_of_ble_eq_true rfl)⟩ rfl hl.1 rfl (Nat.le_of_ble_eq_true rfl) dX3_stoodIn_21 ⟨(Nat.le_of_ble_eq_true rfl), (Nat.le_of_ble_eq_true rfl)⟩) (fun H locs S => ?_)
    refine lv_if_eq (tgt := 31) hx hb dX3_stoodIn_24 rfl (fun c5 => ?_) (fun c5 => ?_)
    · have h := h_t c5 h
      refine lv_iconst (v := 0) hx hb dX3_stoodIn_31 (by decide) ?_
      exact fin _ _ _ (0 : Int32) _ (by decide) S h dX3_stoodIn_32
    · have h := h_f c5 h
      refine lv_iconst (v := 1) hx hb dX3_stoodIn_27 (by decide) ?_
      refine lv_goto (tgt := 32) hx hb dX3_stoodIn_28 rfl ?_
      exact fin _ _ _ (1 : Int32) _ (by decide) S h dX3_stoodIn_32
theorem c_f_MachineCount_stoodIn (l : Launch) (D : va_G) (dA : Nat → ClassId) (q : Nat → Nat) (a1 : Int32) (a2 : Int32) (w : Wt) (r : Int32) (h : f_MachineCount_stoodIn a1 a2 w = some r) : Mi l EVc KC D dA q yX3_stoodIn cX3_stoodIn 3 (some .boolean) RM_f_MachineCount_stoodIn [.ref (q 22), .int a1, .int a2] w r w :=
  mk_z (by decide) rfl EVc_ok (Nat.le_of_ble_eq_true rfl) (fun p e s m args below meth c A Q ls hx hb hml C S hl fin => k_f_MachineCount_stoodIn a1 a2 w r hx hb hml C (fun H locs ls r' pc hn S h d => fin H locs ls r' w pc hn S (by rw [Option.some.inj h]) d) _ _ _ hl S h)
/-! Ballotscript.votes(III)I f_Ballotscript_votes -/
def f_Ballotscript_votes_b42 (w : Wt) : Option ((Nat ⊕ Int32) × Wt) := some (.inl 0, w)
def f_Ballotscript_votes (a1 : Int32) (a2 : Int32) (a3 : Int32) (w : Wt) : Option ((Nat ⊕ Int32) × Wt) := Option.bind (f_Ballotscript_needVote a1 w) fun x1 => onX x1 (fun k2 => some (.inl k2, w)) (fun _ => gd (inb a1 8) (Option.bind (f_Ballotscript_isWithin a3 (0 : Int32) ((w (64 + (a1).toNatClampNeg) 1) - (1 : Int32))) fun x3 => (if x3 = (0 : Int32) then f_Ballotscript_votes_b42 w else Option.bind (f_Ballotscript_countVote a1 w) fun x5 => Option.bind (f_Ballotscript_isWithin a2 (0 : Int32) ((x5 22 3) - (1 : Int32))) fun x6 => (if x6 = (0 : Int32) then f_Ballotscript_votes_b42 x5 else Option.bind (f_MachineCount_stoodIn a2 a3 x5) fun x8 => (if x8 = (0 : Int32) then some (.inr (-1 : Int32), x5) else Option.bind (f_MachineCount_votesIn a2 a3 x5) fun x10 => some (.inr x10, x5))))))
def RM_f_Ballotscript_votes : Room := { frames := 11, cells := 4, slots := 24, locals := 267 }
set_option maxHeartbeats 4000000 in
set_option maxRecDepth 20000 in
theorem k_f_Ballotscript_votes (a1 : Int32) (a2 : Int32) (a3 : Int32) (w : Wt) (z : ((Nat ⊕ Int32) × Wt)) (hfl : l.stackTraces = false) (hx : p.tables.exec = Jvm.exec) (hb : c.code = cX9_votes) (hml : c.maxLocals = 4) (C : Cx EVc KC D dA q A s m args RX9) (fin : ∀ (H : Heap) (locs : List Loc) (ls : Array Slot) (r' : Int32) (w2 : Wt) (pc : Nat) (cl sl : Nat) , cl ≤ 4 → sl ≤ 24 → Sta KC D dA q A s.heap w2 H locs → some ((.inr r' : Nat ⊕ Int32), w2) = some z → decode cX9_votes pc = .ok (.ireturn, 1) → W p l e RM_f_Ballotscript_votes s m args below meth c H locs cl sl Q (F0 m pc ls [.int r'])) (thr : ∀ (H : Heap) (locs : List Loc) (ls : Array Slot) (w2 : Wt) (k pc cl sl : Nat), cl + 1 ≤ 4 → sl + 6 ≤ 24 → ls.size = 4 → Sta KC D dA q A s.heap w2 H locs → some ((.inl k : Nat ⊕ Int32), w2) = some z → thF RX9 cX9_votes pc k → W p l e RM_f_Ballotscript_votes s m args below meth c H locs cl sl Q (F0 m pc ls [])) (pro : ∀ (H : Heap) (locs : List Loc) (ls : Array Slot) (w2 : Wt) (k pc cl sl : Nat) (rest : List Value) (q9 : Nat) (ce : Cell), cl ≤ 4 → sl ≤ 24 → Sta KC D dA q A s.heap w2 H locs → some ((.inl k : Nat ⊕ Int32), w2) = some z → H[q9]? = some ce → ce.vm = .none → s.vm.findClass (exn k) = some ce.cls → vx_W p l e RM_f_Ballotscript_votes s m args below meth c H locs cl sl Q (F0 m pc ls rest) q9) : ∀ (H : Heap) (locs : List Loc) (ls : Array Slot), lv_has ls 4 [(0, .ref (q 0)), (1, .int a1), (2, .int a2), (3, .int a3)] → Sta KC D dA q A s.heap w H locs → f_Ballotscript_votes a1 a2 a3 w = some z → W p l e RM_f_Ballotscript_votes s m args below meth c H locs 0 0 Q (F0 m 0 ls []) := by
  have ev : evOk EVc := EVc_ok
  have lab42 : ∀ (w : Wt) (H : Heap) (locs : List Loc) (ls : Array Slot), lv_has ls 4 [] → Sta KC D dA q A s.heap w H locs → Option.bind (f_Ballotscript_votes_b42 w) some = some z → W p l e RM_f_Ballotscript_votes s m args below meth c H locs 1 6 Q (F0 m 42 ls []) := by
    intro  w H locs ls hl S h
    unfold f_Ballotscript_votes_b42 at h
    exact thr _ _ _ w _ _ 1 6 (Nat.le_of_ble_eq_true rfl) (Nat.le_of_ble_eq_true rfl) hl.1 S h th_X9_votes_42
  intro H locs ls hl S h
  have h := h_0 h
  unfold f_Ballotscript_votes at h
  refine lv_aload_n hx hb dX9_votes_0 rfl (lv_at hl 0 rfl) ?_
  refine lv_iload_n hx hb dX9_votes_1 rfl (lv_at hl 1 rfl) ?_
  obtain ⟨x1, ex1, h⟩ := h_c h
  refine k_x C S (x_V (rest := []) (As := [.int a1]) lk_RX9_176 ev hx hb hml C S KC_0 rfl (c_f_Ballotscript_needVote l hfl D dA q a1 w x1 ex1 _) rfl rfl ⟨(Nat.le_of_ble_eq_true rfl), (Nat.le_of_ble_eq_true rfl)⟩ rfl hl.1 rfl (Nat.le_of_ble_eq_true rfl) dX9_votes_2 ⟨(Nat.le_of_ble_eq_true rfl), (Nat.le_of_ble_eq_true rfl)⟩) (fun k2 er H locs q9 ce S h1 h2 h3 => ?_) (fun r2 er H locs S => ?_)
  · exact pro _ _ _ w _ _ 1 6 _ _ _ (Nat.le_of_ble_eq_true rfl) (Nat.le_of_ble_eq_true rfl) S (h_xl er h) h1 h2 h3
  · have h := h_xr er h
    refine lv_iload_n hx hb dX9_votes_5 rfl (lv_at hl 3 rfl) ?_
    refine lv_iconst (v := 0) hx hb dX9_votes_6 (by decide) ?_
    refine lv_aload_n hx hb dX9_votes_7 rfl (lv_at hl 0 rfl) ?_
    refine g_getR fl_RX9_31_X9 hx hb C S KC_0 rfl dX9_votes_8 ?_
    refine lv_iload_n hx hb dX9_votes_11 rfl (lv_at hl 1 rfl) ?_
    obtain ⟨g2, h⟩ := h_gd h
    refine r_aald (t := 4) rfl hx hb C S KC_10 (h_in g2) dX9_votes_12 ?_
    refine g_get fl_RX9_209_X8 hx hb C S (KC_64 (nt_lt (h_in g2))) rfl dX9_votes_13 ?_
    refine lv_iconst (v := 1) hx hb dX9_votes_16 (by decide) ?_
    refine lv_isub hx hb dX9_votes_17 ?_
    obtain ⟨x3, ex3, h⟩ := h_c h
    refine k_i C S (q_S (rest := []) (As := [.int a3, .int (0 : Int32), .int ((w (64 + (a1).toNatClampNeg) 1) - (1 : Int32))]) lk_RX9_69 ev hx hb hml C S (c_f_Ballotscript_isWithin l D dA q a3 (0 : Int32) ((w (64 + (a1).toNatClampNeg) 1) - (1 : Int32)) w x3 ex3 _) rfl rfl ⟨(Nat.le_of_ble_eq_true rfl), (Nat.le_of_ble_eq_true rfl)⟩ rfl hl.1 rfl (Nat.le_of_ble_eq_true rfl) dX9_votes_18 ⟨(Nat.le_of_ble_eq_true rfl), (Nat.le_of_ble_eq_true rfl)⟩) (fun H locs S => ?_)
    refine lv_if_eq (tgt := 42) hx hb dX9_votes_21 rfl (fun c4 => ?_) (fun c4 => ?_)
    · have h := h_t c4 h
      exact lab42 w _ _ _ (lv_sub hl [] rfl) S h
    · have h := h_f c4 h
      refine lv_iload_n hx hb dX9_votes_24 rfl (lv_at hl 2 rfl) ?_
      refine lv_iconst (v := 0) hx hb dX9_votes_25 (by decide) ?_
      refine lv_aload_n hx hb dX9_votes_26 rfl (lv_at hl 0 rfl) ?_
      refine lv_iload_n hx hb dX9_votes_27 rfl (lv_at hl 1 rfl) ?_
      obtain ⟨x5, ex5, h⟩ := h_c h
      refine k_r C S (q_V (rest := [.int (0 : Int32), .int a2]) (As := [.int a1]) lk_RX9_153 ev hx hb hml C S KC_0 rfl (c_f_Ballotscript_countVote l D dA q a1 w x5 ex5 _) rfl rfl ⟨(Nat.le_of_ble_eq_true rfl), (Nat.le_of_ble_eq_true rfl)⟩ rfl hl.1 rfl (Nat.le_of_ble_eq_true rfl) dX9_votes_28 ⟨(Nat.le_of_ble_eq_true rfl), (Nat.le_of_ble_eq_true rfl)⟩) (fun H locs S => ?_)
      refine g_get fl_RX9_276_X3 hx hb C S KC_22 rfl dX9_votes_31 ?_
      refine lv_iconst (v := 1) hx hb dX9_votes_34 (by decide) ?_
      refine lv_isub hx hb dX9_votes_35 ?_
      obtain ⟨x6, ex6, h⟩ := h_c h
      refine k_i C S (q_S (rest := []) (As := [.int a2, .int (0 : Int32), .int ((x5 22 3) - (1 : Int32))]) lk_RX9_69 ev hx hb hml C S (c_f_Ballotscript_isWithin l D dA q a2 (0 : Int32) ((x5 22 3) - (1 : Int32)) x5 x6 ex6 _) rfl rfl ⟨(Nat.le_of_ble_eq_true rfl), (Nat.le_of_ble_eq_true rfl)⟩ rfl hl.1 rfl (Nat.le_of_ble_eq_true rfl) dX9_votes_36 ⟨(Nat.le_of_ble_eq_true rfl), (Nat.le_of_ble_eq_true rfl)⟩) (fun H locs S => ?_)
      refine lv_if_ne (tgt := 53) hx hb dX9_votes_39 rfl (fun c7 => ?_) (fun c7 => ?_)
      · have h := h_f c7 h
        refine lv_aload_n hx hb dX9_votes_53 rfl (lv_at hl 0 rfl) ?_
        refine g_getR fl_RX9_56_X9 hx hb C S KC_0 rfl dX9_votes_54 ?_
        refine lv_iload_n hx hb dX9_votes_57 rfl (lv_at hl 2 rfl) ?_
        refine lv_iload_n hx hb dX9_votes_58 rfl (lv_at hl 3 rfl) ?_
        obtain ⟨x8, ex8, h⟩ := h_c h
        refine k_i C S (q_V (rest := []) (As := [.int a2, .int a3]) lk_RX9_281 ev hx hb hml C S KC_22 rfl (c_f_MachineCount_stoodIn l D dA q a2 a3 x5 x8 ex8 _) rfl rfl ⟨(Nat.le_of_ble_eq_true rfl), (Nat.le_of_ble_eq_true rfl)⟩ rfl hl.1 rfl (Nat.le_of_ble_eq_true rfl) dX9_votes_59 ⟨(Nat.le_of_ble_eq_true rfl), (Nat.le_of_ble_eq_true rfl)⟩) (fun H locs S => ?_)
        refine lv_if_eq (tgt := 77) hx hb dX9_votes_62 rfl (fun c9 => ?_) (fun c9 => ?_)
        · have h := h_t c9 h
          refine lv_iconst (v := -1) hx hb dX9_votes_77 (by decide) ?_
          exact fin _ _ _ (-1 : Int32) x5 _ 1 6 (Nat.le_of_ble_eq_true rfl) (Nat.le_of_ble_eq_true rfl) S h dX9_votes_78
        · have h := h_f c9 h
          refine lv_aload_n hx hb dX9_votes_65 rfl (lv_at hl 0 rfl) ?_
          refine g_getR fl_RX9_56_X9 hx hb C S KC_0 rfl dX9_votes_66 ?_
          refine lv_iload_n hx hb dX9_votes_69 rfl (lv_at hl 2 rfl) ?_
          refine lv_iload_n hx hb dX9_votes_70 rfl (lv_at hl 3 rfl) ?_
          obtain ⟨x10, ex10, h⟩ := h_c h
          refine k_i C S (q_V (rest := []) (As := [.int a2, .int a3]) lk_RX9_285 ev hx hb hml C S KC_22 rfl (c_f_MachineCount_votesIn l D dA q a2 a3 x5 x10 ex10 _) rfl rfl ⟨(Nat.le_of_ble_eq_true rfl), (Nat.le_of_ble_eq_true rfl)⟩ rfl hl.1 rfl (Nat.le_of_ble_eq_true rfl) dX9_votes_71 ⟨(Nat.le_of_ble_eq_true rfl), (Nat.le_of_ble_eq_true rfl)⟩) (fun H locs S => ?_)
          refine lv_goto (tgt := 78) hx hb dX9_votes_74 rfl ?_
          exact fin _ _ _ x10 x5 _ 1 6 (Nat.le_of_ble_eq_true rfl) (Nat.le_of_ble_eq_true rfl) S h dX9_votes_78
      · have h := h_t c7 h
        exact lab42 x5 _ _ _ (lv_sub hl [] rfl) S h
theorem c_f_Ballotscript_votes (l : Launch) (hfl : l.stackTraces = false) (D : va_G) (dA : Nat → ClassId) (q : Nat → Nat) (a1 : Int32) (a2 : Int32) (a3 : Int32) (w w' : Wt) (res : Nat ⊕ Int32) (h : f_Ballotscript_votes a1 a2 a3 w = some (res, w')) : Xi l EVc KC D dA q yX9_votes cX9_votes 4 (some .int) RM_f_Ballotscript_votes 4 24 [.ref (q 0), .int a1, .int a2, .int a3] w res w' :=
  mx_i (by decide) rfl hfl (Nat.le_of_ble_eq_true rfl) (Nat.le_of_ble_eq_true rfl) (Nat.le_of_ble_eq_true rfl) rfl rfl (fun p e s m args below meth c A Q ls hx hb hml C S hl fin thr pro => k_f_Ballotscript_votes a1 a2 a3 w (res, w') hfl hx hb hml C (fun H locs ls r' w2 pc cl sl hc hs S h d => fin H locs ls r' w2 pc cl sl hc hs S h d) (fun H locs ls w2 k pc cl sl hc hs hz S h t => thr H locs ls w2 k pc cl sl hc hs hz S h t) (fun H locs ls w2 k pc cl sl rest q9 ce hc hs S h h1 h2 h3 => pro H locs ls w2 k pc cl sl rest q9 ce hc hs S h h1 h2 h3) _ _ _ hl S h)
end WALKS

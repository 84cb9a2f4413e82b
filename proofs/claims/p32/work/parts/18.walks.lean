section WALKS
variable {p : Program} {l : Launch} {e : Env} {s : State} {m : MethodId} {args : Array Value} {below : List Frame} {meth : Method} {c : Code} {Q : State → Prop} {D : va_G} {dA : Nat → ClassId} {q : Nat → Nat} {A : Nat → Prop}
/-! Ballotscript$Count.leaders(IIZ)I f_Count_leaders_H -/
def f_Count_leaders_H_b98 (l4 : Int32) (w : Wt) : Option Int32 := some l4
def f_Count_leaders_H_b76 (l1 : Int32) (l2 : Int32) (l3 : Int32) (l4 : Int32) (l5 : Int32) (l6 : Int32) (l7 : Int32) (w : Wt) : Option ((Int32 × Int32 × Int32) ⊕ Int32) := (if l7 = l5 then nmd (l4 ||| ((1 : Int32) <<< (l6 &&& 31))) fun v2 => some (.inl (v2, l5, (l6 + 1))) else some (.inl (l4, l5, (l6 + 1))))
def f_Count_leaders_H_b63 (l1 : Int32) (l2 : Int32) (l3 : Int32) (l6 : Int32) (l7 : Int32) (w : Wt) : Option ((Int32 × Int32 × Int32) ⊕ Int32) := nmd ((1 : Int32) <<< (l6 &&& 31)) fun v3 => some (.inl (v3, l7, (l6 + 1)))
def f_Count_leaders_H_L9 (l1 : Int32) (l2 : Int32) (l3 : Int32) (w : Wt) : (Int32 × Int32 × Int32) → Option ((Int32 × Int32 × Int32) ⊕ Int32)
  | (l4, l5, l6) => (if (6 : Int32) ≤ l6 then some (.inr l4) else Option.bind (f_Count_hasBit l1 l6) fun x5 => (if x5 = (0 : Int32) then some (.inl (l4, l5, (l6 + 1))) else Option.bind (f_HandCount_votesIn l2 l6 w) fun x7 => (if l4 = (0 : Int32) then f_Count_leaders_H_b63 l1 l2 l3 l6 x7 w else (if l3 = (0 : Int32) then (if l5 ≤ x7 then f_Count_leaders_H_b76 l1 l2 l3 l4 l5 l6 x7 w else f_Count_leaders_H_b63 l1 l2 l3 l6 x7 w) else (if x7 ≤ l5 then f_Count_leaders_H_b76 l1 l2 l3 l4 l5 l6 x7 w else f_Count_leaders_H_b63 l1 l2 l3 l6 x7 w)))))
def f_Count_leaders_H_x9 (w : Wt) : Int32 → Option Int32
  | l4 => f_Count_leaders_H_b98 l4 w
def f_Count_leaders_H (a1 : Int32) (a2 : Int32) (a3 : Int32) (w : Wt) : Option Int32 := Option.bind (lp (f_Count_leaders_H_L9 a1 a2 a3 w) FU ((0 : Int32), (0 : Int32), (0 : Int32))) (f_Count_leaders_H_x9 w)
def RM_f_Count_leaders_H : Room := { frames := 3, cells := 0, slots := 0, locals := 73 }
set_option maxHeartbeats 4000000 in
set_option maxRecDepth 20000 in
theorem k_f_Count_leaders_H (a1 : Int32) (a2 : Int32) (a3 : Int32) (w : Wt) (z : Int32) (hx : p.tables.exec = Jvm.exec) (hb : c.code = cX1_leaders) (hml : c.maxLocals = 8) (C : Cx EVc KC D dA q A s m args RX1) (fin : ∀ (H : Heap) (locs : List Loc) (ls : Array Slot) (r' : Int32) (pc : Nat) , Sta KC D dA q A s.heap w H locs → some r' = some z → decode cX1_leaders pc = .ok (.ireturn, 1) → W p l e RM_f_Count_leaders_H s m args below meth c H locs 0 0 Q (F0 m pc ls [.int r'])) : ∀ (H : Heap) (locs : List Loc) (ls : Array Slot), lv_has ls 8 [(0, .ref (q 28)), (1, .int a1), (2, .int a2), (3, .int a3)] → Sta KC D dA q A s.heap w H locs → f_Count_leaders_H a1 a2 a3 w = some z → W p l e RM_f_Count_leaders_H s m args below meth c H locs 0 0 Q (F0 m 0 ls []) := by
  have ev : evOk EVc := EVc_ok
  have lab98 : ∀ (l4 : Int32) (H : Heap) (locs : List Loc) (ls : Array Slot), lv_has ls 8 [(4, .int l4)] → Sta KC D dA q A s.heap w H locs → Option.bind (f_Count_leaders_H_b98 l4 w) some = some z → W p l e RM_f_Count_leaders_H s m args below meth c H locs 0 0 Q (F0 m 98 ls []) := by
    intro l4 H locs ls hl S h
    unfold f_Count_leaders_H_b98 at h
    refine lv_iload hx hb dX1_leaders_98 (lv_at hl 0 rfl) ?_
    exact fin _ _ _ l4 _ S h dX1_leaders_100
  have loop9 : ∀ (l1 : Int32) (l2 : Int32) (l3 : Int32) (n9 : Nat), ∀ (l4 : Int32) (l5 : Int32) (l6 : Int32) (H : Heap) (locs : List Loc) (ls : Array Slot), lv_has ls 8 [(0, .ref (q 28)), (1, .int l1), (2, .int l2), (3, .int l3), (4, .int l4), (5, .int l5), (6, .int l6)] → Sta KC D dA q A s.heap w H locs → Option.bind (lp (f_Count_leaders_H_L9 l1 l2 l3 w) n9 (l4, l5, l6)) (fun x9 => Option.bind (f_Count_leaders_H_x9 w x9) some) = some z → W p l e RM_f_Count_leaders_H s m args below meth c H locs 0 0 Q (F0 m 9 ls []) := by
    intro l1 l2 l3 n9
    induction n9 with
    | zero =>
      intro l4 l5 l6 H locs ls hl S h
      exact (h_lp0 h).elim
    | succ n9 ih9 =>
      have lab76 : ∀ (l4 : Int32) (l5 : Int32) (l6 : Int32) (l7 : Int32) (H : Heap) (locs : List Loc) (ls : Array Slot), lv_has ls 8 [(0, .ref (q 28)), (1, .int l1), (2, .int l2), (3, .int l3), (4, .int l4), (5, .int l5), (6, .int l6), (7, .int l7)] → Sta KC D dA q A s.heap w H locs → Option.bind (f_Count_leaders_H_b76 l1 l2 l3 l4 l5 l6 l7 w) (seqF (fun s9 => Option.bind (lp (f_Count_leaders_H_L9 l1 l2 l3 w) n9 s9) (fun x9 => Option.bind (f_Count_leaders_H_x9 w x9) some)) (fun x9 => Option.bind (f_Count_leaders_H_x9 w x9) some)) = some z → W p l e RM_f_Count_leaders_H s m args below meth c H locs 0 0 Q (F0 m 76 ls []) := by
        intro l4 l5 l6 l7 H locs ls hl S h
        unfold f_Count_leaders_H_b76 at h
        refine lv_iload hx hb dX1_leaders_76 (lv_at hl 7 rfl) ?_
        refine lv_iload hx hb dX1_leaders_78 (lv_at hl 5 rfl) ?_
        refine lv_icmp_ne (tgt := 92) hx hb dX1_leaders_80 rfl (fun c1 => ?_) (fun c1 => ?_)
        · have h := h_f c1 h
          refine lv_iinc (v := (l6 + 1)) (lv' := [(6, .int (l6 + 1)), (0, .ref (q 28)), (1, .int l1), (2, .int l2), (3, .int l3), (4, .int l4), (5, .int l5), (7, .int l7)]) hx hb dX1_leaders_92 hl (k := 6) rfl rfl (Nat.le_of_ble_eq_true rfl) rfl (fun ls hl => ?_)
          refine lv_goto (tgt := 9) hx hb dX1_leaders_95 rfl ?_
          exact ih9 l4 l5 (l6 + 1) _ _ _ (lv_sub hl [1, 2, 3, 4, 5, 6, 0] rfl) S h
        · have h := h_t c1 h
          refine lv_iload hx hb dX1_leaders_83 (lv_at hl 4 rfl) ?_
          refine lv_iconst (v := 1) hx hb dX1_leaders_85 (by decide) ?_
          refine lv_iload hx hb dX1_leaders_86 (lv_at hl 6 rfl) ?_
          refine lv_ishl hx hb dX1_leaders_88 ?_
          refine lv_ior hx hb dX1_leaders_89 ?_
          refine lv_topi (fun v2 ev2 => ?_)
          have h := h_l h v2 ev2
          refine lv_istore (lv' := [(4, .int v2), (0, .ref (q 28)), (1, .int l1), (2, .int l2), (3, .int l3), (5, .int l5), (6, .int l6), (7, .int l7)]) hx hb dX1_leaders_90 hl (Nat.le_of_ble_eq_true rfl) rfl (fun ls hl => ?_)
          refine lv_iinc (v := (l6 + 1)) (lv' := [(6, .int (l6 + 1)), (4, .int v2), (0, .ref (q 28)), (1, .int l1), (2, .int l2), (3, .int l3), (5, .int l5), (7, .int l7)]) hx hb dX1_leaders_92 hl (k := 6) rfl rfl (Nat.le_of_ble_eq_true rfl) rfl (fun ls hl => ?_)
          refine lv_goto (tgt := 9) hx hb dX1_leaders_95 rfl ?_
          exact ih9 v2 l5 (l6 + 1) _ _ _ (lv_sub hl [2, 3, 4, 5, 1, 6, 0] rfl) S h
      have lab63 : ∀ (l6 : Int32) (l7 : Int32) (H : Heap) (locs : List Loc) (ls : Array Slot), lv_has ls 8 [(0, .ref (q 28)), (1, .int l1), (2, .int l2), (3, .int l3), (6, .int l6), (7, .int l7)] → Sta KC D dA q A s.heap w H locs → Option.bind (f_Count_leaders_H_b63 l1 l2 l3 l6 l7 w) (seqF (fun s9 => Option.bind (lp (f_Count_leaders_H_L9 l1 l2 l3 w) n9 s9) (fun x9 => Option.bind (f_Count_leaders_H_x9 w x9) some)) (fun x9 => Option.bind (f_Count_leaders_H_x9 w x9) some)) = some z → W p l e RM_f_Count_leaders_H s m args below meth c H locs 0 0 Q (F0 m 63 ls []) := by
        intro l6 l7 H locs ls hl S h
        unfold f_Count_leaders_H_b63 at h
        refine lv_iconst (v := 1) hx hb dX1_leaders_63 (by decide) ?_
        refine lv_iload hx hb dX1_leaders_64 (lv_at hl 4 rfl) ?_
        refine lv_ishl hx hb dX1_leaders_66 ?_
        refine lv_topi (fun v3 ev3 => ?_)
        have h := h_l h v3 ev3
        refine lv_istore (lv' := [(4, .int v3), (0, .ref (q 28)), (1, .int l1), (2, .int l2), (3, .int l3), (6, .int l6), (7, .int l7)]) hx hb dX1_leaders_67 hl (Nat.le_of_ble_eq_true rfl) rfl (fun ls hl => ?_)
        refine lv_iload hx hb dX1_leaders_69 (lv_at hl 6 rfl) ?_
        refine lv_istore (lv' := [(5, .int l7), (4, .int v3), (0, .ref (q 28)), (1, .int l1), (2, .int l2), (3, .int l3), (6, .int l6), (7, .int l7)]) hx hb dX1_leaders_71 hl (Nat.le_of_ble_eq_true rfl) rfl (fun ls hl => ?_)
        refine lv_goto (tgt := 92) hx hb dX1_leaders_73 rfl ?_
        refine lv_iinc (v := (l6 + 1)) (lv' := [(6, .int (l6 + 1)), (5, .int l7), (4, .int v3), (0, .ref (q 28)), (1, .int l1), (2, .int l2), (3, .int l3), (7, .int l7)]) hx hb dX1_leaders_92 hl (k := 6) rfl rfl (Nat.le_of_ble_eq_true rfl) rfl (fun ls hl => ?_)
        refine lv_goto (tgt := 9) hx hb dX1_leaders_95 rfl ?_
        exact ih9 v3 l7 (l6 + 1) _ _ _ (lv_sub hl [3, 4, 5, 6, 2, 1, 0] rfl) S h
      intro l4 l5 l6 H locs ls hl S h
      have h := h_lp h
      unfold f_Count_leaders_H_L9 at h
      refine lv_iload hx hb dX1_leaders_9 (lv_at hl 6 rfl) ?_
      refine lv_bipush (v := 6) hx hb dX1_leaders_11 (by decide) ?_
      refine lv_icmp_ge (tgt := 98) hx hb dX1_leaders_13 rfl (fun c4 => ?_) (fun c4 => ?_)
      · have h := h_t c4 h
        exact lab98 l4 _ _ _ (lv_sub hl [4] rfl) S h
      · have h := h_f c4 h
        refine lv_iload_n hx hb dX1_leaders_16 rfl (lv_at hl 1 rfl) ?_
        refine lv_iload hx hb dX1_leaders_17 (lv_at hl 6 rfl) ?_
        obtain ⟨x5, ex5, h⟩ := h_c h
        refine k_i C S (q_S (rest := []) (As := [.int l1, .int l6]) lk_RX1_91 ev hx hb hml C S (c_f_Count_hasBit l D dA q l1 l6 w x5 ex5 _) rfl rfl ⟨(Nat.le_of_ble_eq_true rfl), (Nat.le_of_ble_eq_true rfl)⟩ rfl hl.1 rfl (Nat.le_of_ble_eq_true rfl) dX1_leaders_19 ⟨(Nat.le_of_ble_eq_true rfl), (Nat.le_of_ble_eq_true rfl)⟩) (fun H locs S => ?_)
        refine lv_if_ne (tgt := 28) hx hb dX1_leaders_22 rfl (fun c6 => ?_) (fun c6 => ?_)
        · have h := h_f c6 h
          refine lv_aload_n hx hb dX1_leaders_28 rfl (lv_at hl 0 rfl) ?_
          refine lv_iload_n hx hb dX1_leaders_29 rfl (lv_at hl 2 rfl) ?_
          refine lv_iload hx hb dX1_leaders_30 (lv_at hl 6 rfl) ?_
          obtain ⟨x7, ex7, h⟩ := h_c h
          refine k_i C S (q_U (rest := []) (As := [.int l2, .int l6]) lk_RX1_84_X2 (ud_lk_RX1_84_X2 C) (us_lk_RX1_84_X2 C) ev hx hb hml C S KC_28 rfl (c_f_HandCount_votesIn l D dA q l2 l6 w x7 ex7 _) rfl rfl ⟨(Nat.le_of_ble_eq_true rfl), (Nat.le_of_ble_eq_true rfl)⟩ rfl hl.1 rfl (Nat.le_of_ble_eq_true rfl) dX1_leaders_32 ⟨(Nat.le_of_ble_eq_true rfl), (Nat.le_of_ble_eq_true rfl)⟩) (fun H locs S => ?_)
          refine lv_istore (lv' := [(7, .int x7), (0, .ref (q 28)), (1, .int l1), (2, .int l2), (3, .int l3), (4, .int l4), (5, .int l5), (6, .int l6)]) hx hb dX1_leaders_35 hl (Nat.le_of_ble_eq_true rfl) rfl (fun ls hl => ?_)
          refine lv_iload hx hb dX1_leaders_37 (lv_at hl 5 rfl) ?_
          refine lv_if_eq (tgt := 63) hx hb dX1_leaders_39 rfl (fun c8 => ?_) (fun c8 => ?_)
          · have h := h_t c8 h
            exact lab63 l6 x7 _ _ _ (lv_sub hl [1, 2, 3, 4, 7, 0] rfl) S h
          · have h := h_f c8 h
            refine lv_iload_n hx hb dX1_leaders_42 rfl (lv_at hl 4 rfl) ?_
            refine lv_if_eq (tgt := 56) hx hb dX1_leaders_43 rfl (fun c9 => ?_) (fun c9 => ?_)
            · have h := h_t c9 h
              refine lv_iload hx hb dX1_leaders_56 (lv_at hl 0 rfl) ?_
              refine lv_iload hx hb dX1_leaders_58 (lv_at hl 6 rfl) ?_
              refine lv_icmp_ge (tgt := 76) hx hb dX1_leaders_60 rfl (fun c10 => ?_) (fun c10 => ?_)
              · have h := h_t c10 h
                exact lab76 l4 l5 l6 x7 _ _ _ (lv_sub hl [1, 2, 3, 4, 5, 6, 7, 0] rfl) S h
              · have h := h_f c10 h
                exact lab63 l6 x7 _ _ _ (lv_sub hl [1, 2, 3, 4, 7, 0] rfl) S h
            · have h := h_f c9 h
              refine lv_iload hx hb dX1_leaders_46 (lv_at hl 0 rfl) ?_
              refine lv_iload hx hb dX1_leaders_48 (lv_at hl 6 rfl) ?_
              refine lv_icmp_le (tgt := 76) hx hb dX1_leaders_50 rfl (fun c11 => ?_) (fun c11 => ?_)
              · have h := h_t c11 h
                exact lab76 l4 l5 l6 x7 _ _ _ (lv_sub hl [1, 2, 3, 4, 5, 6, 7, 0] rfl) S h
              · have h := h_f c11 h
                refine lv_goto (tgt := 63) hx hb dX1_leaders_53 rfl ?_
                exact lab63 l6 x7 _ _ _ (lv_sub hl [1, 2, 3, 4, 7, 0] rfl) S h
        · have h := h_t c6 h
          refine lv_goto (tgt := 92) hx hb dX1_leaders_25 rfl ?_
          refine lv_iinc (v := (l6 + 1)) (lv' := [(6, .int (l6 + 1)), (0, .ref (q 28)), (1, .int l1), (2, .int l2), (3, .int l3), (4, .int l4), (5, .int l5)]) hx hb dX1_leaders_92 hl (k := 6) rfl rfl (Nat.le_of_ble_eq_true rfl) rfl (fun ls hl => ?_)
          refine lv_goto (tgt := 9) hx hb dX1_leaders_95 rfl ?_
          exact ih9 l4 l5 (l6 + 1) _ _ _ (lv_sub hl [1, 2, 3, 4, 5, 6, 0] rfl) S h
  intro H locs ls hl S h
  have h := h_0 h
  unfold f_Count_leaders_H at h
  refine lv_iconst (v := 0) hx hb dX1_leaders_0 (by decide) ?_
  refine lv_istore (lv' := [(4, .int (0 : Int32)), (0, .ref (q 28)), (1, .int a1), (2, .int a2), (3, .int a3)]) hx hb dX1_leaders_1 hl (Nat.le_of_ble_eq_true rfl) rfl (fun ls hl => ?_)
  refine lv_iconst (v := 0) hx hb dX1_leaders_3 (by decide) ?_
  refine lv_istore (lv' := [(5, .int (0 : Int32)), (4, .int (0 : Int32)), (0, .ref (q 28)), (1, .int a1), (2, .int a2), (3, .int a3)]) hx hb dX1_leaders_4 hl (Nat.le_of_ble_eq_true rfl) rfl (fun ls hl => ?_)
  refine lv_iconst (v := 0) hx hb dX1_leaders_6 (by decide) ?_
  refine lv_istore (lv' := [(6, .int (0 : Int32)), (5, .int (0 : Int32)), (4, .int (0 : Int32)), (0, .ref (q 28)), (1, .int a1), (2, .int a2), (3, .int a3)]) hx hb dX1_leaders_7 hl (Nat.le_of_ble_eq_true rfl) rfl (fun ls hl => ?_)
  exact loop9 a1 a2 a3 FU (0 : Int32) (0 : Int32) (0 : Int32) _ _ _ (lv_sub hl [3, 4, 5, 6, 2, 1, 0] rfl) S (h_bb h)
theorem c_f_Count_leaders_H (l : Launch) (D : va_G) (dA : Nat → ClassId) (q : Nat → Nat) (a1 : Int32) (a2 : Int32) (a3 : Int32) (w : Wt) (r : Int32) (h : f_Count_leaders_H a1 a2 a3 w = some r) : Mi l EVc KC D dA q yX1_leaders cX1_leaders 8 (some .int) RM_f_Count_leaders_H [.ref (q 28), .int a1, .int a2, .int a3] w r w :=
  mk_i (by decide) rfl EVc_ok (Nat.le_of_ble_eq_true rfl) (fun p e s m args below meth c A Q ls hx hb hml C S hl fin => k_f_Count_leaders_H a1 a2 a3 w r hx hb hml C (fun H locs ls r' pc S h d => fin H locs ls r' w pc S (by rw [Option.some.inj h]) d) _ _ _ hl S h)
/-! Ballotscript$HandCount.gaveSomething(II)Z f_HandCount_gaveSomething -/
def f_HandCount_gaveSomething_b44 (w : Wt) : Option Int32 := some (0 : Int32)
def f_HandCount_gaveSomething_L2 (l1 : Int32) (l2 : Int32) (w : Wt) : Int32 → Option (Int32 ⊕ (Unit ⊕ Int32))
  | l3 => gd (inb l1 100) ((if (w 18 (l1).toNatClampNeg) ≤ l3 then some (.inr (.inl ())) else gd (inb l2 156) (Option.bind (f_Box_candidateAt l1 l3 w) fun x4 => Option.bind (f_Count_hasBit (w 31 (l2).toNatClampNeg) x4) fun x5 => (if x5 = (0 : Int32) then some (.inl (l3 + 1)) else some (.inr (.inr (1 : Int32)))))))
def f_HandCount_gaveSomething_x2 (w : Wt) : (Unit ⊕ Int32) → Option Int32
  | .inl () => f_HandCount_gaveSomething_b44 w
  | .inr t => some t
def f_HandCount_gaveSomething (a1 : Int32) (a2 : Int32) (w : Wt) : Option Int32 := Option.bind (lp (f_HandCount_gaveSomething_L2 a1 a2 w) FU (0 : Int32)) (f_HandCount_gaveSomething_x2 w)
def RM_f_HandCount_gaveSomething : Room := { frames := 1, cells := 0, slots := 0, locals := 23 }
set_option maxHeartbeats 4000000 in
set_option maxRecDepth 20000 in
theorem k_f_HandCount_gaveSomething (a1 : Int32) (a2 : Int32) (w : Wt) (z : Int32) (hx : p.tables.exec = Jvm.exec) (hb : c.code = cX2_gaveSomething) (hml : c.maxLocals = 4) (C : Cx EVc KC D dA q A s m args RX2) (fin : ∀ (H : Heap) (locs : List Loc) (ls : Array Slot) (r' : Int32) (pc : Nat) , narrow .boolean (.int r') = .int r' → Sta KC D dA q A s.heap w H locs → some r' = some z → decode cX2_gaveSomething pc = .ok (.ireturn, 1) → W p l e RM_f_HandCount_gaveSomething s m args below meth c H locs 0 0 Q (F0 m pc ls [.int r'])) : ∀ (H : Heap) (locs : List Loc) (ls : Array Slot), lv_has ls 4 [(0, .ref (q 28)), (1, .int a1), (2, .int a2)] → Sta KC D dA q A s.heap w H locs → f_HandCount_gaveSomething a1 a2 w = some z → W p l e RM_f_HandCount_gaveSomething s m args below meth c H locs 0 0 Q (F0 m 0 ls []) := by
  have ev : evOk EVc := EVc_ok
  have lab44 : ∀ (H : Heap) (locs : List Loc) (ls : Array Slot), lv_has ls 4 [] → Sta KC D dA q A s.heap w H locs → Option.bind (f_HandCount_gaveSomething_b44 w) some = some z → W p l e RM_f_HandCount_gaveSomething s m args below meth c H locs 0 0 Q (F0 m 44 ls []) := by
    intro  H locs ls hl S h
    unfold f_HandCount_gaveSomething_b44 at h
    refine lv_iconst (v := 0) hx hb dX2_gaveSomething_44 (by decide) ?_
    exact fin _ _ _ (0 : Int32) _ (by decide) S h dX2_gaveSomething_45
  have loop2 : ∀ (l1 : Int32) (l2 : Int32) (n2 : Nat), ∀ (l3 : Int32) (H : Heap) (locs : List Loc) (ls : Array Slot), lv_has ls 4 [(0, .ref (q 28)), (1, .int l1), (2, .int l2), (3, .int l3)] → Sta KC D dA q A s.heap w H locs → Option.bind (lp (f_HandCount_gaveSomething_L2 l1 l2 w) n2 l3) (fun x9 => Option.bind (f_HandCount_gaveSomething_x2 w x9) some) = some z → W p l e RM_f_HandCount_gaveSomething s m args below meth c H locs 0 0 Q (F0 m 2 ls []) := by
    intro l1 l2 n2
    induction n2 with
    | zero =>
      intro l3 H locs ls hl S h
      exact (h_lp0 h).elim
    | succ n2 ih2 =>
      intro l3 H locs ls hl S h
      have h := h_lp h
      unfold f_HandCount_gaveSomething_L2 at h
      refine lv_iload_n hx hb dX2_gaveSomething_2 rfl (lv_at hl 3 rfl) ?_
      refine lv_aload_n hx hb dX2_gaveSomething_3 rfl (lv_at hl 0 rfl) ?_
      refine g_getR fl_RX2_49_X2 hx hb C S KC_28 rfl dX2_gaveSomething_4 ?_
      refine g_getR fl_RX2_65_X0 hx hb C S KC_13 rfl dX2_gaveSomething_7 ?_
      refine lv_iload_n hx hb dX2_gaveSomething_10 rfl (lv_at hl 1 rfl) ?_
      obtain ⟨g1, h⟩ := h_gd h
      refine r_iald hx hb C S KC_18 (h_in g1) dX2_gaveSomething_11 ?_
      refine lv_icmp_ge (tgt := 44) hx hb dX2_gaveSomething_12 rfl (fun c2 => ?_) (fun c2 => ?_)
      · have h := h_t c2 h
        exact lab44  _ _ _ (lv_sub hl [] rfl) S h
      · have h := h_f c2 h
        refine lv_aload_n hx hb dX2_gaveSomething_15 rfl (lv_at hl 0 rfl) ?_
        refine g_getR fl_RX2_15_X2 hx hb C S KC_28 rfl dX2_gaveSomething_16 ?_
        refine lv_iload_n hx hb dX2_gaveSomething_19 rfl (lv_at hl 2 rfl) ?_
        obtain ⟨g3, h⟩ := h_gd h
        refine r_iald hx hb C S KC_31 (h_in g3) dX2_gaveSomething_20 ?_
        refine lv_aload_n hx hb dX2_gaveSomething_21 rfl (lv_at hl 0 rfl) ?_
        refine g_getR fl_RX2_49_X2 hx hb C S KC_28 rfl dX2_gaveSomething_22 ?_
        refine lv_iload_n hx hb dX2_gaveSomething_25 rfl (lv_at hl 1 rfl) ?_
        refine lv_iload_n hx hb dX2_gaveSomething_26 rfl (lv_at hl 3 rfl) ?_
        obtain ⟨x4, ex4, h⟩ := h_c h
        refine k_i C S (q_V (rest := [.int (w 31 (l2).toNatClampNeg)]) (As := [.int l1, .int l3]) lk_RX2_68 ev hx hb hml C S KC_13 rfl (c_f_Box_candidateAt l D dA q l1 l3 w x4 ex4 _) rfl rfl ⟨(Nat.le_of_ble_eq_true rfl), (Nat.le_of_ble_eq_true rfl)⟩ rfl hl.1 rfl (Nat.le_of_ble_eq_true rfl) dX2_gaveSomething_27 ⟨(Nat.le_of_ble_eq_true rfl), (Nat.le_of_ble_eq_true rfl)⟩) (fun H locs S => ?_)
        obtain ⟨x5, ex5, h⟩ := h_c h
        refine k_i C S (q_SU (rest := []) (As := [.int (w 31 (l2).toNatClampNeg), .int x4]) lk_RX2_72 ev hx hb hml C S (c_f_Count_hasBit l D dA q (w 31 (l2).toNatClampNeg) x4 w x5 ex5 _) rfl rfl ⟨(Nat.le_of_ble_eq_true rfl), (Nat.le_of_ble_eq_true rfl)⟩ rfl hl.1 rfl (Nat.le_of_ble_eq_true rfl) dX2_gaveSomething_30 ⟨(Nat.le_of_ble_eq_true rfl), (Nat.le_of_ble_eq_true rfl)⟩) (fun H locs S => ?_)
        refine lv_if_eq (tgt := 38) hx hb dX2_gaveSomething_33 rfl (fun c6 => ?_) (fun c6 => ?_)
        · have h := h_t c6 h
          refine lv_iinc (v := (l3 + 1)) (lv' := [(3, .int (l3 + 1)), (0, .ref (q 28)), (1, .int l1), (2, .int l2)]) hx hb dX2_gaveSomething_38 hl (k := 3) rfl rfl (Nat.le_of_ble_eq_true rfl) rfl (fun ls hl => ?_)
          refine lv_goto (tgt := 2) hx hb dX2_gaveSomething_41 rfl ?_
          exact ih2 (l3 + 1) _ _ _ (lv_sub hl [1, 2, 3, 0] rfl) S h
        · have h := h_f c6 h
          refine lv_iconst (v := 1) hx hb dX2_gaveSomething_36 (by decide) ?_
          exact fin _ _ _ (1 : Int32) _ (by decide) S h dX2_gaveSomething_37
  intro H locs ls hl S h
  have h := h_0 h
  unfold f_HandCount_gaveSomething at h
  refine lv_iconst (v := 0) hx hb dX2_gaveSomething_0 (by decide) ?_
  refine lv_istore_n (lv' := [(3, .int (0 : Int32)), (0, .ref (q 28)), (1, .int a1), (2, .int a2)]) hx hb dX2_gaveSomething_1 rfl hl (Nat.le_of_ble_eq_true rfl) rfl (fun ls hl => ?_)
  exact loop2 a1 a2 FU (0 : Int32) _ _ _ (lv_sub hl [1, 2, 3, 0] rfl) S (h_bb h)
theorem c_f_HandCount_gaveSomething (l : Launch) (D : va_G) (dA : Nat → ClassId) (q : Nat → Nat) (a1 : Int32) (a2 : Int32) (w : Wt) (r : Int32) (h : f_HandCount_gaveSomething a1 a2 w = some r) : Mi l EVc KC D dA q yX2_gaveSomething cX2_gaveSomething 4 (some .boolean) RM_f_HandCount_gaveSomething [.ref (q 28), .int a1, .int a2] w r w :=
  mk_z (by decide) rfl EVc_ok (Nat.le_of_ble_eq_true rfl) (fun p e s m args below meth c A Q ls hx hb hml C S hl fin => k_f_HandCount_gaveSomething a1 a2 w r hx hb hml C (fun H locs ls r' pc hn S h d => fin H locs ls r' w pc hn S (by rw [Option.some.inj h]) d) _ _ _ hl S h)
/-! Ballotscript$HandCount.weightOf(I)I f_HandCount_weightOf -/
def f_HandCount_weightOf_b47 (l2 : Int32) (w : Wt) : Option Int32 := some l2
def f_HandCount_weightOf_L10 (l1 : Int32) (w : Wt) : (Int32 × Int32) → Option ((Int32 × Int32) ⊕ Int32)
  | (l2, l3) => (if (w 13 10) ≤ l3 then some (.inr l2) else gd (inb l3 100) (Option.bind (f_HandCount_gaveSomething (w 21 (l3).toNatClampNeg) l1 w) fun x3 => (if x3 = (0 : Int32) then some (.inl (l2, (l3 + 1))) else some (.inl ((l2 + 1), (l3 + 1))))))
def f_HandCount_weightOf_x10 (w : Wt) : Int32 → Option Int32
  | l2 => f_HandCount_weightOf_b47 l2 w
def f_HandCount_weightOf (a1 : Int32) (w : Wt) : Option Int32 := (if (0 : Int32) ≤ a1 then Option.bind (lp (f_HandCount_weightOf_L10 a1 w) FU ((0 : Int32), (0 : Int32))) (f_HandCount_weightOf_x10 w) else some (0 : Int32))
def RM_f_HandCount_weightOf : Room := { frames := 2, cells := 0, slots := 0, locals := 46 }
set_option maxHeartbeats 4000000 in
set_option maxRecDepth 20000 in
theorem k_f_HandCount_weightOf (a1 : Int32) (w : Wt) (z : Int32) (hx : p.tables.exec = Jvm.exec) (hb : c.code = cX2_weightOf) (hml : c.maxLocals = 4) (C : Cx EVc KC D dA q A s m args RX2) (fin : ∀ (H : Heap) (locs : List Loc) (ls : Array Slot) (r' : Int32) (pc : Nat) , Sta KC D dA q A s.heap w H locs → some r' = some z → decode cX2_weightOf pc = .ok (.ireturn, 1) → W p l e RM_f_HandCount_weightOf s m args below meth c H locs 0 0 Q (F0 m pc ls [.int r'])) : ∀ (H : Heap) (locs : List Loc) (ls : Array Slot), lv_has ls 4 [(0, .ref (q 28)), (1, .int a1)] → Sta KC D dA q A s.heap w H locs → f_HandCount_weightOf a1 w = some z → W p l e RM_f_HandCount_weightOf s m args below meth c H locs 0 0 Q (F0 m 0 ls []) := by
  have ev : evOk EVc := EVc_ok
  have lab47 : ∀ (l2 : Int32) (H : Heap) (locs : List Loc) (ls : Array Slot), lv_has ls 4 [(2, .int l2)] → Sta KC D dA q A s.heap w H locs → Option.bind (f_HandCount_weightOf_b47 l2 w) some = some z → W p l e RM_f_HandCount_weightOf s m args below meth c H locs 0 0 Q (F0 m 47 ls []) := by
    intro l2 H locs ls hl S h
    unfold f_HandCount_weightOf_b47 at h
    refine lv_iload_n hx hb dX2_weightOf_47 rfl (lv_at hl 0 rfl) ?_
    exact fin _ _ _ l2 _ S h dX2_weightOf_48
  have loop10 : ∀ (l1 : Int32) (n10 : Nat), ∀ (l2 : Int32) (l3 : Int32) (H : Heap) (locs : List Loc) (ls : Array Slot), lv_has ls 4 [(0, .ref (q 28)), (1, .int l1), (2, .int l2), (3, .int l3)] → Sta KC D dA q A s.heap w H locs → Option.bind (lp (f_HandCount_weightOf_L10 l1 w) n10 (l2, l3)) (fun x9 => Option.bind (f_HandCount_weightOf_x10 w x9) some) = some z → W p l e RM_f_HandCount_weightOf s m args below meth c H locs 0 0 Q (F0 m 10 ls []) := by
    intro l1 n10
    induction n10 with
    | zero =>
      intro l2 l3 H locs ls hl S h
      exact (h_lp0 h).elim
    | succ n10 ih10 =>
      intro l2 l3 H locs ls hl S h
      have h := h_lp h
      unfold f_HandCount_weightOf_L10 at h
      refine lv_iload_n hx hb dX2_weightOf_10 rfl (lv_at hl 3 rfl) ?_
      refine lv_aload_n hx hb dX2_weightOf_11 rfl (lv_at hl 0 rfl) ?_
      refine g_getR fl_RX2_49_X2 hx hb C S KC_28 rfl dX2_weightOf_12 ?_
      refine g_get fl_RX2_53_X0 hx hb C S KC_13 rfl dX2_weightOf_15 ?_
      refine lv_icmp_ge (tgt := 47) hx hb dX2_weightOf_18 rfl (fun c1 => ?_) (fun c1 => ?_)
      · have h := h_t c1 h
        exact lab47 l2 _ _ _ (lv_sub hl [2] rfl) S h
      · have h := h_f c1 h
        refine lv_aload_n hx hb dX2_weightOf_21 rfl (lv_at hl 0 rfl) ?_
        refine lv_aload_n hx hb dX2_weightOf_22 rfl (lv_at hl 0 rfl) ?_
        refine g_getR fl_RX2_49_X2 hx hb C S KC_28 rfl dX2_weightOf_23 ?_
        refine g_getR fl_RX2_58_X0 hx hb C S KC_13 rfl dX2_weightOf_26 ?_
        refine lv_iload_n hx hb dX2_weightOf_29 rfl (lv_at hl 3 rfl) ?_
        obtain ⟨g2, h⟩ := h_gd h
        refine r_iald hx hb C S KC_21 (h_in g2) dX2_weightOf_30 ?_
        refine lv_iload_n hx hb dX2_weightOf_31 rfl (lv_at hl 1 rfl) ?_
        obtain ⟨x3, ex3, h⟩ := h_c h
        refine k_i C S (q_V (rest := []) (As := [.int (w 21 (l3).toNatClampNeg), .int l1]) lk_RX2_82 ev hx hb hml C S KC_28 rfl (c_f_HandCount_gaveSomething l D dA q (w 21 (l3).toNatClampNeg) l1 w x3 ex3 _) rfl rfl ⟨(Nat.le_of_ble_eq_true rfl), (Nat.le_of_ble_eq_true rfl)⟩ rfl hl.1 rfl (Nat.le_of_ble_eq_true rfl) dX2_weightOf_32 ⟨(Nat.le_of_ble_eq_true rfl), (Nat.le_of_ble_eq_true rfl)⟩) (fun H locs S => ?_)
        refine lv_if_eq (tgt := 41) hx hb dX2_weightOf_35 rfl (fun c4 => ?_) (fun c4 => ?_)
        · have h := h_t c4 h
          refine lv_iinc (v := (l3 + 1)) (lv' := [(3, .int (l3 + 1)), (0, .ref (q 28)), (1, .int l1), (2, .int l2)]) hx hb dX2_weightOf_41 hl (k := 3) rfl rfl (Nat.le_of_ble_eq_true rfl) rfl (fun ls hl => ?_)
          refine lv_goto (tgt := 10) hx hb dX2_weightOf_44 rfl ?_
          exact ih10 l2 (l3 + 1) _ _ _ (lv_sub hl [1, 2, 3, 0] rfl) S h
        · have h := h_f c4 h
          refine lv_iinc (v := (l2 + 1)) (lv' := [(2, .int (l2 + 1)), (0, .ref (q 28)), (1, .int l1), (3, .int l3)]) hx hb dX2_weightOf_38 hl (k := 2) rfl rfl (Nat.le_of_ble_eq_true rfl) rfl (fun ls hl => ?_)
          refine lv_iinc (v := (l3 + 1)) (lv' := [(3, .int (l3 + 1)), (2, .int (l2 + 1)), (0, .ref (q 28)), (1, .int l1)]) hx hb dX2_weightOf_41 hl (k := 3) rfl rfl (Nat.le_of_ble_eq_true rfl) rfl (fun ls hl => ?_)
          refine lv_goto (tgt := 10) hx hb dX2_weightOf_44 rfl ?_
          exact ih10 (l2 + 1) (l3 + 1) _ _ _ (lv_sub hl [2, 3, 1, 0] rfl) S h
  intro H locs ls hl S h
  have h := h_0 h
  unfold f_HandCount_weightOf at h
  refine lv_iload_n hx hb dX2_weightOf_0 rfl (lv_at hl 1 rfl) ?_
  refine lv_if_ge (tgt := 6) hx hb dX2_weightOf_1 rfl (fun c5 => ?_) (fun c5 => ?_)
  · have h := h_t c5 h
    refine lv_iconst (v := 0) hx hb dX2_weightOf_6 (by decide) ?_
    refine lv_istore_n (lv' := [(2, .int (0 : Int32)), (0, .ref (q 28)), (1, .int a1)]) hx hb dX2_weightOf_7 rfl hl (Nat.le_of_ble_eq_true rfl) rfl (fun ls hl => ?_)
    refine lv_iconst (v := 0) hx hb dX2_weightOf_8 (by decide) ?_
    refine lv_istore_n (lv' := [(3, .int (0 : Int32)), (2, .int (0 : Int32)), (0, .ref (q 28)), (1, .int a1)]) hx hb dX2_weightOf_9 rfl hl (Nat.le_of_ble_eq_true rfl) rfl (fun ls hl => ?_)
    exact loop10 a1 FU (0 : Int32) (0 : Int32) _ _ _ (lv_sub hl [2, 3, 1, 0] rfl) S (h_bb h)
  · have h := h_f c5 h
    refine lv_iconst (v := 0) hx hb dX2_weightOf_4 (by decide) ?_
    exact fin _ _ _ (0 : Int32) _ S h dX2_weightOf_5
theorem c_f_HandCount_weightOf (l : Launch) (D : va_G) (dA : Nat → ClassId) (q : Nat → Nat) (a1 : Int32) (w : Wt) (r : Int32) (h : f_HandCount_weightOf a1 w = some r) : Mi l EVc KC D dA q yX2_weightOf cX2_weightOf 4 (some .int) RM_f_HandCount_weightOf [.ref (q 28), .int a1] w r w :=
  mk_i (by decide) rfl EVc_ok (Nat.le_of_ble_eq_true rfl) (fun p e s m args below meth c A Q ls hx hb hml C S hl fin => k_f_HandCount_weightOf a1 w r hx hb hml C (fun H locs ls r' pc S h d => fin H locs ls r' w pc S (by rw [Option.some.inj h]) d) _ _ _ hl S h)
/-! Ballotscript$Count.maySomeGo(CII)Z f_Count_maySomeGo_H -/
def f_Count_maySomeGo_H_b74 (l3 : Int32) (w : Wt) : Option Int32 := (if l3 = (0 : Int32) then some (0 : Int32) else some (1 : Int32))
def f_Count_maySomeGo_H (a1 : Int32) (a2 : Int32) (a3 : Int32) (w : Wt) : Option Int32 := (if a1 = (120 : Int32) then Option.bind (f_Integer_bitCount (w 28 5)) fun x10 => (if x10 ≤ (w 28 4) then some (0 : Int32) else some (1 : Int32)) else (if a1 = (101 : Int32) then (if a3 = (0 : Int32) then f_Count_maySomeGo_H_b74 a3 w else nmd ((w 28 3) - (1 : Int32)) fun v5 => Option.bind (f_Count_lowest a3) fun x6 => Option.bind (f_HandCount_votesIn v5 x6 w) fun x7 => Option.bind (f_HandCount_weightOf v5 w) fun x8 => (if ((100 : Int32) * x7) ≤ (a2 * x8) then some (0 : Int32) else some (1 : Int32))) else f_Count_maySomeGo_H_b74 a3 w))
def RM_f_Count_maySomeGo_H : Room := { frames := 3, cells := 0, slots := 0, locals := 73 }
set_option maxHeartbeats 4000000 in
set_option maxRecDepth 20000 in
theorem k_f_Count_maySomeGo_H (a1 : Int32) (a2 : Int32) (a3 : Int32) (w : Wt) (z : Int32) (hx : p.tables.exec = Jvm.exec) (hb : c.code = cX1_maySomeGo) (hml : c.maxLocals = 5) (C : Cx EVc KC D dA q A s m args RX1) (fin : ∀ (H : Heap) (locs : List Loc) (ls : Array Slot) (r' : Int32) (pc : Nat) , narrow .boolean (.int r') = .int r' → Sta KC D dA q A s.heap w H locs → some r' = some z → decode cX1_maySomeGo pc = .ok (.ireturn, 1) → W p l e RM_f_Count_maySomeGo_H s m args below meth c H locs 0 0 Q (F0 m pc ls [.int r'])) : ∀ (H : Heap) (locs : List Loc) (ls : Array Slot), lv_has ls 5 [(0, .ref (q 28)), (1, .int a1), (2, .int a2), (3, .int a3)] → Sta KC D dA q A s.heap w H locs → f_Count_maySomeGo_H a1 a2 a3 w = some z → W p l e RM_f_Count_maySomeGo_H s m args below meth c H locs 0 0 Q (F0 m 0 ls []) := by
  have ev : evOk EVc := EVc_ok
  have lab74 : ∀ (l3 : Int32) (H : Heap) (locs : List Loc) (ls : Array Slot), lv_has ls 5 [(3, .int l3)] → Sta KC D dA q A s.heap w H locs → Option.bind (f_Count_maySomeGo_H_b74 l3 w) some = some z → W p l e RM_f_Count_maySomeGo_H s m args below meth c H locs 0 0 Q (F0 m 74 ls []) := by
    intro l3 H locs ls hl S h
    unfold f_Count_maySomeGo_H_b74 at h
    refine lv_iload_n hx hb dX1_maySomeGo_74 rfl (lv_at hl 0 rfl) ?_
    refine lv_if_eq (tgt := 82) hx hb dX1_maySomeGo_75 rfl (fun c1 => ?_) (fun c1 => ?_)
    · have h := h_t c1 h
      refine lv_iconst (v := 0) hx hb dX1_maySomeGo_82 (by decide) ?_
      exact fin _ _ _ (0 : Int32) _ (by decide) S h dX1_maySomeGo_83
    · have h := h_f c1 h
      refine lv_iconst (v := 1) hx hb dX1_maySomeGo_78 (by decide) ?_
      refine lv_goto (tgt := 83) hx hb dX1_maySomeGo_79 rfl ?_
      exact fin _ _ _ (1 : Int32) _ (by decide) S h dX1_maySomeGo_83
  intro H locs ls hl S h
  have h := h_0 h
  unfold f_Count_maySomeGo_H at h
  refine lv_iload_n hx hb dX1_maySomeGo_0 rfl (lv_at hl 1 rfl) ?_
  refine lv_bipush (v := 120) hx hb dX1_maySomeGo_1 (by decide) ?_
  refine lv_icmp_ne (tgt := 26) hx hb dX1_maySomeGo_3 rfl (fun c2 => ?_) (fun c2 => ?_)
  · have h := h_f c2 h
    refine lv_iload_n hx hb dX1_maySomeGo_26 rfl (lv_at hl 1 rfl) ?_
    refine lv_bipush (v := 101) hx hb dX1_maySomeGo_27 (by decide) ?_
    refine lv_icmp_ne (tgt := 74) hx hb dX1_maySomeGo_29 rfl (fun c3 => ?_) (fun c3 => ?_)
    · have h := h_f c3 h
      exact lab74 a3 _ _ _ (lv_sub hl [3] rfl) S h
    · have h := h_t c3 h
      refine lv_iload_n hx hb dX1_maySomeGo_32 rfl (lv_at hl 3 rfl) ?_
      refine lv_if_eq (tgt := 74) hx hb dX1_maySomeGo_33 rfl (fun c4 => ?_) (fun c4 => ?_)
      · have h := h_t c4 h
        exact lab74 a3 _ _ _ (lv_sub hl [3] rfl) S h
      · have h := h_f c4 h
        refine lv_aload_n hx hb dX1_maySomeGo_36 rfl (lv_at hl 0 rfl) ?_
        refine g_get fl_RX1_23_X2 hx hb C S KC_28 rfl dX1_maySomeGo_37 ?_
        refine lv_iconst (v := 1) hx hb dX1_maySomeGo_40 (by decide) ?_
        refine lv_isub hx hb dX1_maySomeGo_41 ?_
        refine lv_topi (fun v5 ev5 => ?_)
        have h := h_l h v5 ev5
        refine lv_istore (lv' := [(4, .int v5), (0, .ref (q 28)), (1, .int a1), (2, .int a2), (3, .int a3)]) hx hb dX1_maySomeGo_42 hl (Nat.le_of_ble_eq_true rfl) rfl (fun ls hl => ?_)
        refine lv_bipush (v := 100) hx hb dX1_maySomeGo_44 (by decide) ?_
        refine lv_aload_n hx hb dX1_maySomeGo_46 rfl (lv_at hl 1 rfl) ?_
        refine lv_iload hx hb dX1_maySomeGo_47 (lv_at hl 0 rfl) ?_
        refine lv_iload_n hx hb dX1_maySomeGo_49 rfl (lv_at hl 4 rfl) ?_
        obtain ⟨x6, ex6, h⟩ := h_c h
        refine k_i C S (q_S (rest := [.int v5, .ref (q 28), .int (100 : Int32)]) (As := [.int a3]) lk_RX1_77 ev hx hb hml C S (c_f_Count_lowest l D dA q a3 w x6 ex6 _) rfl rfl ⟨(Nat.le_of_ble_eq_true rfl), (Nat.le_of_ble_eq_true rfl)⟩ rfl hl.1 rfl (Nat.le_of_ble_eq_true rfl) dX1_maySomeGo_50 ⟨(Nat.le_of_ble_eq_true rfl), (Nat.le_of_ble_eq_true rfl)⟩) (fun H locs S => ?_)
        obtain ⟨x7, ex7, h⟩ := h_c h
        refine k_i C S (q_U (rest := [.int (100 : Int32)]) (As := [.int v5, .int x6]) lk_RX1_84_X2 (ud_lk_RX1_84_X2 C) (us_lk_RX1_84_X2 C) ev hx hb hml C S KC_28 rfl (c_f_HandCount_votesIn l D dA q v5 x6 w x7 ex7 _) rfl rfl ⟨(Nat.le_of_ble_eq_true rfl), (Nat.le_of_ble_eq_true rfl)⟩ rfl hl.1 rfl (Nat.le_of_ble_eq_true rfl) dX1_maySomeGo_53 ⟨(Nat.le_of_ble_eq_true rfl), (Nat.le_of_ble_eq_true rfl)⟩) (fun H locs S => ?_)
        refine lv_imul hx hb dX1_maySomeGo_56 ?_
        refine lv_iload_n hx hb dX1_maySomeGo_57 rfl (lv_at hl 3 rfl) ?_
        refine lv_aload_n hx hb dX1_maySomeGo_58 rfl (lv_at hl 1 rfl) ?_
        refine lv_iload hx hb dX1_maySomeGo_59 (lv_at hl 0 rfl) ?_
        obtain ⟨x8, ex8, h⟩ := h_c h
        refine k_i C S (q_U (rest := [.int a2, .int ((100 : Int32) * x7)]) (As := [.int v5]) lk_RX1_88_X2 (ud_lk_RX1_88_X2 C) (us_lk_RX1_88_X2 C) ev hx hb hml C S KC_28 rfl (c_f_HandCount_weightOf l D dA q v5 w x8 ex8 _) rfl rfl ⟨(Nat.le_of_ble_eq_true rfl), (Nat.le_of_ble_eq_true rfl)⟩ rfl hl.1 rfl (Nat.le_of_ble_eq_true rfl) dX1_maySomeGo_61 ⟨(Nat.le_of_ble_eq_true rfl), (Nat.le_of_ble_eq_true rfl)⟩) (fun H locs S => ?_)
        refine lv_imul hx hb dX1_maySomeGo_64 ?_
        refine lv_icmp_le (tgt := 72) hx hb dX1_maySomeGo_65 rfl (fun c9 => ?_) (fun c9 => ?_)
        · have h := h_t c9 h
          refine lv_iconst (v := 0) hx hb dX1_maySomeGo_72 (by decide) ?_
          exact fin _ _ _ (0 : Int32) _ (by decide) S h dX1_maySomeGo_73
        · have h := h_f c9 h
          refine lv_iconst (v := 1) hx hb dX1_maySomeGo_68 (by decide) ?_
          refine lv_goto (tgt := 73) hx hb dX1_maySomeGo_69 rfl ?_
          exact fin _ _ _ (1 : Int32) _ (by decide) S h dX1_maySomeGo_73
  · have h := h_t c2 h
    refine lv_aload_n hx hb dX1_maySomeGo_6 rfl (lv_at hl 0 rfl) ?_
    refine g_get fl_RX1_29_X2 hx hb C S KC_28 rfl dX1_maySomeGo_7 ?_
    obtain ⟨x10, ex10, h⟩ := h_c h
    refine k_i C S (q_S (rest := []) (As := [.int (w 28 5)]) lk_RX1_69 ev hx hb hml C S (c_f_Integer_bitCount l D dA q (w 28 5) w x10 ex10 _) rfl rfl ⟨(Nat.le_of_ble_eq_true rfl), (Nat.le_of_ble_eq_true rfl)⟩ rfl hl.1 rfl (Nat.le_of_ble_eq_true rfl) dX1_maySomeGo_10 ⟨(Nat.le_of_ble_eq_true rfl), (Nat.le_of_ble_eq_true rfl)⟩) (fun H locs S => ?_)
    refine lv_aload_n hx hb dX1_maySomeGo_13 rfl (lv_at hl 0 rfl) ?_
    refine g_get fl_RX1_26_X2 hx hb C S KC_28 rfl dX1_maySomeGo_14 ?_
    refine lv_icmp_le (tgt := 24) hx hb dX1_maySomeGo_17 rfl (fun c11 => ?_) (fun c11 => ?_)
    · have h := h_t c11 h
      refine lv_iconst (v := 0) hx hb dX1_maySomeGo_24 (by decide) ?_
      exact fin _ _ _ (0 : Int32) _ (by decide) S h dX1_maySomeGo_25
    · have h := h_f c11 h
      refine lv_iconst (v := 1) hx hb dX1_maySomeGo_20 (by decide) ?_
      refine lv_goto (tgt := 25) hx hb dX1_maySomeGo_21 rfl ?_
      exact fin _ _ _ (1 : Int32) _ (by decide) S h dX1_maySomeGo_25
theorem c_f_Count_maySomeGo_H (l : Launch) (D : va_G) (dA : Nat → ClassId) (q : Nat → Nat) (a1 : Int32) (a2 : Int32) (a3 : Int32) (w : Wt) (r : Int32) (h : f_Count_maySomeGo_H a1 a2 a3 w = some r) : Mi l EVc KC D dA q yX1_maySomeGo cX1_maySomeGo 5 (some .boolean) RM_f_Count_maySomeGo_H [.ref (q 28), .int a1, .int a2, .int a3] w r w :=
  mk_z (by decide) rfl EVc_ok (Nat.le_of_ble_eq_true rfl) (fun p e s m args below meth c A Q ls hx hb hml C S hl fin => k_f_Count_maySomeGo_H a1 a2 a3 w r hx hb hml C (fun H locs ls r' pc hn S h d => fin H locs ls r' w pc hn S (by rw [Option.some.inj h]) d) _ _ _ hl S h)
/-! Ballotscript$Count.keepTie(I)V f_Count_keepTie_H -/
def f_Count_keepTie_H (a1 : Int32) (w : Wt) : Option Wt := Option.bind (f_Integer_bitCount a1) fun x1 => (if x1 ≤ (1 : Int32) then some w else (if (6 : Int32) ≤ (w 28 2) then some w else gd (inb (w 28 2) 6) (nmd (upd2 w 29 ((w 28 2)).toNatClampNeg a1) fun w5 => nmd (upd2 w5 28 2 ((w5 28 2) + (1 : Int32))) fun w6 => some w6)))
def RM_f_Count_keepTie_H : Room := { frames := 1, cells := 0, slots := 0, locals := 20 }
set_option maxHeartbeats 4000000 in
set_option maxRecDepth 20000 in
theorem k_f_Count_keepTie_H (a1 : Int32) (w : Wt) (z : Wt) (hx : p.tables.exec = Jvm.exec) (hb : c.code = cX1_keepTie) (hml : c.maxLocals = 2) (C : Cx EVc KC D dA q A s m args RX1) (fin : ∀ (H : Heap) (locs : List Loc) (ls : Array Slot) (w2 : Wt) (pc : Nat) , Sta KC D dA q A s.heap w2 H locs → some w2 = some z → decode cX1_keepTie pc = .ok (.return_, 1) → W p l e RM_f_Count_keepTie_H s m args below meth c H locs 0 0 Q (F0 m pc ls [])) : ∀ (H : Heap) (locs : List Loc) (ls : Array Slot), lv_has ls 2 [(0, .ref (q 28)), (1, .int a1)] → Sta KC D dA q A s.heap w H locs → f_Count_keepTie_H a1 w = some z → W p l e RM_f_Count_keepTie_H s m args below meth c H locs 0 0 Q (F0 m 0 ls []) := by
  have ev : evOk EVc := EVc_ok
  intro H locs ls hl S h
  have h := h_0 h
  unfold f_Count_keepTie_H at h
  refine lv_iload_n hx hb dX1_keepTie_0 rfl (lv_at hl 1 rfl) ?_
  obtain ⟨x1, ex1, h⟩ := h_c h
  refine k_i C S (q_S (rest := []) (As := [.int a1]) lk_RX1_69 ev hx hb hml C S (c_f_Integer_bitCount l D dA q a1 w x1 ex1 _) rfl rfl ⟨(Nat.le_of_ble_eq_true rfl), (Nat.le_of_ble_eq_true rfl)⟩ rfl hl.1 rfl (Nat.le_of_ble_eq_true rfl) dX1_keepTie_1 ⟨(Nat.le_of_ble_eq_true rfl), (Nat.le_of_ble_eq_true rfl)⟩) (fun H locs S => ?_)
  refine lv_iconst (v := 1) hx hb dX1_keepTie_4 (by decide) ?_
  refine lv_icmp_le (tgt := 37) hx hb dX1_keepTie_5 rfl (fun c2 => ?_) (fun c2 => ?_)
  · have h := h_t c2 h
    exact fin _ _ _ w _ S h dX1_keepTie_37
  · have h := h_f c2 h
    refine lv_aload_n hx hb dX1_keepTie_8 rfl (lv_at hl 0 rfl) ?_
    refine g_get fl_RX1_19_X2 hx hb C S KC_28 rfl dX1_keepTie_9 ?_
    refine lv_bipush (v := 6) hx hb dX1_keepTie_12 (by decide) ?_
    refine lv_icmp_ge (tgt := 37) hx hb dX1_keepTie_14 rfl (fun c3 => ?_) (fun c3 => ?_)
    · have h := h_t c3 h
      exact fin _ _ _ w _ S h dX1_keepTie_37
    · have h := h_f c3 h
      refine lv_aload_n hx hb dX1_keepTie_17 rfl (lv_at hl 0 rfl) ?_
      refine g_getR fl_RX1_9_X2 hx hb C S KC_28 rfl dX1_keepTie_18 ?_
      refine lv_aload_n hx hb dX1_keepTie_21 rfl (lv_at hl 0 rfl) ?_
      refine g_get fl_RX1_19_X2 hx hb C S KC_28 rfl dX1_keepTie_22 ?_
      refine lv_iload_n hx hb dX1_keepTie_25 rfl (lv_at hl 1 rfl) ?_
      obtain ⟨g4, h⟩ := h_gd h
      refine r_iast hx hb C S KC_29 (h_in g4) dX1_keepTie_26 (fun w5 ew5 H locs S => ?_)
      have h := h_l h w5 ew5
      refine lv_aload_n hx hb dX1_keepTie_27 rfl (lv_at hl 0 rfl) ?_
      refine lv_dup hx hb dX1_keepTie_28 rfl ?_
      refine g_get fl_RX1_19_X2 hx hb C S KC_28 rfl dX1_keepTie_29 ?_
      refine lv_iconst (v := 1) hx hb dX1_keepTie_32 (by decide) ?_
      refine lv_iadd hx hb dX1_keepTie_33 ?_
      refine g_put fl_RX1_19_X2 pl_X2_2 hx hb C S KC_28 rfl ⟨rfl, rfl⟩ dX1_keepTie_34 (fun w6 ew6 H locs S => ?_)
      have h := h_l h w6 ew6
      exact fin _ _ _ w6 _ S h dX1_keepTie_37
theorem c_f_Count_keepTie_H (l : Launch) (D : va_G) (dA : Nat → ClassId) (q : Nat → Nat) (a1 : Int32) (w w' : Wt) (h : f_Count_keepTie_H a1 w = some w') : Mv l EVc KC D dA q yX1_keepTie cX1_keepTie 2 none RM_f_Count_keepTie_H [.ref (q 28), .int a1] w w' :=
  mk_v (by decide) rfl EVc_ok (Nat.le_of_ble_eq_true rfl) (fun p e s m args below meth c A Q ls hx hb hml C S hl fin => k_f_Count_keepTie_H a1 w w' hx hb hml C (fun H locs ls w2 pc S h d => fin H locs ls w2 pc S h d) _ _ _ hl S h)
/-! Ballotscript$Count.letGo(CI)V f_Count_letGo_H -/
def f_Count_letGo_H_b175 (w : Wt) : Option Wt := some w
def f_Count_letGo_H_b165 (l1 : Int32) (l2 : Int32) (l3 : Int32) (l4 : Int32) (l5 : Int32) (l6 : Int32) (t0 : Int32) (w : Wt) : Option ((Int32 × Wt) ⊕ (Wt ⊕ Wt)) := Option.bind (f_Count_remove_H t0 l3 w) fun x1 => some (.inl ((l6 + 1), x1))
def f_Count_letGo_H_b142 (l1 : Int32) (l2 : Int32) (l3 : Int32) (l4 : Int32) (l5 : Int32) (l6 : Int32) (l7 : Int32) (w : Wt) : Option ((Int32 × Wt) ⊕ (Wt ⊕ Wt)) := (if (w 28 7) = (104 : Int32) then Option.bind (f_Count_highest l7) fun x4 => f_Count_letGo_H_b165 l1 l2 l3 l4 l5 l6 x4 w else Option.bind (f_Count_lowest l7) fun x3 => f_Count_letGo_H_b165 l1 l2 l3 l4 l5 l6 x3 w)
def f_Count_letGo_H_L111 (l1 : Int32) (l2 : Int32) (l3 : Int32) (l4 : Int32) (l5 : Int32) (l6 : Int32) (w : Wt) : (Int32 × Int32) → Option ((Int32 × Int32) ⊕ Int32)
  | (l7, l9) => (if l9 < (0 : Int32) then some (.inr l7) else Option.bind (f_Integer_bitCount l7) fun x6 => (if x6 ≤ (1 : Int32) then some (.inr l7) else Option.bind (f_Count_leaders_H l7 l9 l3 w) fun x8 => some (.inl (x8, (l9 + (-1))))))
def f_Count_letGo_H_x111 (l1 : Int32) (l2 : Int32) (l3 : Int32) (l4 : Int32) (l5 : Int32) (l6 : Int32) (w : Wt) : Int32 → Option ((Int32 × Wt) ⊕ (Wt ⊕ Wt))
  | l7 => f_Count_letGo_H_b142 l1 l2 l3 l4 l5 l6 l7 w
def f_Count_letGo_H_b105 (l1 : Int32) (l2 : Int32) (l3 : Int32) (l4 : Int32) (l5 : Int32) (l6 : Int32) (l7 : Int32) (t0 : Int32) (w : Wt) : Option ((Int32 × Wt) ⊕ (Wt ⊕ Wt)) := Option.bind (lp (f_Count_letGo_H_L111 l1 l2 l3 l4 l5 l6 w) FU (l7, t0)) (f_Count_letGo_H_x111 l1 l2 l3 l4 l5 l6 w)
def f_Count_letGo_H_L43 (l1 : Int32) (l2 : Int32) (l3 : Int32) (l4 : Int32) (l5 : Int32) : (Int32 × Wt) → Option ((Int32 × Wt) ⊕ (Wt ⊕ Wt))
  | (l6, w) => (if l4 ≤ l6 then some (.inr (.inl w)) else (if (w 28 4) ≤ (0 : Int32) then some (.inr (.inl w)) else Option.bind (f_Count_leaders_H (w 28 5) l5 l3 w) fun x11 => Option.bind (f_Count_maySomeGo_H l1 l2 x11 w) fun x12 => (if x12 = (0 : Int32) then some (.inr (.inr w)) else Option.bind (f_Count_keepTie_H x11 w) fun x14 => (if (x14 28 7) = (113 : Int32) then f_Count_letGo_H_b105 l1 l2 l3 l4 l5 l6 x11 (l5 - (1 : Int32)) x14 else f_Count_letGo_H_b105 l1 l2 l3 l4 l5 l6 x11 (-1 : Int32) x14))))
def f_Count_letGo_H_x43 : (Wt ⊕ Wt) → Option Wt
  | .inl w => f_Count_letGo_H_b175 w
  | .inr t => some t
def f_Count_letGo_H_b30 (l1 : Int32) (l2 : Int32) (l3 : Int32) (t0 : Int32) (w : Wt) : Option Wt := nmd ((w 28 3) - (1 : Int32)) fun v16 => Option.bind (lp (f_Count_letGo_H_L43 l1 l2 l3 t0 v16) FU ((0 : Int32), w)) (f_Count_letGo_H_x43)
def f_Count_letGo_H_b24 (l1 : Int32) (l2 : Int32) (l3 : Int32) (w : Wt) : Option Wt := f_Count_letGo_H_b30 l1 l2 l3 (6 : Int32) w
def f_Count_letGo_H_b11 (l1 : Int32) (l2 : Int32) (t0 : Int32) (w : Wt) : Option Wt := (if l1 = (101 : Int32) then f_Count_letGo_H_b24 l1 l2 t0 w else (if l1 = (114 : Int32) then f_Count_letGo_H_b24 l1 l2 t0 w else f_Count_letGo_H_b30 l1 l2 t0 (1 : Int32) w))
def f_Count_letGo_H (a1 : Int32) (a2 : Int32) (w : Wt) : Option Wt := (if a1 = (120 : Int32) then f_Count_letGo_H_b11 a1 a2 (0 : Int32) w else f_Count_letGo_H_b11 a1 a2 (1 : Int32) w)
def RM_f_Count_letGo_H : Room := { frames := 4, cells := 0, slots := 0, locals := 100 }
set_option maxHeartbeats 4000000 in
set_option maxRecDepth 20000 in
theorem k_f_Count_letGo_H (a1 : Int32) (a2 : Int32) (w : Wt) (z : Wt) (hx : p.tables.exec = Jvm.exec) (hb : c.code = cX1_letGo) (hml : c.maxLocals = 10) (C : Cx EVc KC D dA q A s m args RX1) (fin : ∀ (H : Heap) (locs : List Loc) (ls : Array Slot) (w2 : Wt) (pc : Nat) , Sta KC D dA q A s.heap w2 H locs → some w2 = some z → decode cX1_letGo pc = .ok (.return_, 1) → W p l e RM_f_Count_letGo_H s m args below meth c H locs 0 0 Q (F0 m pc ls [])) : ∀ (H : Heap) (locs : List Loc) (ls : Array Slot), lv_has ls 10 [(0, .ref (q 28)), (1, .int a1), (2, .int a2)] → Sta KC D dA q A s.heap w H locs → f_Count_letGo_H a1 a2 w = some z → W p l e RM_f_Count_letGo_H s m args below meth c H locs 0 0 Q (F0 m 0 ls []) := by
  have ev : evOk EVc := EVc_ok
  have lab175 : ∀ (w : Wt) (H : Heap) (locs : List Loc) (ls : Array Slot), lv_has ls 10 [] → Sta KC D dA q A s.heap w H locs → Option.bind (f_Count_letGo_H_b175 w) some = some z → W p l e RM_f_Count_letGo_H s m args below meth c H locs 0 0 Q (F0 m 175 ls []) := by
    intro  w H locs ls hl S h
    unfold f_Count_letGo_H_b175 at h
    exact fin _ _ _ w _ S h dX1_letGo_175
  have loop43 : ∀ (l1 : Int32) (l2 : Int32) (l3 : Int32) (l4 : Int32) (l5 : Int32) (n43 : Nat), ∀ (l6 : Int32) (w : Wt) (H : Heap) (locs : List Loc) (ls : Array Slot), lv_has ls 10 [(0, .ref (q 28)), (1, .int l1), (2, .int l2), (3, .int l3), (4, .int l4), (5, .int l5), (6, .int l6)] → Sta KC D dA q A s.heap w H locs → Option.bind (lp (f_Count_letGo_H_L43 l1 l2 l3 l4 l5) n43 (l6, w)) (fun x9 => Option.bind (f_Count_letGo_H_x43 x9) some) = some z → W p l e RM_f_Count_letGo_H s m args below meth c H locs 0 0 Q (F0 m 43 ls []) := by
    intro l1 l2 l3 l4 l5 n43
    induction n43 with
    | zero =>
      intro l6 w H locs ls hl S h
      exact (h_lp0 h).elim
    | succ n43 ih43 =>
      have lab165 : ∀ (l6 : Int32) (t0 : Int32) (w : Wt) (H : Heap) (locs : List Loc) (ls : Array Slot), lv_has ls 10 [(0, .ref (q 28)), (1, .int l1), (2, .int l2), (3, .int l3), (4, .int l4), (5, .int l5), (6, .int l6)] → Sta KC D dA q A s.heap w H locs → Option.bind (f_Count_letGo_H_b165 l1 l2 l3 l4 l5 l6 t0 w) (seqF (fun s9 => Option.bind (lp (f_Count_letGo_H_L43 l1 l2 l3 l4 l5) n43 s9) (fun x9 => Option.bind (f_Count_letGo_H_x43 x9) some)) (fun x9 => Option.bind (f_Count_letGo_H_x43 x9) some)) = some z → W p l e RM_f_Count_letGo_H s m args below meth c H locs 0 0 Q (F0 m 165 ls [.int t0, .ref (q 28)]) := by
        intro l6 t0 w H locs ls hl S h
        unfold f_Count_letGo_H_b165 at h
        refine lv_iload_n hx hb dX1_letGo_165 rfl (lv_at hl 3 rfl) ?_
        obtain ⟨x1, ex1, h⟩ := h_c h
        refine k_v C S (q_U (rest := []) (As := [.int t0, .int l3]) lk_RX1_80_X2 (ud_lk_RX1_80_X2 C) (us_lk_RX1_80_X2 C) ev hx hb hml C S KC_28 rfl (c_f_Count_remove_H l D dA q t0 l3 w x1 ex1 _) rfl rfl ⟨(Nat.le_of_ble_eq_true rfl), (Nat.le_of_ble_eq_true rfl)⟩ rfl hl.1 rfl (Nat.le_of_ble_eq_true rfl) dX1_letGo_166 ⟨(Nat.le_of_ble_eq_true rfl), (Nat.le_of_ble_eq_true rfl)⟩) (fun H locs S => ?_)
        refine lv_iinc (v := (l6 + 1)) (lv' := [(6, .int (l6 + 1)), (0, .ref (q 28)), (1, .int l1), (2, .int l2), (3, .int l3), (4, .int l4), (5, .int l5)]) hx hb dX1_letGo_169 hl (k := 6) rfl rfl (Nat.le_of_ble_eq_true rfl) rfl (fun ls hl => ?_)
        refine lv_goto (tgt := 43) hx hb dX1_letGo_172 rfl ?_
        exact ih43 (l6 + 1) x1 _ _ _ (lv_sub hl [1, 2, 3, 4, 5, 6, 0] rfl) S h
      have lab142 : ∀ (l6 : Int32) (l7 : Int32) (w : Wt) (H : Heap) (locs : List Loc) (ls : Array Slot), lv_has ls 10 [(0, .ref (q 28)), (1, .int l1), (2, .int l2), (3, .int l3), (4, .int l4), (5, .int l5), (6, .int l6), (7, .int l7)] → Sta KC D dA q A s.heap w H locs → Option.bind (f_Count_letGo_H_b142 l1 l2 l3 l4 l5 l6 l7 w) (seqF (fun s9 => Option.bind (lp (f_Count_letGo_H_L43 l1 l2 l3 l4 l5) n43 s9) (fun x9 => Option.bind (f_Count_letGo_H_x43 x9) some)) (fun x9 => Option.bind (f_Count_letGo_H_x43 x9) some)) = some z → W p l e RM_f_Count_letGo_H s m args below meth c H locs 0 0 Q (F0 m 142 ls []) := by
        intro l6 l7 w H locs ls hl S h
        unfold f_Count_letGo_H_b142 at h
        refine lv_aload_n hx hb dX1_letGo_142 rfl (lv_at hl 0 rfl) ?_
        refine lv_aload_n hx hb dX1_letGo_143 rfl (lv_at hl 0 rfl) ?_
        refine g_get fl_RX1_35_X2 hx hb C S KC_28 rfl dX1_letGo_144 ?_
        refine lv_bipush (v := 104) hx hb dX1_letGo_147 (by decide) ?_
        refine lv_icmp_ne (tgt := 160) hx hb dX1_letGo_149 rfl (fun c2 => ?_) (fun c2 => ?_)
        · have h := h_f c2 h
          refine lv_iload hx hb dX1_letGo_160 (lv_at hl 7 rfl) ?_
          obtain ⟨x3, ex3, h⟩ := h_c h
          refine k_i C S (q_S (rest := [.ref (q 28)]) (As := [.int l7]) lk_RX1_77 ev hx hb hml C S (c_f_Count_lowest l D dA q l7 w x3 ex3 _) rfl rfl ⟨(Nat.le_of_ble_eq_true rfl), (Nat.le_of_ble_eq_true rfl)⟩ rfl hl.1 rfl (Nat.le_of_ble_eq_true rfl) dX1_letGo_162 ⟨(Nat.le_of_ble_eq_true rfl), (Nat.le_of_ble_eq_true rfl)⟩) (fun H locs S => ?_)
          exact lab165 l6 x3 w _ _ _ (lv_sub hl [0, 1, 2, 3, 4, 5, 6] rfl) S h
        · have h := h_t c2 h
          refine lv_iload hx hb dX1_letGo_152 (lv_at hl 7 rfl) ?_
          obtain ⟨x4, ex4, h⟩ := h_c h
          refine k_i C S (q_S (rest := [.ref (q 28)]) (As := [.int l7]) lk_RX1_74 ev hx hb hml C S (c_f_Count_highest l D dA q l7 w x4 ex4 _) rfl rfl ⟨(Nat.le_of_ble_eq_true rfl), (Nat.le_of_ble_eq_true rfl)⟩ rfl hl.1 rfl (Nat.le_of_ble_eq_true rfl) dX1_letGo_154 ⟨(Nat.le_of_ble_eq_true rfl), (Nat.le_of_ble_eq_true rfl)⟩) (fun H locs S => ?_)
          refine lv_goto (tgt := 165) hx hb dX1_letGo_157 rfl ?_
          exact lab165 l6 x4 w _ _ _ (lv_sub hl [0, 1, 2, 3, 4, 5, 6] rfl) S h
      have loop111 : ∀ (l6 : Int32) (w : Wt) (n111 : Nat), ∀ (l7 : Int32) (l9 : Int32) (H : Heap) (locs : List Loc) (ls : Array Slot), lv_has ls 10 [(0, .ref (q 28)), (1, .int l1), (2, .int l2), (3, .int l3), (4, .int l4), (5, .int l5), (6, .int l6), (7, .int l7), (9, .int l9)] → Sta KC D dA q A s.heap w H locs → Option.bind (lp (f_Count_letGo_H_L111 l1 l2 l3 l4 l5 l6 w) n111 (l7, l9)) (fun x9 => Option.bind (f_Count_letGo_H_x111 l1 l2 l3 l4 l5 l6 w x9) (seqF (fun s9 => Option.bind (lp (f_Count_letGo_H_L43 l1 l2 l3 l4 l5) n43 s9) (fun x9 => Option.bind (f_Count_letGo_H_x43 x9) some)) (fun x9 => Option.bind (f_Count_letGo_H_x43 x9) some))) = some z → W p l e RM_f_Count_letGo_H s m args below meth c H locs 0 0 Q (F0 m 111 ls []) := by
        intro l6 w n111
        induction n111 with
        | zero =>
          intro l7 l9 H locs ls hl S h
          exact (h_lp0 h).elim
        | succ n111 ih111 =>
          intro l7 l9 H locs ls hl S h
          have h := h_lp h
          unfold f_Count_letGo_H_L111 at h
          refine lv_iload hx hb dX1_letGo_111 (lv_at hl 8 rfl) ?_
          refine lv_if_lt (tgt := 142) hx hb dX1_letGo_113 rfl (fun c5 => ?_) (fun c5 => ?_)
          · have h := h_t c5 h
            exact lab142 l6 l7 w _ _ _ (lv_sub hl [0, 1, 2, 3, 4, 5, 6, 7] rfl) S h
          · have h := h_f c5 h
            refine lv_iload hx hb dX1_letGo_116 (lv_at hl 7 rfl) ?_
            obtain ⟨x6, ex6, h⟩ := h_c h
            refine k_i C S (q_S (rest := []) (As := [.int l7]) lk_RX1_69 ev hx hb hml C S (c_f_Integer_bitCount l D dA q l7 w x6 ex6 _) rfl rfl ⟨(Nat.le_of_ble_eq_true rfl), (Nat.le_of_ble_eq_true rfl)⟩ rfl hl.1 rfl (Nat.le_of_ble_eq_true rfl) dX1_letGo_118 ⟨(Nat.le_of_ble_eq_true rfl), (Nat.le_of_ble_eq_true rfl)⟩) (fun H locs S => ?_)
            refine lv_iconst (v := 1) hx hb dX1_letGo_121 (by decide) ?_
            refine lv_icmp_le (tgt := 142) hx hb dX1_letGo_122 rfl (fun c7 => ?_) (fun c7 => ?_)
            · have h := h_t c7 h
              exact lab142 l6 l7 w _ _ _ (lv_sub hl [0, 1, 2, 3, 4, 5, 6, 7] rfl) S h
            · have h := h_f c7 h
              refine lv_aload_n hx hb dX1_letGo_125 rfl (lv_at hl 0 rfl) ?_
              refine lv_iload hx hb dX1_letGo_126 (lv_at hl 7 rfl) ?_
              refine lv_iload hx hb dX1_letGo_128 (lv_at hl 8 rfl) ?_
              refine lv_iload_n hx hb dX1_letGo_130 rfl (lv_at hl 3 rfl) ?_
              obtain ⟨x8, ex8, h⟩ := h_c h
              refine k_i C S (q_U (rest := []) (As := [.int l7, .int l9, .int l3]) lk_RX1_57_X2 (ud_lk_RX1_57_X2 C) (us_lk_RX1_57_X2 C) ev hx hb hml C S KC_28 rfl (c_f_Count_leaders_H l D dA q l7 l9 l3 w x8 ex8 _) rfl rfl ⟨(Nat.le_of_ble_eq_true rfl), (Nat.le_of_ble_eq_true rfl)⟩ rfl hl.1 rfl (Nat.le_of_ble_eq_true rfl) dX1_letGo_131 ⟨(Nat.le_of_ble_eq_true rfl), (Nat.le_of_ble_eq_true rfl)⟩) (fun H locs S => ?_)
              refine lv_istore (lv' := [(7, .int x8), (0, .ref (q 28)), (1, .int l1), (2, .int l2), (3, .int l3), (4, .int l4), (5, .int l5), (6, .int l6), (9, .int l9)]) hx hb dX1_letGo_134 hl (Nat.le_of_ble_eq_true rfl) rfl (fun ls hl => ?_)
              refine lv_iinc (v := (l9 + (-1))) (lv' := [(9, .int (l9 + (-1))), (7, .int x8), (0, .ref (q 28)), (1, .int l1), (2, .int l2), (3, .int l3), (4, .int l4), (5, .int l5), (6, .int l6)]) hx hb dX1_letGo_136 hl (k := 8) rfl rfl (Nat.le_of_ble_eq_true rfl) rfl (fun ls hl => ?_)
              refine lv_goto (tgt := 111) hx hb dX1_letGo_139 rfl ?_
              exact ih111 x8 (l9 + (-1)) _ _ _ (lv_sub hl [2, 3, 4, 5, 6, 7, 8, 1, 0] rfl) S h
      have lab105 : ∀ (l6 : Int32) (l7 : Int32) (t0 : Int32) (w : Wt) (H : Heap) (locs : List Loc) (ls : Array Slot), lv_has ls 10 [(0, .ref (q 28)), (1, .int l1), (2, .int l2), (3, .int l3), (4, .int l4), (5, .int l5), (6, .int l6), (7, .int l7)] → Sta KC D dA q A s.heap w H locs → Option.bind (f_Count_letGo_H_b105 l1 l2 l3 l4 l5 l6 l7 t0 w) (seqF (fun s9 => Option.bind (lp (f_Count_letGo_H_L43 l1 l2 l3 l4 l5) n43 s9) (fun x9 => Option.bind (f_Count_letGo_H_x43 x9) some)) (fun x9 => Option.bind (f_Count_letGo_H_x43 x9) some)) = some z → W p l e RM_f_Count_letGo_H s m args below meth c H locs 0 0 Q (F0 m 105 ls [.int t0]) := by
        intro l6 l7 t0 w H locs ls hl S h
        unfold f_Count_letGo_H_b105 at h
        refine lv_istore (lv' := [(8, .int t0), (0, .ref (q 28)), (1, .int l1), (2, .int l2), (3, .int l3), (4, .int l4), (5, .int l5), (6, .int l6), (7, .int l7)]) hx hb dX1_letGo_105 hl (Nat.le_of_ble_eq_true rfl) rfl (fun ls hl => ?_)
        refine lv_iload hx hb dX1_letGo_107 (lv_at hl 0 rfl) ?_
        refine lv_istore (lv' := [(9, .int t0), (8, .int t0), (0, .ref (q 28)), (1, .int l1), (2, .int l2), (3, .int l3), (4, .int l4), (5, .int l5), (6, .int l6), (7, .int l7)]) hx hb dX1_letGo_109 hl (Nat.le_of_ble_eq_true rfl) rfl (fun ls hl => ?_)
        exact loop111 l6 w FU l7 t0 _ _ _ (lv_sub hl [2, 3, 4, 5, 6, 7, 8, 9, 0] rfl) S (h_bb h)
      intro l6 w H locs ls hl S h
      have h := h_lp h
      unfold f_Count_letGo_H_L43 at h
      refine lv_iload hx hb dX1_letGo_43 (lv_at hl 6 rfl) ?_
      refine lv_iload hx hb dX1_letGo_45 (lv_at hl 4 rfl) ?_
      refine lv_icmp_ge (tgt := 175) hx hb dX1_letGo_47 rfl (fun c9 => ?_) (fun c9 => ?_)
      · have h := h_t c9 h
        exact lab175 w _ _ _ (lv_sub hl [] rfl) S h
      · have h := h_f c9 h
        refine lv_aload_n hx hb dX1_letGo_50 rfl (lv_at hl 0 rfl) ?_
        refine g_get fl_RX1_26_X2 hx hb C S KC_28 rfl dX1_letGo_51 ?_
        refine lv_if_le (tgt := 175) hx hb dX1_letGo_54 rfl (fun c10 => ?_) (fun c10 => ?_)
        · have h := h_t c10 h
          exact lab175 w _ _ _ (lv_sub hl [] rfl) S h
        · have h := h_f c10 h
          refine lv_aload_n hx hb dX1_letGo_57 rfl (lv_at hl 0 rfl) ?_
          refine lv_aload_n hx hb dX1_letGo_58 rfl (lv_at hl 0 rfl) ?_
          refine g_get fl_RX1_29_X2 hx hb C S KC_28 rfl dX1_letGo_59 ?_
          refine lv_iload hx hb dX1_letGo_62 (lv_at hl 5 rfl) ?_
          refine lv_iload_n hx hb dX1_letGo_64 rfl (lv_at hl 3 rfl) ?_
          obtain ⟨x11, ex11, h⟩ := h_c h
          refine k_i C S (q_U (rest := []) (As := [.int (w 28 5), .int l5, .int l3]) lk_RX1_57_X2 (ud_lk_RX1_57_X2 C) (us_lk_RX1_57_X2 C) ev hx hb hml C S KC_28 rfl (c_f_Count_leaders_H l D dA q (w 28 5) l5 l3 w x11 ex11 _) rfl rfl ⟨(Nat.le_of_ble_eq_true rfl), (Nat.le_of_ble_eq_true rfl)⟩ rfl hl.1 rfl (Nat.le_of_ble_eq_true rfl) dX1_letGo_65 ⟨(Nat.le_of_ble_eq_true rfl), (Nat.le_of_ble_eq_true rfl)⟩) (fun H locs S => ?_)
          refine lv_istore (lv' := [(7, .int x11), (0, .ref (q 28)), (1, .int l1), (2, .int l2), (3, .int l3), (4, .int l4), (5, .int l5), (6, .int l6)]) hx hb dX1_letGo_68 hl (Nat.le_of_ble_eq_true rfl) rfl (fun ls hl => ?_)
          refine lv_aload_n hx hb dX1_letGo_70 rfl (lv_at hl 1 rfl) ?_
          refine lv_iload_n hx hb dX1_letGo_71 rfl (lv_at hl 2 rfl) ?_
          refine lv_iload_n hx hb dX1_letGo_72 rfl (lv_at hl 3 rfl) ?_
          refine lv_iload hx hb dX1_letGo_73 (lv_at hl 0 rfl) ?_
          obtain ⟨x12, ex12, h⟩ := h_c h
          refine k_i C S (q_U (rest := []) (As := [.int l1, .int l2, .int x11]) lk_RX1_61_X2 (ud_lk_RX1_61_X2 C) (us_lk_RX1_61_X2 C) ev hx hb hml C S KC_28 rfl (c_f_Count_maySomeGo_H l D dA q l1 l2 x11 w x12 ex12 _) rfl rfl ⟨(Nat.le_of_ble_eq_true rfl), (Nat.le_of_ble_eq_true rfl)⟩ rfl hl.1 rfl (Nat.le_of_ble_eq_true rfl) dX1_letGo_75 ⟨(Nat.le_of_ble_eq_true rfl), (Nat.le_of_ble_eq_true rfl)⟩) (fun H locs S => ?_)
          refine lv_if_ne (tgt := 82) hx hb dX1_letGo_78 rfl (fun c13 => ?_) (fun c13 => ?_)
          · have h := h_f c13 h
            refine lv_aload_n hx hb dX1_letGo_82 rfl (lv_at hl 1 rfl) ?_
            refine lv_iload hx hb dX1_letGo_83 (lv_at hl 0 rfl) ?_
            obtain ⟨x14, ex14, h⟩ := h_c h
            refine k_v C S (q_U (rest := []) (As := [.int x11]) lk_RX1_65_X2 (ud_lk_RX1_65_X2 C) (us_lk_RX1_65_X2 C) ev hx hb hml C S KC_28 rfl (c_f_Count_keepTie_H l D dA q x11 w x14 ex14 _) rfl rfl ⟨(Nat.le_of_ble_eq_true rfl), (Nat.le_of_ble_eq_true rfl)⟩ rfl hl.1 rfl (Nat.le_of_ble_eq_true rfl) dX1_letGo_85 ⟨(Nat.le_of_ble_eq_true rfl), (Nat.le_of_ble_eq_true rfl)⟩) (fun H locs S => ?_)
            refine lv_aload_n hx hb dX1_letGo_88 rfl (lv_at hl 1 rfl) ?_
            refine g_get fl_RX1_35_X2 hx hb C S KC_28 rfl dX1_letGo_89 ?_
            refine lv_bipush (v := 113) hx hb dX1_letGo_92 (by decide) ?_
            refine lv_icmp_ne (tgt := 104) hx hb dX1_letGo_94 rfl (fun c15 => ?_) (fun c15 => ?_)
            · have h := h_f c15 h
              refine lv_iconst (v := -1) hx hb dX1_letGo_104 (by decide) ?_
              exact lab105 l6 x11 (-1 : Int32) x14 _ _ _ (lv_sub hl [1, 2, 3, 4, 5, 6, 7, 0] rfl) S h
            · have h := h_t c15 h
              refine lv_iload hx hb dX1_letGo_97 (lv_at hl 6 rfl) ?_
              refine lv_iconst (v := 1) hx hb dX1_letGo_99 (by decide) ?_
              refine lv_isub hx hb dX1_letGo_100 ?_
              refine lv_goto (tgt := 105) hx hb dX1_letGo_101 rfl ?_
              exact lab105 l6 x11 (l5 - (1 : Int32)) x14 _ _ _ (lv_sub hl [1, 2, 3, 4, 5, 6, 7, 0] rfl) S h
          · have h := h_t c13 h
            exact fin _ _ _ w _ S h dX1_letGo_81
  have lab30 : ∀ (l1 : Int32) (l2 : Int32) (l3 : Int32) (t0 : Int32) (w : Wt) (H : Heap) (locs : List Loc) (ls : Array Slot), lv_has ls 10 [(0, .ref (q 28)), (1, .int l1), (2, .int l2), (3, .int l3)] → Sta KC D dA q A s.heap w H locs → Option.bind (f_Count_letGo_H_b30 l1 l2 l3 t0 w) some = some z → W p l e RM_f_Count_letGo_H s m args below meth c H locs 0 0 Q (F0 m 30 ls [.int t0]) := by
    intro l1 l2 l3 t0 w H locs ls hl S h
    unfold f_Count_letGo_H_b30 at h
    refine lv_istore (lv' := [(4, .int t0), (0, .ref (q 28)), (1, .int l1), (2, .int l2), (3, .int l3)]) hx hb dX1_letGo_30 hl (Nat.le_of_ble_eq_true rfl) rfl (fun ls hl => ?_)
    refine lv_aload_n hx hb dX1_letGo_32 rfl (lv_at hl 1 rfl) ?_
    refine g_get fl_RX1_23_X2 hx hb C S KC_28 rfl dX1_letGo_33 ?_
    refine lv_iconst (v := 1) hx hb dX1_letGo_36 (by decide) ?_
    refine lv_isub hx hb dX1_letGo_37 ?_
    refine lv_topi (fun v16 ev16 => ?_)
    have h := h_l h v16 ev16
    refine lv_istore (lv' := [(5, .int v16), (4, .int t0), (0, .ref (q 28)), (1, .int l1), (2, .int l2), (3, .int l3)]) hx hb dX1_letGo_38 hl (Nat.le_of_ble_eq_true rfl) rfl (fun ls hl => ?_)
    refine lv_iconst (v := 0) hx hb dX1_letGo_40 (by decide) ?_
    refine lv_istore (lv' := [(6, .int (0 : Int32)), (5, .int v16), (4, .int t0), (0, .ref (q 28)), (1, .int l1), (2, .int l2), (3, .int l3)]) hx hb dX1_letGo_41 hl (Nat.le_of_ble_eq_true rfl) rfl (fun ls hl => ?_)
    exact loop43 l1 l2 l3 t0 v16 FU (0 : Int32) w _ _ _ (lv_sub hl [3, 4, 5, 6, 2, 1, 0] rfl) S (h_bb h)
  have lab24 : ∀ (l1 : Int32) (l2 : Int32) (l3 : Int32) (w : Wt) (H : Heap) (locs : List Loc) (ls : Array Slot), lv_has ls 10 [(0, .ref (q 28)), (1, .int l1), (2, .int l2), (3, .int l3)] → Sta KC D dA q A s.heap w H locs → Option.bind (f_Count_letGo_H_b24 l1 l2 l3 w) some = some z → W p l e RM_f_Count_letGo_H s m args below meth c H locs 0 0 Q (F0 m 24 ls []) := by
    intro l1 l2 l3 w H locs ls hl S h
    unfold f_Count_letGo_H_b24 at h
    refine lv_bipush (v := 6) hx hb dX1_letGo_24 (by decide) ?_
    refine lv_goto (tgt := 30) hx hb dX1_letGo_26 rfl ?_
    exact lab30 l1 l2 l3 (6 : Int32) w _ _ _ (lv_sub hl [0, 1, 2, 3] rfl) S h
  have lab11 : ∀ (l1 : Int32) (l2 : Int32) (t0 : Int32) (w : Wt) (H : Heap) (locs : List Loc) (ls : Array Slot), lv_has ls 10 [(0, .ref (q 28)), (1, .int l1), (2, .int l2)] → Sta KC D dA q A s.heap w H locs → Option.bind (f_Count_letGo_H_b11 l1 l2 t0 w) some = some z → W p l e RM_f_Count_letGo_H s m args below meth c H locs 0 0 Q (F0 m 11 ls [.int t0]) := by
    intro l1 l2 t0 w H locs ls hl S h
    unfold f_Count_letGo_H_b11 at h
    refine lv_istore_n (lv' := [(3, .int t0), (0, .ref (q 28)), (1, .int l1), (2, .int l2)]) hx hb dX1_letGo_11 rfl hl (Nat.le_of_ble_eq_true rfl) rfl (fun ls hl => ?_)
    refine lv_iload_n hx hb dX1_letGo_12 rfl (lv_at hl 2 rfl) ?_
    refine lv_bipush (v := 101) hx hb dX1_letGo_13 (by decide) ?_
    refine lv_icmp_eq (tgt := 24) hx hb dX1_letGo_15 rfl (fun c17 => ?_) (fun c17 => ?_)
    · have h := h_t c17 h
      exact lab24 l1 l2 t0 w _ _ _ (lv_sub hl [1, 2, 3, 0] rfl) S h
    · have h := h_f c17 h
      refine lv_iload_n hx hb dX1_letGo_18 rfl (lv_at hl 2 rfl) ?_
      refine lv_bipush (v := 114) hx hb dX1_letGo_19 (by decide) ?_
      refine lv_icmp_ne (tgt := 29) hx hb dX1_letGo_21 rfl (fun c18 => ?_) (fun c18 => ?_)
      · have h := h_f c18 h
        refine lv_iconst (v := 1) hx hb dX1_letGo_29 (by decide) ?_
        exact lab30 l1 l2 t0 (1 : Int32) w _ _ _ (lv_sub hl [1, 2, 3, 0] rfl) S h
      · have h := h_t c18 h
        exact lab24 l1 l2 t0 w _ _ _ (lv_sub hl [1, 2, 3, 0] rfl) S h
  intro H locs ls hl S h
  have h := h_0 h
  unfold f_Count_letGo_H at h
  refine lv_iload_n hx hb dX1_letGo_0 rfl (lv_at hl 1 rfl) ?_
  refine lv_bipush (v := 120) hx hb dX1_letGo_1 (by decide) ?_
  refine lv_icmp_eq (tgt := 10) hx hb dX1_letGo_3 rfl (fun c19 => ?_) (fun c19 => ?_)
  · have h := h_t c19 h
    refine lv_iconst (v := 0) hx hb dX1_letGo_10 (by decide) ?_
    exact lab11 a1 a2 (0 : Int32) w _ _ _ (lv_sub hl [0, 1, 2] rfl) S h
  · have h := h_f c19 h
    refine lv_iconst (v := 1) hx hb dX1_letGo_6 (by decide) ?_
    refine lv_goto (tgt := 11) hx hb dX1_letGo_7 rfl ?_
    exact lab11 a1 a2 (1 : Int32) w _ _ _ (lv_sub hl [0, 1, 2] rfl) S h
theorem c_f_Count_letGo_H (l : Launch) (D : va_G) (dA : Nat → ClassId) (q : Nat → Nat) (a1 : Int32) (a2 : Int32) (w w' : Wt) (h : f_Count_letGo_H a1 a2 w = some w') : Mv l EVc KC D dA q yX1_letGo cX1_letGo 10 none RM_f_Count_letGo_H [.ref (q 28), .int a1, .int a2] w w' :=
  mk_v (by decide) rfl EVc_ok (Nat.le_of_ble_eq_true rfl) (fun p e s m args below meth c A Q ls hx hb hml C S hl fin => k_f_Count_letGo_H a1 a2 w w' hx hb hml C (fun H locs ls w2 pc S h d => fin H locs ls w2 pc S h d) _ _ _ hl S h)
end WALKS

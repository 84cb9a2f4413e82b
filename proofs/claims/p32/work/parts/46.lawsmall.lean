section WALKS
variable {p : Program} {l : Launch} {e : Env} {s : State} {m : MethodId} {args : Array Value} {below : List Frame} {meth : Method} {c : Code} {Q : State → Prop} {D : va_G} {dA : Nat → ClassId} {q : Nat → Nat} {A : Nat → Prop}
/-! BallotscriptLaw.sign(I)I l_sign -/
def l_sign_b87 (l0 : Int32) (l1 : Int32) (t0 : Int32) : Option Int32 := (if t0 ≤ (0 : Int32) then (if (14 : Int32) ≤ l1 then (if l1 = (14 : Int32) then some (40 : Int32) else (if l1 = (15 : Int32) then some (41 : Int32) else (if l1 = (16 : Int32) then some (101 : Int32) else (if l1 = (17 : Int32) then some (107 : Int32) else gd (nzb (20 : Int32)) (gd (nzb (10 : Int32)) (some ((48 : Int32) + ((l0 / (20 : Int32)) - (l0 / (20 : Int32)) / (10 : Int32) * (10 : Int32))))))))) else some (59 : Int32)) else some t0)
def l_sign (a0 : Int32) : Option Int32 := gd (nzb (20 : Int32)) (nmd (a0 - a0 / (20 : Int32) * (20 : Int32)) fun v10 => (if v10 = (0 : Int32) then l_sign_b87 a0 v10 (116 : Int32) else (if v10 = (1 : Int32) then l_sign_b87 a0 v10 (98 : Int32) else (if v10 = (2 : Int32) then l_sign_b87 a0 v10 (97 : Int32) else (if v10 = (3 : Int32) then l_sign_b87 a0 v10 (109 : Int32) else (if v10 = (4 : Int32) then l_sign_b87 a0 v10 (120 : Int32) else (if v10 = (5 : Int32) then l_sign_b87 a0 v10 (114 : Int32) else (if v10 = (6 : Int32) then l_sign_b87 a0 v10 (113 : Int32) else (if v10 = (7 : Int32) then l_sign_b87 a0 v10 (104 : Int32) else l_sign_b87 a0 v10 (0 : Int32))))))))))
def RM_l_sign : Room := { frames := 0, cells := 0, slots := 0, locals := 0 }
set_option maxHeartbeats 4000000 in
set_option maxRecDepth 20000 in
theorem k_l_sign (a0 : Int32) (w : Wt) (z : Int32) (hx : p.tables.exec = Jvm.exec) (hb : c.code = cL_sign) (hml : c.maxLocals = 3) (C : Cx EVl KL D dA q A s m args RL) (fin : ∀ (H : Heap) (locs : List Loc) (ls : Array Slot) (r' : Int32) (pc : Nat) , Sta KL D dA q A s.heap w H locs → some r' = some z → decode cL_sign pc = .ok (.ireturn, 1) → W p l e RM_l_sign s m args below meth c H locs 0 0 Q (F0 m pc ls [.int r'])) : ∀ (H : Heap) (locs : List Loc) (ls : Array Slot), lv_has ls 3 [(0, .int a0)] → Sta KL D dA q A s.heap w H locs → l_sign a0 = some z → W p l e RM_l_sign s m args below meth c H locs 0 0 Q (F0 m 0 ls []) := by
  have ev : evOk EVl := EVl_ok
  have lab87 : ∀ (l0 : Int32) (l1 : Int32) (t0 : Int32) (H : Heap) (locs : List Loc) (ls : Array Slot), lv_has ls 3 [(0, .int l0), (1, .int l1)] → Sta KL D dA q A s.heap w H locs → Option.bind (l_sign_b87 l0 l1 t0) some = some z → W p l e RM_l_sign s m args below meth c H locs 0 0 Q (F0 m 87 ls [.int t0]) := by
    intro l0 l1 t0 H locs ls hl S h
    unfold l_sign_b87 at h
    refine lv_istore_n (lv' := [(2, .int t0), (0, .int l0), (1, .int l1)]) hx hb dL_sign_87 rfl hl (Nat.le_of_ble_eq_true rfl) rfl (fun ls hl => ?_)
    refine lv_iload_n hx hb dL_sign_88 rfl (lv_at hl 0 rfl) ?_
    refine lv_if_le (tgt := 96) hx hb dL_sign_89 rfl (fun c1 => ?_) (fun c1 => ?_)
    · have h := h_t c1 h
      refine lv_iload_n hx hb dL_sign_96 rfl (lv_at hl 2 rfl) ?_
      refine lv_bipush (v := 14) hx hb dL_sign_97 (by decide) ?_
      refine lv_icmp_ge (tgt := 107) hx hb dL_sign_99 rfl (fun c2 => ?_) (fun c2 => ?_)
      · have h := h_t c2 h
        refine lv_iload_n hx hb dL_sign_107 rfl (lv_at hl 2 rfl) ?_
        refine lv_bipush (v := 14) hx hb dL_sign_108 (by decide) ?_
        refine lv_icmp_ne (tgt := 118) hx hb dL_sign_110 rfl (fun c3 => ?_) (fun c3 => ?_)
        · have h := h_f c3 h
          refine lv_iload_n hx hb dL_sign_118 rfl (lv_at hl 2 rfl) ?_
          refine lv_bipush (v := 15) hx hb dL_sign_119 (by decide) ?_
          refine lv_icmp_ne (tgt := 129) hx hb dL_sign_121 rfl (fun c4 => ?_) (fun c4 => ?_)
          · have h := h_f c4 h
            refine lv_iload_n hx hb dL_sign_129 rfl (lv_at hl 2 rfl) ?_
            refine lv_bipush (v := 16) hx hb dL_sign_130 (by decide) ?_
            refine lv_icmp_ne (tgt := 140) hx hb dL_sign_132 rfl (fun c5 => ?_) (fun c5 => ?_)
            · have h := h_f c5 h
              refine lv_iload_n hx hb dL_sign_140 rfl (lv_at hl 2 rfl) ?_
              refine lv_bipush (v := 17) hx hb dL_sign_141 (by decide) ?_
              refine lv_icmp_ne (tgt := 151) hx hb dL_sign_143 rfl (fun c6 => ?_) (fun c6 => ?_)
              · have h := h_f c6 h
                refine lv_bipush (v := 48) hx hb dL_sign_151 (by decide) ?_
                refine lv_iload_n hx hb dL_sign_153 rfl (lv_at hl 1 rfl) ?_
                refine lv_bipush (v := 20) hx hb dL_sign_154 (by decide) ?_
                obtain ⟨g7, h⟩ := h_gd h
                refine lv_idiv hx hb dL_sign_156 (nz_of g7) ?_
                refine lv_bipush (v := 10) hx hb dL_sign_157 (by decide) ?_
                obtain ⟨g8, h⟩ := h_gd h
                refine lv_irem hx hb dL_sign_159 (nz_of g8) ?_
                refine lv_iadd hx hb dL_sign_160 ?_
                exact fin _ _ _ ((48 : Int32) + ((l0 / (20 : Int32)) - (l0 / (20 : Int32)) / (10 : Int32) * (10 : Int32))) _ S h dL_sign_161
              · have h := h_t c6 h
                refine lv_bipush (v := 107) hx hb dL_sign_146 (by decide) ?_
                refine lv_goto (tgt := 161) hx hb dL_sign_148 rfl ?_
                exact fin _ _ _ (107 : Int32) _ S h dL_sign_161
            · have h := h_t c5 h
              refine lv_bipush (v := 101) hx hb dL_sign_135 (by decide) ?_
              refine lv_goto (tgt := 161) hx hb dL_sign_137 rfl ?_
              exact fin _ _ _ (101 : Int32) _ S h dL_sign_161
          · have h := h_t c4 h
            refine lv_bipush (v := 41) hx hb dL_sign_124 (by decide) ?_
            refine lv_goto (tgt := 161) hx hb dL_sign_126 rfl ?_
            exact fin _ _ _ (41 : Int32) _ S h dL_sign_161
        · have h := h_t c3 h
          refine lv_bipush (v := 40) hx hb dL_sign_113 (by decide) ?_
          refine lv_goto (tgt := 161) hx hb dL_sign_115 rfl ?_
          exact fin _ _ _ (40 : Int32) _ S h dL_sign_161
      · have h := h_f c2 h
        refine lv_bipush (v := 59) hx hb dL_sign_102 (by decide) ?_
        refine lv_goto (tgt := 161) hx hb dL_sign_104 rfl ?_
        exact fin _ _ _ (59 : Int32) _ S h dL_sign_161
    · have h := h_f c1 h
      refine lv_iload_n hx hb dL_sign_92 rfl (lv_at hl 0 rfl) ?_
      refine lv_goto (tgt := 161) hx hb dL_sign_93 rfl ?_
      exact fin _ _ _ t0 _ S h dL_sign_161
  intro H locs ls hl S h
  have h := h_0 h
  unfold l_sign at h
  refine lv_iload_n hx hb dL_sign_0 rfl (lv_at hl 0 rfl) ?_
  refine lv_bipush (v := 20) hx hb dL_sign_1 (by decide) ?_
  obtain ⟨g9, h⟩ := h_gd h
  refine lv_irem hx hb dL_sign_3 (nz_of g9) ?_
  refine lv_topi (fun v10 ev10 => ?_)
  have h := h_l h v10 ev10
  refine lv_istore_n (lv' := [(1, .int v10), (0, .int a0)]) hx hb dL_sign_4 rfl hl (Nat.le_of_ble_eq_true rfl) rfl (fun ls hl => ?_)
  refine lv_iload_n hx hb dL_sign_5 rfl (lv_at hl 0 rfl) ?_
  refine lv_if_ne (tgt := 14) hx hb dL_sign_6 rfl (fun c11 => ?_) (fun c11 => ?_)
  · have h := h_f c11 h
    refine lv_iload_n hx hb dL_sign_14 rfl (lv_at hl 0 rfl) ?_
    refine lv_iconst (v := 1) hx hb dL_sign_15 (by decide) ?_
    refine lv_icmp_ne (tgt := 24) hx hb dL_sign_16 rfl (fun c12 => ?_) (fun c12 => ?_)
    · have h := h_f c12 h
      refine lv_iload_n hx hb dL_sign_24 rfl (lv_at hl 0 rfl) ?_
      refine lv_iconst (v := 2) hx hb dL_sign_25 (by decide) ?_
      refine lv_icmp_ne (tgt := 34) hx hb dL_sign_26 rfl (fun c13 => ?_) (fun c13 => ?_)
      · have h := h_f c13 h
        refine lv_iload_n hx hb dL_sign_34 rfl (lv_at hl 0 rfl) ?_
        refine lv_iconst (v := 3) hx hb dL_sign_35 (by decide) ?_
        refine lv_icmp_ne (tgt := 44) hx hb dL_sign_36 rfl (fun c14 => ?_) (fun c14 => ?_)
        · have h := h_f c14 h
          refine lv_iload_n hx hb dL_sign_44 rfl (lv_at hl 0 rfl) ?_
          refine lv_iconst (v := 4) hx hb dL_sign_45 (by decide) ?_
          refine lv_icmp_ne (tgt := 54) hx hb dL_sign_46 rfl (fun c15 => ?_) (fun c15 => ?_)
          · have h := h_f c15 h
            refine lv_iload_n hx hb dL_sign_54 rfl (lv_at hl 0 rfl) ?_
            refine lv_iconst (v := 5) hx hb dL_sign_55 (by decide) ?_
            refine lv_icmp_ne (tgt := 64) hx hb dL_sign_56 rfl (fun c16 => ?_) (fun c16 => ?_)
            · have h := h_f c16 h
              refine lv_iload_n hx hb dL_sign_64 rfl (lv_at hl 0 rfl) ?_
              refine lv_bipush (v := 6) hx hb dL_sign_65 (by decide) ?_
              refine lv_icmp_ne (tgt := 75) hx hb dL_sign_67 rfl (fun c17 => ?_) (fun c17 => ?_)
              · have h := h_f c17 h
                refine lv_iload_n hx hb dL_sign_75 rfl (lv_at hl 0 rfl) ?_
                refine lv_bipush (v := 7) hx hb dL_sign_76 (by decide) ?_
                refine lv_icmp_ne (tgt := 86) hx hb dL_sign_78 rfl (fun c18 => ?_) (fun c18 => ?_)
                · have h := h_f c18 h
                  refine lv_iconst (v := 0) hx hb dL_sign_86 (by decide) ?_
                  exact lab87 a0 v10 (0 : Int32) _ _ _ (lv_sub hl [1, 0] rfl) S h
                · have h := h_t c18 h
                  refine lv_bipush (v := 104) hx hb dL_sign_81 (by decide) ?_
                  refine lv_goto (tgt := 87) hx hb dL_sign_83 rfl ?_
                  exact lab87 a0 v10 (104 : Int32) _ _ _ (lv_sub hl [1, 0] rfl) S h
              · have h := h_t c17 h
                refine lv_bipush (v := 113) hx hb dL_sign_70 (by decide) ?_
                refine lv_goto (tgt := 87) hx hb dL_sign_72 rfl ?_
                exact lab87 a0 v10 (113 : Int32) _ _ _ (lv_sub hl [1, 0] rfl) S h
            · have h := h_t c16 h
              refine lv_bipush (v := 114) hx hb dL_sign_59 (by decide) ?_
              refine lv_goto (tgt := 87) hx hb dL_sign_61 rfl ?_
              exact lab87 a0 v10 (114 : Int32) _ _ _ (lv_sub hl [1, 0] rfl) S h
          · have h := h_t c15 h
            refine lv_bipush (v := 120) hx hb dL_sign_49 (by decide) ?_
            refine lv_goto (tgt := 87) hx hb dL_sign_51 rfl ?_
            exact lab87 a0 v10 (120 : Int32) _ _ _ (lv_sub hl [1, 0] rfl) S h
        · have h := h_t c14 h
          refine lv_bipush (v := 109) hx hb dL_sign_39 (by decide) ?_
          refine lv_goto (tgt := 87) hx hb dL_sign_41 rfl ?_
          exact lab87 a0 v10 (109 : Int32) _ _ _ (lv_sub hl [1, 0] rfl) S h
      · have h := h_t c13 h
        refine lv_bipush (v := 97) hx hb dL_sign_29 (by decide) ?_
        refine lv_goto (tgt := 87) hx hb dL_sign_31 rfl ?_
        exact lab87 a0 v10 (97 : Int32) _ _ _ (lv_sub hl [1, 0] rfl) S h
    · have h := h_t c12 h
      refine lv_bipush (v := 98) hx hb dL_sign_19 (by decide) ?_
      refine lv_goto (tgt := 87) hx hb dL_sign_21 rfl ?_
      exact lab87 a0 v10 (98 : Int32) _ _ _ (lv_sub hl [1, 0] rfl) S h
  · have h := h_t c11 h
    refine lv_bipush (v := 116) hx hb dL_sign_9 (by decide) ?_
    refine lv_goto (tgt := 87) hx hb dL_sign_11 rfl ?_
    exact lab87 a0 v10 (116 : Int32) _ _ _ (lv_sub hl [1, 0] rfl) S h
theorem c_l_sign (l : Launch) (D : va_G) (dA : Nat → ClassId) (q : Nat → Nat) (a0 : Int32) (w : Wt) (r : Int32) (h : l_sign a0 = some r) : Mi l EVl KL D dA q yL_sign cL_sign 3 (some .int) RM_l_sign [.int a0] w r w :=
  mk_i (by decide) rfl EVl_ok (Nat.le_of_ble_eq_true rfl) (fun p e s m args below meth c A Q ls hx hb hml C S hl fin => k_l_sign a0 w r hx hb hml C (fun H locs ls r' pc S h d => fin H locs ls r' w pc S (by rw [Option.some.inj h]) d) _ _ _ hl S h)
/-! BallotscriptLaw.size(I)I l_size -/
def l_size_b24 (l1 : Int32) : Option Int32 := some l1
def l_size_L4 (l0 : Int32) : (Int32 × Int32) → Option ((Int32 × Int32) ⊕ Int32)
  | (l1, l2) => (if (6 : Int32) ≤ l2 then some (.inr l1) else nmd (l1 + ((l0 >>> (l2 &&& 31)) &&& (1 : Int32))) fun v2 => some (.inl (v2, (l2 + 1))))
def l_size_x4 : Int32 → Option Int32
  | l1 => l_size_b24 l1
def l_size (a0 : Int32) : Option Int32 := Option.bind (lp (l_size_L4 a0) FU ((0 : Int32), (0 : Int32))) (l_size_x4)
def RM_l_size : Room := { frames := 0, cells := 0, slots := 0, locals := 0 }
set_option maxHeartbeats 4000000 in
set_option maxRecDepth 20000 in
theorem k_l_size (a0 : Int32) (w : Wt) (z : Int32) (hx : p.tables.exec = Jvm.exec) (hb : c.code = cL_size) (hml : c.maxLocals = 3) (C : Cx EVl KL D dA q A s m args RL) (fin : ∀ (H : Heap) (locs : List Loc) (ls : Array Slot) (r' : Int32) (pc : Nat) , Sta KL D dA q A s.heap w H locs → some r' = some z → decode cL_size pc = .ok (.ireturn, 1) → W p l e RM_l_size s m args below meth c H locs 0 0 Q (F0 m pc ls [.int r'])) : ∀ (H : Heap) (locs : List Loc) (ls : Array Slot), lv_has ls 3 [(0, .int a0)] → Sta KL D dA q A s.heap w H locs → l_size a0 = some z → W p l e RM_l_size s m args below meth c H locs 0 0 Q (F0 m 0 ls []) := by
  have ev : evOk EVl := EVl_ok
  have lab24 : ∀ (l1 : Int32) (H : Heap) (locs : List Loc) (ls : Array Slot), lv_has ls 3 [(1, .int l1)] → Sta KL D dA q A s.heap w H locs → Option.bind (l_size_b24 l1) some = some z → W p l e RM_l_size s m args below meth c H locs 0 0 Q (F0 m 24 ls []) := by
    intro l1 H locs ls hl S h
    unfold l_size_b24 at h
    refine lv_iload_n hx hb dL_size_24 rfl (lv_at hl 0 rfl) ?_
    exact fin _ _ _ l1 _ S h dL_size_25
  have loop4 : ∀ (l0 : Int32) (n4 : Nat), ∀ (l1 : Int32) (l2 : Int32) (H : Heap) (locs : List Loc) (ls : Array Slot), lv_has ls 3 [(0, .int l0), (1, .int l1), (2, .int l2)] → Sta KL D dA q A s.heap w H locs → Option.bind (lp (l_size_L4 l0) n4 (l1, l2)) (fun x9 => Option.bind (l_size_x4 x9) some) = some z → W p l e RM_l_size s m args below meth c H locs 0 0 Q (F0 m 4 ls []) := by
    intro l0 n4
    induction n4 with
    | zero =>
      intro l1 l2 H locs ls hl S h
      exact (h_lp0 h).elim
    | succ n4 ih4 =>
      intro l1 l2 H locs ls hl S h
      have h := h_lp h
      unfold l_size_L4 at h
      refine lv_iload_n hx hb dL_size_4 rfl (lv_at hl 2 rfl) ?_
      refine lv_bipush (v := 6) hx hb dL_size_5 (by decide) ?_
      refine lv_icmp_ge (tgt := 24) hx hb dL_size_7 rfl (fun c1 => ?_) (fun c1 => ?_)
      · have h := h_t c1 h
        exact lab24 l1 _ _ _ (lv_sub hl [1] rfl) S h
      · have h := h_f c1 h
        refine lv_iload_n hx hb dL_size_10 rfl (lv_at hl 1 rfl) ?_
        refine lv_iload_n hx hb dL_size_11 rfl (lv_at hl 0 rfl) ?_
        refine lv_iload_n hx hb dL_size_12 rfl (lv_at hl 2 rfl) ?_
        refine lv_ishr hx hb dL_size_13 ?_
        refine lv_iconst (v := 1) hx hb dL_size_14 (by decide) ?_
        refine lv_iand hx hb dL_size_15 ?_
        refine lv_iadd hx hb dL_size_16 ?_
        refine lv_topi (fun v2 ev2 => ?_)
        have h := h_l h v2 ev2
        refine lv_istore_n (lv' := [(1, .int v2), (0, .int l0), (2, .int l2)]) hx hb dL_size_17 rfl hl (Nat.le_of_ble_eq_true rfl) rfl (fun ls hl => ?_)
        refine lv_iinc (v := (l2 + 1)) (lv' := [(2, .int (l2 + 1)), (1, .int v2), (0, .int l0)]) hx hb dL_size_18 hl (k := 2) rfl rfl (Nat.le_of_ble_eq_true rfl) rfl (fun ls hl => ?_)
        refine lv_goto (tgt := 4) hx hb dL_size_21 rfl ?_
        exact ih4 v2 (l2 + 1) _ _ _ (lv_sub hl [2, 1, 0] rfl) S h
  intro H locs ls hl S h
  have h := h_0 h
  unfold l_size at h
  refine lv_iconst (v := 0) hx hb dL_size_0 (by decide) ?_
  refine lv_istore_n (lv' := [(1, .int (0 : Int32)), (0, .int a0)]) hx hb dL_size_1 rfl hl (Nat.le_of_ble_eq_true rfl) rfl (fun ls hl => ?_)
  refine lv_iconst (v := 0) hx hb dL_size_2 (by decide) ?_
  refine lv_istore_n (lv' := [(2, .int (0 : Int32)), (1, .int (0 : Int32)), (0, .int a0)]) hx hb dL_size_3 rfl hl (Nat.le_of_ble_eq_true rfl) rfl (fun ls hl => ?_)
  exact loop4 a0 FU (0 : Int32) (0 : Int32) _ _ _ (lv_sub hl [2, 1, 0] rfl) S (h_bb h)
theorem c_l_size (l : Launch) (D : va_G) (dA : Nat → ClassId) (q : Nat → Nat) (a0 : Int32) (w : Wt) (r : Int32) (h : l_size a0 = some r) : Mi l EVl KL D dA q yL_size cL_size 3 (some .int) RM_l_size [.int a0] w r w :=
  mk_i (by decide) rfl EVl_ok (Nat.le_of_ble_eq_true rfl) (fun p e s m args below meth c A Q ls hx hb hml C S hl fin => k_l_size a0 w r hx hb hml C (fun H locs ls r' pc S h d => fin H locs ls r' w pc S (by rw [Option.some.inj h]) d) _ _ _ hl S h)
/-! BallotscriptLaw.lays([II)I l_lays -/
def l_lays_b201 (l2 : Int32) (l4 : Int32) (t0 : Int32) (t1 : Int32) (w : Wt) : Option (Int32 × Wt) := gd (inb t1 24) (nmd (upd2 w 72 (t1).toNatClampNeg t0) fun w2 => gd (inb (l2 + (2 : Int32)) 24) (nmd (upd2 w2 72 ((l2 + (2 : Int32))).toNatClampNeg (59 : Int32)) fun w4 => (if l4 = (0 : Int32) then some ((l2 + (2 : Int32)), w4) else some ((l2 + (3 : Int32)), w4))))
def l_lays_b184 (l2 : Int32) (l4 : Int32) (t0 : Int32) (t1 : Int32) (w : Wt) : Option (Int32 × Wt) := gd (inb t1 24) (nmd (upd2 w 72 (t1).toNatClampNeg t0) fun w7 => (if l4 = (0 : Int32) then l_lays_b201 l2 l4 (59 : Int32) (l2 + (1 : Int32)) w7 else l_lays_b201 l2 l4 (114 : Int32) (l2 + (1 : Int32)) w7))
def l_lays_b170 (l2 : Int32) (l4 : Int32) (w : Wt) : Option (Int32 × Wt) := (if l4 = (0 : Int32) then l_lays_b184 l2 l4 (114 : Int32) l2 w else l_lays_b184 l2 l4 (41 : Int32) l2 w)
def l_lays_b124 (l2 : Int32) (l3 : Int32) (l4 : Int32) (l5 : Int32) (t0 : Int32) (t1 : Int32) (w : Wt) : Option ((Int32 × Int32 × Int32 × Int32 × Wt) ⊕ (Int32 × Int32 × Wt)) := gd (inb t1 24) (nmd (upd2 w 72 (t1).toNatClampNeg t0) fun w11 => gd (inb (l2 + (1 : Int32)) 24) (nmd (upd2 w11 72 ((l2 + (1 : Int32))).toNatClampNeg (59 : Int32)) fun w13 => (if l4 = (0 : Int32) then gd (nzb (11 : Int32)) (nmd (l3 / (11 : Int32)) fun v16 => some (.inl ((l2 + 2), v16, l4, (l5 + 1), w13))) else gd (nzb (7 : Int32)) ((if (3 : Int32) ≤ (l3 - l3 / (7 : Int32) * (7 : Int32)) then gd (nzb (11 : Int32)) (nmd (l3 / (11 : Int32)) fun v20 => some (.inl ((l2 + 2), v20, l4, (l5 + 1), w13))) else gd (inb (l2 + 2) 24) (nmd (upd2 w13 72 ((l2 + 2)).toNatClampNeg (41 : Int32)) fun w22 => gd (nzb (11 : Int32)) (nmd (l3 / (11 : Int32)) fun v24 => some (.inl (((l2 + 2) + 1), v24, (0 : Int32), (l5 + 1), w22)))))))))
def l_lays_b44 (l2 : Int32) (l3 : Int32) (l4 : Int32) (l5 : Int32) (w : Wt) : Option ((Int32 × Int32 × Int32 × Int32 × Wt) ⊕ (Int32 × Int32 × Wt)) := gd (nzb (5 : Int32)) (gd (nzb (9 : Int32)) (nmd ((l3 / (5 : Int32)) - (l3 / (5 : Int32)) / (9 : Int32) * (9 : Int32)) fun v27 => (if (3 : Int32) ≤ v27 then (if v27 = (3 : Int32) then l_lays_b124 l2 l3 l4 l5 (98 : Int32) l2 w else (if v27 = (4 : Int32) then l_lays_b124 l2 l3 l4 l5 (120 : Int32) l2 w else (if v27 = (5 : Int32) then l_lays_b124 l2 l3 l4 l5 (109 : Int32) l2 w else (if v27 = (6 : Int32) then l_lays_b124 l2 l3 l4 l5 (113 : Int32) l2 w else (if v27 = (7 : Int32) then l_lays_b124 l2 l3 l4 l5 (104 : Int32) l2 w else l_lays_b124 l2 l3 l4 l5 (97 : Int32) l2 w))))) else l_lays_b124 l2 l3 l4 l5 (116 : Int32) l2 w)))
def l_lays_L10 : (Int32 × Int32 × Int32 × Int32 × Wt) → Option ((Int32 × Int32 × Int32 × Int32 × Wt) ⊕ (Int32 × Int32 × Wt))
  | (l2, l3, l4, l5, w) => (if (5 : Int32) ≤ l5 then some (.inr (l2, l4, w)) else gd (nzb (5 : Int32)) ((if (l3 - l3 / (5 : Int32) * (5 : Int32)) = (0 : Int32) then (if l4 = (0 : Int32) then (if (4 : Int32) ≤ l5 then l_lays_b44 l2 l3 l4 l5 w else gd (inb l2 24) (nmd (upd2 w 72 (l2).toNatClampNeg (40 : Int32)) fun w40 => l_lays_b44 (l2 + 1) l3 (1 : Int32) l5 w40)) else l_lays_b44 l2 l3 l4 l5 w) else l_lays_b44 l2 l3 l4 l5 w)))
def l_lays_x10 : (Int32 × Int32 × Wt) → Option (Int32 × Wt)
  | (l2, l4, w) => l_lays_b170 l2 l4 w
def l_lays (a1 : Int32) (w : Wt) : Option (Int32 × Wt) := Option.bind (lp (l_lays_L10) FU ((0 : Int32), a1, (0 : Int32), (0 : Int32), w)) (l_lays_x10)
def RM_l_lays : Room := { frames := 0, cells := 0, slots := 0, locals := 0 }
set_option maxHeartbeats 4000000 in
set_option maxRecDepth 20000 in
theorem k_l_lays (a1 : Int32) (w : Wt) (z : (Int32 × Wt)) (hx : p.tables.exec = Jvm.exec) (hb : c.code = cL_lays) (hml : c.maxLocals = 7) (C : Cx EVl KL D dA q A s m args RL) (fin : ∀ (H : Heap) (locs : List Loc) (ls : Array Slot) (r' : Int32) (w2 : Wt) (pc : Nat) , Sta KL D dA q A s.heap w2 H locs → some (r', w2) = some z → decode cL_lays pc = .ok (.ireturn, 1) → W p l e RM_l_lays s m args below meth c H locs 0 0 Q (F0 m pc ls [.int r'])) : ∀ (H : Heap) (locs : List Loc) (ls : Array Slot), lv_has ls 7 [(0, .ref (q 72)), (1, .int a1)] → Sta KL D dA q A s.heap w H locs → l_lays a1 w = some z → W p l e RM_l_lays s m args below meth c H locs 0 0 Q (F0 m 0 ls []) := by
  have ev : evOk EVl := EVl_ok
  have lab201 : ∀ (l2 : Int32) (l4 : Int32) (t0 : Int32) (t1 : Int32) (w : Wt) (H : Heap) (locs : List Loc) (ls : Array Slot), lv_has ls 7 [(0, .ref (q 72)), (2, .int l2), (4, .int l4)] → Sta KL D dA q A s.heap w H locs → Option.bind (l_lays_b201 l2 l4 t0 t1 w) some = some z → W p l e RM_l_lays s m args below meth c H locs 0 0 Q (F0 m 201 ls [.int t0, .int t1, .ref (q 72)]) := by
    intro l2 l4 t0 t1 w H locs ls hl S h
    unfold l_lays_b201 at h
    obtain ⟨g1, h⟩ := h_gd h
    refine r_iast hx hb C S KL_72 (h_in g1) dL_lays_201 (fun w2 ew2 H locs S => ?_)
    have h := h_l h w2 ew2
    refine lv_aload_n hx hb dL_lays_202 rfl (lv_at hl 0 rfl) ?_
    refine lv_iload_n hx hb dL_lays_203 rfl (lv_at hl 1 rfl) ?_
    refine lv_iconst (v := 2) hx hb dL_lays_204 (by decide) ?_
    refine lv_iadd hx hb dL_lays_205 ?_
    refine lv_bipush (v := 59) hx hb dL_lays_206 (by decide) ?_
    obtain ⟨g3, h⟩ := h_gd h
    refine r_iast hx hb C S KL_72 (h_in g3) dL_lays_208 (fun w4 ew4 H locs S => ?_)
    have h := h_l h w4 ew4
    refine lv_iload_n hx hb dL_lays_209 rfl (lv_at hl 1 rfl) ?_
    refine lv_iload hx hb dL_lays_210 (lv_at hl 2 rfl) ?_
    refine lv_if_eq (tgt := 219) hx hb dL_lays_212 rfl (fun c5 => ?_) (fun c5 => ?_)
    · have h := h_t c5 h
      refine lv_iconst (v := 2) hx hb dL_lays_219 (by decide) ?_
      refine lv_iadd hx hb dL_lays_220 ?_
      exact fin _ _ _ (l2 + (2 : Int32)) w4 _ S h dL_lays_221
    · have h := h_f c5 h
      refine lv_iconst (v := 3) hx hb dL_lays_215 (by decide) ?_
      refine lv_goto (tgt := 220) hx hb dL_lays_216 rfl ?_
      refine lv_iadd hx hb dL_lays_220 ?_
      exact fin _ _ _ (l2 + (3 : Int32)) w4 _ S h dL_lays_221
  have lab184 : ∀ (l2 : Int32) (l4 : Int32) (t0 : Int32) (t1 : Int32) (w : Wt) (H : Heap) (locs : List Loc) (ls : Array Slot), lv_has ls 7 [(0, .ref (q 72)), (2, .int l2), (4, .int l4)] → Sta KL D dA q A s.heap w H locs → Option.bind (l_lays_b184 l2 l4 t0 t1 w) some = some z → W p l e RM_l_lays s m args below meth c H locs 0 0 Q (F0 m 184 ls [.int t0, .int t1, .ref (q 72)]) := by
    intro l2 l4 t0 t1 w H locs ls hl S h
    unfold l_lays_b184 at h
    obtain ⟨g6, h⟩ := h_gd h
    refine r_iast hx hb C S KL_72 (h_in g6) dL_lays_184 (fun w7 ew7 H locs S => ?_)
    have h := h_l h w7 ew7
    refine lv_aload_n hx hb dL_lays_185 rfl (lv_at hl 0 rfl) ?_
    refine lv_iload_n hx hb dL_lays_186 rfl (lv_at hl 1 rfl) ?_
    refine lv_iconst (v := 1) hx hb dL_lays_187 (by decide) ?_
    refine lv_iadd hx hb dL_lays_188 ?_
    refine lv_iload hx hb dL_lays_189 (lv_at hl 2 rfl) ?_
    refine lv_if_eq (tgt := 199) hx hb dL_lays_191 rfl (fun c8 => ?_) (fun c8 => ?_)
    · have h := h_t c8 h
      refine lv_bipush (v := 59) hx hb dL_lays_199 (by decide) ?_
      exact lab201 l2 l4 (59 : Int32) (l2 + (1 : Int32)) w7 _ _ _ (lv_sub hl [0, 1, 2] rfl) S h
    · have h := h_f c8 h
      refine lv_bipush (v := 114) hx hb dL_lays_194 (by decide) ?_
      refine lv_goto (tgt := 201) hx hb dL_lays_196 rfl ?_
      exact lab201 l2 l4 (114 : Int32) (l2 + (1 : Int32)) w7 _ _ _ (lv_sub hl [0, 1, 2] rfl) S h
  have lab170 : ∀ (l2 : Int32) (l4 : Int32) (w : Wt) (H : Heap) (locs : List Loc) (ls : Array Slot), lv_has ls 7 [(0, .ref (q 72)), (2, .int l2), (4, .int l4)] → Sta KL D dA q A s.heap w H locs → Option.bind (l_lays_b170 l2 l4 w) some = some z → W p l e RM_l_lays s m args below meth c H locs 0 0 Q (F0 m 170 ls []) := by
    intro l2 l4 w H locs ls hl S h
    unfold l_lays_b170 at h
    refine lv_aload_n hx hb dL_lays_170 rfl (lv_at hl 0 rfl) ?_
    refine lv_iload_n hx hb dL_lays_171 rfl (lv_at hl 1 rfl) ?_
    refine lv_iload hx hb dL_lays_172 (lv_at hl 2 rfl) ?_
    refine lv_if_eq (tgt := 182) hx hb dL_lays_174 rfl (fun c9 => ?_) (fun c9 => ?_)
    · have h := h_t c9 h
      refine lv_bipush (v := 114) hx hb dL_lays_182 (by decide) ?_
      exact lab184 l2 l4 (114 : Int32) l2 w _ _ _ (lv_sub hl [0, 1, 2] rfl) S h
    · have h := h_f c9 h
      refine lv_bipush (v := 41) hx hb dL_lays_177 (by decide) ?_
      refine lv_goto (tgt := 184) hx hb dL_lays_179 rfl ?_
      exact lab184 l2 l4 (41 : Int32) l2 w _ _ _ (lv_sub hl [0, 1, 2] rfl) S h
  have loop10 : ∀ (n10 : Nat), ∀ (l2 : Int32) (l3 : Int32) (l4 : Int32) (l5 : Int32) (w : Wt) (H : Heap) (locs : List Loc) (ls : Array Slot), lv_has ls 7 [(0, .ref (q 72)), (2, .int l2), (3, .int l3), (4, .int l4), (5, .int l5)] → Sta KL D dA q A s.heap w H locs → Option.bind (lp (l_lays_L10) n10 (l2, l3, l4, l5, w)) (fun x9 => Option.bind (l_lays_x10 x9) some) = some z → W p l e RM_l_lays s m args below meth c H locs 0 0 Q (F0 m 10 ls []) := by
    intro  n10
    induction n10 with
    | zero =>
      intro l2 l3 l4 l5 w H locs ls hl S h
      exact (h_lp0 h).elim
    | succ n10 ih10 =>
      have lab124 : ∀ (l2 : Int32) (l3 : Int32) (l4 : Int32) (l5 : Int32) (t0 : Int32) (t1 : Int32) (w : Wt) (H : Heap) (locs : List Loc) (ls : Array Slot), lv_has ls 7 [(0, .ref (q 72)), (2, .int l2), (3, .int l3), (4, .int l4), (5, .int l5)] → Sta KL D dA q A s.heap w H locs → Option.bind (l_lays_b124 l2 l3 l4 l5 t0 t1 w) (seqF (fun s9 => Option.bind (lp (l_lays_L10) n10 s9) (fun x9 => Option.bind (l_lays_x10 x9) some)) (fun x9 => Option.bind (l_lays_x10 x9) some)) = some z → W p l e RM_l_lays s m args below meth c H locs 0 0 Q (F0 m 124 ls [.int t0, .int t1, .ref (q 72)]) := by
        intro l2 l3 l4 l5 t0 t1 w H locs ls hl S h
        unfold l_lays_b124 at h
        obtain ⟨g10, h⟩ := h_gd h
        refine r_iast hx hb C S KL_72 (h_in g10) dL_lays_124 (fun w11 ew11 H locs S => ?_)
        have h := h_l h w11 ew11
        refine lv_aload_n hx hb dL_lays_125 rfl (lv_at hl 0 rfl) ?_
        refine lv_iload_n hx hb dL_lays_126 rfl (lv_at hl 1 rfl) ?_
        refine lv_iconst (v := 1) hx hb dL_lays_127 (by decide) ?_
        refine lv_iadd hx hb dL_lays_128 ?_
        refine lv_bipush (v := 59) hx hb dL_lays_129 (by decide) ?_
        obtain ⟨g12, h⟩ := h_gd h
        refine r_iast hx hb C S KL_72 (h_in g12) dL_lays_131 (fun w13 ew13 H locs S => ?_)
        have h := h_l h w13 ew13
        refine lv_iinc (v := (l2 + 2)) (lv' := [(2, .int (l2 + 2)), (0, .ref (q 72)), (3, .int l3), (4, .int l4), (5, .int l5)]) hx hb dL_lays_132 hl (k := 1) rfl rfl (Nat.le_of_ble_eq_true rfl) rfl (fun ls hl => ?_)
        refine lv_iload hx hb dL_lays_135 (lv_at hl 3 rfl) ?_
        refine lv_if_eq (tgt := 159) hx hb dL_lays_137 rfl (fun c14 => ?_) (fun c14 => ?_)
        · have h := h_t c14 h
          refine lv_iload_n hx hb dL_lays_159 rfl (lv_at hl 2 rfl) ?_
          refine lv_bipush (v := 11) hx hb dL_lays_160 (by decide) ?_
          obtain ⟨g15, h⟩ := h_gd h
          refine lv_idiv hx hb dL_lays_162 (nz_of g15) ?_
          refine lv_topi (fun v16 ev16 => ?_)
          have h := h_l h v16 ev16
          refine lv_istore_n (lv' := [(3, .int v16), (2, .int (l2 + 2)), (0, .ref (q 72)), (4, .int l4), (5, .int l5)]) hx hb dL_lays_163 rfl hl (Nat.le_of_ble_eq_true rfl) rfl (fun ls hl => ?_)
          refine lv_iinc (v := (l5 + 1)) (lv' := [(5, .int (l5 + 1)), (3, .int v16), (2, .int (l2 + 2)), (0, .ref (q 72)), (4, .int l4)]) hx hb dL_lays_164 hl (k := 4) rfl rfl (Nat.le_of_ble_eq_true rfl) rfl (fun ls hl => ?_)
          refine lv_goto (tgt := 10) hx hb dL_lays_167 rfl ?_
          exact ih10 (l2 + 2) v16 l4 (l5 + 1) w13 _ _ _ (lv_sub hl [3, 2, 1, 4, 0] rfl) S h
        · have h := h_f c14 h
          refine lv_iload_n hx hb dL_lays_140 rfl (lv_at hl 2 rfl) ?_
          refine lv_bipush (v := 7) hx hb dL_lays_141 (by decide) ?_
          obtain ⟨g17, h⟩ := h_gd h
          refine lv_irem hx hb dL_lays_143 (nz_of g17) ?_
          refine lv_iconst (v := 3) hx hb dL_lays_144 (by decide) ?_
          refine lv_icmp_ge (tgt := 159) hx hb dL_lays_145 rfl (fun c18 => ?_) (fun c18 => ?_)
          · have h := h_t c18 h
            refine lv_iload_n hx hb dL_lays_159 rfl (lv_at hl 2 rfl) ?_
            refine lv_bipush (v := 11) hx hb dL_lays_160 (by decide) ?_
            obtain ⟨g19, h⟩ := h_gd h
            refine lv_idiv hx hb dL_lays_162 (nz_of g19) ?_
            refine lv_topi (fun v20 ev20 => ?_)
            have h := h_l h v20 ev20
            refine lv_istore_n (lv' := [(3, .int v20), (2, .int (l2 + 2)), (0, .ref (q 72)), (4, .int l4), (5, .int l5)]) hx hb dL_lays_163 rfl hl (Nat.le_of_ble_eq_true rfl) rfl (fun ls hl => ?_)
            refine lv_iinc (v := (l5 + 1)) (lv' := [(5, .int (l5 + 1)), (3, .int v20), (2, .int (l2 + 2)), (0, .ref (q 72)), (4, .int l4)]) hx hb dL_lays_164 hl (k := 4) rfl rfl (Nat.le_of_ble_eq_true rfl) rfl (fun ls hl => ?_)
            refine lv_goto (tgt := 10) hx hb dL_lays_167 rfl ?_
            exact ih10 (l2 + 2) v20 l4 (l5 + 1) w13 _ _ _ (lv_sub hl [3, 2, 1, 4, 0] rfl) S h
          · have h := h_f c18 h
            refine lv_aload_n hx hb dL_lays_148 rfl (lv_at hl 1 rfl) ?_
            refine lv_iload_n hx hb dL_lays_149 rfl (lv_at hl 0 rfl) ?_
            refine lv_bipush (v := 41) hx hb dL_lays_150 (by decide) ?_
            obtain ⟨g21, h⟩ := h_gd h
            refine r_iast hx hb C S KL_72 (h_in g21) dL_lays_152 (fun w22 ew22 H locs S => ?_)
            have h := h_l h w22 ew22
            refine lv_iinc (v := ((l2 + 2) + 1)) (lv' := [(2, .int ((l2 + 2) + 1)), (0, .ref (q 72)), (3, .int l3), (4, .int l4), (5, .int l5)]) hx hb dL_lays_153 hl (k := 0) rfl rfl (Nat.le_of_ble_eq_true rfl) rfl (fun ls hl => ?_)
            refine lv_iconst (v := 0) hx hb dL_lays_156 (by decide) ?_
            refine lv_istore (lv' := [(4, .int (0 : Int32)), (2, .int ((l2 + 2) + 1)), (0, .ref (q 72)), (3, .int l3), (5, .int l5)]) hx hb dL_lays_157 hl (Nat.le_of_ble_eq_true rfl) rfl (fun ls hl => ?_)
            refine lv_iload_n hx hb dL_lays_159 rfl (lv_at hl 3 rfl) ?_
            refine lv_bipush (v := 11) hx hb dL_lays_160 (by decide) ?_
            obtain ⟨g23, h⟩ := h_gd h
            refine lv_idiv hx hb dL_lays_162 (nz_of g23) ?_
            refine lv_topi (fun v24 ev24 => ?_)
            have h := h_l h v24 ev24
            refine lv_istore_n (lv' := [(3, .int v24), (4, .int (0 : Int32)), (2, .int ((l2 + 2) + 1)), (0, .ref (q 72)), (5, .int l5)]) hx hb dL_lays_163 rfl hl (Nat.le_of_ble_eq_true rfl) rfl (fun ls hl => ?_)
            refine lv_iinc (v := (l5 + 1)) (lv' := [(5, .int (l5 + 1)), (3, .int v24), (4, .int (0 : Int32)), (2, .int ((l2 + 2) + 1)), (0, .ref (q 72))]) hx hb dL_lays_164 hl (k := 4) rfl rfl (Nat.le_of_ble_eq_true rfl) rfl (fun ls hl => ?_)
            refine lv_goto (tgt := 10) hx hb dL_lays_167 rfl ?_
            exact ih10 ((l2 + 2) + 1) v24 (0 : Int32) (l5 + 1) w22 _ _ _ (lv_sub hl [4, 3, 1, 2, 0] rfl) S h
      have lab44 : ∀ (l2 : Int32) (l3 : Int32) (l4 : Int32) (l5 : Int32) (w : Wt) (H : Heap) (locs : List Loc) (ls : Array Slot), lv_has ls 7 [(0, .ref (q 72)), (2, .int l2), (3, .int l3), (4, .int l4), (5, .int l5)] → Sta KL D dA q A s.heap w H locs → Option.bind (l_lays_b44 l2 l3 l4 l5 w) (seqF (fun s9 => Option.bind (lp (l_lays_L10) n10 s9) (fun x9 => Option.bind (l_lays_x10 x9) some)) (fun x9 => Option.bind (l_lays_x10 x9) some)) = some z → W p l e RM_l_lays s m args below meth c H locs 0 0 Q (F0 m 44 ls []) := by
        intro l2 l3 l4 l5 w H locs ls hl S h
        unfold l_lays_b44 at h
        refine lv_iload_n hx hb dL_lays_44 rfl (lv_at hl 2 rfl) ?_
        refine lv_iconst (v := 5) hx hb dL_lays_45 (by decide) ?_
        obtain ⟨g25, h⟩ := h_gd h
        refine lv_idiv hx hb dL_lays_46 (nz_of g25) ?_
        refine lv_bipush (v := 9) hx hb dL_lays_47 (by decide) ?_
        obtain ⟨g26, h⟩ := h_gd h
        refine lv_irem hx hb dL_lays_49 (nz_of g26) ?_
        refine lv_topi (fun v27 ev27 => ?_)
        have h := h_l h v27 ev27
        refine lv_istore (lv' := [(6, .int v27), (0, .ref (q 72)), (2, .int l2), (3, .int l3), (4, .int l4), (5, .int l5)]) hx hb dL_lays_50 hl (Nat.le_of_ble_eq_true rfl) rfl (fun ls hl => ?_)
        refine lv_aload_n hx hb dL_lays_52 rfl (lv_at hl 1 rfl) ?_
        refine lv_iload_n hx hb dL_lays_53 rfl (lv_at hl 2 rfl) ?_
        refine lv_iload hx hb dL_lays_54 (lv_at hl 0 rfl) ?_
        refine lv_iconst (v := 3) hx hb dL_lays_56 (by decide) ?_
        refine lv_icmp_ge (tgt := 65) hx hb dL_lays_57 rfl (fun c28 => ?_) (fun c28 => ?_)
        · have h := h_t c28 h
          refine lv_iload hx hb dL_lays_65 (lv_at hl 0 rfl) ?_
          refine lv_iconst (v := 3) hx hb dL_lays_67 (by decide) ?_
          refine lv_icmp_ne (tgt := 76) hx hb dL_lays_68 rfl (fun c29 => ?_) (fun c29 => ?_)
          · have h := h_f c29 h
            refine lv_iload hx hb dL_lays_76 (lv_at hl 0 rfl) ?_
            refine lv_iconst (v := 4) hx hb dL_lays_78 (by decide) ?_
            refine lv_icmp_ne (tgt := 87) hx hb dL_lays_79 rfl (fun c30 => ?_) (fun c30 => ?_)
            · have h := h_f c30 h
              refine lv_iload hx hb dL_lays_87 (lv_at hl 0 rfl) ?_
              refine lv_iconst (v := 5) hx hb dL_lays_89 (by decide) ?_
              refine lv_icmp_ne (tgt := 98) hx hb dL_lays_90 rfl (fun c31 => ?_) (fun c31 => ?_)
              · have h := h_f c31 h
                refine lv_iload hx hb dL_lays_98 (lv_at hl 0 rfl) ?_
                refine lv_bipush (v := 6) hx hb dL_lays_100 (by decide) ?_
                refine lv_icmp_ne (tgt := 110) hx hb dL_lays_102 rfl (fun c32 => ?_) (fun c32 => ?_)
                · have h := h_f c32 h
                  refine lv_iload hx hb dL_lays_110 (lv_at hl 0 rfl) ?_
                  refine lv_bipush (v := 7) hx hb dL_lays_112 (by decide) ?_
                  refine lv_icmp_ne (tgt := 122) hx hb dL_lays_114 rfl (fun c33 => ?_) (fun c33 => ?_)
                  · have h := h_f c33 h
                    refine lv_bipush (v := 97) hx hb dL_lays_122 (by decide) ?_
                    exact lab124 l2 l3 l4 l5 (97 : Int32) l2 w _ _ _ (lv_sub hl [1, 2, 3, 4, 5] rfl) S h
                  · have h := h_t c33 h
                    refine lv_bipush (v := 104) hx hb dL_lays_117 (by decide) ?_
                    refine lv_goto (tgt := 124) hx hb dL_lays_119 rfl ?_
                    exact lab124 l2 l3 l4 l5 (104 : Int32) l2 w _ _ _ (lv_sub hl [1, 2, 3, 4, 5] rfl) S h
                · have h := h_t c32 h
                  refine lv_bipush (v := 113) hx hb dL_lays_105 (by decide) ?_
                  refine lv_goto (tgt := 124) hx hb dL_lays_107 rfl ?_
                  exact lab124 l2 l3 l4 l5 (113 : Int32) l2 w _ _ _ (lv_sub hl [1, 2, 3, 4, 5] rfl) S h
              · have h := h_t c31 h
                refine lv_bipush (v := 109) hx hb dL_lays_93 (by decide) ?_
                refine lv_goto (tgt := 124) hx hb dL_lays_95 rfl ?_
                exact lab124 l2 l3 l4 l5 (109 : Int32) l2 w _ _ _ (lv_sub hl [1, 2, 3, 4, 5] rfl) S h
            · have h := h_t c30 h
              refine lv_bipush (v := 120) hx hb dL_lays_82 (by decide) ?_
              refine lv_goto (tgt := 124) hx hb dL_lays_84 rfl ?_
              exact lab124 l2 l3 l4 l5 (120 : Int32) l2 w _ _ _ (lv_sub hl [1, 2, 3, 4, 5] rfl) S h
          · have h := h_t c29 h
            refine lv_bipush (v := 98) hx hb dL_lays_71 (by decide) ?_
            refine lv_goto (tgt := 124) hx hb dL_lays_73 rfl ?_
            exact lab124 l2 l3 l4 l5 (98 : Int32) l2 w _ _ _ (lv_sub hl [1, 2, 3, 4, 5] rfl) S h
        · have h := h_f c28 h
          refine lv_bipush (v := 116) hx hb dL_lays_60 (by decide) ?_
          refine lv_goto (tgt := 124) hx hb dL_lays_62 rfl ?_
          exact lab124 l2 l3 l4 l5 (116 : Int32) l2 w _ _ _ (lv_sub hl [1, 2, 3, 4, 5] rfl) S h
      intro l2 l3 l4 l5 w H locs ls hl S h
      have h := h_lp h
      unfold l_lays_L10 at h
      refine lv_iload hx hb dL_lays_10 (lv_at hl 4 rfl) ?_
      refine lv_iconst (v := 5) hx hb dL_lays_12 (by decide) ?_
      refine lv_icmp_ge (tgt := 170) hx hb dL_lays_13 rfl (fun c34 => ?_) (fun c34 => ?_)
      · have h := h_t c34 h
        exact lab170 l2 l4 w _ _ _ (lv_sub hl [0, 1, 3] rfl) S h
      · have h := h_f c34 h
        refine lv_iload_n hx hb dL_lays_16 rfl (lv_at hl 2 rfl) ?_
        refine lv_iconst (v := 5) hx hb dL_lays_17 (by decide) ?_
        obtain ⟨g35, h⟩ := h_gd h
        refine lv_irem hx hb dL_lays_18 (nz_of g35) ?_
        refine lv_if_ne (tgt := 44) hx hb dL_lays_19 rfl (fun c36 => ?_) (fun c36 => ?_)
        · have h := h_f c36 h
          exact lab44 l2 l3 l4 l5 w _ _ _ (lv_sub hl [0, 1, 2, 3, 4] rfl) S h
        · have h := h_t c36 h
          refine lv_iload hx hb dL_lays_22 (lv_at hl 3 rfl) ?_
          refine lv_if_ne (tgt := 44) hx hb dL_lays_24 rfl (fun c37 => ?_) (fun c37 => ?_)
          · have h := h_f c37 h
            exact lab44 l2 l3 l4 l5 w _ _ _ (lv_sub hl [0, 1, 2, 3, 4] rfl) S h
          · have h := h_t c37 h
            refine lv_iload hx hb dL_lays_27 (lv_at hl 4 rfl) ?_
            refine lv_iconst (v := 4) hx hb dL_lays_29 (by decide) ?_
            refine lv_icmp_ge (tgt := 44) hx hb dL_lays_30 rfl (fun c38 => ?_) (fun c38 => ?_)
            · have h := h_t c38 h
              exact lab44 l2 l3 l4 l5 w _ _ _ (lv_sub hl [0, 1, 2, 3, 4] rfl) S h
            · have h := h_f c38 h
              refine lv_aload_n hx hb dL_lays_33 rfl (lv_at hl 0 rfl) ?_
              refine lv_iload_n hx hb dL_lays_34 rfl (lv_at hl 1 rfl) ?_
              refine lv_bipush (v := 40) hx hb dL_lays_35 (by decide) ?_
              obtain ⟨g39, h⟩ := h_gd h
              refine r_iast hx hb C S KL_72 (h_in g39) dL_lays_37 (fun w40 ew40 H locs S => ?_)
              have h := h_l h w40 ew40
              refine lv_iinc (v := (l2 + 1)) (lv' := [(2, .int (l2 + 1)), (0, .ref (q 72)), (3, .int l3), (4, .int l4), (5, .int l5)]) hx hb dL_lays_38 hl (k := 1) rfl rfl (Nat.le_of_ble_eq_true rfl) rfl (fun ls hl => ?_)
              refine lv_iconst (v := 1) hx hb dL_lays_41 (by decide) ?_
              refine lv_istore (lv' := [(4, .int (1 : Int32)), (2, .int (l2 + 1)), (0, .ref (q 72)), (3, .int l3), (5, .int l5)]) hx hb dL_lays_42 hl (Nat.le_of_ble_eq_true rfl) rfl (fun ls hl => ?_)
              exact lab44 (l2 + 1) l3 (1 : Int32) l5 w40 _ _ _ (lv_sub hl [2, 1, 3, 0, 4] rfl) S h
  intro H locs ls hl S h
  have h := h_0 h
  unfold l_lays at h
  refine lv_iconst (v := 0) hx hb dL_lays_0 (by decide) ?_
  refine lv_istore_n (lv' := [(2, .int (0 : Int32)), (0, .ref (q 72)), (1, .int a1)]) hx hb dL_lays_1 rfl hl (Nat.le_of_ble_eq_true rfl) rfl (fun ls hl => ?_)
  refine lv_iload_n hx hb dL_lays_2 rfl (lv_at hl 2 rfl) ?_
  refine lv_istore_n (lv' := [(3, .int a1), (2, .int (0 : Int32)), (0, .ref (q 72)), (1, .int a1)]) hx hb dL_lays_3 rfl hl (Nat.le_of_ble_eq_true rfl) rfl (fun ls hl => ?_)
  refine lv_iconst (v := 0) hx hb dL_lays_4 (by decide) ?_
  refine lv_istore (lv' := [(4, .int (0 : Int32)), (3, .int a1), (2, .int (0 : Int32)), (0, .ref (q 72)), (1, .int a1)]) hx hb dL_lays_5 hl (Nat.le_of_ble_eq_true rfl) rfl (fun ls hl => ?_)
  refine lv_iconst (v := 0) hx hb dL_lays_7 (by decide) ?_
  refine lv_istore (lv' := [(5, .int (0 : Int32)), (4, .int (0 : Int32)), (3, .int a1), (2, .int (0 : Int32)), (0, .ref (q 72)), (1, .int a1)]) hx hb dL_lays_8 hl (Nat.le_of_ble_eq_true rfl) rfl (fun ls hl => ?_)
  exact loop10  FU (0 : Int32) a1 (0 : Int32) (0 : Int32) w _ _ _ (lv_sub hl [4, 3, 2, 1, 0] rfl) S (h_bb h)
theorem c_l_lays (l : Launch) (D : va_G) (dA : Nat → ClassId) (q : Nat → Nat) (a1 : Int32) (w w' : Wt) (r : Int32) (h : l_lays a1 w = some (r, w')) : Mi l EVl KL D dA q yL_lays cL_lays 7 (some .int) RM_l_lays [.ref (q 72), .int a1] w r w' :=
  mk_i (by decide) rfl EVl_ok (Nat.le_of_ble_eq_true rfl) (fun p e s m args below meth c A Q ls hx hb hml C S hl fin => k_l_lays a1 w (r, w') hx hb hml C (fun H locs ls r' w2 pc S h d => fin H locs ls r' w2 pc S h d) _ _ _ hl S h)
/-! BallotscriptLaw.types(LBallotscript;[II)Z l_types -/
def l_types_b53 (l3 : Int32) (w : Wt) : Option (Int32 × Wt) := gd (bob l3) (some (l3, w))
def l_types_L16 (l2 : Int32) : (Int32 × Int32 × Wt) → Option ((Int32 × Int32 × Wt) ⊕ (Int32 × Wt))
  | (l3, l4, w) => (if l2 ≤ l4 then some (.inr (l3, w)) else (if l3 = (0 : Int32) then some (.inr (l3, w)) else gd (inb l4 24) (Option.bind (l_type (w 72 (l4).toNatClampNeg) w) fun x5 => nmd (jn x5.2 w) fun w6 => (if x5.1 = (l4 + (1 : Int32)) then some (.inl ((1 : Int32), (l4 + 1), w6)) else some (.inl ((0 : Int32), (l4 + 1), w6))))))
def l_types_x16 : (Int32 × Wt) → Option (Int32 × Wt)
  | (l3, w) => l_types_b53 l3 w
def l_types_b12 (l2 : Int32) (t0 : Int32) (w : Wt) : Option (Int32 × Wt) := Option.bind (lp (l_types_L16 l2) 25 (t0, (0 : Int32), w)) (l_types_x16)
def l_types (a2 : Int32) (w : Wt) : Option (Int32 × Wt) := Option.bind (f_Ballotscript_wipe w) fun x8 => nmd (jn x8.2 w) fun w9 => (if x8.1 < (0 : Int32) then l_types_b12 a2 (0 : Int32) w9 else l_types_b12 a2 (1 : Int32) w9)
def RM_l_types : Room := { frames := 61, cells := 100, slots := 600, locals := 1522 }
set_option maxHeartbeats 8000000 in
set_option maxRecDepth 20000 in
theorem k_l_types (a2 : Int32) (w : Wt) (z : (Int32 × Wt)) (hfl : l.stackTraces = false) (hx : p.tables.exec = Jvm.exec) (hb : c.code = cL_types) (hml : c.maxLocals = 5) (C : Cx EVl KL D dA q A s m args RL) (fin : ∀ (H : Heap) (locs : List Loc) (ls : Array Slot) (r' : Int32) (w2 : Wt) (pc cl sl : Nat), cl ≤ 100 → sl ≤ 600 → narrow .boolean (.int r') = .int r' → Sta KL D dA q A s.heap w2 H locs → some (r', w2) = some z → decode cL_types pc = .ok (.ireturn, 1) → W p l e RM_l_types s m args below meth c H locs cl sl Q (F0 m pc ls [.int r'])) : ∀ (H : Heap) (locs : List Loc) (ls : Array Slot), lv_has ls 5 [(0, .ref (q 0)), (1, .ref (q 72)), (2, .int a2)] → Sta KL D dA q A s.heap w H locs → l_types a2 w = some z → W p l e RM_l_types s m args below meth c H locs 0 0 Q (F0 m 0 ls []) := by
  have ev : evOk EVl := EVl_ok
  have lab53 : ∀ (l3 : Int32) (w : Wt) (cl sl : Nat) (hc : cl + 0 ≤ 100) (hs : sl + 6 * 0 ≤ 600) (H : Heap) (locs : List Loc) (ls : Array Slot), lv_has ls 5 [(3, .int l3)] → Sta KL D dA q A s.heap w H locs → Option.bind (l_types_b53 l3 w) some = some z → W p l e RM_l_types s m args below meth c H locs cl sl Q (F0 m 53 ls []) := by
    intro l3 w cl sl hc hs H locs ls hl S h
    unfold l_types_b53 at h
    refine lv_iload_n hx hb dL_types_53 rfl (lv_at hl 0 rfl) ?_
    obtain ⟨g1, h⟩ := h_gd h
    exact fin _ _ _ l3 w _ _ _ (by omega) (by omega) (bo_of g1).1 S h dL_types_54
  have loop16 : ∀ (l2 : Int32) (n16 : Nat), ∀ (l3 : Int32) (l4 : Int32) (w : Wt) (cl sl : Nat) (hc : cl + (n16 * 4) ≤ 100) (hs : sl + 6 * (n16 * 4) ≤ 600) (H : Heap) (locs : List Loc) (ls : Array Slot), lv_has ls 5 [(0, .ref (q 0)), (1, .ref (q 72)), (2, .int l2), (3, .int l3), (4, .int l4)] → Sta KL D dA q A s.heap w H locs → Option.bind (lp (l_types_L16 l2) n16 (l3, l4, w)) (fun x9 => Option.bind (l_types_x16 x9) some) = some z → W p l e RM_l_types s m args below meth c H locs cl sl Q (F0 m 16 ls []) := by
    intro l2 n16
    induction n16 with
    | zero =>
      intro l3 l4 w cl sl hc hs H locs ls hl S h
      exact (h_lp0 h).elim
    | succ n16 ih16 =>
      intro l3 l4 w cl sl hc hs H locs ls hl S h
      have h := h_lp h
      unfold l_types_L16 at h
      refine lv_iload hx hb dL_types_16 (lv_at hl 4 rfl) ?_
      refine lv_iload_n hx hb dL_types_18 rfl (lv_at hl 2 rfl) ?_
      refine lv_icmp_ge (tgt := 53) hx hb dL_types_19 rfl (fun c2 => ?_) (fun c2 => ?_)
      · have h := h_t c2 h
        exact lab53 l3 w _ _ (by omega) (by omega) _ _ _ (lv_sub hl [3] rfl) S h
      · have h := h_f c2 h
        refine lv_iload_n hx hb dL_types_22 rfl (lv_at hl 3 rfl) ?_
        refine lv_if_eq (tgt := 53) hx hb dL_types_23 rfl (fun c3 => ?_) (fun c3 => ?_)
        · have h := h_t c3 h
          exact lab53 l3 w _ _ (by omega) (by omega) _ _ _ (lv_sub hl [3] rfl) S h
        · have h := h_f c3 h
          refine lv_aload_n hx hb dL_types_26 rfl (lv_at hl 0 rfl) ?_
          refine lv_aload_n hx hb dL_types_27 rfl (lv_at hl 1 rfl) ?_
          refine lv_iload hx hb dL_types_28 (lv_at hl 4 rfl) ?_
          obtain ⟨g4, h⟩ := h_gd h
          refine r_iald hx hb C S KL_72 (h_in g4) dL_types_30 ?_
          obtain ⟨x5, ex5, h⟩ := h_c h
          refine kl_i C S (w_S (rest := []) (As := [.ref (q 0), .int (w 72 (l4).toNatClampNeg)]) lw_106 hx hb hml C S (c_l_type l hfl D dA q (w 72 (l4).toNatClampNeg) w x5.2 x5.1 ex5) ⟨(Nat.le_of_ble_eq_true rfl), (Nat.le_of_ble_eq_true rfl)⟩ rfl hl.1 rfl (Nat.le_of_ble_eq_true rfl) dL_types_31 ⟨by show _ ≤ 100; omega, by show _ ≤ 600; omega⟩) (fun w6 ew6 H locs S => ?_)
          have h := h_l h w6 ew6
          refine lv_iload hx hb dL_types_34 (lv_at hl 4 rfl) ?_
          refine lv_iconst (v := 1) hx hb dL_types_36 (by decide) ?_
          refine lv_iadd hx hb dL_types_37 ?_
          refine lv_icmp_ne (tgt := 45) hx hb dL_types_38 rfl (fun c7 => ?_) (fun c7 => ?_)
          · have h := h_f c7 h
            refine lv_iconst (v := 0) hx hb dL_types_45 (by decide) ?_
            refine lv_istore_n (lv' := [(3, .int (0 : Int32)), (0, .ref (q 0)), (1, .ref (q 72)), (2, .int l2), (4, .int l4)]) hx hb dL_types_46 rfl hl (Nat.le_of_ble_eq_true rfl) rfl (fun ls hl => ?_)
            refine lv_iinc (v := (l4 + 1)) (lv' := [(4, .int (l4 + 1)), (3, .int (0 : Int32)), (0, .ref (q 0)), (1, .ref (q 72)), (2, .int l2)]) hx hb dL_types_47 hl (k := 4) rfl rfl (Nat.le_of_ble_eq_true rfl) rfl (fun ls hl => ?_)
            refine lv_goto (tgt := 16) hx hb dL_types_50 rfl ?_
            exact ih16 (0 : Int32) (l4 + 1) w6 _ _ (by omega) (by omega) _ _ _ (lv_sub hl [2, 3, 4, 1, 0] rfl) S h
          · have h := h_t c7 h
            refine lv_iconst (v := 1) hx hb dL_types_41 (by decide) ?_
            refine lv_goto (tgt := 46) hx hb dL_types_42 rfl ?_
            refine lv_istore_n (lv' := [(3, .int (1 : Int32)), (0, .ref (q 0)), (1, .ref (q 72)), (2, .int l2), (4, .int l4)]) hx hb dL_types_46 rfl hl (Nat.le_of_ble_eq_true rfl) rfl (fun ls hl => ?_)
            refine lv_iinc (v := (l4 + 1)) (lv' := [(4, .int (l4 + 1)), (3, .int (1 : Int32)), (0, .ref (q 0)), (1, .ref (q 72)), (2, .int l2)]) hx hb dL_types_47 hl (k := 4) rfl rfl (Nat.le_of_ble_eq_true rfl) rfl (fun ls hl => ?_)
            refine lv_goto (tgt := 16) hx hb dL_types_50 rfl ?_
            exact ih16 (1 : Int32) (l4 + 1) w6 _ _ (by omega) (by omega) _ _ _ (lv_sub hl [2, 3, 4, 1, 0] rfl) S h
  have lab12 : ∀ (l2 : Int32) (t0 : Int32) (w : Wt) (cl sl : Nat) (hc : cl + 100 ≤ 100) (hs : sl + 6 * 100 ≤ 600) (H : Heap) (locs : List Loc) (ls : Array Slot), lv_has ls 5 [(0, .ref (q 0)), (1, .ref (q 72)), (2, .int l2)] → Sta KL D dA q A s.heap w H locs → Option.bind (l_types_b12 l2 t0 w) some = some z → W p l e RM_l_types s m args below meth c H locs cl sl Q (F0 m 12 ls [.int t0]) := by
    intro l2 t0 w cl sl hc hs H locs ls hl S h
    unfold l_types_b12 at h
    refine lv_istore_n (lv' := [(3, .int t0), (0, .ref (q 0)), (1, .ref (q 72)), (2, .int l2)]) hx hb dL_types_12 rfl hl (Nat.le_of_ble_eq_true rfl) rfl (fun ls hl => ?_)
    refine lv_iconst (v := 0) hx hb dL_types_13 (by decide) ?_
    refine lv_istore (lv' := [(4, .int (0 : Int32)), (3, .int t0), (0, .ref (q 0)), (1, .ref (q 72)), (2, .int l2)]) hx hb dL_types_14 hl (Nat.le_of_ble_eq_true rfl) rfl (fun ls hl => ?_)
    exact loop16 l2 25 t0 (0 : Int32) w _ _ (by omega) (by omega) _ _ _ (lv_sub hl [2, 3, 4, 1, 0] rfl) S (h_bb h)
  intro H locs ls hl S h
  have h := h_0 h
  unfold l_types at h
  refine lv_aload_n hx hb dL_types_0 rfl (lv_at hl 0 rfl) ?_
  obtain ⟨x8, ex8, h⟩ := h_c h
  refine kl_i C S (q_V (rest := []) (As := []) lk_RL_103 EVc_ok hx hb hml (kC C) (kS S) KC_0 rfl (c_f_Ballotscript_wipe l D dA q w x8.2 x8.1 ex8 _) rfl rfl ⟨(Nat.le_of_ble_eq_true rfl), (Nat.le_of_ble_eq_true rfl)⟩ rfl hl.1 rfl (Nat.le_of_ble_eq_true rfl) dL_types_1 ⟨by show _ ≤ 100; omega, by show _ ≤ 600; omega⟩) (fun w9 ew9 H locs S => ?_)
  have h := h_l h w9 ew9
  refine lv_if_lt (tgt := 11) hx hb dL_types_4 rfl (fun c10 => ?_) (fun c10 => ?_)
  · have h := h_t c10 h
    refine lv_iconst (v := 0) hx hb dL_types_11 (by decide) ?_
    exact lab12 a2 (0 : Int32) w9 _ _ (by omega) (by omega) _ _ _ (lv_sub hl [0, 1, 2] rfl) S h
  · have h := h_f c10 h
    refine lv_iconst (v := 1) hx hb dL_types_7 (by decide) ?_
    refine lv_goto (tgt := 12) hx hb dL_types_8 rfl ?_
    exact lab12 a2 (1 : Int32) w9 _ _ (by omega) (by omega) _ _ _ (lv_sub hl [0, 1, 2] rfl) S h
theorem c_l_types (l : Launch) (hfl : l.stackTraces = false) (D : va_G) (dA : Nat → ClassId) (q : Nat → Nat) (a2 : Int32) (w w' : Wt) (r : Int32) (h : l_types a2 w = some (r, w')) : Mb l D dA q yL_types cL_types 5 (some .boolean) RM_l_types 100 600 [.ref (q 0), .ref (q 72), .int a2] w r w' :=
  mb_z (by decide) rfl (Nat.le_of_ble_eq_true rfl) (fun p e s m args below meth c A Q ls hx hb hml C S hl fin => k_l_types a2 w (r, w') hfl hx hb hml C (fun H locs ls r' w2 pc cl sl hc hs hn S h d => fin H locs ls r' w2 pc cl sl hc hs hn S h d) _ _ _ hl S h)
/-! BallotscriptLaw.isFault(LBallotscript;[II)Z l_isFault -/
def l_isFault_b91 (l2 : Int32) (l4 : Int32) (w : Wt) : Option (Int32 × Wt) := (if l4 = l2 then some ((1 : Int32), w) else Option.bind (l_types (l4 + (1 : Int32)) w) fun x2 => nmd x2.2 fun w3 => (if x2.1 = (0 : Int32) then some ((0 : Int32), w3) else Option.bind (f_Ballotscript_fault w3) fun x5 => (if x5 = l4 then some ((1 : Int32), w3) else some ((0 : Int32), w3))))
def l_isFault_b45 (l2 : Int32) (l4 : Int32) (t0 : Int32) (w : Wt) : Option (Int32 × Wt) := (if t0 = (0 : Int32) then gd (bob t0) (some (t0, w)) else (if l4 < (0 : Int32) then gd (bob t0) (some (t0, w)) else Option.bind (l_rule w) fun x11 => nmd (jn x11.2 w) fun w12 => (if x11.1 = (-102 : Int32) then Option.bind (l_types l4 w12) fun x14 => nmd x14.2 fun w15 => (if x14.1 = (0 : Int32) then some ((0 : Int32), w15) else Option.bind (f_Ballotscript_fault w15) fun x17 => (if x17 = (-1 : Int32) then l_isFault_b91 l2 l4 w15 else Option.bind (f_Ballotscript_fault w15) fun x19 => (if x19 = l4 then l_isFault_b91 l2 l4 w15 else some ((0 : Int32), w15)))) else some ((0 : Int32), w12))))
def l_isFault_b44 (l2 : Int32) (l4 : Int32) (w : Wt) : Option (Int32 × Wt) := l_isFault_b45 l2 l4 (0 : Int32) w
def l_isFault (a2 : Int32) (w : Wt) : Option (Int32 × Wt) := Option.bind (l_types a2 w) fun x21 => nmd x21.2 fun w22 => nmd x21.1 fun v23 => Option.bind (f_Ballotscript_fault w22) fun x24 => (if v23 = (0 : Int32) then l_isFault_b44 a2 x24 w22 else (if x24 < (-1 : Int32) then l_isFault_b44 a2 x24 w22 else (if a2 < x24 then l_isFault_b44 a2 x24 w22 else Option.bind (l_mend (8 : Int32) w22) fun x28 => nmd (jn x28.2 w22) fun w29 => (if x28.1 = (-101 : Int32) then l_isFault_b45 a2 x24 (1 : Int32) w29 else l_isFault_b44 a2 x24 w29))))
def RM_l_isFault : Room := { frames := 62, cells := 308, slots := 1848, locals := 1546 }
set_option maxHeartbeats 8000000 in
set_option maxRecDepth 20000 in
theorem k_l_isFault (a2 : Int32) (w : Wt) (z : (Int32 × Wt)) (hfl : l.stackTraces = false) (hx : p.tables.exec = Jvm.exec) (hb : c.code = cL_isFault) (hml : c.maxLocals = 5) (C : Cx EVl KL D dA q A s m args RL) (fin : ∀ (H : Heap) (locs : List Loc) (ls : Array Slot) (r' : Int32) (w2 : Wt) (pc cl sl : Nat), cl ≤ 308 → sl ≤ 1848 → narrow .boolean (.int r') = .int r' → Sta KL D dA q A s.heap w2 H locs → some (r', w2) = some z → decode cL_isFault pc = .ok (.ireturn, 1) → W p l e RM_l_isFault s m args below meth c H locs cl sl Q (F0 m pc ls [.int r'])) : ∀ (H : Heap) (locs : List Loc) (ls : Array Slot), lv_has ls 5 [(0, .ref (q 0)), (1, .ref (q 72)), (2, .int a2)] → Sta KL D dA q A s.heap w H locs → l_isFault a2 w = some z → W p l e RM_l_isFault s m args below meth c H locs 0 0 Q (F0 m 0 ls []) := by
  have ev : evOk EVl := EVl_ok
  have lab91 : ∀ (l2 : Int32) (l4 : Int32) (w : Wt) (cl sl : Nat) (hc : cl + 100 ≤ 308) (hs : sl + 6 * 100 ≤ 1848) (H : Heap) (locs : List Loc) (ls : Array Slot), lv_has ls 5 [(0, .ref (q 0)), (1, .ref (q 72)), (2, .int l2), (4, .int l4)] → Sta KL D dA q A s.heap w H locs → Option.bind (l_isFault_b91 l2 l4 w) some = some z → W p l e RM_l_isFault s m args below meth c H locs cl sl Q (F0 m 91 ls []) := by
    intro l2 l4 w cl sl hc hs H locs ls hl S h
    unfold l_isFault_b91 at h
    refine lv_iload hx hb dL_isFault_91 (lv_at hl 3 rfl) ?_
    refine lv_iload_n hx hb dL_isFault_93 rfl (lv_at hl 2 rfl) ?_
    refine lv_icmp_eq (tgt := 118) hx hb dL_isFault_94 rfl (fun c1 => ?_) (fun c1 => ?_)
    · have h := h_t c1 h
      refine lv_iconst (v := 1) hx hb dL_isFault_118 (by decide) ?_
      refine lv_goto (tgt := 123) hx hb dL_isFault_119 rfl ?_
      refine lv_istore_n (lv' := [(3, .int (1 : Int32)), (0, .ref (q 0)), (1, .ref (q 72)), (2, .int l2), (4, .int l4)]) hx hb dL_isFault_123 rfl hl (Nat.le_of_ble_eq_true rfl) rfl (fun ls hl => ?_)
      refine lv_iload_n hx hb dL_isFault_124 rfl (lv_at hl 0 rfl) ?_
      exact fin _ _ _ (1 : Int32) w _ _ _ (by omega) (by omega) (by decide) S h dL_isFault_125
    · have h := h_f c1 h
      refine lv_aload_n hx hb dL_isFault_97 rfl (lv_at hl 0 rfl) ?_
      refine lv_aload_n hx hb dL_isFault_98 rfl (lv_at hl 1 rfl) ?_
      refine lv_iload hx hb dL_isFault_99 (lv_at hl 3 rfl) ?_
      refine lv_iconst (v := 1) hx hb dL_isFault_101 (by decide) ?_
      refine lv_iadd hx hb dL_isFault_102 ?_
      obtain ⟨x2, ex2, h⟩ := h_c h
      refine kb_i C S (q_S (rest := []) (As := [.ref (q 0), .ref (q 72), .int (l4 + (1 : Int32))]) lk_RL_111 ev hx hb hml C S (c_l_types l hfl D dA q (l4 + (1 : Int32)) w x2.2 x2.1 ex2 _) rfl rfl ⟨(Nat.le_of_ble_eq_true rfl), (Nat.le_of_ble_eq_true rfl)⟩ rfl hl.1 rfl (Nat.le_of_ble_eq_true rfl) dL_isFault_103 ⟨by show _ ≤ 308; omega, by show _ ≤ 1848; omega⟩) (fun w3 ew3 H locs S => ?_)
      have h := h_l h w3 ew3
      refine lv_if_eq (tgt := 122) hx hb dL_isFault_106 rfl (fun c4 => ?_) (fun c4 => ?_)
      · have h := h_t c4 h
        refine lv_iconst (v := 0) hx hb dL_isFault_122 (by decide) ?_
        refine lv_istore_n (lv' := [(3, .int (0 : Int32)), (0, .ref (q 0)), (1, .ref (q 72)), (2, .int l2), (4, .int l4)]) hx hb dL_isFault_123 rfl hl (Nat.le_of_ble_eq_true rfl) rfl (fun ls hl => ?_)
        refine lv_iload_n hx hb dL_isFault_124 rfl (lv_at hl 0 rfl) ?_
        exact fin _ _ _ (0 : Int32) w3 _ _ _ (by omega) (by omega) (by decide) S h dL_isFault_125
      · have h := h_f c4 h
        refine lv_aload_n hx hb dL_isFault_109 rfl (lv_at hl 0 rfl) ?_
        obtain ⟨x5, ex5, h⟩ := h_c h
        refine kl_i0 C S (q_V (rest := []) (As := []) lk_RL_115 EVc_ok hx hb hml (kC C) (kS S) KC_0 rfl (c_f_Ballotscript_fault l D dA q w3 x5 ex5 _) rfl rfl ⟨(Nat.le_of_ble_eq_true rfl), (Nat.le_of_ble_eq_true rfl)⟩ rfl hl.1 rfl (Nat.le_of_ble_eq_true rfl) dL_isFault_110 ⟨by show _ ≤ 308; omega, by show _ ≤ 1848; omega⟩) (fun H locs S => ?_)
        refine lv_iload hx hb dL_isFault_113 (lv_at hl 3 rfl) ?_
        refine lv_icmp_ne (tgt := 122) hx hb dL_isFault_115 rfl (fun c6 => ?_) (fun c6 => ?_)
        · have h := h_f c6 h
          refine lv_iconst (v := 0) hx hb dL_isFault_122 (by decide) ?_
          refine lv_istore_n (lv' := [(3, .int (0 : Int32)), (0, .ref (q 0)), (1, .ref (q 72)), (2, .int l2), (4, .int l4)]) hx hb dL_isFault_123 rfl hl (Nat.le_of_ble_eq_true rfl) rfl (fun ls hl => ?_)
          refine lv_iload_n hx hb dL_isFault_124 rfl (lv_at hl 0 rfl) ?_
          exact fin _ _ _ (0 : Int32) w3 _ _ _ (by omega) (by omega) (by decide) S h dL_isFault_125
        · have h := h_t c6 h
          refine lv_iconst (v := 1) hx hb dL_isFault_118 (by decide) ?_
          refine lv_goto (tgt := 123) hx hb dL_isFault_119 rfl ?_
          refine lv_istore_n (lv' := [(3, .int (1 : Int32)), (0, .ref (q 0)), (1, .ref (q 72)), (2, .int l2), (4, .int l4)]) hx hb dL_isFault_123 rfl hl (Nat.le_of_ble_eq_true rfl) rfl (fun ls hl => ?_)
          refine lv_iload_n hx hb dL_isFault_124 rfl (lv_at hl 0 rfl) ?_
          exact fin _ _ _ (1 : Int32) w3 _ _ _ (by omega) (by omega) (by decide) S h dL_isFault_125
  have lab45 : ∀ (l2 : Int32) (l4 : Int32) (t0 : Int32) (w : Wt) (cl sl : Nat) (hc : cl + 204 ≤ 308) (hs : sl + 6 * 204 ≤ 1848) (H : Heap) (locs : List Loc) (ls : Array Slot), lv_has ls 5 [(0, .ref (q 0)), (1, .ref (q 72)), (2, .int l2), (4, .int l4)] → Sta KL D dA q A s.heap w H locs → Option.bind (l_isFault_b45 l2 l4 t0 w) some = some z → W p l e RM_l_isFault s m args below meth c H locs cl sl Q (F0 m 45 ls [.int t0]) := by
    intro l2 l4 t0 w cl sl hc hs H locs ls hl S h
    unfold l_isFault_b45 at h
    refine lv_istore_n (lv' := [(3, .int t0), (0, .ref (q 0)), (1, .ref (q 72)), (2, .int l2), (4, .int l4)]) hx hb dL_isFault_45 rfl hl (Nat.le_of_ble_eq_true rfl) rfl (fun ls hl => ?_)
    refine lv_iload_n hx hb dL_isFault_46 rfl (lv_at hl 0 rfl) ?_
    refine lv_if_eq (tgt := 124) hx hb dL_isFault_47 rfl (fun c7 => ?_) (fun c7 => ?_)
    · have h := h_t c7 h
      refine lv_iload_n hx hb dL_isFault_124 rfl (lv_at hl 0 rfl) ?_
      obtain ⟨g8, h⟩ := h_gd h
      exact fin _ _ _ t0 w _ _ _ (by omega) (by omega) (bo_of g8).1 S h dL_isFault_125
    · have h := h_f c7 h
      refine lv_iload hx hb dL_isFault_50 (lv_at hl 4 rfl) ?_
      refine lv_if_lt (tgt := 124) hx hb dL_isFault_52 rfl (fun c9 => ?_) (fun c9 => ?_)
      · have h := h_t c9 h
        refine lv_iload_n hx hb dL_isFault_124 rfl (lv_at hl 0 rfl) ?_
        obtain ⟨g10, h⟩ := h_gd h
        exact fin _ _ _ t0 w _ _ _ (by omega) (by omega) (bo_of g10).1 S h dL_isFault_125
      · have h := h_f c9 h
        refine lv_aload_n hx hb dL_isFault_55 rfl (lv_at hl 1 rfl) ?_
        obtain ⟨x11, ex11, h⟩ := h_c h
        refine kl_i C S (w_S (rest := []) (As := [.ref (q 0)]) lw_120 hx hb hml C S (c_l_rule l hfl D dA q w x11.2 x11.1 ex11) ⟨(Nat.le_of_ble_eq_true rfl), (Nat.le_of_ble_eq_true rfl)⟩ rfl hl.1 rfl (Nat.le_of_ble_eq_true rfl) dL_isFault_56 ⟨by show _ ≤ 308; omega, by show _ ≤ 1848; omega⟩) (fun w12 ew12 H locs S => ?_)
        have h := h_l h w12 ew12
        refine lv_bipush (v := -102) hx hb dL_isFault_59 (by decide) ?_
        refine lv_icmp_ne (tgt := 122) hx hb dL_isFault_61 rfl (fun c13 => ?_) (fun c13 => ?_)
        · have h := h_f c13 h
          refine lv_iconst (v := 0) hx hb dL_isFault_122 (by decide) ?_
          refine lv_istore_n (lv' := [(3, .int (0 : Int32)), (0, .ref (q 0)), (1, .ref (q 72)), (2, .int l2), (4, .int l4)]) hx hb dL_isFault_123 rfl hl (Nat.le_of_ble_eq_true rfl) rfl (fun ls hl => ?_)
          refine lv_iload_n hx hb dL_isFault_124 rfl (lv_at hl 0 rfl) ?_
          exact fin _ _ _ (0 : Int32) w12 _ _ _ (by omega) (by omega) (by decide) S h dL_isFault_125
        · have h := h_t c13 h
          refine lv_aload_n hx hb dL_isFault_64 rfl (lv_at hl 1 rfl) ?_
          refine lv_aload_n hx hb dL_isFault_65 rfl (lv_at hl 2 rfl) ?_
          refine lv_iload hx hb dL_isFault_66 (lv_at hl 4 rfl) ?_
          obtain ⟨x14, ex14, h⟩ := h_c h
          refine kb_i C S (q_S (rest := []) (As := [.ref (q 0), .ref (q 72), .int l4]) lk_RL_111 ev hx hb hml C S (c_l_types l hfl D dA q l4 w12 x14.2 x14.1 ex14 _) rfl rfl ⟨(Nat.le_of_ble_eq_true rfl), (Nat.le_of_ble_eq_true rfl)⟩ rfl hl.1 rfl (Nat.le_of_ble_eq_true rfl) dL_isFault_68 ⟨by show _ ≤ 308; omega, by show _ ≤ 1848; omega⟩) (fun w15 ew15 H locs S => ?_)
          have h := h_l h w15 ew15
          refine lv_if_eq (tgt := 122) hx hb dL_isFault_71 rfl (fun c16 => ?_) (fun c16 => ?_)
          · have h := h_t c16 h
            refine lv_iconst (v := 0) hx hb dL_isFault_122 (by decide) ?_
            refine lv_istore_n (lv' := [(3, .int (0 : Int32)), (0, .ref (q 0)), (1, .ref (q 72)), (2, .int l2), (4, .int l4)]) hx hb dL_isFault_123 rfl hl (Nat.le_of_ble_eq_true rfl) rfl (fun ls hl => ?_)
            refine lv_iload_n hx hb dL_isFault_124 rfl (lv_at hl 0 rfl) ?_
            exact fin _ _ _ (0 : Int32) w15 _ _ _ (by omega) (by omega) (by decide) S h dL_isFault_125
          · have h := h_f c16 h
            refine lv_aload_n hx hb dL_isFault_74 rfl (lv_at hl 1 rfl) ?_
            obtain ⟨x17, ex17, h⟩ := h_c h
            refine kl_i0 C S (q_V (rest := []) (As := []) lk_RL_115 EVc_ok hx hb hml (kC C) (kS S) KC_0 rfl (c_f_Ballotscript_fault l D dA q w15 x17 ex17 _) rfl rfl ⟨(Nat.le_of_ble_eq_true rfl), (Nat.le_of_ble_eq_true rfl)⟩ rfl hl.1 rfl (Nat.le_of_ble_eq_true rfl) dL_isFault_75 ⟨by show _ ≤ 308; omega, by show _ ≤ 1848; omega⟩) (fun H locs S => ?_)
            refine lv_iconst (v := -1) hx hb dL_isFault_78 (by decide) ?_
            refine lv_icmp_eq (tgt := 91) hx hb dL_isFault_79 rfl (fun c18 => ?_) (fun c18 => ?_)
            · have h := h_t c18 h
              exact lab91 l2 l4 w15 _ _ (by omega) (by omega) _ _ _ (lv_sub hl [1, 2, 3, 4] rfl) S h
            · have h := h_f c18 h
              refine lv_aload_n hx hb dL_isFault_82 rfl (lv_at hl 1 rfl) ?_
              obtain ⟨x19, ex19, h⟩ := h_c h
              refine kl_i0 C S (q_V (rest := []) (As := []) lk_RL_115 EVc_ok hx hb hml (kC C) (kS S) KC_0 rfl (c_f_Ballotscript_fault l D dA q w15 x19 ex19 _) rfl rfl ⟨(Nat.le_of_ble_eq_true rfl), (Nat.le_of_ble_eq_true rfl)⟩ rfl hl.1 rfl (Nat.le_of_ble_eq_true rfl) dL_isFault_83 ⟨by show _ ≤ 308; omega, by show _ ≤ 1848; omega⟩) (fun H locs S => ?_)
              refine lv_iload hx hb dL_isFault_86 (lv_at hl 4 rfl) ?_
              refine lv_icmp_ne (tgt := 122) hx hb dL_isFault_88 rfl (fun c20 => ?_) (fun c20 => ?_)
              · have h := h_f c20 h
                refine lv_iconst (v := 0) hx hb dL_isFault_122 (by decide) ?_
                refine lv_istore_n (lv' := [(3, .int (0 : Int32)), (0, .ref (q 0)), (1, .ref (q 72)), (2, .int l2), (4, .int l4)]) hx hb dL_isFault_123 rfl hl (Nat.le_of_ble_eq_true rfl) rfl (fun ls hl => ?_)
                refine lv_iload_n hx hb dL_isFault_124 rfl (lv_at hl 0 rfl) ?_
                exact fin _ _ _ (0 : Int32) w15 _ _ _ (by omega) (by omega) (by decide) S h dL_isFault_125
              · have h := h_t c20 h
                exact lab91 l2 l4 w15 _ _ (by omega) (by omega) _ _ _ (lv_sub hl [1, 2, 3, 4] rfl) S h
  have lab44 : ∀ (l2 : Int32) (l4 : Int32) (w : Wt) (cl sl : Nat) (hc : cl + 204 ≤ 308) (hs : sl + 6 * 204 ≤ 1848) (H : Heap) (locs : List Loc) (ls : Array Slot), lv_has ls 5 [(0, .ref (q 0)), (1, .ref (q 72)), (2, .int l2), (4, .int l4)] → Sta KL D dA q A s.heap w H locs → Option.bind (l_isFault_b44 l2 l4 w) some = some z → W p l e RM_l_isFault s m args below meth c H locs cl sl Q (F0 m 44 ls []) := by
    intro l2 l4 w cl sl hc hs H locs ls hl S h
    unfold l_isFault_b44 at h
    refine lv_iconst (v := 0) hx hb dL_isFault_44 (by decide) ?_
    exact lab45 l2 l4 (0 : Int32) w _ _ (by omega) (by omega) _ _ _ (lv_sub hl [0, 1, 2, 3] rfl) S h
  intro H locs ls hl S h
  have h := h_0 h
  unfold l_isFault at h
  refine lv_aload_n hx hb dL_isFault_0 rfl (lv_at hl 0 rfl) ?_
  refine lv_aload_n hx hb dL_isFault_1 rfl (lv_at hl 1 rfl) ?_
  refine lv_iload_n hx hb dL_isFault_2 rfl (lv_at hl 2 rfl) ?_
  obtain ⟨x21, ex21, h⟩ := h_c h
  refine kb_i C S (q_S (rest := []) (As := [.ref (q 0), .ref (q 72), .int a2]) lk_RL_111 ev hx hb hml C S (c_l_types l hfl D dA q a2 w x21.2 x21.1 ex21 _) rfl rfl ⟨(Nat.le_of_ble_eq_true rfl), (Nat.le_of_ble_eq_true rfl)⟩ rfl hl.1 rfl (Nat.le_of_ble_eq_true rfl) dL_isFault_3 ⟨by show _ ≤ 308; omega, by show _ ≤ 1848; omega⟩) (fun w22 ew22 H locs S => ?_)
  have h := h_l h w22 ew22
  refine lv_topi (fun v23 ev23 => ?_)
  have h := h_l h v23 ev23
  refine lv_istore_n (lv' := [(3, .int v23), (0, .ref (q 0)), (1, .ref (q 72)), (2, .int a2)]) hx hb dL_isFault_6 rfl hl (Nat.le_of_ble_eq_true rfl) rfl (fun ls hl => ?_)
  refine lv_aload_n hx hb dL_isFault_7 rfl (lv_at hl 1 rfl) ?_
  obtain ⟨x24, ex24, h⟩ := h_c h
  refine kl_i0 C S (q_V (rest := []) (As := []) lk_RL_115 EVc_ok hx hb hml (kC C) (kS S) KC_0 rfl (c_f_Ballotscript_fault l D dA q w22 x24 ex24 _) rfl rfl ⟨(Nat.le_of_ble_eq_true rfl), (Nat.le_of_ble_eq_true rfl)⟩ rfl hl.1 rfl (Nat.le_of_ble_eq_true rfl) dL_isFault_8 ⟨by show _ ≤ 308; omega, by show _ ≤ 1848; omega⟩) (fun H locs S => ?_)
  refine lv_istore (lv' := [(4, .int x24), (3, .int v23), (0, .ref (q 0)), (1, .ref (q 72)), (2, .int a2)]) hx hb dL_isFault_11 hl (Nat.le_of_ble_eq_true rfl) rfl (fun ls hl => ?_)
  refine lv_iload_n hx hb dL_isFault_13 rfl (lv_at hl 1 rfl) ?_
  refine lv_if_eq (tgt := 44) hx hb dL_isFault_14 rfl (fun c25 => ?_) (fun c25 => ?_)
  · have h := h_t c25 h
    exact lab44 a2 x24 w22 _ _ (by omega) (by omega) _ _ _ (lv_sub hl [2, 3, 4, 0] rfl) S h
  · have h := h_f c25 h
    refine lv_iload hx hb dL_isFault_17 (lv_at hl 0 rfl) ?_
    refine lv_iconst (v := -1) hx hb dL_isFault_19 (by decide) ?_
    refine lv_icmp_lt (tgt := 44) hx hb dL_isFault_20 rfl (fun c26 => ?_) (fun c26 => ?_)
    · have h := h_t c26 h
      exact lab44 a2 x24 w22 _ _ (by omega) (by omega) _ _ _ (lv_sub hl [2, 3, 4, 0] rfl) S h
    · have h := h_f c26 h
      refine lv_iload hx hb dL_isFault_23 (lv_at hl 0 rfl) ?_
      refine lv_iload_n hx hb dL_isFault_25 rfl (lv_at hl 4 rfl) ?_
      refine lv_icmp_gt (tgt := 44) hx hb dL_isFault_26 rfl (fun c27 => ?_) (fun c27 => ?_)
      · have h := h_t c27 h
        exact lab44 a2 x24 w22 _ _ (by omega) (by omega) _ _ _ (lv_sub hl [2, 3, 4, 0] rfl) S h
      · have h := h_f c27 h
        refine lv_aload_n hx hb dL_isFault_29 rfl (lv_at hl 2 rfl) ?_
        refine lv_bipush (v := 8) hx hb dL_isFault_30 (by decide) ?_
        obtain ⟨x28, ex28, h⟩ := h_c h
        refine kl_i C S (w_S (rest := []) (As := [.ref (q 0), .int (8 : Int32)]) lw_118 hx hb hml C S (c_l_mend l hfl D dA q (8 : Int32) w22 x28.2 x28.1 ex28) ⟨(Nat.le_of_ble_eq_true rfl), (Nat.le_of_ble_eq_true rfl)⟩ rfl hl.1 rfl (Nat.le_of_ble_eq_true rfl) dL_isFault_32 ⟨by show _ ≤ 308; omega, by show _ ≤ 1848; omega⟩) (fun w29 ew29 H locs S => ?_)
        have h := h_l h w29 ew29
        refine lv_bipush (v := -101) hx hb dL_isFault_35 (by decide) ?_
        refine lv_icmp_ne (tgt := 44) hx hb dL_isFault_37 rfl (fun c30 => ?_) (fun c30 => ?_)
        · have h := h_f c30 h
          exact lab44 a2 x24 w29 _ _ (by omega) (by omega) _ _ _ (lv_sub hl [2, 3, 4, 0] rfl) S h
        · have h := h_t c30 h
          refine lv_iconst (v := 1) hx hb dL_isFault_40 (by decide) ?_
          refine lv_goto (tgt := 45) hx hb dL_isFault_41 rfl ?_
          exact lab45 a2 x24 (1 : Int32) w29 _ _ (by omega) (by omega) _ _ _ (lv_sub hl [2, 3, 4, 0] rfl) S h
theorem c_l_isFault (l : Launch) (hfl : l.stackTraces = false) (D : va_G) (dA : Nat → ClassId) (q : Nat → Nat) (a2 : Int32) (w w' : Wt) (r : Int32) (h : l_isFault a2 w = some (r, w')) : Mb l D dA q yL_isFault cL_isFault 5 (some .boolean) RM_l_isFault 308 1848 [.ref (q 0), .ref (q 72), .int a2] w r w' :=
  mb_z (by decide) rfl (Nat.le_of_ble_eq_true rfl) (fun p e s m args below meth c A Q ls hx hb hml C S hl fin => k_l_isFault a2 w (r, w') hfl hx hb hml C (fun H locs ls r' w2 pc cl sl hc hs hn S h d => fin H locs ls r' w2 pc cl sl hc hs hn S h d) _ _ _ hl S h)
/-! BallotscriptLaw.fits(LBallotscript;IIII)Z l_fits -/
def l_fits_b294 (l1 : Int32) (l8 : Int32) (w : Wt) : Option (Int32 × Wt) := (if l8 = (0 : Int32) then some ((0 : Int32), w) else Option.bind (l_doubt l1 w) fun x2 => (if x2 < (0 : Int32) then some ((0 : Int32), w) else Option.bind (l_doubt l1 w) fun x4 => (if (100 : Int32) < x4 then some ((0 : Int32), w) else some ((1 : Int32), w))))
def l_fits_b292 (l1 : Int32) (t0 : Int32) (w : Wt) : Option (Int32 × Wt) := l_fits_b294 l1 t0 w
def l_fits_b291 (l1 : Int32) (w : Wt) : Option (Int32 × Wt) := l_fits_b292 l1 (0 : Int32) w
def l_fits_b248 (l1 : Int32) (l2 : Int32) (l4 : Int32) (l7 : Int32) (l8 : Int32) (w : Wt) : Option (Int32 × Wt) := (if l7 ≤ (0 : Int32) then l_fits_b294 l1 l8 w else (if l8 = (0 : Int32) then l_fits_b294 l1 l8 w else gd (nzb l7) (Option.bind (l_tied l1 (l4 - l4 / l7 * l7) w) fun x9 => nmd (jn x9.2 w) fun w10 => nmd x9.1 fun v11 => Option.bind (l_size v11) fun x12 => (if x12 < (2 : Int32) then l_fits_b291 l1 w10 else (if ((1 : Int32) <<< (l2 &&& 31)) ≤ v11 then l_fits_b291 l1 w10 else l_fits_b292 l1 (1 : Int32) w10)))))
def l_fits_b198 (l1 : Int32) (l2 : Int32) (l4 : Int32) (l6 : Int32) (l7 : Int32) (l8 : Int32) (l9 : Int32) (l10 : Int32) (l11 : Int32) (l12 : Int32) (w : Wt) : Option ((Int32 × Int32 × Int32 × Wt) ⊕ (Int32 × Wt)) := (if l8 = (0 : Int32) then some (.inl ((0 : Int32), l12, (l11 + 1), w)) else (if (l12 &&& (l9 ^^^ (-1 : Int32))) = (0 : Int32) then (if l12 = (0 : Int32) then some (.inl ((0 : Int32), l12, (l11 + 1), w)) else Option.bind (l_votes l1 l11 l2 w) fun x18 => nmd (jn x18.2 w) fun w19 => (if x18.1 = (-101 : Int32) then some (.inl ((1 : Int32), l12, (l11 + 1), w19)) else some (.inl ((0 : Int32), l12, (l11 + 1), w19)))) else some (.inl ((0 : Int32), l12, (l11 + 1), w))))
def l_fits_b176 (l1 : Int32) (l2 : Int32) (l4 : Int32) (l6 : Int32) (l7 : Int32) (l9 : Int32) (l10 : Int32) (l11 : Int32) (l13 : Int32) (l14 : Int32) (t0 : Int32) (t1 : Int32) (w : Wt) : Option ((Int32 × Int32 × Int32 × Wt) ⊕ (Int32 × Int32 × Wt)) := nmd (t1 ||| t0) fun v21 => (if l14 < (-1 : Int32) then some (.inl ((0 : Int32), v21, (l13 + 1), w)) else some (.inl ((1 : Int32), v21, (l13 + 1), w)))
def l_fits_L139 (l1 : Int32) (l2 : Int32) (l4 : Int32) (l6 : Int32) (l7 : Int32) (l9 : Int32) (l10 : Int32) (l11 : Int32) : (Int32 × Int32 × Int32 × Wt) → Option ((Int32 × Int32 × Int32 × Wt) ⊕ (Int32 × Int32 × Wt))
  | (l8, l12, l13, w) => (if l2 ≤ l13 then some (.inr (l8, l12, w)) else (if l8 = (0 : Int32) then some (.inr (l8, l12, w)) else Option.bind (l_votes l1 l11 l13 w) fun x25 => nmd (jn x25.2 w) fun w26 => nmd x25.1 fun v27 => (if v27 < (0 : Int32) then l_fits_b176 l1 l2 l4 l6 l7 l9 l10 l11 l13 v27 (0 : Int32) l12 w26 else l_fits_b176 l1 l2 l4 l6 l7 l9 l10 l11 l13 v27 ((1 : Int32) <<< (l13 &&& 31)) l12 w26)))
def l_fits_x139 (l1 : Int32) (l2 : Int32) (l4 : Int32) (l6 : Int32) (l7 : Int32) (l9 : Int32) (l10 : Int32) (l11 : Int32) : (Int32 × Int32 × Wt) → Option ((Int32 × Int32 × Int32 × Wt) ⊕ (Int32 × Wt))
  | (l8, l12, w) => l_fits_b198 l1 l2 l4 l6 l7 l8 l9 l10 l11 l12 w
def l_fits_L112 (l1 : Int32) (l2 : Int32) (l4 : Int32) (l6 : Int32) (l7 : Int32) (l10 : Int32) : (Int32 × Int32 × Int32 × Wt) → Option ((Int32 × Int32 × Int32 × Wt) ⊕ (Int32 × Wt))
  | (l8, l9, l11, w) => (if (l10 + (2 : Int32)) ≤ l11 then some (.inr (l8, w)) else (if l6 ≤ l11 then some (.inr (l8, w)) else (if l8 = (0 : Int32) then some (.inr (l8, w)) else Option.bind (lp (l_fits_L139 l1 l2 l4 l6 l7 l9 l10 l11) 7 (l8, (0 : Int32), (0 : Int32), w)) (l_fits_x139 l1 l2 l4 l6 l7 l9 l10 l11))))
def l_fits_x112 (l1 : Int32) (l2 : Int32) (l4 : Int32) (l7 : Int32) : (Int32 × Wt) → Option (Int32 × Wt)
  | (l8, w) => l_fits_b248 l1 l2 l4 l7 l8 w
def l_fits_b106 (l1 : Int32) (l2 : Int32) (l4 : Int32) (l6 : Int32) (l7 : Int32) (l8 : Int32) (l9 : Int32) (t0 : Int32) (w : Wt) : Option (Int32 × Wt) := Option.bind (lp (l_fits_L112 l1 l2 l4 l6 l7 t0) 3 (l8, l9, t0, w)) (l_fits_x112 l1 l2 l4 l7)
def l_fits_b83 (l1 : Int32) (l2 : Int32) (l4 : Int32) (l6 : Int32) (l7 : Int32) (t0 : Int32) (w : Wt) : Option (Int32 × Wt) := nmd (((1 : Int32) <<< (l2 &&& 31)) - (1 : Int32)) fun v32 => (if l6 = (0 : Int32) then l_fits_b106 l1 l2 l4 l6 l7 t0 v32 (0 : Int32) w else gd (nzb l6) (l_fits_b106 l1 l2 l4 l6 l7 t0 v32 (l4 - l4 / l6 * l6) w))
def l_fits_b82 (l1 : Int32) (l2 : Int32) (l4 : Int32) (l6 : Int32) (l7 : Int32) (w : Wt) : Option (Int32 × Wt) := l_fits_b83 l1 l2 l4 l6 l7 (0 : Int32) w
def l_fits (a1 : Int32) (a2 : Int32) (a3 : Int32) (a4 : Int32) (w : Wt) : Option (Int32 × Wt) := Option.bind (l_winners a1 w) fun x35 => nmd (jn x35.2 w) fun w36 => nmd x35.1 fun v37 => Option.bind (l_tallies a1 w36) fun x38 => nmd (jn x38.2 w36) fun w39 => nmd x38.1 fun v40 => Option.bind (l_ties a1 w39) fun x41 => nmd (jn x41.2 w39) fun w42 => nmd x41.1 fun v43 => (if v37 < (0 : Int32) then l_fits_b82 a1 a2 a4 v40 v43 w42 else Option.bind (l_hand a1 w42) fun x45 => nmd (jn x45.2 w42) fun w46 => (if x45.1 = v37 then Option.bind (l_size v37) fun x48 => (if a3 < x48 then l_fits_b82 a1 a2 a4 v40 v43 w46 else (if ((1 : Int32) <<< (a2 &&& 31)) ≤ v37 then l_fits_b82 a1 a2 a4 v40 v43 w46 else Option.bind (l_votes a1 v40 (0 : Int32) w46) fun x51 => nmd (jn x51.2 w46) fun w52 => (if x51.1 = (-101 : Int32) then Option.bind (l_tied a1 v43 w52) fun x54 => nmd (jn x54.2 w52) fun w55 => (if x54.1 = (-101 : Int32) then l_fits_b83 a1 a2 a4 v40 v43 (1 : Int32) w55 else l_fits_b82 a1 a2 a4 v40 v43 w55) else l_fits_b82 a1 a2 a4 v40 v43 w52))) else l_fits_b82 a1 a2 a4 v40 v43 w46))
def RM_l_fits : Room := { frames := 61, cells := 132, slots := 792, locals := 1524 }
set_option maxHeartbeats 8000000 in
set_option maxRecDepth 20000 in
theorem k_l_fits (a1 : Int32) (a2 : Int32) (a3 : Int32) (a4 : Int32) (w : Wt) (z : (Int32 × Wt)) (hfl : l.stackTraces = false) (hx : p.tables.exec = Jvm.exec) (hb : c.code = cL_fits) (hml : c.maxLocals = 15) (C : Cx EVl KL D dA q A s m args RL) (fin : ∀ (H : Heap) (locs : List Loc) (ls : Array Slot) (r' : Int32) (w2 : Wt) (pc cl sl : Nat), cl ≤ 132 → sl ≤ 792 → narrow .boolean (.int r') = .int r' → Sta KL D dA q A s.heap w2 H locs → some (r', w2) = some z → decode cL_fits pc = .ok (.ireturn, 1) → W p l e RM_l_fits s m args below meth c H locs cl sl Q (F0 m pc ls [.int r'])) : ∀ (H : Heap) (locs : List Loc) (ls : Array Slot), lv_has ls 15 [(0, .ref (q 0)), (1, .int a1), (2, .int a2), (3, .int a3), (4, .int a4)] → Sta KL D dA q A s.heap w H locs → l_fits a1 a2 a3 a4 w = some z → W p l e RM_l_fits s m args below meth c H locs 0 0 Q (F0 m 0 ls []) := by
  have ev : evOk EVl := EVl_ok
  have lab294 : ∀ (l1 : Int32) (l8 : Int32) (w : Wt) (cl sl : Nat) (hc : cl + 8 ≤ 132) (hs : sl + 6 * 8 ≤ 792) (H : Heap) (locs : List Loc) (ls : Array Slot), lv_has ls 15 [(0, .ref (q 0)), (1, .int l1), (8, .int l8)] → Sta KL D dA q A s.heap w H locs → Option.bind (l_fits_b294 l1 l8 w) some = some z → W p l e RM_l_fits s m args below meth c H locs cl sl Q (F0 m 294 ls []) := by
    intro l1 l8 w cl sl hc hs H locs ls hl S h
    unfold l_fits_b294 at h
    refine lv_iload hx hb dL_fits_294 (lv_at hl 2 rfl) ?_
    refine lv_if_eq (tgt := 321) hx hb dL_fits_296 rfl (fun c1 => ?_) (fun c1 => ?_)
    · have h := h_t c1 h
      refine lv_iconst (v := 0) hx hb dL_fits_321 (by decide) ?_
      exact fin _ _ _ (0 : Int32) w _ _ _ (by omega) (by omega) (by decide) S h dL_fits_322
    · have h := h_f c1 h
      refine lv_aload_n hx hb dL_fits_299 rfl (lv_at hl 0 rfl) ?_
      refine lv_iload_n hx hb dL_fits_300 rfl (lv_at hl 1 rfl) ?_
      obtain ⟨x2, ex2, h⟩ := h_c h
      refine kl_i0 C S (w_S (rest := []) (As := [.ref (q 0), .int l1]) lw_141 hx hb hml C S (c_l_doubt l hfl D dA q l1 w x2 ex2) ⟨(Nat.le_of_ble_eq_true rfl), (Nat.le_of_ble_eq_true rfl)⟩ rfl hl.1 rfl (Nat.le_of_ble_eq_true rfl) dL_fits_301 ⟨by show _ ≤ 132; omega, by show _ ≤ 792; omega⟩) (fun H locs S => ?_)
      refine lv_if_lt (tgt := 321) hx hb dL_fits_304 rfl (fun c3 => ?_) (fun c3 => ?_)
      · have h := h_t c3 h
        refine lv_iconst (v := 0) hx hb dL_fits_321 (by decide) ?_
        exact fin _ _ _ (0 : Int32) w _ _ _ (by omega) (by omega) (by decide) S h dL_fits_322
      · have h := h_f c3 h
        refine lv_aload_n hx hb dL_fits_307 rfl (lv_at hl 0 rfl) ?_
        refine lv_iload_n hx hb dL_fits_308 rfl (lv_at hl 1 rfl) ?_
        obtain ⟨x4, ex4, h⟩ := h_c h
        refine kl_i0 C S (w_S (rest := []) (As := [.ref (q 0), .int l1]) lw_141 hx hb hml C S (c_l_doubt l hfl D dA q l1 w x4 ex4) ⟨(Nat.le_of_ble_eq_true rfl), (Nat.le_of_ble_eq_true rfl)⟩ rfl hl.1 rfl (Nat.le_of_ble_eq_true rfl) dL_fits_309 ⟨by show _ ≤ 132; omega, by show _ ≤ 792; omega⟩) (fun H locs S => ?_)
        refine lv_bipush (v := 100) hx hb dL_fits_312 (by decide) ?_
        refine lv_icmp_gt (tgt := 321) hx hb dL_fits_314 rfl (fun c5 => ?_) (fun c5 => ?_)
        · have h := h_t c5 h
          refine lv_iconst (v := 0) hx hb dL_fits_321 (by decide) ?_
          exact fin _ _ _ (0 : Int32) w _ _ _ (by omega) (by omega) (by decide) S h dL_fits_322
        · have h := h_f c5 h
          refine lv_iconst (v := 1) hx hb dL_fits_317 (by decide) ?_
          refine lv_goto (tgt := 322) hx hb dL_fits_318 rfl ?_
          exact fin _ _ _ (1 : Int32) w _ _ _ (by omega) (by omega) (by decide) S h dL_fits_322
  have lab292 : ∀ (l1 : Int32) (t0 : Int32) (w : Wt) (cl sl : Nat) (hc : cl + 8 ≤ 132) (hs : sl + 6 * 8 ≤ 792) (H : Heap) (locs : List Loc) (ls : Array Slot), lv_has ls 15 [(0, .ref (q 0)), (1, .int l1)] → Sta KL D dA q A s.heap w H locs → Option.bind (l_fits_b292 l1 t0 w) some = some z → W p l e RM_l_fits s m args below meth c H locs cl sl Q (F0 m 292 ls [.int t0]) := by
    intro l1 t0 w cl sl hc hs H locs ls hl S h
    unfold l_fits_b292 at h
    refine lv_istore (lv' := [(8, .int t0), (0, .ref (q 0)), (1, .int l1)]) hx hb dL_fits_292 hl (Nat.le_of_ble_eq_true rfl) rfl (fun ls hl => ?_)
    exact lab294 l1 t0 w _ _ (by omega) (by omega) _ _ _ (lv_sub hl [1, 2, 0] rfl) S h
  have lab291 : ∀ (l1 : Int32) (w : Wt) (cl sl : Nat) (hc : cl + 8 ≤ 132) (hs : sl + 6 * 8 ≤ 792) (H : Heap) (locs : List Loc) (ls : Array Slot), lv_has ls 15 [(0, .ref (q 0)), (1, .int l1)] → Sta KL D dA q A s.heap w H locs → Option.bind (l_fits_b291 l1 w) some = some z → W p l e RM_l_fits s m args below meth c H locs cl sl Q (F0 m 291 ls []) := by
    intro l1 w cl sl hc hs H locs ls hl S h
    unfold l_fits_b291 at h
    refine lv_iconst (v := 0) hx hb dL_fits_291 (by decide) ?_
    exact lab292 l1 (0 : Int32) w _ _ (by omega) (by omega) _ _ _ (lv_sub hl [0, 1] rfl) S h
  have lab248 : ∀ (l1 : Int32) (l2 : Int32) (l4 : Int32) (l7 : Int32) (l8 : Int32) (w : Wt) (cl sl : Nat) (hc : cl + 12 ≤ 132) (hs : sl + 6 * 12 ≤ 792) (H : Heap) (locs : List Loc) (ls : Array Slot), lv_has ls 15 [(0, .ref (q 0)), (1, .int l1), (2, .int l2), (4, .int l4), (7, .int l7), (8, .int l8)] → Sta KL D dA q A s.heap w H locs → Option.bind (l_fits_b248 l1 l2 l4 l7 l8 w) some = some z → W p l e RM_l_fits s m args below meth c H locs cl sl Q (F0 m 248 ls []) := by
    intro l1 l2 l4 l7 l8 w cl sl hc hs H locs ls hl S h
    unfold l_fits_b248 at h
    refine lv_iload hx hb dL_fits_248 (lv_at hl 4 rfl) ?_
    refine lv_if_le (tgt := 294) hx hb dL_fits_250 rfl (fun c6 => ?_) (fun c6 => ?_)
    · have h := h_t c6 h
      exact lab294 l1 l8 w _ _ (by omega) (by omega) _ _ _ (lv_sub hl [0, 1, 5] rfl) S h
    · have h := h_f c6 h
      refine lv_iload hx hb dL_fits_253 (lv_at hl 5 rfl) ?_
      refine lv_if_eq (tgt := 294) hx hb dL_fits_255 rfl (fun c7 => ?_) (fun c7 => ?_)
      · have h := h_t c7 h
        exact lab294 l1 l8 w _ _ (by omega) (by omega) _ _ _ (lv_sub hl [0, 1, 5] rfl) S h
      · have h := h_f c7 h
        refine lv_aload_n hx hb dL_fits_258 rfl (lv_at hl 0 rfl) ?_
        refine lv_iload_n hx hb dL_fits_259 rfl (lv_at hl 1 rfl) ?_
        refine lv_iload hx hb dL_fits_260 (lv_at hl 3 rfl) ?_
        refine lv_iload hx hb dL_fits_262 (lv_at hl 4 rfl) ?_
        obtain ⟨g8, h⟩ := h_gd h
        refine lv_irem hx hb dL_fits_264 (nz_of g8) ?_
        obtain ⟨x9, ex9, h⟩ := h_c h
        refine kl_i C S (w_S (rest := []) (As := [.ref (q 0), .int l1, .int (l4 - l4 / l7 * l7)]) lw_138 hx hb hml C S (c_l_tied l hfl D dA q l1 (l4 - l4 / l7 * l7) w x9.2 x9.1 ex9) ⟨(Nat.le_of_ble_eq_true rfl), (Nat.le_of_ble_eq_true rfl)⟩ rfl hl.1 rfl (Nat.le_of_ble_eq_true rfl) dL_fits_265 ⟨by show _ ≤ 132; omega, by show _ ≤ 792; omega⟩) (fun w10 ew10 H locs S => ?_)
        have h := h_l h w10 ew10
        refine lv_topi (fun v11 ev11 => ?_)
        have h := h_l h v11 ev11
        refine lv_istore (lv' := [(11, .int v11), (0, .ref (q 0)), (1, .int l1), (2, .int l2), (4, .int l4), (7, .int l7), (8, .int l8)]) hx hb dL_fits_268 hl (Nat.le_of_ble_eq_true rfl) rfl (fun ls hl => ?_)
        refine lv_iload hx hb dL_fits_270 (lv_at hl 0 rfl) ?_
        obtain ⟨x12, ex12, h⟩ := h_c h
        refine kb_i0 C S (q_S (rest := []) (As := [.int v11]) lk_RL_132 ev hx hb hml C S (c_l_size l D dA q v11 w10 x12 ex12 _) rfl rfl ⟨(Nat.le_of_ble_eq_true rfl), (Nat.le_of_ble_eq_true rfl)⟩ rfl hl.1 rfl (Nat.le_of_ble_eq_true rfl) dL_fits_272 ⟨by show _ ≤ 132; omega, by show _ ≤ 792; omega⟩) (fun H locs S => ?_)
        refine lv_iconst (v := 2) hx hb dL_fits_275 (by decide) ?_
        refine lv_icmp_lt (tgt := 291) hx hb dL_fits_276 rfl (fun c13 => ?_) (fun c13 => ?_)
        · have h := h_t c13 h
          exact lab291 l1 w10 _ _ (by omega) (by omega) _ _ _ (lv_sub hl [1, 2] rfl) S h
        · have h := h_f c13 h
          refine lv_iload hx hb dL_fits_279 (lv_at hl 0 rfl) ?_
          refine lv_iconst (v := 1) hx hb dL_fits_281 (by decide) ?_
          refine lv_iload_n hx hb dL_fits_282 rfl (lv_at hl 3 rfl) ?_
          refine lv_ishl hx hb dL_fits_283 ?_
          refine lv_icmp_ge (tgt := 291) hx hb dL_fits_284 rfl (fun c14 => ?_) (fun c14 => ?_)
          · have h := h_t c14 h
            exact lab291 l1 w10 _ _ (by omega) (by omega) _ _ _ (lv_sub hl [1, 2] rfl) S h
          · have h := h_f c14 h
            refine lv_iconst (v := 1) hx hb dL_fits_287 (by decide) ?_
            refine lv_goto (tgt := 292) hx hb dL_fits_288 rfl ?_
            exact lab292 l1 (1 : Int32) w10 _ _ (by omega) (by omega) _ _ _ (lv_sub hl [1, 2] rfl) S h
  have loop112 : ∀ (l1 : Int32) (l2 : Int32) (l4 : Int32) (l6 : Int32) (l7 : Int32) (l10 : Int32) (n112 : Nat), ∀ (l8 : Int32) (l9 : Int32) (l11 : Int32) (w : Wt) (cl sl : Nat) (hc : cl + (12 + (n112 * 32)) ≤ 132) (hs : sl + 6 * (12 + (n112 * 32)) ≤ 792) (H : Heap) (locs : List Loc) (ls : Array Slot), lv_has ls 15 [(0, .ref (q 0)), (1, .int l1), (2, .int l2), (4, .int l4), (6, .int l6), (7, .int l7), (8, .int l8), (9, .int l9), (10, .int l10), (11, .int l11)] → Sta KL D dA q A s.heap w H locs → Option.bind (lp (l_fits_L112 l1 l2 l4 l6 l7 l10) n112 (l8, l9, l11, w)) (fun x9 => Option.bind (l_fits_x112 l1 l2 l4 l7 x9) some) = some z → W p l e RM_l_fits s m args below meth c H locs cl sl Q (F0 m 112 ls []) := by
    intro l1 l2 l4 l6 l7 l10 n112
    induction n112 with
    | zero =>
      intro l8 l9 l11 w cl sl hc hs H locs ls hl S h
      exact (h_lp0 h).elim
    | succ n112 ih112 =>
      have lab198 : ∀ (l8 : Int32) (l9 : Int32) (l11 : Int32) (l12 : Int32) (w : Wt) (cl sl : Nat) (hc : cl + (16 + (n112 * 32)) ≤ 132) (hs : sl + 6 * (16 + (n112 * 32)) ≤ 792) (H : Heap) (locs : List Loc) (ls : Array Slot), lv_has ls 15 [(0, .ref (q 0)), (1, .int l1), (2, .int l2), (4, .int l4), (6, .int l6), (7, .int l7), (8, .int l8), (9, .int l9), (10, .int l10), (11, .int l11), (12, .int l12)] → Sta KL D dA q A s.heap w H locs → Option.bind (l_fits_b198 l1 l2 l4 l6 l7 l8 l9 l10 l11 l12 w) (seqF (fun s9 => Option.bind (lp (l_fits_L112 l1 l2 l4 l6 l7 l10) n112 s9) (fun x9 => Option.bind (l_fits_x112 l1 l2 l4 l7 x9) some)) (fun x9 => Option.bind (l_fits_x112 l1 l2 l4 l7 x9) some)) = some z → W p l e RM_l_fits s m args below meth c H locs cl sl Q (F0 m 198 ls []) := by
        intro l8 l9 l11 l12 w cl sl hc hs H locs ls hl S h
        unfold l_fits_b198 at h
        refine lv_iload hx hb dL_fits_198 (lv_at hl 6 rfl) ?_
        refine lv_if_eq (tgt := 235) hx hb dL_fits_200 rfl (fun c15 => ?_) (fun c15 => ?_)
        · have h := h_t c15 h
          refine lv_iconst (v := 0) hx hb dL_fits_235 (by decide) ?_
          refine lv_istore (lv' := [(8, .int (0 : Int32)), (0, .ref (q 0)), (1, .int l1), (2, .int l2), (4, .int l4), (6, .int l6), (7, .int l7), (9, .int l9), (10, .int l10), (11, .int l11), (12, .int l12)]) hx hb dL_fits_236 hl (Nat.le_of_ble_eq_true rfl) rfl (fun ls hl => ?_)
          refine lv_iload hx hb dL_fits_238 (lv_at hl 10 rfl) ?_
          refine lv_istore (lv' := [(9, .int l12), (8, .int (0 : Int32)), (0, .ref (q 0)), (1, .int l1), (2, .int l2), (4, .int l4), (6, .int l6), (7, .int l7), (10, .int l10), (11, .int l11), (12, .int l12)]) hx hb dL_fits_240 hl (Nat.le_of_ble_eq_true rfl) rfl (fun ls hl => ?_)
          refine lv_iinc (v := (l11 + 1)) (lv' := [(11, .int (l11 + 1)), (9, .int l12), (8, .int (0 : Int32)), (0, .ref (q 0)), (1, .int l1), (2, .int l2), (4, .int l4), (6, .int l6), (7, .int l7), (10, .int l10), (12, .int l12)]) hx hb dL_fits_242 hl (k := 9) rfl rfl (Nat.le_of_ble_eq_true rfl) rfl (fun ls hl => ?_)
          refine lv_goto (tgt := 112) hx hb dL_fits_245 rfl ?_
          exact ih112 (0 : Int32) l12 (l11 + 1) w _ _ (by omega) (by omega) _ _ _ (lv_sub hl [3, 4, 5, 6, 7, 8, 2, 1, 9, 0] rfl) S h
        · have h := h_f c15 h
          refine lv_iload hx hb dL_fits_203 (lv_at hl 10 rfl) ?_
          refine lv_iload hx hb dL_fits_205 (lv_at hl 7 rfl) ?_
          refine lv_iconst (v := -1) hx hb dL_fits_207 (by decide) ?_
          refine lv_ixor hx hb dL_fits_208 ?_
          refine lv_iand hx hb dL_fits_209 ?_
          refine lv_if_ne (tgt := 235) hx hb dL_fits_210 rfl (fun c16 => ?_) (fun c16 => ?_)
          · have h := h_f c16 h
            refine lv_iconst (v := 0) hx hb dL_fits_235 (by decide) ?_
            refine lv_istore (lv' := [(8, .int (0 : Int32)), (0, .ref (q 0)), (1, .int l1), (2, .int l2), (4, .int l4), (6, .int l6), (7, .int l7), (9, .int l9), (10, .int l10), (11, .int l11), (12, .int l12)]) hx hb dL_fits_236 hl (Nat.le_of_ble_eq_true rfl) rfl (fun ls hl => ?_)
            refine lv_iload hx hb dL_fits_238 (lv_at hl 10 rfl) ?_
            refine lv_istore (lv' := [(9, .int l12), (8, .int (0 : Int32)), (0, .ref (q 0)), (1, .int l1), (2, .int l2), (4, .int l4), (6, .int l6), (7, .int l7), (10, .int l10), (11, .int l11), (12, .int l12)]) hx hb dL_fits_240 hl (Nat.le_of_ble_eq_true rfl) rfl (fun ls hl => ?_)
            refine lv_iinc (v := (l11 + 1)) (lv' := [(11, .int (l11 + 1)), (9, .int l12), (8, .int (0 : Int32)), (0, .ref (q 0)), (1, .int l1), (2, .int l2), (4, .int l4), (6, .int l6), (7, .int l7), (10, .int l10), (12, .int l12)]) hx hb dL_fits_242 hl (k := 9) rfl rfl (Nat.le_of_ble_eq_true rfl) rfl (fun ls hl => ?_)
            refine lv_goto (tgt := 112) hx hb dL_fits_245 rfl ?_
            exact ih112 (0 : Int32) l12 (l11 + 1) w _ _ (by omega) (by omega) _ _ _ (lv_sub hl [3, 4, 5, 6, 7, 8, 2, 1, 9, 0] rfl) S h
          · have h := h_t c16 h
            refine lv_iload hx hb dL_fits_213 (lv_at hl 10 rfl) ?_
            refine lv_if_eq (tgt := 235) hx hb dL_fits_215 rfl (fun c17 => ?_) (fun c17 => ?_)
            · have h := h_t c17 h
              refine lv_iconst (v := 0) hx hb dL_fits_235 (by decide) ?_
              refine lv_istore (lv' := [(8, .int (0 : Int32)), (0, .ref (q 0)), (1, .int l1), (2, .int l2), (4, .int l4), (6, .int l6), (7, .int l7), (9, .int l9), (10, .int l10), (11, .int l11), (12, .int l12)]) hx hb dL_fits_236 hl (Nat.le_of_ble_eq_true rfl) rfl (fun ls hl => ?_)
              refine lv_iload hx hb dL_fits_238 (lv_at hl 10 rfl) ?_
              refine lv_istore (lv' := [(9, .int l12), (8, .int (0 : Int32)), (0, .ref (q 0)), (1, .int l1), (2, .int l2), (4, .int l4), (6, .int l6), (7, .int l7), (10, .int l10), (11, .int l11), (12, .int l12)]) hx hb dL_fits_240 hl (Nat.le_of_ble_eq_true rfl) rfl (fun ls hl => ?_)
              refine lv_iinc (v := (l11 + 1)) (lv' := [(11, .int (l11 + 1)), (9, .int l12), (8, .int (0 : Int32)), (0, .ref (q 0)), (1, .int l1), (2, .int l2), (4, .int l4), (6, .int l6), (7, .int l7), (10, .int l10), (12, .int l12)]) hx hb dL_fits_242 hl (k := 9) rfl rfl (Nat.le_of_ble_eq_true rfl) rfl (fun ls hl => ?_)
              refine lv_goto (tgt := 112) hx hb dL_fits_245 rfl ?_
              exact ih112 (0 : Int32) l12 (l11 + 1) w _ _ (by omega) (by omega) _ _ _ (lv_sub hl [3, 4, 5, 6, 7, 8, 2, 1, 9, 0] rfl) S h
            · have h := h_f c17 h
              refine lv_aload_n hx hb dL_fits_218 rfl (lv_at hl 0 rfl) ?_
              refine lv_iload_n hx hb dL_fits_219 rfl (lv_at hl 1 rfl) ?_
              refine lv_iload hx hb dL_fits_220 (lv_at hl 9 rfl) ?_
              refine lv_iload_n hx hb dL_fits_222 rfl (lv_at hl 2 rfl) ?_
              obtain ⟨x18, ex18, h⟩ := h_c h
              refine kl_i C S (w_S (rest := []) (As := [.ref (q 0), .int l1, .int l11, .int l2]) lw_135 hx hb hml C S (c_l_votes l hfl D dA q l1 l11 l2 w x18.2 x18.1 ex18) ⟨(Nat.le_of_ble_eq_true rfl), (Nat.le_of_ble_eq_true rfl)⟩ rfl hl.1 rfl (Nat.le_of_ble_eq_true rfl) dL_fits_223 ⟨by show _ ≤ 132; omega, by show _ ≤ 792; omega⟩) (fun w19 ew19 H locs S => ?_)
              have h := h_l h w19 ew19
              refine lv_bipush (v := -101) hx hb dL_fits_226 (by decide) ?_
              refine lv_icmp_ne (tgt := 235) hx hb dL_fits_228 rfl (fun c20 => ?_) (fun c20 => ?_)
              · have h := h_f c20 h
                refine lv_iconst (v := 0) hx hb dL_fits_235 (by decide) ?_
                refine lv_istore (lv' := [(8, .int (0 : Int32)), (0, .ref (q 0)), (1, .int l1), (2, .int l2), (4, .int l4), (6, .int l6), (7, .int l7), (9, .int l9), (10, .int l10), (11, .int l11), (12, .int l12)]) hx hb dL_fits_236 hl (Nat.le_of_ble_eq_true rfl) rfl (fun ls hl => ?_)
                refine lv_iload hx hb dL_fits_238 (lv_at hl 10 rfl) ?_
                refine lv_istore (lv' := [(9, .int l12), (8, .int (0 : Int32)), (0, .ref (q 0)), (1, .int l1), (2, .int l2), (4, .int l4), (6, .int l6), (7, .int l7), (10, .int l10), (11, .int l11), (12, .int l12)]) hx hb dL_fits_240 hl (Nat.le_of_ble_eq_true rfl) rfl (fun ls hl => ?_)
                refine lv_iinc (v := (l11 + 1)) (lv' := [(11, .int (l11 + 1)), (9, .int l12), (8, .int (0 : Int32)), (0, .ref (q 0)), (1, .int l1), (2, .int l2), (4, .int l4), (6, .int l6), (7, .int l7), (10, .int l10), (12, .int l12)]) hx hb dL_fits_242 hl (k := 9) rfl rfl (Nat.le_of_ble_eq_true rfl) rfl (fun ls hl => ?_)
                refine lv_goto (tgt := 112) hx hb dL_fits_245 rfl ?_
                exact ih112 (0 : Int32) l12 (l11 + 1) w19 _ _ (by omega) (by omega) _ _ _ (lv_sub hl [3, 4, 5, 6, 7, 8, 2, 1, 9, 0] rfl) S h
              · have h := h_t c20 h
                refine lv_iconst (v := 1) hx hb dL_fits_231 (by decide) ?_
                refine lv_goto (tgt := 236) hx hb dL_fits_232 rfl ?_
                refine lv_istore (lv' := [(8, .int (1 : Int32)), (0, .ref (q 0)), (1, .int l1), (2, .int l2), (4, .int l4), (6, .int l6), (7, .int l7), (9, .int l9), (10, .int l10), (11, .int l11), (12, .int l12)]) hx hb dL_fits_236 hl (Nat.le_of_ble_eq_true rfl) rfl (fun ls hl => ?_)
                refine lv_iload hx hb dL_fits_238 (lv_at hl 10 rfl) ?_
                refine lv_istore (lv' := [(9, .int l12), (8, .int (1 : Int32)), (0, .ref (q 0)), (1, .int l1), (2, .int l2), (4, .int l4), (6, .int l6), (7, .int l7), (10, .int l10), (11, .int l11), (12, .int l12)]) hx hb dL_fits_240 hl (Nat.le_of_ble_eq_true rfl) rfl (fun ls hl => ?_)
                refine lv_iinc (v := (l11 + 1)) (lv' := [(11, .int (l11 + 1)), (9, .int l12), (8, .int (1 : Int32)), (0, .ref (q 0)), (1, .int l1), (2, .int l2), (4, .int l4), (6, .int l6), (7, .int l7), (10, .int l10), (12, .int l12)]) hx hb dL_fits_242 hl (k := 9) rfl rfl (Nat.le_of_ble_eq_true rfl) rfl (fun ls hl => ?_)
                refine lv_goto (tgt := 112) hx hb dL_fits_245 rfl ?_
                exact ih112 (1 : Int32) l12 (l11 + 1) w19 _ _ (by omega) (by omega) _ _ _ (lv_sub hl [3, 4, 5, 6, 7, 8, 2, 1, 9, 0] rfl) S h
      have loop139 : ∀ (l9 : Int32) (l11 : Int32) (n139 : Nat), ∀ (l8 : Int32) (l12 : Int32) (l13 : Int32) (w : Wt) (cl sl : Nat) (hc : cl + (16 + (n139 * 4 + n112 * 32)) ≤ 132) (hs : sl + 6 * (16 + (n139 * 4 + n112 * 32)) ≤ 792) (H : Heap) (locs : List Loc) (ls : Array Slot), lv_has ls 15 [(0, .ref (q 0)), (1, .int l1), (2, .int l2), (4, .int l4), (6, .int l6), (7, .int l7), (8, .int l8), (9, .int l9), (10, .int l10), (11, .int l11), (12, .int l12), (13, .int l13)] → Sta KL D dA q A s.heap w H locs → Option.bind (lp (l_fits_L139 l1 l2 l4 l6 l7 l9 l10 l11) n139 (l8, l12, l13, w)) (fun x9 => Option.bind (l_fits_x139 l1 l2 l4 l6 l7 l9 l10 l11 x9) (seqF (fun s9 => Option.bind (lp (l_fits_L112 l1 l2 l4 l6 l7 l10) n112 s9) (fun x9 => Option.bind (l_fits_x112 l1 l2 l4 l7 x9) some)) (fun x9 => Option.bind (l_fits_x112 l1 l2 l4 l7 x9) some))) = some z → W p l e RM_l_fits s m args below meth c H locs cl sl Q (F0 m 139 ls []) := by
        intro l9 l11 n139
        induction n139 with
        | zero =>
          intro l8 l12 l13 w cl sl hc hs H locs ls hl S h
          exact (h_lp0 h).elim
        | succ n139 ih139 =>
          have lab176 : ∀ (l13 : Int32) (l14 : Int32) (t0 : Int32) (t1 : Int32) (w : Wt) (cl sl : Nat) (hc : cl + (16 + (n139 * 4 + n112 * 32)) ≤ 132) (hs : sl + 6 * (16 + (n139 * 4 + n112 * 32)) ≤ 792) (H : Heap) (locs : List Loc) (ls : Array Slot), lv_has ls 15 [(0, .ref (q 0)), (1, .int l1), (2, .int l2), (4, .int l4), (6, .int l6), (7, .int l7), (9, .int l9), (10, .int l10), (11, .int l11), (13, .int l13), (14, .int l14)] → Sta KL D dA q A s.heap w H locs → Option.bind (l_fits_b176 l1 l2 l4 l6 l7 l9 l10 l11 l13 l14 t0 t1 w) (seqF (fun s9 => Option.bind (lp (l_fits_L139 l1 l2 l4 l6 l7 l9 l10 l11) n139 s9) (fun x9 => Option.bind (l_fits_x139 l1 l2 l4 l6 l7 l9 l10 l11 x9) (seqF (fun s9 => Option.bind (lp (l_fits_L112 l1 l2 l4 l6 l7 l10) n112 s9) (fun x9 => Option.bind (l_fits_x112 l1 l2 l4 l7 x9) some)) (fun x9 => Option.bind (l_fits_x112 l1 l2 l4 l7 x9) some)))) (fun x9 => Option.bind (l_fits_x139 l1 l2 l4 l6 l7 l9 l10 l11 x9) (seqF (fun s9 => Option.bind (lp (l_fits_L112 l1 l2 l4 l6 l7 l10) n112 s9) (fun x9 => Option.bind (l_fits_x112 l1 l2 l4 l7 x9) some)) (fun x9 => Option.bind (l_fits_x112 l1 l2 l4 l7 x9) some)))) = some z → W p l e RM_l_fits s m args below meth c H locs cl sl Q (F0 m 176 ls [.int t0, .int t1]) := by
            intro l13 l14 t0 t1 w cl sl hc hs H locs ls hl S h
            unfold l_fits_b176 at h
            refine lv_ior hx hb dL_fits_176 ?_
            refine lv_topi (fun v21 ev21 => ?_)
            have h := h_l h v21 ev21
            refine lv_istore (lv' := [(12, .int v21), (0, .ref (q 0)), (1, .int l1), (2, .int l2), (4, .int l4), (6, .int l6), (7, .int l7), (9, .int l9), (10, .int l10), (11, .int l11), (13, .int l13), (14, .int l14)]) hx hb dL_fits_177 hl (Nat.le_of_ble_eq_true rfl) rfl (fun ls hl => ?_)
            refine lv_iload hx hb dL_fits_179 (lv_at hl 11 rfl) ?_
            refine lv_iconst (v := -1) hx hb dL_fits_181 (by decide) ?_
            refine lv_icmp_lt (tgt := 189) hx hb dL_fits_182 rfl (fun c22 => ?_) (fun c22 => ?_)
            · have h := h_t c22 h
              refine lv_iconst (v := 0) hx hb dL_fits_189 (by decide) ?_
              refine lv_istore (lv' := [(8, .int (0 : Int32)), (12, .int v21), (0, .ref (q 0)), (1, .int l1), (2, .int l2), (4, .int l4), (6, .int l6), (7, .int l7), (9, .int l9), (10, .int l10), (11, .int l11), (13, .int l13), (14, .int l14)]) hx hb dL_fits_190 hl (Nat.le_of_ble_eq_true rfl) rfl (fun ls hl => ?_)
              refine lv_iinc (v := (l13 + 1)) (lv' := [(13, .int (l13 + 1)), (8, .int (0 : Int32)), (12, .int v21), (0, .ref (q 0)), (1, .int l1), (2, .int l2), (4, .int l4), (6, .int l6), (7, .int l7), (9, .int l9), (10, .int l10), (11, .int l11), (14, .int l14)]) hx hb dL_fits_192 hl (k := 11) rfl rfl (Nat.le_of_ble_eq_true rfl) rfl (fun ls hl => ?_)
              refine lv_goto (tgt := 139) hx hb dL_fits_195 rfl ?_
              exact ih139 (0 : Int32) v21 (l13 + 1) w _ _ (by omega) (by omega) _ _ _ (lv_sub hl [3, 4, 5, 6, 7, 8, 1, 9, 10, 11, 2, 0] rfl) S h
            · have h := h_f c22 h
              refine lv_iconst (v := 1) hx hb dL_fits_185 (by decide) ?_
              refine lv_goto (tgt := 190) hx hb dL_fits_186 rfl ?_
              refine lv_istore (lv' := [(8, .int (1 : Int32)), (12, .int v21), (0, .ref (q 0)), (1, .int l1), (2, .int l2), (4, .int l4), (6, .int l6), (7, .int l7), (9, .int l9), (10, .int l10), (11, .int l11), (13, .int l13), (14, .int l14)]) hx hb dL_fits_190 hl (Nat.le_of_ble_eq_true rfl) rfl (fun ls hl => ?_)
              refine lv_iinc (v := (l13 + 1)) (lv' := [(13, .int (l13 + 1)), (8, .int (1 : Int32)), (12, .int v21), (0, .ref (q 0)), (1, .int l1), (2, .int l2), (4, .int l4), (6, .int l6), (7, .int l7), (9, .int l9), (10, .int l10), (11, .int l11), (14, .int l14)]) hx hb dL_fits_192 hl (k := 11) rfl rfl (Nat.le_of_ble_eq_true rfl) rfl (fun ls hl => ?_)
              refine lv_goto (tgt := 139) hx hb dL_fits_195 rfl ?_
              exact ih139 (1 : Int32) v21 (l13 + 1) w _ _ (by omega) (by omega) _ _ _ (lv_sub hl [3, 4, 5, 6, 7, 8, 1, 9, 10, 11, 2, 0] rfl) S h
          intro l8 l12 l13 w cl sl hc hs H locs ls hl S h
          have h := h_lp h
          unfold l_fits_L139 at h
          refine lv_iload hx hb dL_fits_139 (lv_at hl 11 rfl) ?_
          refine lv_iload_n hx hb dL_fits_141 rfl (lv_at hl 2 rfl) ?_
          refine lv_icmp_ge (tgt := 198) hx hb dL_fits_142 rfl (fun c23 => ?_) (fun c23 => ?_)
          · have h := h_t c23 h
            exact lab198 l8 l9 l11 l12 w _ _ (by omega) (by omega) _ _ _ (lv_sub hl [0, 1, 2, 3, 4, 5, 6, 7, 8, 9, 10] rfl) S h
          · have h := h_f c23 h
            refine lv_iload hx hb dL_fits_145 (lv_at hl 6 rfl) ?_
            refine lv_if_eq (tgt := 198) hx hb dL_fits_147 rfl (fun c24 => ?_) (fun c24 => ?_)
            · have h := h_t c24 h
              exact lab198 l8 l9 l11 l12 w _ _ (by omega) (by omega) _ _ _ (lv_sub hl [0, 1, 2, 3, 4, 5, 6, 7, 8, 9, 10] rfl) S h
            · have h := h_f c24 h
              refine lv_aload_n hx hb dL_fits_150 rfl (lv_at hl 0 rfl) ?_
              refine lv_iload_n hx hb dL_fits_151 rfl (lv_at hl 1 rfl) ?_
              refine lv_iload hx hb dL_fits_152 (lv_at hl 9 rfl) ?_
              refine lv_iload hx hb dL_fits_154 (lv_at hl 11 rfl) ?_
              obtain ⟨x25, ex25, h⟩ := h_c h
              refine kl_i C S (w_S (rest := []) (As := [.ref (q 0), .int l1, .int l11, .int l13]) lw_135 hx hb hml C S (c_l_votes l hfl D dA q l1 l11 l13 w x25.2 x25.1 ex25) ⟨(Nat.le_of_ble_eq_true rfl), (Nat.le_of_ble_eq_true rfl)⟩ rfl hl.1 rfl (Nat.le_of_ble_eq_true rfl) dL_fits_156 ⟨by show _ ≤ 132; omega, by show _ ≤ 792; omega⟩) (fun w26 ew26 H locs S => ?_)
              have h := h_l h w26 ew26
              refine lv_topi (fun v27 ev27 => ?_)
              have h := h_l h v27 ev27
              refine lv_istore (lv' := [(14, .int v27), (0, .ref (q 0)), (1, .int l1), (2, .int l2), (4, .int l4), (6, .int l6), (7, .int l7), (8, .int l8), (9, .int l9), (10, .int l10), (11, .int l11), (12, .int l12), (13, .int l13)]) hx hb dL_fits_159 hl (Nat.le_of_ble_eq_true rfl) rfl (fun ls hl => ?_)
              refine lv_iload hx hb dL_fits_161 (lv_at hl 11 rfl) ?_
              refine lv_iload hx hb dL_fits_163 (lv_at hl 0 rfl) ?_
              refine lv_if_lt (tgt := 175) hx hb dL_fits_165 rfl (fun c28 => ?_) (fun c28 => ?_)
              · have h := h_t c28 h
                refine lv_iconst (v := 0) hx hb dL_fits_175 (by decide) ?_
                exact lab176 l13 v27 (0 : Int32) l12 w26 _ _ (by omega) (by omega) _ _ _ (lv_sub hl [1, 2, 3, 4, 5, 6, 8, 9, 10, 12, 0] rfl) S h
              · have h := h_f c28 h
                refine lv_iconst (v := 1) hx hb dL_fits_168 (by decide) ?_
                refine lv_iload hx hb dL_fits_169 (lv_at hl 12 rfl) ?_
                refine lv_ishl hx hb dL_fits_171 ?_
                refine lv_goto (tgt := 176) hx hb dL_fits_172 rfl ?_
                exact lab176 l13 v27 ((1 : Int32) <<< (l13 &&& 31)) l12 w26 _ _ (by omega) (by omega) _ _ _ (lv_sub hl [1, 2, 3, 4, 5, 6, 8, 9, 10, 12, 0] rfl) S h
      intro l8 l9 l11 w cl sl hc hs H locs ls hl S h
      have h := h_lp h
      unfold l_fits_L112 at h
      refine lv_iload hx hb dL_fits_112 (lv_at hl 9 rfl) ?_
      refine lv_iload hx hb dL_fits_114 (lv_at hl 8 rfl) ?_
      refine lv_iconst (v := 2) hx hb dL_fits_116 (by decide) ?_
      refine lv_iadd hx hb dL_fits_117 ?_
      refine lv_icmp_ge (tgt := 248) hx hb dL_fits_118 rfl (fun c29 => ?_) (fun c29 => ?_)
      · have h := h_t c29 h
        exact lab248 l1 l2 l4 l7 l8 w _ _ (by omega) (by omega) _ _ _ (lv_sub hl [0, 1, 2, 3, 5, 6] rfl) S h
      · have h := h_f c29 h
        refine lv_iload hx hb dL_fits_121 (lv_at hl 9 rfl) ?_
        refine lv_iload hx hb dL_fits_123 (lv_at hl 4 rfl) ?_
        refine lv_icmp_ge (tgt := 248) hx hb dL_fits_125 rfl (fun c30 => ?_) (fun c30 => ?_)
        · have h := h_t c30 h
          exact lab248 l1 l2 l4 l7 l8 w _ _ (by omega) (by omega) _ _ _ (lv_sub hl [0, 1, 2, 3, 5, 6] rfl) S h
        · have h := h_f c30 h
          refine lv_iload hx hb dL_fits_128 (lv_at hl 6 rfl) ?_
          refine lv_if_eq (tgt := 248) hx hb dL_fits_130 rfl (fun c31 => ?_) (fun c31 => ?_)
          · have h := h_t c31 h
            exact lab248 l1 l2 l4 l7 l8 w _ _ (by omega) (by omega) _ _ _ (lv_sub hl [0, 1, 2, 3, 5, 6] rfl) S h
          · have h := h_f c31 h
            refine lv_iconst (v := 0) hx hb dL_fits_133 (by decide) ?_
            refine lv_istore (lv' := [(12, .int (0 : Int32)), (0, .ref (q 0)), (1, .int l1), (2, .int l2), (4, .int l4), (6, .int l6), (7, .int l7), (8, .int l8), (9, .int l9), (10, .int l10), (11, .int l11)]) hx hb dL_fits_134 hl (Nat.le_of_ble_eq_true rfl) rfl (fun ls hl => ?_)
            refine lv_iconst (v := 0) hx hb dL_fits_136 (by decide) ?_
            refine lv_istore (lv' := [(13, .int (0 : Int32)), (12, .int (0 : Int32)), (0, .ref (q 0)), (1, .int l1), (2, .int l2), (4, .int l4), (6, .int l6), (7, .int l7), (8, .int l8), (9, .int l9), (10, .int l10), (11, .int l11)]) hx hb dL_fits_137 hl (Nat.le_of_ble_eq_true rfl) rfl (fun ls hl => ?_)
            exact loop139 l9 l11 7 l8 (0 : Int32) (0 : Int32) w _ _ (by omega) (by omega) _ _ _ (lv_sub hl [2, 3, 4, 5, 6, 7, 8, 9, 10, 11, 1, 0] rfl) S (h_bb h)
  have lab106 : ∀ (l1 : Int32) (l2 : Int32) (l4 : Int32) (l6 : Int32) (l7 : Int32) (l8 : Int32) (l9 : Int32) (t0 : Int32) (w : Wt) (cl sl : Nat) (hc : cl + 108 ≤ 132) (hs : sl + 6 * 108 ≤ 792) (H : Heap) (locs : List Loc) (ls : Array Slot), lv_has ls 15 [(0, .ref (q 0)), (1, .int l1), (2, .int l2), (4, .int l4), (6, .int l6), (7, .int l7), (8, .int l8), (9, .int l9)] → Sta KL D dA q A s.heap w H locs → Option.bind (l_fits_b106 l1 l2 l4 l6 l7 l8 l9 t0 w) some = some z → W p l e RM_l_fits s m args below meth c H locs cl sl Q (F0 m 106 ls [.int t0]) := by
    intro l1 l2 l4 l6 l7 l8 l9 t0 w cl sl hc hs H locs ls hl S h
    unfold l_fits_b106 at h
    refine lv_istore (lv' := [(10, .int t0), (0, .ref (q 0)), (1, .int l1), (2, .int l2), (4, .int l4), (6, .int l6), (7, .int l7), (8, .int l8), (9, .int l9)]) hx hb dL_fits_106 hl (Nat.le_of_ble_eq_true rfl) rfl (fun ls hl => ?_)
    refine lv_iload hx hb dL_fits_108 (lv_at hl 0 rfl) ?_
    refine lv_istore (lv' := [(11, .int t0), (10, .int t0), (0, .ref (q 0)), (1, .int l1), (2, .int l2), (4, .int l4), (6, .int l6), (7, .int l7), (8, .int l8), (9, .int l9)]) hx hb dL_fits_110 hl (Nat.le_of_ble_eq_true rfl) rfl (fun ls hl => ?_)
    exact loop112 l1 l2 l4 l6 l7 t0 3 l8 l9 t0 w _ _ (by omega) (by omega) _ _ _ (lv_sub hl [2, 3, 4, 5, 6, 7, 8, 9, 1, 0] rfl) S (h_bb h)
  have lab83 : ∀ (l1 : Int32) (l2 : Int32) (l4 : Int32) (l6 : Int32) (l7 : Int32) (t0 : Int32) (w : Wt) (cl sl : Nat) (hc : cl + 108 ≤ 132) (hs : sl + 6 * 108 ≤ 792) (H : Heap) (locs : List Loc) (ls : Array Slot), lv_has ls 15 [(0, .ref (q 0)), (1, .int l1), (2, .int l2), (4, .int l4), (6, .int l6), (7, .int l7)] → Sta KL D dA q A s.heap w H locs → Option.bind (l_fits_b83 l1 l2 l4 l6 l7 t0 w) some = some z → W p l e RM_l_fits s m args below meth c H locs cl sl Q (F0 m 83 ls [.int t0]) := by
    intro l1 l2 l4 l6 l7 t0 w cl sl hc hs H locs ls hl S h
    unfold l_fits_b83 at h
    refine lv_istore (lv' := [(8, .int t0), (0, .ref (q 0)), (1, .int l1), (2, .int l2), (4, .int l4), (6, .int l6), (7, .int l7)]) hx hb dL_fits_83 hl (Nat.le_of_ble_eq_true rfl) rfl (fun ls hl => ?_)
    refine lv_iconst (v := 1) hx hb dL_fits_85 (by decide) ?_
    refine lv_iload_n hx hb dL_fits_86 rfl (lv_at hl 3 rfl) ?_
    refine lv_ishl hx hb dL_fits_87 ?_
    refine lv_iconst (v := 1) hx hb dL_fits_88 (by decide) ?_
    refine lv_isub hx hb dL_fits_89 ?_
    refine lv_topi (fun v32 ev32 => ?_)
    have h := h_l h v32 ev32
    refine lv_istore (lv' := [(9, .int v32), (8, .int t0), (0, .ref (q 0)), (1, .int l1), (2, .int l2), (4, .int l4), (6, .int l6), (7, .int l7)]) hx hb dL_fits_90 hl (Nat.le_of_ble_eq_true rfl) rfl (fun ls hl => ?_)
    refine lv_iload hx hb dL_fits_92 (lv_at hl 6 rfl) ?_
    refine lv_if_ne (tgt := 101) hx hb dL_fits_94 rfl (fun c33 => ?_) (fun c33 => ?_)
    · have h := h_f c33 h
      refine lv_iload hx hb dL_fits_101 (lv_at hl 5 rfl) ?_
      refine lv_iload hx hb dL_fits_103 (lv_at hl 6 rfl) ?_
      obtain ⟨g34, h⟩ := h_gd h
      refine lv_irem hx hb dL_fits_105 (nz_of g34) ?_
      exact lab106 l1 l2 l4 l6 l7 t0 v32 (l4 - l4 / l6 * l6) w _ _ (by omega) (by omega) _ _ _ (lv_sub hl [2, 3, 4, 5, 6, 7, 1, 0] rfl) S h
    · have h := h_t c33 h
      refine lv_iconst (v := 0) hx hb dL_fits_97 (by decide) ?_
      refine lv_goto (tgt := 106) hx hb dL_fits_98 rfl ?_
      exact lab106 l1 l2 l4 l6 l7 t0 v32 (0 : Int32) w _ _ (by omega) (by omega) _ _ _ (lv_sub hl [2, 3, 4, 5, 6, 7, 1, 0] rfl) S h
  have lab82 : ∀ (l1 : Int32) (l2 : Int32) (l4 : Int32) (l6 : Int32) (l7 : Int32) (w : Wt) (cl sl : Nat) (hc : cl + 108 ≤ 132) (hs : sl + 6 * 108 ≤ 792) (H : Heap) (locs : List Loc) (ls : Array Slot), lv_has ls 15 [(0, .ref (q 0)), (1, .int l1), (2, .int l2), (4, .int l4), (6, .int l6), (7, .int l7)] → Sta KL D dA q A s.heap w H locs → Option.bind (l_fits_b82 l1 l2 l4 l6 l7 w) some = some z → W p l e RM_l_fits s m args below meth c H locs cl sl Q (F0 m 82 ls []) := by
    intro l1 l2 l4 l6 l7 w cl sl hc hs H locs ls hl S h
    unfold l_fits_b82 at h
    refine lv_iconst (v := 0) hx hb dL_fits_82 (by decide) ?_
    exact lab83 l1 l2 l4 l6 l7 (0 : Int32) w _ _ (by omega) (by omega) _ _ _ (lv_sub hl [0, 1, 2, 3, 4, 5] rfl) S h
  intro H locs ls hl S h
  have h := h_0 h
  unfold l_fits at h
  refine lv_aload_n hx hb dL_fits_0 rfl (lv_at hl 0 rfl) ?_
  refine lv_iload_n hx hb dL_fits_1 rfl (lv_at hl 1 rfl) ?_
  obtain ⟨x35, ex35, h⟩ := h_c h
  refine kl_i C S (w_S (rest := []) (As := [.ref (q 0), .int a1]) lw_123 hx hb hml C S (c_l_winners l hfl D dA q a1 w x35.2 x35.1 ex35) ⟨(Nat.le_of_ble_eq_true rfl), (Nat.le_of_ble_eq_true rfl)⟩ rfl hl.1 rfl (Nat.le_of_ble_eq_true rfl) dL_fits_2 ⟨by show _ ≤ 132; omega, by show _ ≤ 792; omega⟩) (fun w36 ew36 H locs S => ?_)
  have h := h_l h w36 ew36
  refine lv_topi (fun v37 ev37 => ?_)
  have h := h_l h v37 ev37
  refine lv_istore (lv' := [(5, .int v37), (0, .ref (q 0)), (1, .int a1), (2, .int a2), (3, .int a3), (4, .int a4)]) hx hb dL_fits_5 hl (Nat.le_of_ble_eq_true rfl) rfl (fun ls hl => ?_)
  refine lv_aload_n hx hb dL_fits_7 rfl (lv_at hl 1 rfl) ?_
  refine lv_iload_n hx hb dL_fits_8 rfl (lv_at hl 2 rfl) ?_
  obtain ⟨x38, ex38, h⟩ := h_c h
  refine kl_i C S (w_S (rest := []) (As := [.ref (q 0), .int a1]) lw_125 hx hb hml C S (c_l_tallies l hfl D dA q a1 w36 x38.2 x38.1 ex38) ⟨(Nat.le_of_ble_eq_true rfl), (Nat.le_of_ble_eq_true rfl)⟩ rfl hl.1 rfl (Nat.le_of_ble_eq_true rfl) dL_fits_9 ⟨by show _ ≤ 132; omega, by show _ ≤ 792; omega⟩) (fun w39 ew39 H locs S => ?_)
  have h := h_l h w39 ew39
  refine lv_topi (fun v40 ev40 => ?_)
  have h := h_l h v40 ev40
  refine lv_istore (lv' := [(6, .int v40), (5, .int v37), (0, .ref (q 0)), (1, .int a1), (2, .int a2), (3, .int a3), (4, .int a4)]) hx hb dL_fits_12 hl (Nat.le_of_ble_eq_true rfl) rfl (fun ls hl => ?_)
  refine lv_aload_n hx hb dL_fits_14 rfl (lv_at hl 2 rfl) ?_
  refine lv_iload_n hx hb dL_fits_15 rfl (lv_at hl 3 rfl) ?_
  obtain ⟨x41, ex41, h⟩ := h_c h
  refine kl_i C S (w_S (rest := []) (As := [.ref (q 0), .int a1]) lw_127 hx hb hml C S (c_l_ties l hfl D dA q a1 w39 x41.2 x41.1 ex41) ⟨(Nat.le_of_ble_eq_true rfl), (Nat.le_of_ble_eq_true rfl)⟩ rfl hl.1 rfl (Nat.le_of_ble_eq_true rfl) dL_fits_16 ⟨by show _ ≤ 132; omega, by show _ ≤ 792; omega⟩) (fun w42 ew42 H locs S => ?_)
  have h := h_l h w42 ew42
  refine lv_topi (fun v43 ev43 => ?_)
  have h := h_l h v43 ev43
  refine lv_istore (lv' := [(7, .int v43), (6, .int v40), (5, .int v37), (0, .ref (q 0)), (1, .int a1), (2, .int a2), (3, .int a3), (4, .int a4)]) hx hb dL_fits_19 hl (Nat.le_of_ble_eq_true rfl) rfl (fun ls hl => ?_)
  refine lv_iload hx hb dL_fits_21 (lv_at hl 2 rfl) ?_
  refine lv_if_lt (tgt := 82) hx hb dL_fits_23 rfl (fun c44 => ?_) (fun c44 => ?_)
  · have h := h_t c44 h
    exact lab82 a1 a2 a4 v40 v43 w42 _ _ (by omega) (by omega) _ _ _ (lv_sub hl [3, 4, 5, 7, 1, 0] rfl) S h
  · have h := h_f c44 h
    refine lv_aload_n hx hb dL_fits_26 rfl (lv_at hl 3 rfl) ?_
    refine lv_iload_n hx hb dL_fits_27 rfl (lv_at hl 4 rfl) ?_
    obtain ⟨x45, ex45, h⟩ := h_c h
    refine kl_i C S (w_S (rest := []) (As := [.ref (q 0), .int a1]) lw_129 hx hb hml C S (c_l_hand l hfl D dA q a1 w42 x45.2 x45.1 ex45) ⟨(Nat.le_of_ble_eq_true rfl), (Nat.le_of_ble_eq_true rfl)⟩ rfl hl.1 rfl (Nat.le_of_ble_eq_true rfl) dL_fits_28 ⟨by show _ ≤ 132; omega, by show _ ≤ 792; omega⟩) (fun w46 ew46 H locs S => ?_)
    have h := h_l h w46 ew46
    refine lv_iload hx hb dL_fits_31 (lv_at hl 2 rfl) ?_
    refine lv_icmp_ne (tgt := 82) hx hb dL_fits_33 rfl (fun c47 => ?_) (fun c47 => ?_)
    · have h := h_f c47 h
      exact lab82 a1 a2 a4 v40 v43 w46 _ _ (by omega) (by omega) _ _ _ (lv_sub hl [3, 4, 5, 7, 1, 0] rfl) S h
    · have h := h_t c47 h
      refine lv_iload hx hb dL_fits_36 (lv_at hl 2 rfl) ?_
      obtain ⟨x48, ex48, h⟩ := h_c h
      refine kb_i0 C S (q_S (rest := []) (As := [.int v37]) lk_RL_132 ev hx hb hml C S (c_l_size l D dA q v37 w46 x48 ex48 _) rfl rfl ⟨(Nat.le_of_ble_eq_true rfl), (Nat.le_of_ble_eq_true rfl)⟩ rfl hl.1 rfl (Nat.le_of_ble_eq_true rfl) dL_fits_38 ⟨by show _ ≤ 132; omega, by show _ ≤ 792; omega⟩) (fun H locs S => ?_)
      refine lv_iload_n hx hb dL_fits_41 rfl (lv_at hl 6 rfl) ?_
      refine lv_icmp_gt (tgt := 82) hx hb dL_fits_42 rfl (fun c49 => ?_) (fun c49 => ?_)
      · have h := h_t c49 h
        exact lab82 a1 a2 a4 v40 v43 w46 _ _ (by omega) (by omega) _ _ _ (lv_sub hl [3, 4, 5, 7, 1, 0] rfl) S h
      · have h := h_f c49 h
        refine lv_iload hx hb dL_fits_45 (lv_at hl 2 rfl) ?_
        refine lv_iconst (v := 1) hx hb dL_fits_47 (by decide) ?_
        refine lv_iload_n hx hb dL_fits_48 rfl (lv_at hl 5 rfl) ?_
        refine lv_ishl hx hb dL_fits_49 ?_
        refine lv_icmp_ge (tgt := 82) hx hb dL_fits_50 rfl (fun c50 => ?_) (fun c50 => ?_)
        · have h := h_t c50 h
          exact lab82 a1 a2 a4 v40 v43 w46 _ _ (by omega) (by omega) _ _ _ (lv_sub hl [3, 4, 5, 7, 1, 0] rfl) S h
        · have h := h_f c50 h
          refine lv_aload_n hx hb dL_fits_53 rfl (lv_at hl 3 rfl) ?_
          refine lv_iload_n hx hb dL_fits_54 rfl (lv_at hl 4 rfl) ?_
          refine lv_iload hx hb dL_fits_55 (lv_at hl 1 rfl) ?_
          refine lv_iconst (v := 0) hx hb dL_fits_57 (by decide) ?_
          obtain ⟨x51, ex51, h⟩ := h_c h
          refine kl_i C S (w_S (rest := []) (As := [.ref (q 0), .int a1, .int v40, .int (0 : Int32)]) lw_135 hx hb hml C S (c_l_votes l hfl D dA q a1 v40 (0 : Int32) w46 x51.2 x51.1 ex51) ⟨(Nat.le_of_ble_eq_true rfl), (Nat.le_of_ble_eq_true rfl)⟩ rfl hl.1 rfl (Nat.le_of_ble_eq_true rfl) dL_fits_58 ⟨by show _ ≤ 132; omega, by show _ ≤ 792; omega⟩) (fun w52 ew52 H locs S => ?_)
          have h := h_l h w52 ew52
          refine lv_bipush (v := -101) hx hb dL_fits_61 (by decide) ?_
          refine lv_icmp_ne (tgt := 82) hx hb dL_fits_63 rfl (fun c53 => ?_) (fun c53 => ?_)
          · have h := h_f c53 h
            exact lab82 a1 a2 a4 v40 v43 w52 _ _ (by omega) (by omega) _ _ _ (lv_sub hl [3, 4, 5, 7, 1, 0] rfl) S h
          · have h := h_t c53 h
            refine lv_aload_n hx hb dL_fits_66 rfl (lv_at hl 3 rfl) ?_
            refine lv_iload_n hx hb dL_fits_67 rfl (lv_at hl 4 rfl) ?_
            refine lv_iload hx hb dL_fits_68 (lv_at hl 0 rfl) ?_
            obtain ⟨x54, ex54, h⟩ := h_c h
            refine kl_i C S (w_S (rest := []) (As := [.ref (q 0), .int a1, .int v43]) lw_138 hx hb hml C S (c_l_tied l hfl D dA q a1 v43 w52 x54.2 x54.1 ex54) ⟨(Nat.le_of_ble_eq_true rfl), (Nat.le_of_ble_eq_true rfl)⟩ rfl hl.1 rfl (Nat.le_of_ble_eq_true rfl) dL_fits_70 ⟨by show _ ≤ 132; omega, by show _ ≤ 792; omega⟩) (fun w55 ew55 H locs S => ?_)
            have h := h_l h w55 ew55
            refine lv_bipush (v := -101) hx hb dL_fits_73 (by decide) ?_
            refine lv_icmp_ne (tgt := 82) hx hb dL_fits_75 rfl (fun c56 => ?_) (fun c56 => ?_)
            · have h := h_f c56 h
              exact lab82 a1 a2 a4 v40 v43 w55 _ _ (by omega) (by omega) _ _ _ (lv_sub hl [3, 4, 5, 7, 1, 0] rfl) S h
            · have h := h_t c56 h
              refine lv_iconst (v := 1) hx hb dL_fits_78 (by decide) ?_
              refine lv_goto (tgt := 83) hx hb dL_fits_79 rfl ?_
              exact lab83 a1 a2 a4 v40 v43 (1 : Int32) w55 _ _ (by omega) (by omega) _ _ _ (lv_sub hl [3, 4, 5, 7, 1, 0] rfl) S h
theorem c_l_fits (l : Launch) (hfl : l.stackTraces = false) (D : va_G) (dA : Nat → ClassId) (q : Nat → Nat) (a1 : Int32) (a2 : Int32) (a3 : Int32) (a4 : Int32) (w w' : Wt) (r : Int32) (h : l_fits a1 a2 a3 a4 w = some (r, w')) : Mb l D dA q yL_fits cL_fits 15 (some .boolean) RM_l_fits 132 792 [.ref (q 0), .int a1, .int a2, .int a3, .int a4] w r w' :=
  mb_z (by decide) rfl (Nat.le_of_ble_eq_true rfl) (fun p e s m args below meth c A Q ls hx hb hml C S hl fin => k_l_fits a1 a2 a3 a4 w (r, w') hfl hx hb hml C (fun H locs ls r' w2 pc cl sl hc hs hn S h d => fin H locs ls r' w2 pc cl sl hc hs hn S h d) _ _ _ hl S h)
end WALKS

/-! THE LAW'S ROWS -/
theorem wall_goodW {w0 : Cond} (h : w0 ∈ wall) : GoodIn wall (w0 :: wall) := by
  have h1 : ∀ w ∈ wall, w ∈ wall ∧ ((w.onTables && w.keeps) = true ∨ ∃ ty, w = .arrayClass ty) := fun w hw => ⟨hw, good_of_word (List.mem_filter.mp hw).2⟩
  intro w hw
  rcases List.mem_cons.mp hw with e | e
  · rw [e]; exact h1 _ h
  · exact h1 w e
def lkW (index : Nat) (y : MethodName) (b : ByteArray) (n : Nat) (hh : List (Nat × Nat × Nat × Nat)) (na : Nat) : Prop :=
  Cond.methodLink RL index y ∈ wall ∧ Cond.static y ∈ wall ∧ Cond.initialized y.cls ∈ wall ∧ Cond.codeWith y b n (some .int) hh ∈ wall ∧ plainM y ∧ nArgs y na
/-- what holds all through the law -/
def LCx (D : va_G) (dA : Nat → ClassId) (q qm : Nat → Nat) (qo : Nat) (s : State) (m : MethodId) (args : Array Value) : Prop :=
  s.vm.findClass RL = some m.cls ∧ (∀ w ∈ wall, w.before args s = true) ∧ va_K D vwCl (tysL dA) s ∧ (injK KC q ∧ injK KM qm) ∧ ((∀ i, i < KC.length → s.heap.size ≤ q i) ∧ (∀ i, i < KM.length → s.heap.size ≤ qm i) ∧ s.heap.size ≤ qo) ∧ ((∀ i j, i < KC.length → j < KM.length → q i ≠ qm j) ∧ (∀ i, i < KC.length → q i ≠ qo) ∧ ∀ i, i < KM.length → qm i ≠ qo) ∧ EVl (fun a => s.heap.size ≤ a) s s.heap
/-- the three: the class's world, the reference's, the long[1] -/
def LSt (D : va_G) (dA : Nat → ClassId) (q qm : Nat → Nat) (qo : Nat) (H0 : Heap) (w u : Wt) (o : Int64) (H : Heap) (locs : List Loc) : Prop :=
  va_P D vwCl (wld KC dA q w) H ∧ va_P D vwCl (wld KM dA qm u) H ∧ va_P D vwCl [(qo, ocell dA o)] H ∧ va_S (fun a => H0.size ≤ a) H0 H locs
section LAW
variable {p : Program} {l : Launch} {e : Env} {R : Room} {s : State} {m : MethodId} {args : Array Value} {below : List Frame} {meth : Method} {c : Code} {H : Heap} {locs : List Loc} {cells slots : Nat} {Q : State → Prop}
variable {D : va_G} {dA : Nat → ClassId} {q qm : Nat → Nat} {qo : Nat} {w w' u u' : Wt} {o o' : Int64}
variable {pc : Nat} {ls : Array Slot} {rest st : List Value} {index : Nat} {y : MethodName} {b : ByteArray} {n : Nat} {na : Nat}
theorem wk {K : List Kd} {q : Nat → Nat} {w : Wt} {H1 : Heap} {A1 : Nat → Prop} (hP : va_P D vwCl (wld K dA q w) H) (hk : ∀ a : Nat, a < H.size → ¬ A1 a → H1[a]? = H[a]?) (hA : ∀ i, i < K.length → q i < H.size → ¬ A1 (q i)) : va_P D vwCl (wld K dA q w) H1 := hP.kept (fun k x hx => by
  obtain ⟨h1, h2⟩ := wld_in hx
  have hl := (hP k x hx).lt
  refine hk x.1 hl ?_
  rw [h2] at hl ⊢
  exact hA k h1 hl)
theorem wo {H1 : Heap} {A1 : Nat → Prop} (hO : va_P D vwCl [(qo, ocell dA o)] H) (hk : ∀ a : Nat, a < H.size → ¬ A1 a → H1[a]? = H[a]?) (hA : qo < H.size → ¬ A1 qo) : va_P D vwCl [(qo, ocell dA o)] H1 := hO.kept (fun k x hx => by
  have hz1 : k < 1 := (List.getElem?_eq_some_iff.mp hx).1
  have e0 : k = 0 := by omega
  subst e0
  obtain rfl := Option.some.inj hx
  have h := hO 0 _ rfl
  exact hk qo h.lt (hA h.lt))
theorem law_h {hh : List (Nat × Nat × Nat × Nat)} {av : List Value} {r : Int32} (link : lkW index y b n hh na) (hx : p.tables.exec = Jvm.exec) (hb : c.code = code) (hml : c.maxLocals = 7) (C : LCx D dA q qm qo s m args) (S : LSt D dA q qm qo s.heap w u o H locs) (hM : Mw l D dA q qo y b n hh av w o r w' o') (hn : av.length = na) (hsz : ls.size = 7) (hst : st = av.reverse ++ rest) (hW : (rest.map fun v => v.category).sum ≤ 8) (hdg : decode code pc = .ok (.invokestatic index, 3)) (hR : 61 ≤ R.frames ∧ 8 + (n + 11) + 1500 ≤ R.locals) (hf : cells + 4 ≤ R.cells ∧ slots + 24 ≤ R.slots)
    (kk : ∀ (H1 : Heap) (locs1 : List Loc), LSt D dA q qm qo s.heap w' u o' H1 locs1 → W p l e R s m args below meth c H1 locs1 (cells + 4) (slots + 24) Q (F0 m (pc + 3) ls (.int r :: rest))) : W p l e R s m args below meth c H locs cells slots Q (F0 m pc ls st) := by
  obtain ⟨h1, h2, h4, h5, h6, h7⟩ := link
  obtain ⟨c1, c2, c3, ⟨c4, c4m⟩, ⟨c5, c5m, c5o⟩, ⟨c6, c6o, c6m⟩, c7⟩ := C
  obtain ⟨s1, s2, s3, s4⟩ := S
  have cw : vx_CSW R s args RL index y b n (some .int) hh (Cond.codeWith y b n (some .int) hh :: wall) RMw 4 24 na := ⟨⟨rfl, rfl, hR.1, hR.2, pay_in c2 (wall_goodW h5), List.mem_cons_self⟩, c2 _ h5, c2 _ h4, h6, r_len h7, c2 _ h1, c2 _ h2⟩
  have hE : EVl (fun a => s.heap.size ≤ a) s H := EVl_ok.2.1 _ s s.heap H c7 s4.2.1
  have hsub : ∀ a, Al q qo H.size a → s.heap.size ≤ a := by
    intro a h
    rcases h with (⟨i, hi, e⟩ | h) | h
    · rw [e]; exact c5 i hi
    · exact Nat.le_trans s4.1 h
    · rw [h]; exact c5o
  refine va_calli (vx_runSW (Ts := wall) ⟨hx, hb, hml, c1, c2⟩ (hM H.size) cw ⟨Lp.blind, fun U hU hW => ⟨rfl, by rw [hU], by rw [hU]; exact s1, by rw [hU]; exact s3, va_K.moved hW.alike c3, c4, c6o, by rw [hU]; exact EVl_ok.1 _ s U H hW (EVl_ok.2.2 _ _ s H hE hsub)⟩⟩ rfl hn hsz hst (lv_room hW) hdg hf) s4 (fun a _ h => hsub a h) hsub (fun r' _ t H1 locs1 ht _ hr' hB hz hk hS => ?_)
  subst hr'
  rw [ht] at hB
  refine kk H1 locs1 ⟨hB.1, wk s2 hk (fun i hi hl hA => ?_), hB.2, hS⟩
  rcases hA with (⟨j, hj, e⟩ | h) | h
  · exact c6 j i hj hi e.symm
  · omega
  · exact c6m i hi h
theorem LCx_m (C : LCx D dA q qm qo s m args) : Cx EVm KM D dA qm (fun a => s.heap.size ≤ a) s m args RL := ⟨C.1, C.2.1, tysL_W C.2.2.1, C.2.2.2.1.2, C.2.2.2.2.1.2.1, fun _ h => h, trivial⟩
theorem LCx_c (C : LCx D dA q qm qo s m args) : Cx EVc KC D dA q (fun a => s.heap.size ≤ a) s m args RL := ⟨C.1, C.2.1, tysL_W C.2.2.1, C.2.2.2.1.1, C.2.2.2.2.1.1, fun _ h => h, C.2.2.2.2.2.2.1⟩
theorem keep_m (C : LCx D dA q qm qo s m args) (S : LSt D dA q qm qo s.heap w u o H locs) {H1 : Heap} (hk : ∀ a : Nat, a < H.size → ¬ Aq KM qm H.size a → H1[a]? = H[a]?) : va_P D vwCl (wld KC dA q w) H1 ∧ va_P D vwCl [(qo, ocell dA o)] H1 := by
  obtain ⟨c1, c2, c3, ⟨c4, c4m⟩, ⟨c5, c5m, c5o⟩, ⟨c6, c6o, c6m⟩, c7⟩ := C
  refine ⟨wk S.1 hk (fun i hi hl hA => ?_), wo S.2.2.1 hk (fun hl hA => ?_)⟩
  · rcases hA with ⟨j, hj, e⟩ | h
    · exact c6 i j hi hj e
    · omega
  · rcases hA with ⟨j, hj, e⟩ | h
    · exact c6m j hj e.symm
    · omega
theorem keep_c (C : LCx D dA q qm qo s m args) (S : LSt D dA q qm qo s.heap w u o H locs) {H1 : Heap} (hk : ∀ a : Nat, a < H.size → ¬ Aq KC q H.size a → H1[a]? = H[a]?) : va_P D vwCl (wld KM dA qm u) H1 ∧ va_P D vwCl [(qo, ocell dA o)] H1 := by
  obtain ⟨c1, c2, c3, ⟨c4, c4m⟩, ⟨c5, c5m, c5o⟩, ⟨c6, c6o, c6m⟩, c7⟩ := C
  refine ⟨wk S.2.1 hk (fun i hi hl hA => ?_), wo S.2.2.1 hk (fun hl hA => ?_)⟩
  · rcases hA with ⟨j, hj, e⟩ | h
    · exact c6 j i hj hi e.symm
    · omega
  · rcases hA with ⟨j, hj, e⟩ | h
    · exact c6o j hj e.symm
    · omega
/-- the reference's methods -/
theorem law_m {ret : Option FieldType} {rm : Room} {As : List Value} {r : Int32} (link : lkV RL index RX10 y b n ret na) (hx : p.tables.exec = Jvm.exec) (hb : c.code = code) (hml : c.maxLocals = 7) (C : LCx D dA q qm qo s m args) (S : LSt D dA q qm qo s.heap w u o H locs) (hM : Mi l EVm KM D dA qm y b n ret rm (.ref (qm 0) :: As) u r u') (hrc : rm.cells = 0) (hrs : rm.slots = 0) (hR : rm.frames + 1 ≤ R.frames ∧ 8 + (n + 11) + rm.locals ≤ R.locals) (hn : As.length = na) (hsz : ls.size = 7) (hst : st = As.reverse ++ .ref (qm 0) :: rest) (hW : (rest.map fun v => v.category).sum ≤ 8) (hdg : decode code pc = .ok (.invokevirtual index, 3)) (hf : cells ≤ R.cells ∧ slots ≤ R.slots)
    (kk : ∀ (H1 : Heap) (locs1 : List Loc), LSt D dA q qm qo s.heap w u' o H1 locs1 → W p l e R s m args below meth c H1 locs1 cells slots Q (F0 m (pc + 3) ls (.int r :: rest))) : W p l e R s m args below meth c H locs cells slots Q (F0 m pc ls st) := by
  have Sm : Sta KM D dA qm (fun a => s.heap.size ≤ a) s.heap u H locs := ⟨S.2.1, S.2.2.2⟩
  refine va_calli (q_V link EVm_ok hx hb hml (LCx_m C) Sm KM_0 rfl (hM H.size) hrc hrs hR hn hsz hst hW hdg hf) S.2.2.2 (fun x _ h => (LCx_m C).sub Sm x h) ((LCx_m C).sub Sm) (fun r' _ t H1 locs1 ht _ hr' hP _ hk hS => ?_)
  subst hr'
  rw [ht] at hP
  obtain ⟨k1, k2⟩ := keep_m C S hk
  exact kk H1 locs1 ⟨k1, hP, k2, hS⟩
theorem law_mv {ret : Option FieldType} {rm : Room} {As : List Value} (link : lkV RL index RX10 y b n ret na) (hx : p.tables.exec = Jvm.exec) (hb : c.code = code) (hml : c.maxLocals = 7) (C : LCx D dA q qm qo s m args) (S : LSt D dA q qm qo s.heap w u o H locs) (hM : Mv l EVm KM D dA qm y b n ret rm (.ref (qm 0) :: As) u u') (hrc : rm.cells = 0) (hrs : rm.slots = 0) (hR : rm.frames + 1 ≤ R.frames ∧ 8 + (n + 11) + rm.locals ≤ R.locals) (hn : As.length = na) (hsz : ls.size = 7) (hst : st = As.reverse ++ .ref (qm 0) :: rest) (hW : (rest.map fun v => v.category).sum ≤ 8) (hdg : decode code pc = .ok (.invokevirtual index, 3)) (hf : cells ≤ R.cells ∧ slots ≤ R.slots)
    (kk : ∀ (H1 : Heap) (locs1 : List Loc), LSt D dA q qm qo s.heap w u' o H1 locs1 → W p l e R s m args below meth c H1 locs1 cells slots Q (F0 m (pc + 3) ls rest)) : W p l e R s m args below meth c H locs cells slots Q (F0 m pc ls st) := by
  have Sm : Sta KM D dA qm (fun a => s.heap.size ≤ a) s.heap u H locs := ⟨S.2.1, S.2.2.2⟩
  refine va_callv (q_V link EVm_ok hx hb hml (LCx_m C) Sm KM_0 rfl (hM H.size) hrc hrs hR hn hsz hst hW hdg hf) S.2.2.2 (fun x _ h => (LCx_m C).sub Sm x h) ((LCx_m C).sub Sm) (fun _ t H1 locs1 ht _ _ hP _ hk hS => ?_)
  rw [ht] at hP
  obtain ⟨k1, k2⟩ := keep_m C S hk
  exact kk H1 locs1 ⟨k1, hP, k2, hS⟩
/-- the class's own methods that throw nothing -/
theorem law_c {ret : Option FieldType} {rm : Room} {As : List Value} {r : Int32} (link : lkV RL index RX9 y b n ret na) (hx : p.tables.exec = Jvm.exec) (hb : c.code = code) (hml : c.maxLocals = 7) (C : LCx D dA q qm qo s m args) (S : LSt D dA q qm qo s.heap w u o H locs) (hM : Mi l EVc KC D dA q y b n ret rm (.ref (q 0) :: As) w r w') (hrc : rm.cells = 0) (hrs : rm.slots = 0) (hR : rm.frames + 1 ≤ R.frames ∧ 8 + (n + 11) + rm.locals ≤ R.locals) (hn : As.length = na) (hsz : ls.size = 7) (hst : st = As.reverse ++ .ref (q 0) :: rest) (hW : (rest.map fun v => v.category).sum ≤ 8) (hdg : decode code pc = .ok (.invokevirtual index, 3)) (hf : cells ≤ R.cells ∧ slots ≤ R.slots)
    (kk : ∀ (H1 : Heap) (locs1 : List Loc), LSt D dA q qm qo s.heap w' u o H1 locs1 → W p l e R s m args below meth c H1 locs1 cells slots Q (F0 m (pc + 3) ls (.int r :: rest))) : W p l e R s m args below meth c H locs cells slots Q (F0 m pc ls st) := by
  have Sm : Sta KC D dA q (fun a => s.heap.size ≤ a) s.heap w H locs := ⟨S.1, S.2.2.2⟩
  refine va_calli (q_V link EVc_ok hx hb hml (LCx_c C) Sm KC_0 rfl (hM H.size) hrc hrs hR hn hsz hst hW hdg hf) S.2.2.2 (fun x _ h => (LCx_c C).sub Sm x h) ((LCx_c C).sub Sm) (fun r' _ t H1 locs1 ht _ hr' hP _ hk hS => ?_)
  subst hr'
  rw [ht] at hP
  obtain ⟨k1, k2⟩ := keep_c C S hk
  exact kk H1 locs1 ⟨hP, k1, k2, hS⟩
/-- script[i + j] -/
theorem law_a {bb L i k4 : Nat} {xs : Nat → Int32} {lv : List (Nat × Value)} (j : Nat) {jv : Int} {k0 : Nat} (hx : p.tables.exec = Jvm.exec) (hb : c.code = code) (hX : va_X bb L xs s s.heap) (hbl : bb < s.heap.size) (hS : va_S (fun a => s.heap.size ≤ a) s.heap H locs) (hl : lv_has ls 7 lv) (h0 : lv[k0]? = some (0, .ref bb)) (h4 : lv[k4]? = some (4, .int (nI i))) (hi : i + j < L) (hL : L ≤ 2560) (D5 : decode code pc = .ok (.aload_n 0, 1) ∧ decode code (pc + 1) = .ok (.iload 4, 2) ∧ decode code (pc + 3) = .ok (.iconst jv, 1) ∧ decode code (pc + 4) = .ok (.iadd, 1) ∧ decode code (pc + 5) = .ok (.iaload, 1)) (hj : Int32.ofInt jv = nI j)
    (kk : W p l e R s m args below meth c H locs cells slots Q (F0 m (pc + 6) ls (.int (xs (i + j)) :: rest))) : W p l e R s m args below meth c H locs cells slots Q (F0 m pc ls rest) := by
  obtain ⟨d1, d2, d3, d4, d5⟩ := D5
  refine lv_aload_n hx hb d1 rfl (lv_at hl k0 h0) ?_
  refine lv_iload hx hb d2 (lv_at hl k4 h4) ?_
  refine lv_iconst (v := nI j) hx hb d3 hj ?_
  refine lv_iadd hx hb d4 ?_
  rw [nI_add]
  refine va_sld hx hb hX hbl (Nat.not_le.mpr hbl) hS (vp_in_nI hi (by omega)) d5 ?_
  rw [nl_cl (by omega)]
  exact kk
def TL (pc : Nat) (off : Int) : Prop := decode code pc = .ok (.aload_n 2, 1) ∧ decode code (pc + 1) = .ok (.invokevirtual 111, 3) ∧ decode code (pc + 4) = .ok (.iload 5, 2) ∧ decode code (pc + 6) = .ok (.if_icmp .eq 5, 3) ∧ decode code (pc + 11) = .ok (.iload 5, 2) ∧ decode code (pc + 13) = .ok (.ifCond .ne 15, 3) ∧ decode code (pc + 16) = .ok (.aload_n 3, 1) ∧ decode code (pc + 17) = .ok (.iconst 0, 1) ∧ decode code (pc + 18) = .ok (.laload, 1) ∧ decode code (pc + 19) = .ok (.iload 6, 2) ∧ decode code (pc + 21) = .ok (.i2l, 1) ∧ decode code (pc + 22) = .ok (.lcmp, 1) ∧ decode code (pc + 23) = .ok (.ifCond .eq 5, 3) ∧ decode code (pc + 28) = .ok (.goto off, 3)
theorem lk_RL_111 : lkV RL 111 RX10 yX10_thrown cX10_thrown 1 (some .int) 0 := ⟨wall_of 1118 (by decide +kernel) rfl, wall_of 1119 (by decide +kernel) rfl, wall_of 1120 (by decide +kernel) rfl, wall_of 11 (by decide +kernel) rfl, wall_of 1121 (by decide +kernel) rfl, ⟨by decide, by decide⟩, by decide +kernel⟩
theorem cmp_self (a : Int64) : lg_cmp a a = 0 := by unfold lg_cmp; simp
theorem law_t {i bb : Nat} {c5 z : Int32} {off : Int} (T : TL pc off) (ht : (pc : Int) + 28 + off = 1820) (hx : p.tables.exec = Jvm.exec) (hb : c.code = code) (hml : c.maxLocals = 7) (C : LCx D dA q qm qo s m args) (S : LSt D dA q qm qo s.heap w u o H locs) (hl : lv_has ls 7 [(6, .int z), (5, .int c5), (0, .ref bb), (1, .ref (q 0)), (2, .ref (qm 0)), (3, .ref qo), (4, .int (nI i))]) (hth : u 0 45 = c5) (ho : c5 = 0 → o = z.toInt64) (hR : 10 ≤ R.frames ∧ 1000 ≤ R.locals) (hf : cells ≤ R.cells ∧ slots ≤ R.slots)
    (kk : ∀ (H1 : Heap) (locs1 : List Loc), LSt D dA q qm qo s.heap w u o H1 locs1 → W p l e R s m args below meth c H1 locs1 cells slots Q (F0 m 1820 ls [])) : W p l e R s m args below meth c H locs cells slots Q (F0 m pc ls []) := by
  obtain ⟨d1, d2, d3, d4, d5, d6, d7, d8, d9, d10, d11, d12, d13, d14⟩ := T
  refine lv_aload_n hx hb d1 rfl (lv_at hl 4 rfl) ?_
  refine law_m (rm := RM_m_thrown) (As := []) lk_RL_111 hx hb hml C S (c_m_thrown l D dA qm u (u 0 45) rfl) rfl rfl ⟨by show 0 + 1 ≤ _; omega, by show 8 + (1 + 11) + 0 ≤ _; omega⟩ rfl hl.1 rfl (by decide) d2 hf (fun H locs S => ?_)
  refine lv_iload hx hb d3 (lv_at hl 1 rfl) ?_
  refine lv_icmp_eq (tgt := pc + 11) hx hb d4 (by omega) (fun _ => ?_) (fun g => absurd hth g)
  refine lv_iload hx hb d5 (lv_at hl 1 rfl) ?_
  refine lv_if_ne (tgt := pc + 28) hx hb d6 (by omega) (fun _ => ?_) (fun g => ?_)
  · exact lv_goto (tgt := 1820) hx hb d14 (by omega) (kk H locs S)
  · refine lv_aload_n hx hb d7 rfl (lv_at hl 5 rfl) ?_
    refine lv_iconst (v := 0) hx hb d8 (by decide) ?_
    refine va_lald hx hb C.2.2.1 S.2.2.1 0 5 rfl rfl (vp_in_iff.mpr (by decide)) d9 ?_
    refine lv_iload hx hb d10 (lv_at hl 0 rfl) ?_
    refine lv_i2l hx hb d11 rfl ?_
    refine W.lcmp hx hb d12 ?_
    rw [ho g, cmp_self]
    refine lv_if_eq (tgt := pc + 28) hx hb d13 (by omega) (fun _ => ?_) (fun g => absurd rfl g)
    exact lv_goto (tgt := 1820) hx hb d14 (by omega) (kk H locs S)
/-- the same for isAllowed, whose answer is a boolean -/
def TZ (pc : Nat) (off : Int) : Prop := decode code pc = .ok (.aload_n 2, 1) ∧ decode code (pc + 1) = .ok (.invokevirtual 111, 3) ∧ decode code (pc + 4) = .ok (.iload 5, 2) ∧ decode code (pc + 6) = .ok (.if_icmp .eq 5, 3) ∧ decode code (pc + 11) = .ok (.iload 5, 2) ∧ decode code (pc + 13) = .ok (.ifCond .ne 22, 3) ∧ decode code (pc + 16) = .ok (.aload_n 3, 1) ∧ decode code (pc + 17) = .ok (.iconst 0, 1) ∧ decode code (pc + 18) = .ok (.laload, 1) ∧ decode code (pc + 19) = .ok (.iload 6, 2) ∧ decode code (pc + 21) = .ok (.ifCond .eq 7, 3) ∧ decode code (pc + 24) = .ok (.lconst 1, 1) ∧ decode code (pc + 25) = .ok (.goto 4, 3) ∧ decode code (pc + 28) = .ok (.lconst 0, 1) ∧ decode code (pc + 29) = .ok (.lcmp, 1) ∧ decode code (pc + 30) = .ok (.ifCond .eq 5, 3) ∧ decode code (pc + 35) = .ok (.goto off, 3)
theorem law_z {i bb : Nat} {c5 z : Int32} {off : Int} (T : TZ pc off) (ht : (pc : Int) + 35 + off = 1820) (hx : p.tables.exec = Jvm.exec) (hb : c.code = code) (hml : c.maxLocals = 7) (C : LCx D dA q qm qo s m args) (S : LSt D dA q qm qo s.heap w u o H locs) (hl : lv_has ls 7 [(6, .int z), (5, .int c5), (0, .ref bb), (1, .ref (q 0)), (2, .ref (qm 0)), (3, .ref qo), (4, .int (nI i))]) (hth : u 0 45 = c5) (ho : c5 = 0 → o = if z = 0 then 0 else 1) (hR : 10 ≤ R.frames ∧ 1000 ≤ R.locals) (hf : cells ≤ R.cells ∧ slots ≤ R.slots)
    (kk : ∀ (H1 : Heap) (locs1 : List Loc), LSt D dA q qm qo s.heap w u o H1 locs1 → W p l e R s m args below meth c H1 locs1 cells slots Q (F0 m 1820 ls [])) : W p l e R s m args below meth c H locs cells slots Q (F0 m pc ls []) := by
  obtain ⟨d1, d2, d3, d4, d5, d6, d7, d8, d9, d10, d11, d12, d13, d14, d15, d16, d17⟩ := T
  refine lv_aload_n hx hb d1 rfl (lv_at hl 4 rfl) ?_
  refine law_m (rm := RM_m_thrown) (As := []) lk_RL_111 hx hb hml C S (c_m_thrown l D dA qm u (u 0 45) rfl) rfl rfl ⟨by show 0 + 1 ≤ _; omega, by show 8 + (1 + 11) + 0 ≤ _; omega⟩ rfl hl.1 rfl (by decide) d2 hf (fun H locs S => ?_)
  refine lv_iload hx hb d3 (lv_at hl 1 rfl) ?_
  refine lv_icmp_eq (tgt := pc + 11) hx hb d4 (by omega) (fun _ => ?_) (fun g => absurd hth g)
  refine lv_iload hx hb d5 (lv_at hl 1 rfl) ?_
  refine lv_if_ne (tgt := pc + 35) hx hb d6 (by omega) (fun _ => ?_) (fun g => ?_)
  · exact lv_goto (tgt := 1820) hx hb d17 (by omega) (kk H locs S)
  · refine lv_aload_n hx hb d7 rfl (lv_at hl 5 rfl) ?_
    refine lv_iconst (v := 0) hx hb d8 (by decide) ?_
    refine va_lald hx hb C.2.2.1 S.2.2.1 0 5 rfl rfl (vp_in_iff.mpr (by decide)) d9 ?_
    refine lv_iload hx hb d10 (lv_at hl 0 rfl) ?_
    refine lv_if_eq (tgt := pc + 28) hx hb d11 (by omega) (fun g2 => ?_) (fun g2 => ?_)
    · refine lv_lconst (v := 0) hx hb d14 (by decide) ?_
      refine W.lcmp hx hb d15 ?_
      rw [ho g, if_pos g2, cmp_self]
      refine lv_if_eq (tgt := pc + 35) hx hb d16 (by omega) (fun _ => ?_) (fun g => absurd rfl g)
      exact lv_goto (tgt := 1820) hx hb d17 (by omega) (kk H locs S)
    · refine lv_lconst (v := 1) hx hb d12 (by decide) ?_
      refine lv_goto (tgt := pc + 29) hx hb d13 (by omega) ?_
      refine W.lcmp hx hb d15 ?_
      rw [ho g, if_neg g2, cmp_self]
      refine lv_if_eq (tgt := pc + 35) hx hb d16 (by omega) (fun _ => ?_) (fun g => absurd rfl g)
      exact lv_goto (tgt := 1820) hx hb d17 (by omega) (kk H locs S)
end LAW
theorem cdN_1 : ∀ (L : List Nat) (k n : Nat), n ≤ cdN L k n ∧ cdN L k n ≤ n + L.length := by
  intro L
  induction L with
  | nil => intro k n; exact ⟨Nat.le_refl _, Nat.le_refl _⟩
  | cons x L ih =>
    intro k n
    unfold cdN
    by_cases h : k = x
    · rw [if_pos h]; exact ⟨Nat.le_refl _, Nat.le_add_right _ _⟩
    · rw [if_neg h]
      obtain ⟨h1, h2⟩ := ih k (n + 1)
      refine ⟨by omega, ?_⟩
      rw [List.length_cons]
      omega
theorem cd_0 {L : List Nat} {k : Nat} (h : L.length ≤ 8) : ¬ cdX L (.inl k) = 0 := by
  obtain ⟨h1, h2⟩ := cdN_1 L k 1
  show ¬ nI (cdN L k 1) = 0
  rw [qe_0 (by omega)]
  omega
theorem Agr.o {L : List Nat} {res : Nat ⊕ Int32} {z th : Int32} (h : Agr L res z th) (hL : L.length ≤ 8) (o : Int64) (h0 : cdX L res = 0) : outI o res = z.toInt64 := by
  cases res with
  | inl k => exact absurd h0 (cd_0 hL)
  | inr v => rw [h.2.2 v rfl]; rfl
theorem Agr.oz {L : List Nat} {res : Nat ⊕ Int32} {z th : Int32} (h : Agr L res z th) (hL : L.length ≤ 8) (o : Int64) (h0 : cdX L res = 0) : outZ o res = if z = 0 then 0 else 1 := by
  cases res with
  | inl k => exact absurd h0 (cd_0 hL)
  | inr v => rw [h.2.2 v rfl]; rfl

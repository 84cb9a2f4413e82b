/-! CONTRACTS out of walks: a walk goes from a method's entry to any end, its ends are given -/
section MK
variable {l : Launch} {EV : Ev} {K : List Kd} {D : va_G} {dA : Nat → ClassId} {q : Nat → Nat} {y : MethodName} {b : ByteArray} {n : Nat} {rm : Room} {av : List Value} {w w' : Wt} {r : Int32} {own : String}
theorem lv_start {m : MethodId} (h : (lg_sl av).length ≤ n) : ∃ ls : Array Slot, entryFrame m av.toArray n = F0 m 0 ls [] ∧ lv_has ls n (lv_args 0 av) := by
  have hl := lv_entry av (n := n) h
  rw [lg_entry_eq]
  exact ⟨_, rfl, hl⟩
theorem mk_i (hy : plainName y.cls = true) (ho : y.cls = own) (ev : evOk EV) (hn : (lg_sl av).length ≤ n)
    (walk : ∀ (p : Program) (e : Env) (s : State) (m : MethodId) (args : Array Value) (below : List Frame) (meth : Method) (c : Code) (A : Nat → Prop) (Q : State → Prop) (ls : Array Slot), p.tables.exec = Jvm.exec → c.code = b → c.maxLocals = n → Cx EV K D dA q A s m args own → Sta K D dA q A s.heap w s.heap [] → lv_has ls n (lv_args 0 av) →
      (∀ (H : Heap) (locs : List Loc) (ls : Array Slot) (r' : Int32) (w2 : Wt) (pc : Nat), Sta K D dA q A s.heap w2 H locs → some (r', w2) = some (r, w') → decode b pc = .ok (.ireturn, 1) → W p l e rm s m args below meth c H locs 0 0 Q (F0 m pc ls [.int r'])) →
      W p l e rm s m args below meth c s.heap [] 0 0 Q (F0 m 0 ls [])) : Mi l EV K D dA q y b n (some .int) rm av w r w' := by
  intro sz
  refine Met.ofW (cc := b) (maxL := n) (ret := some .int) hy rfl ?_
  intro p e s m args below meth c s₁ B hml hv
  obtain ⟨rfl, hPr⟩ := hv
  have hts := atoms_spec (ws := Cond.code y b n (some .int) :: wall) B.pre
  obtain ⟨C, S⟩ := Cx.start (args := av.toArray) (ho ▸ findClass_of_methodNamed B.named) (fun x hx => hts x (List.mem_cons_of_mem _ hx)) hPr
  obtain ⟨rfl, -⟩ := hPr
  obtain ⟨ls, e1, hl⟩ := lv_start (m := m) hn
  rw [e1]
  exact walk p e s m _ below meth c _ _ ls B.exec B.bytes hml C S hl (fun H locs ls r' w2 pc S h d => e_i (o := none) B.exec B.bytes B.returns B.notSynchronized C S h d)
theorem mk_z {ty : FieldType} (hy : plainName y.cls = true) (ho : y.cls = own) (ev : evOk EV) (hn : (lg_sl av).length ≤ n)
    (walk : ∀ (p : Program) (e : Env) (s : State) (m : MethodId) (args : Array Value) (below : List Frame) (meth : Method) (c : Code) (A : Nat → Prop) (Q : State → Prop) (ls : Array Slot), p.tables.exec = Jvm.exec → c.code = b → c.maxLocals = n → Cx EV K D dA q A s m args own → Sta K D dA q A s.heap w s.heap [] → lv_has ls n (lv_args 0 av) →
      (∀ (H : Heap) (locs : List Loc) (ls : Array Slot) (r' : Int32) (w2 : Wt) (pc : Nat), narrow ty (.int r') = .int r' → Sta K D dA q A s.heap w2 H locs → some (r', w2) = some (r, w') → decode b pc = .ok (.ireturn, 1) → W p l e rm s m args below meth c H locs 0 0 Q (F0 m pc ls [.int r'])) →
      W p l e rm s m args below meth c s.heap [] 0 0 Q (F0 m 0 ls [])) : Mi l EV K D dA q y b n (some ty) rm av w r w' := by
  intro sz
  refine Met.ofW (cc := b) (maxL := n) (ret := some ty) hy rfl ?_
  intro p e s m args below meth c s₁ B hml hv
  obtain ⟨rfl, hPr⟩ := hv
  have hts := atoms_spec (ws := Cond.code y b n (some ty) :: wall) B.pre
  obtain ⟨C, S⟩ := Cx.start (args := av.toArray) (ho ▸ findClass_of_methodNamed B.named) (fun x hx => hts x (List.mem_cons_of_mem _ hx)) hPr
  obtain ⟨rfl, -⟩ := hPr
  obtain ⟨ls, e1, hl⟩ := lv_start (m := m) hn
  rw [e1]
  exact walk p e s m _ below meth c _ _ ls B.exec B.bytes hml C S hl (fun H locs ls r' w2 pc hn S h d => e_z B.exec B.bytes B.returns B.notSynchronized C S hn h d)
theorem mk_v (hy : plainName y.cls = true) (ho : y.cls = own) (ev : evOk EV) (hn : (lg_sl av).length ≤ n)
    (walk : ∀ (p : Program) (e : Env) (s : State) (m : MethodId) (args : Array Value) (below : List Frame) (meth : Method) (c : Code) (A : Nat → Prop) (Q : State → Prop) (ls : Array Slot), p.tables.exec = Jvm.exec → c.code = b → c.maxLocals = n → Cx EV K D dA q A s m args own → Sta K D dA q A s.heap w s.heap [] → lv_has ls n (lv_args 0 av) →
      (∀ (H : Heap) (locs : List Loc) (ls : Array Slot) (w2 : Wt) (pc : Nat), Sta K D dA q A s.heap w2 H locs → some w2 = some w' → decode b pc = .ok (.return_, 1) → W p l e rm s m args below meth c H locs 0 0 Q (F0 m pc ls [])) →
      W p l e rm s m args below meth c s.heap [] 0 0 Q (F0 m 0 ls [])) : Mv l EV K D dA q y b n none rm av w w' := by
  intro sz
  refine Met.ofW (cc := b) (maxL := n) (ret := none) hy rfl ?_
  intro p e s m args below meth c s₁ B hml hv
  obtain ⟨rfl, hPr⟩ := hv
  have hts := atoms_spec (ws := Cond.code y b n none :: wall) B.pre
  obtain ⟨C, S⟩ := Cx.start (args := av.toArray) (ho ▸ findClass_of_methodNamed B.named) (fun x hx => hts x (List.mem_cons_of_mem _ hx)) hPr
  obtain ⟨rfl, -⟩ := hPr
  obtain ⟨ls, e1, hl⟩ := lv_start (m := m) hn
  rw [e1]
  exact walk p e s m _ below meth c _ _ ls B.exec B.bytes hml C S hl (fun H locs ls w2 pc S h d => e_v (r := 0) (r' := 0) B.exec B.bytes B.returns B.notSynchronized C S (by rw [Option.some.inj h]) d)
theorem mk_r {j : Nat} {rt : FieldType} (hy : plainName y.cls = true) (ho : y.cls = own) (hrt : (∃ n, rt = .object n) ∨ ∃ t, rt = .array t) (ev : evOk EV) (hn : (lg_sl av).length ≤ n)
    (walk : ∀ (p : Program) (e : Env) (s : State) (m : MethodId) (args : Array Value) (below : List Frame) (meth : Method) (c : Code) (A : Nat → Prop) (Q : State → Prop) (ls : Array Slot), p.tables.exec = Jvm.exec → c.code = b → c.maxLocals = n → Cx EV K D dA q A s m args own → Sta K D dA q A s.heap w s.heap [] → lv_has ls n (lv_args 0 av) →
      (∀ (H : Heap) (locs : List Loc) (ls : Array Slot) (w2 : Wt) (pc : Nat), Sta K D dA q A s.heap w2 H locs → some w2 = some w' → decode b pc = .ok (.areturn, 1) → W p l e rm s m args below meth c H locs 0 0 Q (F0 m pc ls [.ref (q j)])) →
      W p l e rm s m args below meth c s.heap [] 0 0 Q (F0 m 0 ls [])) : Mr l EV K D dA q y b n (some rt) rm av w j w' := by
  intro sz
  refine Met.ofW (cc := b) (maxL := n) (ret := some rt) hy rfl ?_
  intro p e s m args below meth c s₁ B hml hv
  obtain ⟨rfl, hPr⟩ := hv
  have hts := atoms_spec (ws := Cond.code y b n (some rt) :: wall) B.pre
  obtain ⟨C, S⟩ := Cx.start (args := av.toArray) (ho ▸ findClass_of_methodNamed B.named) (fun x hx => hts x (List.mem_cons_of_mem _ hx)) hPr
  obtain ⟨rfl, -⟩ := hPr
  obtain ⟨ls, e1, hl⟩ := lv_start (m := m) hn
  rw [e1]
  exact walk p e s m _ below meth c _ _ ls B.exec B.bytes hml C S hl (fun H locs ls w2 pc S h d => e_r (r := 0) (r' := 0) B.exec B.bytes B.returns hrt B.notSynchronized C S (by rw [Option.some.inj h]) d)
end MK
/-! throwing -/
/-- a place that throws exn k with a text: new, dup, ldc, invokespecial, athrow -/
def thF (own : String) (b : ByteArray) (pc k : Nat) : Prop := ∃ (ik is ic j : Nat) (names : List String) (x : String × Nat × String), Bundle.fit (exn k) = true ∧ (∀ n ∈ names, Bundle.fit n = true) ∧ names.length = 2 ∧ Cond.classLink own ik (exn k) ∈ wall ∧ Cond.initialized (exn k) ∈ wall ∧ j < strC.length ∧ strC.getD j ("", 0, "") = x ∧ x.1 = own ∧ x.2.1 = is ∧ (∀ w ∈ vx_atS own ic (exn k) names, w ∈ wall ∨ w ∈ xw1) ∧ (∀ w ∈ Cond.classLink own ik (exn k) :: Cond.initialized (exn k) :: vx_atS own ic (exn k) names, vx_ot w = true) ∧
  decode b pc = .ok (.new ik, 3) ∧ decode b (pc + 3) = .ok (.dup, 1) ∧ ((decode b (pc + 4) = .ok (.ldc is, 2) ∧ decode b (pc + 6) = .ok (.invokespecial ic, 3) ∧ decode b (pc + 9) = .ok (.athrow, 1)) ∨ (decode b (pc + 4) = .ok (.ldc_w is, 3) ∧ decode b (pc + 7) = .ok (.invokespecial ic, 3) ∧ decode b (pc + 10) = .ok (.athrow, 1)))
theorem xw1_tab : ∀ w ∈ xw1, w.onTables = true := by decide +kernel
theorem va_P_mono {D : va_G} {cl : List vw_C} {ws : va_W} {H H1 : Heap} (h : va_P D cl ws H) (hq : ∀ a : Nat, a < H.size → H1[a]? = H[a]?) : va_P D cl ws H1 := fun k z hz => (h k z hz).kept (hq z.1 (h k z hz).lt)
section TH
variable {p : Program} {l : Launch} {e : Env} {R : Room} {s : State} {m : MethodId} {args : Array Value} {below : List Frame} {meth : Method} {c : Code} {H : Heap} {locs : List Loc} {cells slots : Nat} {Q : State → Prop}
variable {K : List Kd} {D : va_G} {dA : Nat → ClassId} {q : Nat → Nat} {own : String} {w w2 w' : Wt} {res : Nat ⊕ Int32}
variable {cc : ByteArray} {pc n mc ms : Nat} {ls : Array Slot} {rest : List Value} {Qc : Array Value → State → Outcome → State → Prop}
theorem e_th {k : Nat} (hx : p.tables.exec = Jvm.exec) (hb : c.code = cc) (hml : c.maxLocals = n) (hfl : l.stackTraces = false) (ht : ∀ x ∈ c.exceptionTable.toList, False) (hlocks : meth.locks = false) (C : Cx EVc K D dA q (Aq K q s.heap.size) s m args own) (S : Sta K D dA q (Aq K q s.heap.size) s.heap w2 H locs) (h : some ((.inl k : Nat ⊕ Int32), w2) = some (res, w')) (t : thF own cc pc k) (hsz : ls.size = n)
    (hRf : 6 ≤ R.frames) (hRl : 82 ≤ R.locals) (hRc : cells + 1 ≤ R.cells) (hRs : slots + 6 ≤ R.slots) (hc : cells + 1 ≤ mc) (hs : slots + 6 ≤ ms) :
    W p l e R s m args below meth c H locs cells slots (vx_MQ below Qc (xQ K D dA q res w' s.heap.size) args s mc ms (Aq K q s.heap.size)) (F0 m pc ls []) := by
  obtain ⟨rfl, rfl⟩ := Prod.mk.inj (Option.some.inj h)
  obtain ⟨ik, is, ic, j, names, x, t1, t2, t3, t4, t5, t6, t7, t8, t9, t10, t11, d0, d3, dd⟩ := t
  have hstr := C.str j t6 t7
  rw [t8, t9] at hstr
  have hat : ∀ w ∈ vx_atS own ic (exn k) names, w.before args s = true := by
    intro w hw
    rcases t10 w hw with h1 | h1
    · exact C.2.1 w h1
    · exact va_Nw.use (xw1_tab w h1) (C.xw1 h1)
  have hend : ∀ t : State, s.vm.Alike t.vm → H.size ≤ t.heap.size → (∀ q : Nat, q < H.size → t.heap[q]? = H[q]?) → xQ K D dA q (.inl k) w2 s.heap.size (exn k) s t := by
    intro t ht1 ht2 ht3
    exact ⟨(), trivial, ⟨⟨k, rfl, rfl⟩, va_P_mono S.1 ht3⟩, Nat.le_trans S.2.1 ht2, fun a h1 h2 => by rw [ht3 a (Nat.lt_of_lt_of_le h1 S.2.1)]; exact S.2.2.1 a h1 h2⟩
  rcases dd with ⟨d4, d6, d9⟩ | ⟨d4, d6, d9⟩
  · exact vx_throwS (cls := exn k) (names := names) (ik := ik) (is := is) (ic := ic) hx hb hfl C.1 t1 t2 (C.2.1 _ t4) (C.2.1 _ t5) hstr hat t11 C.2.2.2.2.2.2.2.2.2.2.1 C.2.2.2.2.2.2.2.2.2.2.2.1 S.2 (by rw [hsz, hml]) d0 d3 d4 d6 d9 (fun x hx => (ht x hx).elim) (by rw [t3]; omega) (by rw [t3]; show 0 + _ ≤ _; omega) hRc hRs hlocks hend S.2.2.2 hc hs
  · exact vx_throwSW (cls := exn k) (names := names) (ik := ik) (is := is) (ic := ic) hx hb hfl C.1 t1 t2 (C.2.1 _ t4) (C.2.1 _ t5) hstr hat t11 C.2.2.2.2.2.2.2.2.2.2.1 C.2.2.2.2.2.2.2.2.2.2.2.1 S.2 (by rw [hsz, hml]) d0 d3 d4 d6 d9 (fun x hx => (ht x hx).elim) (by rw [t3]; omega) (by rw [t3]; show 0 + _ ≤ _; omega) hRc hRs hlocks hend S.2.2.2 hc hs
theorem e_pro {EV : Ev} {k : Nat} {q9 : Nat} {ce : Cell} (ht : ∀ x ∈ c.exceptionTable.toList, False) (hlocks : meth.locks = false) (C : Cx EV K D dA q (Aq K q s.heap.size) s m args own) (S : Sta K D dA q (Aq K q s.heap.size) s.heap w2 H locs) (h : some ((.inl k : Nat ⊕ Int32), w2) = some (res, w')) (hcell : H[q9]? = some ce) (hv : ce.vm = .none) (hcl : s.vm.findClass (exn k) = some ce.cls) (hc : cells ≤ mc) (hs : slots ≤ ms) :
    vx_W p l e R s m args below meth c H locs cells slots (vx_MQ below Qc (xQ K D dA q res w' s.heap.size) args s mc ms (Aq K q s.heap.size)) (F0 m pc ls rest) q9 := by
  obtain ⟨rfl, rfl⟩ := Prod.mk.inj (Option.some.inj h)
  exact vx_out (fun x hx => (ht x hx).elim) hlocks hcell hv hcl (fun t ht1 ht2 => ⟨(), trivial, ⟨⟨k, rfl, rfl⟩, by rw [ht1]; exact S.1⟩, S.2.F ht1⟩) S.2.2.2 hc hs
end TH
section MX
variable {l : Launch} {K : List Kd} {D : va_G} {dA : Nat → ClassId} {q : Nat → Nat} {y : MethodName} {b : ByteArray} {n : Nat} {rm : Room} {av : List Value} {w w' : Wt} {res : Nat ⊕ Int32} {own : String} {mc ms : Nat}
theorem mx_z {ty : FieldType} (hy : plainName y.cls = true) (ho : y.cls = own) (hfl : l.stackTraces = false) (hn : (lg_sl av).length ≤ n) (hf : 6 ≤ rm.frames) (hlo : 82 ≤ rm.locals) (hrc : rm.cells = mc) (hrs : rm.slots = ms)
    (walk : ∀ (p : Program) (e : Env) (s : State) (m : MethodId) (args : Array Value) (below : List Frame) (meth : Method) (c : Code) (A : Nat → Prop) (Q : State → Prop) (ls : Array Slot), p.tables.exec = Jvm.exec → c.code = b → c.maxLocals = n → Cx EVc K D dA q A s m args own → Sta K D dA q A s.heap w s.heap [] → lv_has ls n (lv_args 0 av) →
      (∀ (H : Heap) (locs : List Loc) (ls : Array Slot) (r' : Int32) (w2 : Wt) (pc cl sl : Nat), cl ≤ mc → sl ≤ ms → narrow ty (.int r') = .int r' → Sta K D dA q A s.heap w2 H locs → some ((.inr r' : Nat ⊕ Int32), w2) = some (res, w') → decode b pc = .ok (.ireturn, 1) → W p l e rm s m args below meth c H locs cl sl Q (F0 m pc ls [.int r'])) →
      (∀ (H : Heap) (locs : List Loc) (ls : Array Slot) (w2 : Wt) (k pc cl sl : Nat), cl + 1 ≤ mc → sl + 6 ≤ ms → ls.size = n → Sta K D dA q A s.heap w2 H locs → some ((.inl k : Nat ⊕ Int32), w2) = some (res, w') → thF own b pc k → W p l e rm s m args below meth c H locs cl sl Q (F0 m pc ls [])) →
      (∀ (H : Heap) (locs : List Loc) (ls : Array Slot) (w2 : Wt) (k pc cl sl : Nat) (rest : List Value) (q9 : Nat) (ce : Cell), cl ≤ mc → sl ≤ ms → Sta K D dA q A s.heap w2 H locs → some ((.inl k : Nat ⊕ Int32), w2) = some (res, w') → H[q9]? = some ce → ce.vm = .none → s.vm.findClass (exn k) = some ce.cls → vx_W p l e rm s m args below meth c H locs cl sl Q (F0 m pc ls rest) q9) →
      W p l e rm s m args below meth c s.heap [] 0 0 Q (F0 m 0 ls [])) : Xi l EVc K D dA q y b n (some ty) rm mc ms av w res w' := by
  intro sz
  refine vx_ofW (cc := b) (maxL := n) (ret := some ty) hy rfl ?_
  intro p e s m args below meth c s₁ B hml ht hv
  obtain ⟨rfl, hPr⟩ := hv
  have hts := atoms_spec (ws := Cond.code y b n (some ty) :: wall) B.pre
  obtain ⟨C, S⟩ := Cx.start (args := av.toArray) (ho ▸ findClass_of_methodNamed B.named) (fun x hx => hts x (List.mem_cons_of_mem _ hx)) hPr
  obtain ⟨rfl, -⟩ := hPr
  obtain ⟨ls, e1, hl⟩ := lv_start (m := m) hn
  rw [e1]
  refine walk p e s m _ below meth c _ _ ls B.exec B.bytes hml C S hl ?_ ?_ ?_
  · intro H locs ls r' w2 pc cl sl hc hs hn S h d
    obtain ⟨rfl, rfl⟩ := Prod.mk.inj (Option.some.inj h)
    refine W.widen hc hs ?_
    exact vx_ret (W.zret (v := r') B.exec B.bytes B.returns hn (fun t ht hW => ⟨⟨r', (), rfl, rfl, by show va_P _ _ _ t.heap; rw [ht]; exact S.1⟩, S.2.F ht⟩) S.2.2.2 d B.notSynchronized)
  · intro H locs ls w2 k pc cl sl hc hs hz S h t
    exact e_th B.exec B.bytes hml hfl ht B.notSynchronized C S h t hz hf hlo (by show cl + 1 ≤ rm.cells; rw [hrc]; exact hc) (by show sl + 6 ≤ rm.slots; rw [hrs]; exact hs) hc hs
  · intro H locs ls w2 k pc cl sl rest q9 ce hc hs S h h1 h2 h3
    exact e_pro ht B.notSynchronized C S h h1 h2 h3 hc hs
theorem mx_i (hy : plainName y.cls = true) (ho : y.cls = own) (hfl : l.stackTraces = false) (hn : (lg_sl av).length ≤ n) (hf : 6 ≤ rm.frames) (hlo : 82 ≤ rm.locals) (hrc : rm.cells = mc) (hrs : rm.slots = ms)
    (walk : ∀ (p : Program) (e : Env) (s : State) (m : MethodId) (args : Array Value) (below : List Frame) (meth : Method) (c : Code) (A : Nat → Prop) (Q : State → Prop) (ls : Array Slot), p.tables.exec = Jvm.exec → c.code = b → c.maxLocals = n → Cx EVc K D dA q A s m args own → Sta K D dA q A s.heap w s.heap [] → lv_has ls n (lv_args 0 av) →
      (∀ (H : Heap) (locs : List Loc) (ls : Array Slot) (r' : Int32) (w2 : Wt) (pc cl sl : Nat), cl ≤ mc → sl ≤ ms → Sta K D dA q A s.heap w2 H locs → some ((.inr r' : Nat ⊕ Int32), w2) = some (res, w') → decode b pc = .ok (.ireturn, 1) → W p l e rm s m args below meth c H locs cl sl Q (F0 m pc ls [.int r'])) →
      (∀ (H : Heap) (locs : List Loc) (ls : Array Slot) (w2 : Wt) (k pc cl sl : Nat), cl + 1 ≤ mc → sl + 6 ≤ ms → ls.size = n → Sta K D dA q A s.heap w2 H locs → some ((.inl k : Nat ⊕ Int32), w2) = some (res, w') → thF own b pc k → W p l e rm s m args below meth c H locs cl sl Q (F0 m pc ls [])) →
      (∀ (H : Heap) (locs : List Loc) (ls : Array Slot) (w2 : Wt) (k pc cl sl : Nat) (rest : List Value) (q9 : Nat) (ce : Cell), cl ≤ mc → sl ≤ ms → Sta K D dA q A s.heap w2 H locs → some ((.inl k : Nat ⊕ Int32), w2) = some (res, w') → H[q9]? = some ce → ce.vm = .none → s.vm.findClass (exn k) = some ce.cls → vx_W p l e rm s m args below meth c H locs cl sl Q (F0 m pc ls rest) q9) →
      W p l e rm s m args below meth c s.heap [] 0 0 Q (F0 m 0 ls [])) : Xi l EVc K D dA q y b n (some .int) rm mc ms av w res w' :=
  mx_z hy ho hfl hn hf hlo hrc hrs (fun p e s m args below meth c A Q ls hx hb hml C S hl fin thr pro => walk p e s m args below meth c A Q ls hx hb hml C S hl (fun H locs ls r' w2 pc cl sl hc hs S h d => fin H locs ls r' w2 pc cl sl hc hs rfl S h d) thr pro)
theorem mx_v (hy : plainName y.cls = true) (ho : y.cls = own) (hfl : l.stackTraces = false) (hn : (lg_sl av).length ≤ n) (hf : 6 ≤ rm.frames) (hlo : 82 ≤ rm.locals) (hrc : rm.cells = mc) (hrs : rm.slots = ms)
    (walk : ∀ (p : Program) (e : Env) (s : State) (m : MethodId) (args : Array Value) (below : List Frame) (meth : Method) (c : Code) (A : Nat → Prop) (Q : State → Prop) (ls : Array Slot), p.tables.exec = Jvm.exec → c.code = b → c.maxLocals = n → Cx EVc K D dA q A s m args own → Sta K D dA q A s.heap w s.heap [] → lv_has ls n (lv_args 0 av) →
      (∀ (H : Heap) (locs : List Loc) (ls : Array Slot) (w2 : Wt) (pc cl sl : Nat), cl ≤ mc → sl ≤ ms → Sta K D dA q A s.heap w2 H locs → some ((.inr 0 : Nat ⊕ Int32), w2) = some (res, w') → decode b pc = .ok (.return_, 1) → W p l e rm s m args below meth c H locs cl sl Q (F0 m pc ls [])) →
      (∀ (H : Heap) (locs : List Loc) (ls : Array Slot) (w2 : Wt) (k pc cl sl : Nat), cl + 1 ≤ mc → sl + 6 ≤ ms → ls.size = n → Sta K D dA q A s.heap w2 H locs → some ((.inl k : Nat ⊕ Int32), w2) = some (res, w') → thF own b pc k → W p l e rm s m args below meth c H locs cl sl Q (F0 m pc ls [])) →
      (∀ (H : Heap) (locs : List Loc) (ls : Array Slot) (w2 : Wt) (k pc cl sl : Nat) (rest : List Value) (q9 : Nat) (ce : Cell), cl ≤ mc → sl ≤ ms → Sta K D dA q A s.heap w2 H locs → some ((.inl k : Nat ⊕ Int32), w2) = some (res, w') → H[q9]? = some ce → ce.vm = .none → s.vm.findClass (exn k) = some ce.cls → vx_W p l e rm s m args below meth c H locs cl sl Q (F0 m pc ls rest) q9) →
      W p l e rm s m args below meth c s.heap [] 0 0 Q (F0 m 0 ls [])) : Xv l EVc K D dA q y b n none rm mc ms av w res w' := by
  intro sz
  refine vx_ofW (cc := b) (maxL := n) (ret := none) hy rfl ?_
  intro p e s m args below meth c s₁ B hml ht hv
  obtain ⟨rfl, hPr⟩ := hv
  have hts := atoms_spec (ws := Cond.code y b n none :: wall) B.pre
  obtain ⟨C, S⟩ := Cx.start (args := av.toArray) (ho ▸ findClass_of_methodNamed B.named) (fun x hx => hts x (List.mem_cons_of_mem _ hx)) hPr
  obtain ⟨rfl, -⟩ := hPr
  obtain ⟨ls, e1, hl⟩ := lv_start (m := m) hn
  rw [e1]
  refine walk p e s m _ below meth c _ _ ls B.exec B.bytes hml C S hl ?_ ?_ ?_
  · intro H locs ls w2 pc cl sl hc hs S h d
    obtain ⟨rfl, rfl⟩ := Prod.mk.inj (Option.some.inj h)
    refine W.widen hc hs ?_
    exact vx_ret (W.vret B.exec B.bytes B.returns (fun t ht hW => ⟨⟨(), rfl, ⟨0, rfl⟩, by show va_P _ _ _ t.heap; rw [ht]; exact S.1⟩, S.2.F ht⟩) S.2.2.2 d B.notSynchronized)
  · intro H locs ls w2 k pc cl sl hc hs hz S h t
    exact e_th B.exec B.bytes hml hfl ht B.notSynchronized C S h t hz hf hlo (by show cl + 1 ≤ rm.cells; rw [hrc]; exact hc) (by show sl + 6 ≤ rm.slots; rw [hrs]; exact hs) hc hs
  · intro H locs ls w2 k pc cl sl rest q9 ce hc hs S h h1 h2 h3
    exact e_pro ht B.notSynchronized C S h h1 h2 h3 hc hs
end MX
section XC
variable {p : Program} {l : Launch} {e : Env} {R : Room} {s : State} {m : MethodId} {args : Array Value} {below : List Frame} {meth : Method} {c : Code} {H : Heap} {locs : List Loc} {cells slots : Nat} {Q : State → Prop}
variable {EV : Ev} {K : List Kd} {D : va_G} {dA : Nat → ClassId} {q : Nat → Nat} {A : Nat → Prop} {own : String} {w w' : Wt}
variable {cc : ByteArray} {pc nL : Nat} {ls : Array Slot} {rest st : List Value}
variable {index : Nat} {y : MethodName} {b : ByteArray} {n : Nat} {ret : Option FieldType} {na : Nat} {rm : Room} {As : List Value} {mc ms : Nat}
theorem x_V {Cn : String} {Qc : Array Value → State → Outcome → State → Prop} {XC : String → State → State → Prop} (link : lkV own index Cn y b n ret na) (ev : evOk EV) (hx : p.tables.exec = Jvm.exec) (hb : c.code = cc) (hml : c.maxLocals = nL) (C : Cx EV K D dA q A s m args own) (S : Sta K D dA q A s.heap w H locs) {i ci N : Nat} {fs : List (Option Nat)} {T : u_T} (hi : K[i]? = some (.inr (.inl (ci, fs)))) (hc : vwCl[ci]? = some (Cn, T, N))
    (hM : vx_Met l y (.code y b n ret :: wall) rm (va_Pc (.ref (q i) :: As) (Pr EV K D dA q H.size w)) Qc XC mc ms (Aq K q H.size)) (hrc : rm.cells = mc) (hrs : rm.slots = ms) (hR : rm.frames + 1 ≤ R.frames ∧ 8 + (n + 11) + rm.locals ≤ R.locals) (hn : As.length = na) (hsz : ls.size = nL) (hst : st = As.reverse ++ .ref (q i) :: rest) (hW : (rest.map fun v => v.category).sum ≤ 8) (hdg : decode cc pc = .ok (.invokevirtual index, 3)) (hf : cells + mc ≤ R.cells ∧ slots + ms ≤ R.slots) :
    vx_Run p l e R s m args below meth c H locs cells slots mc ms (F0 m pc ls st) rest (Qc (Value.ref (q i) :: As).toArray) XC (Aq K q H.size) := by
  obtain ⟨h1, h2, h3, h4, h5, h6, h7⟩ := link
  obtain ⟨g1, g2, g3, g4, g5, g6⟩ := r_cb (R := R) C (yl := y) h4 h5 hrc hrs hR
  refine vx_runV (Ts := wall) ⟨hx, hb, hml, C.1, C.2.1⟩ hM ⟨⟨g1, g2, g3, g4, g5, g6, C.2.1 _ h5, C.2.1 _ h4, h6, r_len h7, C.2.1 _ h1⟩, C.2.1 _ h2, C.2.1 _ h3⟩ ⟨Pr.blind ev, va_recv C.2.2.1 S.1 hc (wld_at hi), fun U hU hW => Cx.pre ev C S hU hW⟩ rfl hn hsz hst (lv_room hW) hdg hf
theorem k_x {res : Nat ⊕ Int32} {a : Array Value} (C : Cx EV K D dA q A s m args own) (S : Sta K D dA q A s.heap w H locs) (hr : vx_Run p l e R s m args below meth c H locs cells slots mc ms (F0 m pc ls st) rest (va_Qv (fun (_ : Unit) => ∃ r, res = .inr r) (fun _ t => va_P D vwCl (wld K dA q w') t.heap) (Aq K q H.size) a) (xQ K D dA q res w' H.size) (Aq K q H.size))
    (kx : ∀ k, res = .inl k → ∀ (H1 : Heap) (locs1 : List Loc) (q9 : Nat) (ce : Cell), Sta K D dA q A s.heap w' H1 locs1 → H1[q9]? = some ce → ce.vm = .none → s.vm.findClass (exn k) = some ce.cls → vx_W p l e R s m args below meth c H1 locs1 (cells + mc) (slots + ms) Q (F0 m pc ls rest) q9)
    (kk : ∀ r, res = .inr r → ∀ (H1 : Heap) (locs1 : List Loc), Sta K D dA q A s.heap w' H1 locs1 → W p l e R s m args below meth c H1 locs1 (cells + mc) (slots + ms) Q (F0 m (pc + 3) ls rest)) : W p l e R s m args below meth c H locs cells slots Q (F0 m pc ls st) := by
  refine vx_callv hr S.2 (fun x _ h => C.sub S x h) (C.sub S) (fun x _ h => C.sub S x h) (fun E ce q9 u t H1 locs1 ht _ _ hb _ _ hS h1 h2 h3 => ?_) (fun u t H1 locs1 ht _ hp hb _ _ hS => ?_)
  · obtain ⟨⟨k, e1, rfl⟩, hP⟩ := hb
    exact kx k e1 H1 locs1 q9 ce (q_sta ht hP hS) h1 h2 h3
  · obtain ⟨r, e1⟩ := hp
    exact kk r e1 H1 locs1 (q_sta ht hb hS)
end XC

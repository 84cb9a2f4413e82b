/-! CALLS: contracts over the world as functions, and the rows that use them -/
def exn (k : Nat) : String := if k = 0 then "java/lang/IndexOutOfBoundsException" else if k = 1 then "java/lang/IllegalArgumentException" else "java/lang/IllegalStateException"
/-- answers r, leaves the world w' -/
def Mi (l : Launch) (EV : Ev) (K : List Kd) (D : va_G) (dA : Nat → ClassId) (q : Nat → Nat) (y : MethodName) (b : ByteArray) (n : Nat) (ret : Option FieldType) (rm : Room) (av : List Value) (w : Wt) (r : Int32) (w' : Wt) : Prop :=
  ∀ sz : Nat, Met l y (.code y b n ret :: wall) rm (va_Pc av (Pr EV K D dA q sz w)) (va_Qi (fun (r' : Int32) (_ : Unit) => r' = r) (fun _ t => va_P D vwCl (wld K dA q w') t.heap) (Aq K q sz)) 0 0 (Aq K q sz)
def Mv (l : Launch) (EV : Ev) (K : List Kd) (D : va_G) (dA : Nat → ClassId) (q : Nat → Nat) (y : MethodName) (b : ByteArray) (n : Nat) (ret : Option FieldType) (rm : Room) (av : List Value) (w : Wt) (w' : Wt) : Prop :=
  ∀ sz : Nat, Met l y (.code y b n ret :: wall) rm (va_Pc av (Pr EV K D dA q sz w)) (va_Qv (fun (_ : Unit) => True) (fun _ t => va_P D vwCl (wld K dA q w') t.heap) (Aq K q sz)) 0 0 (Aq K q sz)
def Mr (l : Launch) (EV : Ev) (K : List Kd) (D : va_G) (dA : Nat → ClassId) (q : Nat → Nat) (y : MethodName) (b : ByteArray) (n : Nat) (ret : Option FieldType) (rm : Room) (av : List Value) (w : Wt) (j : Nat) (w' : Wt) : Prop :=
  ∀ sz : Nat, Met l y (.code y b n ret :: wall) rm (va_Pc av (Pr EV K D dA q sz w)) (va_Qr (fun (_ : Unit) => True) (fun _ a t => a = q j ∧ va_P D vwCl (wld K dA q w') t.heap) (Aq K q sz)) 0 0 (Aq K q sz)
/-- answers (inr r) or throws (inl k: the exception exn k) -/
def xQ (K : List Kd) (D : va_G) (dA : Nat → ClassId) (q : Nat → Nat) (res : Nat ⊕ Int32) (w' : Wt) (sz : Nat) : String → State → State → Prop :=
  vx_X (fun (_ : Unit) => True) (fun E _ t => (∃ k, res = .inl k ∧ E = exn k) ∧ va_P D vwCl (wld K dA q w') t.heap) (Aq K q sz)
def Xi (l : Launch) (EV : Ev) (K : List Kd) (D : va_G) (dA : Nat → ClassId) (q : Nat → Nat) (y : MethodName) (b : ByteArray) (n : Nat) (ret : Option FieldType) (rm : Room) (mc ms : Nat) (av : List Value) (w : Wt) (res : Nat ⊕ Int32) (w' : Wt) : Prop :=
  ∀ sz : Nat, vx_Met l y (.code y b n ret :: wall) rm (va_Pc av (Pr EV K D dA q sz w)) (va_Qi (fun (r' : Int32) (_ : Unit) => res = .inr r') (fun _ t => va_P D vwCl (wld K dA q w') t.heap) (Aq K q sz)) (xQ K D dA q res w' sz) mc ms (Aq K q sz)
def Xv (l : Launch) (EV : Ev) (K : List Kd) (D : va_G) (dA : Nat → ClassId) (q : Nat → Nat) (y : MethodName) (b : ByteArray) (n : Nat) (ret : Option FieldType) (rm : Room) (mc ms : Nat) (av : List Value) (w : Wt) (res : Nat ⊕ Int32) (w' : Wt) : Prop :=
  ∀ sz : Nat, vx_Met l y (.code y b n ret :: wall) rm (va_Pc av (Pr EV K D dA q sz w)) (va_Qv (fun (_ : Unit) => ∃ r, res = .inr r) (fun _ t => va_P D vwCl (wld K dA q w') t.heap) (Aq K q sz)) (xQ K D dA q res w' sz) mc ms (Aq K q sz)
abbrev plainM (y : MethodName) : Prop := y.cls ≠ "java/lang/invoke/MethodHandle" ∧ y.cls ≠ "java/lang/invoke/VarHandle"
abbrev nArgs (y : MethodName) (na : Nat) : Prop := (parseMethodDescriptor y.desc).map (fun d => d.parameters.length) = some na
/-- the words of a call: own method, named in its class -/
def lkV (own : String) (index : Nat) (Cn : String) (y : MethodName) (b : ByteArray) (n : Nat) (ret : Option FieldType) (na : Nat) : Prop :=
  Cond.methodLink own index y ∈ wall ∧ Cond.instanceMethod y ∈ wall ∧ Cond.selects Cn y y ∈ wall ∧ Cond.initialized y.cls ∈ wall ∧ Cond.code y b n ret ∈ wall ∧ plainM y ∧ nArgs y na
def lkS (own : String) (index : Nat) (y : MethodName) (b : ByteArray) (n : Nat) (ret : Option FieldType) (na : Nat) : Prop :=
  Cond.methodLink own index y ∈ wall ∧ Cond.static y ∈ wall ∧ Cond.initialized y.cls ∈ wall ∧ Cond.code y b n ret ∈ wall ∧ plainM y ∧ nArgs y na
/-- a nest mate's private static method -/
def lkN (own : String) (index : Nat) (host : String) (y : MethodName) (b : ByteArray) (n : Nat) (ret : Option FieldType) (na : Nat) : Prop :=
  Cond.methodLinkNest own index y host = Cond.methodLinkNest own index y host ∧ Cond.static y ∈ wall ∧ Cond.initialized y.cls ∈ wall ∧ Cond.code y b n ret ∈ wall ∧ plainM y ∧ nArgs y na
/-- a nest mate's private method of an object -/
def lkNV (own : String) (index : Nat) (host Cn : String) (y : MethodName) (b : ByteArray) (n : Nat) (ret : Option FieldType) (na : Nat) : Prop :=
  Cond.methodLinkNest own index y host = Cond.methodLinkNest own index y host ∧ Cond.instanceMethod y ∈ wall ∧ Cond.selects Cn y y ∈ wall ∧ Cond.initialized y.cls ∈ wall ∧ Cond.code y b n ret ∈ wall ∧ plainM y ∧ nArgs y na
/-- inherited or overriding: x as the call names it, owner where it is declared, y what runs for a receiver of class Cn -/
def lkU (own : String) (index : Nat) (Cn owner : String) (x y : MethodName) (b : ByteArray) (n : Nat) (ret : Option FieldType) (na : Nat) : Prop :=
  Cond.methodLink own index x ∈ wall ∧ Cond.sameMethod x.cls owner x.name x.desc ∈ wall ∧ Cond.instanceMethod y ∈ wall ∧ Cond.initialized y.cls ∈ wall ∧ Cond.code y b n ret ∈ wall ∧ plainM ⟨owner, x.name, x.desc⟩ ∧ nArgs x na
section CALLS
variable {p : Program} {l : Launch} {e : Env} {R : Room} {s : State} {m : MethodId} {args : Array Value} {below : List Frame} {meth : Method} {c : Code} {H : Heap} {locs : List Loc} {cells slots : Nat} {Q : State → Prop}
variable {EV : Ev} {K : List Kd} {D : va_G} {dA : Nat → ClassId} {q : Nat → Nat} {A : Nat → Prop} {own : String} {w : Wt}
variable {cc : ByteArray} {pc nL : Nat} {ls : Array Slot} {rest st : List Value}
variable {index : Nat} {y : MethodName} {b : ByteArray} {n : Nat} {ret : Option FieldType} {na : Nat} {rm : Room} {As : List Value} {mc ms : Nat}
theorem r_cb (C : Cx EV K D dA q A s m args own) {yl : MethodName} (h4 : Cond.initialized y.cls ∈ wall) (h5 : Cond.code y b n ret ∈ wall) (hrc : rm.cells = mc) (hrs : rm.slots = ms) (hR : rm.frames + 1 ≤ R.frames ∧ 8 + (n + 11) + rm.locals ≤ R.locals) :
    rm.cells = mc ∧ rm.slots = ms ∧ rm.frames + 1 ≤ R.frames ∧ 8 + (n + 11) + rm.locals ≤ R.locals ∧ (∀ x ∈ (Cond.code y b n ret :: wall), ∀ (a' : Array Value) (U : State), s.WarmedH U.vm → x.before a' U = true) ∧ Cond.code y b n ret ∈ (Cond.code y b n ret :: wall) :=
  ⟨hrc, hrs, hR.1, hR.2, pay_in C.2.1 (wall_good (fun _ h => h) h5), List.mem_cons_self⟩
theorem r_len (h : nArgs y na) : ∀ sig, parseMethodDescriptor y.desc = some sig → na = sig.parameters.length := fun sig h1 => by
  unfold nArgs at h
  rw [h1] at h
  exact (Option.some.inj h).symm
theorem q_V {Cn : String} {Qc : Array Value → State → Outcome → State → Prop} (link : lkV own index Cn y b n ret na) (ev : evOk EV) (hx : p.tables.exec = Jvm.exec) (hb : c.code = cc) (hml : c.maxLocals = nL) (C : Cx EV K D dA q A s m args own) (S : Sta K D dA q A s.heap w H locs) {i ci N : Nat} {fs : List (Option Nat)} {T : u_T} (hi : K[i]? = some (.inr (.inl (ci, fs)))) (hc : vwCl[ci]? = some (Cn, T, N))
    (hM : Met l y (.code y b n ret :: wall) rm (va_Pc (.ref (q i) :: As) (Pr EV K D dA q H.size w)) Qc mc ms (Aq K q H.size)) (hrc : rm.cells = mc) (hrs : rm.slots = ms) (hR : rm.frames + 1 ≤ R.frames ∧ 8 + (n + 11) + rm.locals ≤ R.locals) (hn : As.length = na) (hsz : ls.size = nL) (hst : st = As.reverse ++ .ref (q i) :: rest) (hW : (rest.map fun v => v.category).sum ≤ 8) (hdg : decode cc pc = .ok (.invokevirtual index, 3)) (hf : cells + mc ≤ R.cells ∧ slots + ms ≤ R.slots) :
    va_Run p l e R s m args below meth c H locs cells slots mc ms (F0 m pc ls st) rest (Qc (Value.ref (q i) :: As).toArray) (Aq K q H.size) := by
  obtain ⟨h1, h2, h3, h4, h5, h6, h7⟩ := link
  obtain ⟨g1, g2, g3, g4, g5, g6⟩ := r_cb (R := R) C (yl := y) h4 h5 hrc hrs hR
  refine va_runV (Ts := wall) ⟨hx, hb, hml, C.1, C.2.1⟩ hM ⟨⟨g1, g2, g3, g4, g5, g6, C.2.1 _ h5, C.2.1 _ h4, h6, r_len h7, C.2.1 _ h1⟩, C.2.1 _ h2, C.2.1 _ h3⟩ ⟨Pr.blind ev, va_recv C.2.2.1 S.1 hc (wld_at hi), fun U hU hW => Cx.pre ev C S hU hW⟩ rfl hn hsz hst (lv_room hW) hdg hf
theorem q_S {Qc : Array Value → State → Outcome → State → Prop} (link : lkS own index y b n ret na) (ev : evOk EV) (hx : p.tables.exec = Jvm.exec) (hb : c.code = cc) (hml : c.maxLocals = nL) (C : Cx EV K D dA q A s m args own) (S : Sta K D dA q A s.heap w H locs)
    (hM : Met l y (.code y b n ret :: wall) rm (va_Pc As (Pr EV K D dA q H.size w)) Qc mc ms (Aq K q H.size)) (hrc : rm.cells = mc) (hrs : rm.slots = ms) (hR : rm.frames + 1 ≤ R.frames ∧ 8 + (n + 11) + rm.locals ≤ R.locals) (hn : As.length = na) (hsz : ls.size = nL) (hst : st = As.reverse ++ rest) (hW : (rest.map fun v => v.category).sum ≤ 8) (hdg : decode cc pc = .ok (.invokestatic index, 3)) (hf : cells + mc ≤ R.cells ∧ slots + ms ≤ R.slots) :
    va_Run p l e R s m args below meth c H locs cells slots mc ms (F0 m pc ls st) rest (Qc As.toArray) (Aq K q H.size) := by
  obtain ⟨h1, h2, h4, h5, h6, h7⟩ := link
  obtain ⟨g1, g2, g3, g4, g5, g6⟩ := r_cb (R := R) C (yl := y) h4 h5 hrc hrs hR
  refine va_runS (Ts := wall) ⟨hx, hb, hml, C.1, C.2.1⟩ hM ⟨⟨g1, g2, g3, g4, g5, g6, C.2.1 _ h5, C.2.1 _ h4, h6, r_len h7, C.2.1 _ h1⟩, C.2.1 _ h2⟩ ⟨Pr.blind ev, fun U hU hW => Cx.pre ev C S hU hW⟩ rfl hn hsz hst (lv_room hW) hdg hf
theorem q_N {host : String} {Qc : Array Value → State → Outcome → State → Prop} (link : lkN own index host y b n ret na) (hnest : va_Nw (.methodLinkNest own index y host) s) (ev : evOk EV) (hx : p.tables.exec = Jvm.exec) (hb : c.code = cc) (hml : c.maxLocals = nL) (C : Cx EV K D dA q A s m args own) (S : Sta K D dA q A s.heap w H locs)
    (hM : Met l y (.code y b n ret :: wall) rm (va_Pc As (Pr EV K D dA q H.size w)) Qc mc ms (Aq K q H.size)) (hrc : rm.cells = mc) (hrs : rm.slots = ms) (hR : rm.frames + 1 ≤ R.frames ∧ 8 + (n + 11) + rm.locals ≤ R.locals) (hn : As.length = na) (hsz : ls.size = nL) (hst : st = As.reverse ++ rest) (hW : (rest.map fun v => v.category).sum ≤ 8) (hdg : decode cc pc = .ok (.invokestatic index, 3)) (hf : cells + mc ≤ R.cells ∧ slots + ms ≤ R.slots) :
    va_Run p l e R s m args below meth c H locs cells slots mc ms (F0 m pc ls st) rest (Qc As.toArray) (Aq K q H.size) := by
  obtain ⟨h1, h2, h4, h5, h6, h7⟩ := link
  have g := r_cb (R := R) C (yl := y) h4 h5 hrc hrs hR
  refine va_runSN (Ts := wall) (host := host) ⟨hx, hb, hml, C.1, C.2.1⟩ hM ⟨⟨g, C.2.1 _ h5, C.2.1 _ h4, h6, r_len h7, va_Nw.use rfl hnest⟩, C.2.1 _ h2, trivial⟩ ⟨Pr.blind ev, fun U hU hW => Cx.pre ev C S hU hW⟩ rfl hn hsz hst (lv_room hW) hdg hf
theorem q_NV {Cn host : String} {Qc : Array Value → State → Outcome → State → Prop} (link : lkNV own index host Cn y b n ret na) (hnest : va_Nw (.methodLinkNest own index y host) s) (ev : evOk EV) (hx : p.tables.exec = Jvm.exec) (hb : c.code = cc) (hml : c.maxLocals = nL) (C : Cx EV K D dA q A s m args own) (S : Sta K D dA q A s.heap w H locs) {i ci N : Nat} {fs : List (Option Nat)} {T : u_T} (hi : K[i]? = some (.inr (.inl (ci, fs)))) (hc : vwCl[ci]? = some (Cn, T, N))
    (hM : Met l y (.code y b n ret :: wall) rm (va_Pc (.ref (q i) :: As) (Pr EV K D dA q H.size w)) Qc mc ms (Aq K q H.size)) (hrc : rm.cells = mc) (hrs : rm.slots = ms) (hR : rm.frames + 1 ≤ R.frames ∧ 8 + (n + 11) + rm.locals ≤ R.locals) (hn : As.length = na) (hsz : ls.size = nL) (hst : st = As.reverse ++ .ref (q i) :: rest) (hW : (rest.map fun v => v.category).sum ≤ 8) (hdg : decode cc pc = .ok (.invokevirtual index, 3)) (hf : cells + mc ≤ R.cells ∧ slots + ms ≤ R.slots) :
    va_Run p l e R s m args below meth c H locs cells slots mc ms (F0 m pc ls st) rest (Qc (Value.ref (q i) :: As).toArray) (Aq K q H.size) := by
  obtain ⟨h1, h2, h3, h4, h5, h6, h7⟩ := link
  have g := r_cb (R := R) C (yl := y) h4 h5 hrc hrs hR
  refine va_runVN (Ts := wall) (host := host) ⟨hx, hb, hml, C.1, C.2.1⟩ hM ⟨⟨g, C.2.1 _ h5, C.2.1 _ h4, h6, r_len h7, va_Nw.use rfl hnest⟩, C.2.1 _ h2, C.2.1 _ h3⟩ ⟨Pr.blind ev, va_recv C.2.2.1 S.1 hc (wld_at hi), fun U hU hW => Cx.pre ev C S hU hW⟩ rfl hn hsz hst (lv_room hW) hdg hf
theorem q_U {Cn owner : String} {x : MethodName} {Qc : Array Value → State → Outcome → State → Prop} (link : lkU own index Cn owner x y b n ret na) (hdec : va_Decl s ⟨owner, x.name, x.desc⟩) (hsel : (Cond.selects Cn x y).before args s = true) (ev : evOk EV) (hx : p.tables.exec = Jvm.exec) (hb : c.code = cc) (hml : c.maxLocals = nL) (C : Cx EV K D dA q A s m args own) (S : Sta K D dA q A s.heap w H locs) {i ci N : Nat} {fs : List (Option Nat)} {T : u_T} (hi : K[i]? = some (.inr (.inl (ci, fs)))) (hc : vwCl[ci]? = some (Cn, T, N))
    (hM : Met l y (.code y b n ret :: wall) rm (va_Pc (.ref (q i) :: As) (Pr EV K D dA q H.size w)) Qc mc ms (Aq K q H.size)) (hrc : rm.cells = mc) (hrs : rm.slots = ms) (hR : rm.frames + 1 ≤ R.frames ∧ 8 + (n + 11) + rm.locals ≤ R.locals) (hn : As.length = na) (hsz : ls.size = nL) (hst : st = As.reverse ++ .ref (q i) :: rest) (hW : (rest.map fun v => v.category).sum ≤ 8) (hdg : decode cc pc = .ok (.invokevirtual index, 3)) (hf : cells + mc ≤ R.cells ∧ slots + ms ≤ R.slots) :
    va_Run p l e R s m args below meth c H locs cells slots mc ms (F0 m pc ls st) rest (Qc (Value.ref (q i) :: As).toArray) (Aq K q H.size) := by
  obtain ⟨h1, h2, h3, h4, h5, h6, h7⟩ := link
  have g := r_cb (R := R) C (yl := y) h4 h5 hrc hrs hR
  refine va_runU (Ts := wall) (owner := owner) (x := x) ⟨hx, hb, hml, C.1, C.2.1⟩ hM ⟨g, C.2.1 _ h5, C.2.1 _ h4, h6, r_len (y := x) h7, C.2.1 _ h1, C.2.1 _ h2, hdec, hsel, C.2.1 _ h3⟩ ⟨Pr.blind ev, va_recv C.2.2.1 S.1 hc (wld_at hi), fun U hU hW => Cx.pre ev C S hU hW⟩ rfl hn hsz hst (lv_room hW) hdg hf
theorem q_sta {H1 : Heap} {locs1 : List Loc} {w' : Wt} {t : State} (ht : t.heap = H1) (h : va_P D vwCl (wld K dA q w') t.heap) (hS : va_S A s.heap H1 locs1) : Sta K D dA q A s.heap w' H1 locs1 := ⟨by rw [← ht]; exact h, hS⟩
theorem k_i {r : Int32} {w' : Wt} {a : Array Value} (C : Cx EV K D dA q A s m args own) (S : Sta K D dA q A s.heap w H locs) (hr : va_Run p l e R s m args below meth c H locs cells slots 0 0 (F0 m pc ls st) rest (va_Qi (fun (r' : Int32) (_ : Unit) => r' = r) (fun _ t => va_P D vwCl (wld K dA q w') t.heap) (Aq K q H.size) a) (Aq K q H.size))
    (kk : ∀ (H1 : Heap) (locs1 : List Loc), Sta K D dA q A s.heap w' H1 locs1 → W p l e R s m args below meth c H1 locs1 cells slots Q (F0 m (pc + 3) ls (.int r :: rest))) : W p l e R s m args below meth c H locs cells slots Q (F0 m pc ls st) :=
  va_calli hr S.2 (fun x _ h => C.sub S x h) (C.sub S) (fun r' _ t H1 locs1 ht _ hr' hP _ _ hS => by subst hr'; exact kk H1 locs1 (q_sta ht hP hS))
theorem k_v {w' : Wt} {a : Array Value} (C : Cx EV K D dA q A s m args own) (S : Sta K D dA q A s.heap w H locs) (hr : va_Run p l e R s m args below meth c H locs cells slots 0 0 (F0 m pc ls st) rest (va_Qv (fun (_ : Unit) => True) (fun _ t => va_P D vwCl (wld K dA q w') t.heap) (Aq K q H.size) a) (Aq K q H.size))
    (kk : ∀ (H1 : Heap) (locs1 : List Loc), Sta K D dA q A s.heap w' H1 locs1 → W p l e R s m args below meth c H1 locs1 cells slots Q (F0 m (pc + 3) ls rest)) : W p l e R s m args below meth c H locs cells slots Q (F0 m pc ls st) :=
  va_callv hr S.2 (fun x _ h => C.sub S x h) (C.sub S) (fun _ t H1 locs1 ht _ _ hP _ _ hS => kk H1 locs1 (q_sta ht hP hS))
theorem k_r {w' : Wt} {j : Nat} {a : Array Value} (C : Cx EV K D dA q A s m args own) (S : Sta K D dA q A s.heap w H locs) (hr : va_Run p l e R s m args below meth c H locs cells slots 0 0 (F0 m pc ls st) rest (va_Qr (fun (_ : Unit) => True) (fun _ x t => x = q j ∧ va_P D vwCl (wld K dA q w') t.heap) (Aq K q H.size) a) (Aq K q H.size))
    (kk : ∀ (H1 : Heap) (locs1 : List Loc), Sta K D dA q A s.heap w' H1 locs1 → W p l e R s m args below meth c H1 locs1 cells slots Q (F0 m (pc + 3) ls (.ref (q j) :: rest))) : W p l e R s m args below meth c H locs cells slots Q (F0 m pc ls st) := by
  refine va_callr hr S.2 (fun x _ h => C.sub S x h) (C.sub S) (fun u a2 t H1 locs1 ht ha hp hP h1 h2 hS => ?_)
  obtain ⟨rfl, hP⟩ := hP
  exact kk H1 locs1 (q_sta ht hP hS)
/-- the ends -/
theorem e_i {r r' : Int32} {w' w2 : Wt} {o : Option (Int32 × Wt)} (hx : p.tables.exec = Jvm.exec) (hb : c.code = cc) (hr : meth.sig.returnType = some .int) (hlocks : meth.locks = false) (C : Cx EV K D dA q (Aq K q s.heap.size) s m args own) (S : Sta K D dA q (Aq K q s.heap.size) s.heap w2 H locs) (h : some (r', w2) = some (r, w')) (hdg : decode cc pc = .ok (.ireturn, 1)) :
    W p l e R s m args below meth c H locs cells slots (MQ below (va_Qi (fun (r' : Int32) (_ : Unit) => r' = r) (fun _ t => va_P D vwCl (wld K dA q w') t.heap) (Aq K q s.heap.size)) args s cells slots (Aq K q s.heap.size)) (F0 m pc ls [.int r']) := by
  obtain ⟨rfl, rfl⟩ := Prod.mk.inj (Option.some.inj h)
  exact W.iret (v := r') hx hb hr (fun t ht hW => ⟨⟨r', (), rfl, rfl, by show va_P _ _ _ t.heap; rw [ht]; exact S.1⟩, S.2.F ht⟩) S.2.2.2 hdg hlocks
theorem e_z {r r' : Int32} {w' w2 : Wt} {ty : FieldType} (hx : p.tables.exec = Jvm.exec) (hb : c.code = cc) (hr : meth.sig.returnType = some ty) (hlocks : meth.locks = false) (C : Cx EV K D dA q (Aq K q s.heap.size) s m args own) (S : Sta K D dA q (Aq K q s.heap.size) s.heap w2 H locs) (hn : narrow ty (.int r') = .int r') (h : some (r', w2) = some (r, w')) (hdg : decode cc pc = .ok (.ireturn, 1)) :
    W p l e R s m args below meth c H locs cells slots (MQ below (va_Qi (fun (r' : Int32) (_ : Unit) => r' = r) (fun _ t => va_P D vwCl (wld K dA q w') t.heap) (Aq K q s.heap.size)) args s cells slots (Aq K q s.heap.size)) (F0 m pc ls [.int r']) := by
  obtain ⟨rfl, rfl⟩ := Prod.mk.inj (Option.some.inj h)
  exact W.zret (v := r') hx hb hr hn (fun t ht hW => ⟨⟨r', (), rfl, rfl, by show va_P _ _ _ t.heap; rw [ht]; exact S.1⟩, S.2.F ht⟩) S.2.2.2 hdg hlocks
theorem e_v {r r' : Int32} {w' w2 : Wt} (hx : p.tables.exec = Jvm.exec) (hb : c.code = cc) (hr : meth.sig.returnType = none) (hlocks : meth.locks = false) (C : Cx EV K D dA q (Aq K q s.heap.size) s m args own) (S : Sta K D dA q (Aq K q s.heap.size) s.heap w2 H locs) (h : some (r', w2) = some (r, w')) (hdg : decode cc pc = .ok (.return_, 1)) :
    W p l e R s m args below meth c H locs cells slots (MQ below (va_Qv (fun (_ : Unit) => True) (fun _ t => va_P D vwCl (wld K dA q w') t.heap) (Aq K q s.heap.size)) args s cells slots (Aq K q s.heap.size)) (F0 m pc ls []) := by
  obtain ⟨rfl, rfl⟩ := Prod.mk.inj (Option.some.inj h)
  exact W.vret hx hb hr (fun t ht hW => ⟨⟨(), rfl, trivial, by show va_P _ _ _ t.heap; rw [ht]; exact S.1⟩, S.2.F ht⟩) S.2.2.2 hdg hlocks
theorem e_r {r r' : Int32} {j : Nat} {w' w2 : Wt} {rt : FieldType} (hx : p.tables.exec = Jvm.exec) (hb : c.code = cc) (hr : meth.sig.returnType = some rt) (hrt : (∃ n, rt = .object n) ∨ ∃ t, rt = .array t) (hlocks : meth.locks = false) (C : Cx EV K D dA q (Aq K q s.heap.size) s m args own) (S : Sta K D dA q (Aq K q s.heap.size) s.heap w2 H locs) (h : some (r', w2) = some (r, w')) (hdg : decode cc pc = .ok (.areturn, 1)) :
    W p l e R s m args below meth c H locs cells slots (MQ below (va_Qr (fun (_ : Unit) => True) (fun _ a t => a = q j ∧ va_P D vwCl (wld K dA q w') t.heap) (Aq K q s.heap.size)) args s cells slots (Aq K q s.heap.size)) (F0 m pc ls [.ref (q j)]) := by
  obtain ⟨rfl, rfl⟩ := Prod.mk.inj (Option.some.inj h)
  exact W.aret (v := .ref (q j)) hx hb hr hrt (Or.inr ⟨_, rfl⟩) (fun t ht hW => ⟨⟨(), q j, rfl, trivial, rfl, by show va_P _ _ _ t.heap; rw [ht]; exact S.1⟩, S.2.F ht⟩) S.2.2.2 hdg hlocks
end CALLS
/-! the models: partial functions over the world; none where the machine itself would throw, or a loop has no fuel left -/
def gd {α : Type} (b : Bool) (o : Option α) : Option α := if b = true then o else none
def inb (x : Int32) (n : Nat) : Bool := decide (0 ≤ x.toInt ∧ x.toInt < (n : Int))
def nmd {α β : Type} (a : α) (f : α → Option β) : Option β := f a
def lp {σ ρ : Type} (b : σ → Option (σ ⊕ ρ)) : Nat → σ → Option ρ
  | 0, _ => none
  | n + 1, s => (b s).bind (fun x => match x with | .inl s' => lp b n s' | .inr r => some r)
def seqF {σ ρ β : Type} (a : σ → Option β) (b : ρ → Option β) (x : σ ⊕ ρ) : Option β := match x with
  | .inl s => a s
  | .inr r => b r
def FU : Nat := 100000
theorem h_gd {α β : Type} {b : Bool} {o : Option α} {F : α → Option β} {z : β} (h : Option.bind (gd b o) F = some z) : b = true ∧ Option.bind o F = some z := by
  unfold gd at h
  by_cases hb : b = true
  · rw [if_pos hb] at h; exact ⟨hb, h⟩
  · rw [if_neg hb] at h; cases h
theorem h_in {x : Int32} {n : Nat} (h : inb x n = true) : vp_in x n := vp_in_iff.mpr (of_decide_eq_true h)
theorem h_t {α β : Type} {c : Prop} [Decidable c] {a b : Option α} {F : α → Option β} {z : β} (hc : c) (h : Option.bind (if c then a else b) F = some z) : Option.bind a F = some z := by rw [if_pos hc] at h; exact h
theorem h_f {α β : Type} {c : Prop} [Decidable c] {a b : Option α} {F : α → Option β} {z : β} (hc : ¬ c) (h : Option.bind (if c then a else b) F = some z) : Option.bind b F = some z := by rw [if_neg hc] at h; exact h
theorem h_c {α β γ : Type} {a : Option γ} {f : γ → Option α} {F : α → Option β} {z : β} (h : Option.bind (Option.bind a f) F = some z) : ∃ x, a = some x ∧ Option.bind (f x) F = some z := by
  cases a with
  | none => cases h
  | some x => exact ⟨x, rfl, h⟩
theorem h_l {α β γ : Type} {a : γ} {f : γ → Option α} {F : α → Option β} {z : β} (h : Option.bind (nmd a f) F = some z) (x : γ) (e : x = a) : Option.bind (f x) F = some z := by subst e; exact h
/-- a loop: what is behind it gets its answer -/
theorem h_lp {σ ρ β : Type} {b : σ → Option (σ ⊕ ρ)} {n : Nat} {s : σ} {F : ρ → Option β} {z : β} (h : Option.bind (lp b (n + 1) s) F = some z) : Option.bind (b s) (seqF (fun s' => Option.bind (lp b n s') F) F) = some z := by
  unfold lp at h
  cases hb : b s with
  | none => rw [hb] at h; cases h
  | some x =>
    rw [hb] at h
    cases x with
    | inl s' => exact h
    | inr r => exact h
theorem h_lp0 {σ ρ β : Type} {b : σ → Option (σ ⊕ ρ)} {s : σ} {F : ρ → Option β} {z : β} (h : Option.bind (lp b 0 s) F = some z) : False := by cases h
theorem h_0 {α : Type} {a : Option α} {z : α} (h : a = some z) : Option.bind a some = some z := by rw [h]; rfl

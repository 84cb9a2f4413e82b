/-! SUPPORT of the walks: String.indexOf over the constants, an inherited static method, fuel of the recursion -/
def ixF (c : Int32) : List Int32 → Nat → Int32
  | [], _ => -1
  | b :: l, k => if b = c then nI k else ixF c l (k + 1)
/-- indexOf of a letter in the String constant j -/
def sIx (j : Nat) (c : Int32) : Int32 := ixF c (bytS.getD j []) 0
/-- fuel of a recursion -/
def FD : Nat := 30
/-- the words of a call of an inherited static method: x as the call names it -/
def lkSU (own : String) (index : Nat) (owner : String) (x y : MethodName) (b : ByteArray) (n : Nat) (ret : Option FieldType) (na : Nat) : Prop :=
  Cond.methodLink own index x ∈ wall ∧ Cond.sameMethod x.cls owner x.name x.desc ∈ wall ∧ Cond.static y ∈ wall ∧ Cond.initialized y.cls ∈ wall ∧ Cond.code y b n ret ∈ wall ∧ plainM y ∧ nArgs y na ∧ y = ⟨owner, x.name, x.desc⟩
/-! an inherited static method: the class that the call names isn't the one that declares it. (The kit has this for invokevirtual and invokespecial; these two rows go the same way with its own pieces.) -/
section SUPS
variable {p : Program} {l : Launch} {e : Env} {R : Room} {s : State} {m : MethodId} {args : Array Value} {below : List Frame} {meth : Method} {c : Code} {T : State} {locs : List Loc} {cells slots : Nat}
theorem su_warm {Q : Unit → Pre} {E : CtlPost} {d : Bool} {acts : List Action} {u u0 : State} {f : JFrame} {index ci nt named : Nat} {r : MethodId} {kd kn : Class} {cf : ClassFile} {nm ds : String} (hs : u.topJava?.isSome) (hpv : e.platform.polymorphicOnlyByInvokevirtual = true)
    (hW : u0.WarmedH u.vm) (hE : u0.MethodEntryUp e u.vm f.method.cls index named r ci) (hkd : u0.vm.classes[f.method.cls]? = some kd) (hcf : kd.cf = some cf) (hent : cf.constantPool[index]? = some (if false then .interfaceMethodref ci nt else .methodref ci nt)) (hnt : cf.constantPool.nameAndType? nt = some (nm, ds))
    (hkn : u0.vm.classes[named]? = some kn) (hno : (kn.methods.any fun x => x.name == nm && !x.isStatic && signaturePolymorphic kn x) = false) :
    wp (invokestatic.sem index) Q E e d acts (u.setTop f) ↔ wp (invokestatic.sem index) Q E e d acts ((u.setVm (u.vm.calledUp f.method.cls ci index named r)).setTop f) := by
  obtain ⟨first, -, hW1, second⟩ := hE.classFirst
  obtain ⟨ka, hka, ea⟩ := hW.alike.2.2 _ _ hkd
  obtain ⟨kb, hkb, eb⟩ := hE.warmed.alike.2.2 _ _ hkd
  obtain ⟨na, hna, ena⟩ := hW1.alike.2.2 _ _ hkn
  obtain ⟨nb, hnb, enb⟩ := hE.warmed.alike.2.2 _ _ hkn
  have askA := memberRef_ask_via (e := e) hka (by rw [ea]; exact hcf) hent hnt
  have askB := memberRef_ask_via (e := e) hkb (by rw [eb]; exact hcf) hent hnt
  have noA : (na.methods.any fun x => x.name == nm && !x.isStatic && signaturePolymorphic na x) = false := by rw [ena]; exact hno
  have noB : (nb.methods.any fun x => x.name == nm && !x.isStatic && signaturePolymorphic nb x) = false := by rw [enb]; exact hno
  have t1 : (u.setVm (u.vm.noted f.method.cls ci (.cls named))).topJava?.isSome := hs
  have t2 : (u.setVm (u.vm.calledUp f.method.cls ci index named r)).topJava?.isSome := hs
  have stepA : ∀ {Q' : ClassId → Pre} {d' : Bool} {acts' : List Action}, wp (Jvm.resolveClassAt ci) Q' E e d' acts' (u.setTop f) ↔ Q' named d' acts' ((u.setVm (u.vm.noted f.method.cls ci (.cls named))).setTop f) :=
    W.resolveClassAt_links (t := u.setTop f) (State.method?_setTop f hs) first
  have stepB : ∀ {Q' : MethodId → Pre} {d' : Bool} {acts' : List Action}, wp (Jvm.resolveMethodAt index) Q' E e d' acts' ((u.setVm (u.vm.noted f.method.cls ci (.cls named))).setTop f) ↔ Q' r d' acts' ((u.setVm (u.vm.calledUp f.method.cls ci index named r)).setTop f) :=
    W.resolveMethodAt_links (t := (u.setVm (u.vm.noted f.method.cls ci (.cls named))).setTop f) (State.method?_setTop f t1) second
  have readyA := fun {Q' : ClassId → Pre} {d' : Bool} {acts' : List Action} => W.resolveClassAt_ready (Q := Q') (E := E) (e := e) (d := d') (acts := acts') (s := (u.setVm (u.vm.calledUp f.method.cls ci index named r)).setTop f) (State.method?_setTop f t2) hE.classReady
  have readyB := fun {Q' : MethodId → Pre} {d' : Bool} {acts' : List Action} => W.resolveMethodAt_ready (Q := Q') (E := E) (e := e) (d := d') (acts := acts') (s := (u.setVm (u.vm.calledUp f.method.cls ci index named r)).setTop f) (State.method?_setTop f t2) hE.ready
  simp [invokestatic.sem, hpv, Seam.memberRefOf, State.method?_setTop f hs, State.method?_setTop f t2, askA, askB, stepA, hna, hnb, noA, noB, stepB, W.resolveClassAt_ready (s := (u.setVm (u.vm.calledUp f.method.cls ci index named r)).setTop f) (State.method?_setTop f t2) hE.classReady, W.resolveMethodAt_ready (s := (u.setVm (u.vm.calledUp f.method.cls ci index named r)).setTop f) (State.method?_setTop f t2) hE.ready, -Array.any_eq_true]
theorem su_call (X : Stand p l e R s m args below meth c T locs cells slots) (hexec : p.tables.exec = Jvm.exec) {own owner : String} {index : Nat} {x : MethodName} {bytes : ByteArray} {maxL : Nat} {ret : Option FieldType}
    (hown : s.vm.findClass own = some m.cls) (hlink : (Cond.methodLink own index x).before args s = true) (hsame : (Cond.sameMethod x.cls owner x.name x.desc).before args s = true) (hstat : (Cond.static ⟨owner, x.name, x.desc⟩).before args s = true) (hinit : (Cond.initialized owner).before args s = true) (hcode : (Cond.code ⟨owner, x.name, x.desc⟩ bytes maxL ret).before args s = true) (hy : owner ≠ "java/lang/invoke/MethodHandle" ∧ owner ≠ "java/lang/invoke/VarHandle")
    {W : Nat} {Pre : Pt → Array Value → Prop} {Post : Pt → Array Value → Option Value → Pt → Prop} (hK : Back l R p e below s args ⟨owner, x.name, x.desc⟩ 3 W Pre Post)
    {g : JFrame} (hg : g.method = m) (hsize : g.locals.size = c.maxLocals) {argsL rest : List Value} (hlen : ∀ sig, parseMethodDescriptor x.desc = some sig → argsL.length = sig.parameters.length)
    (hstack : g.stack = argsL.reverse ++ rest) (hW : 2 * g.monitorRoom + (rest.map fun v => v.category).sum ≤ W) (hdg : decode c.code g.pc = .ok (.invokestatic index, 3))
    (hpre : ∀ vm₁, s.WarmedH vm₁ → Pre ⟨T.setVm vm₁, locs, cells, slots⟩ argsL.toArray) :
    ∃ (v : Option Value) (vm₁ : Vm) (B : Pt), s.WarmedH vm₁ ∧ Stand p l e R s m args below meth c B.U B.locs B.cells B.slots ∧ Post ⟨T.setVm vm₁, locs, cells, slots⟩ argsL.toArray v B ∧
      ∀ target, Steps p.tables e below (B.U.setTop { g with pc := g.pc + 3, stack := v.toList ++ rest }) target → Steps p.tables e below (T.setTop g) target := by
  obtain ⟨mk, hnamed⟩ := Cond.code_named hcode
  obtain ⟨mm, cM, hmm, -, -, -, -, -, -, hsig⟩ := Cond.code_spec hnamed hcode
  have hst : mm.isStatic = true := Cond.static_spec hnamed hmm hstat
  obtain ⟨ko, hko, hnm⟩ := className_of_methodNamed hnamed
  have hini : ko.init = .initialized := Cond.initialized_spec (findClass_of_methodNamed hnamed) hko hinit
  have hpl : e.platform.magicAccessors = ({} : Platform).magicAccessors := by rw [X.admits.platform]
  have hpv : e.platform.polymorphicOnlyByInvokevirtual = true := by rw [X.admits.platform]
  obtain ⟨cn, ck, r1, hcn, hck, hni, hf, hn1⟩ := Cond.sameMethod_found hsame
  cases hnamed.symm.trans hn1
  obtain ⟨ci, hl, hright⟩ := Cond.methodLink_specUp hown hcn hck hni hf hlink e.platform hpl (by rw [X.admits.platform])
  have hE : s.MethodEntryUp e T.vm m.cls index cn mk ci := State.methodEntryUp X.warmed hl hright
  obtain ⟨dk, cfile, nt, mname, mdesc, ck', _, _, hd, hcf, hcp, hnt, -, -, hck', -, hnopoly, -⟩ := hl.here
  cases hck.symm.trans hck'
  have alike := hE.warmed.alike
  obtain ⟨dk2, hdk2, hed2⟩ := alike.2.2 _ _ hd
  obtain ⟨k2, hk2, he2⟩ := alike.2.2 _ _ hko
  obtain ⟨ck2, hck2, hec2⟩ := alike.2.2 _ _ hck
  have hno : (ck.methods.any fun y => y.name == mname && !y.isStatic && signaturePolymorphic ck y) = false := by simp [hnopoly]
  have hno2 : (ck2.methods.any fun y => y.name == mname && !y.isStatic && signaturePolymorphic ck2 y) = false := by rw [hec2]; exact hno
  have hcp' : cfile.constantPool[index]? = some (if false then .interfaceMethodref ci nt else .methodref ci nt) := hcp
  have X1 := X.noted hE.warmed
  have hstep : ∀ target, (∀ acts, Steps p.tables e below (doInvoke e ((T.setVm (T.vm.calledUp m.cls ci index cn mk)).setTop { g with stack := rest }) acts mk argsL.toArray).1 target) → Steps p.tables e below (T.setTop g) target := by
    intro target hrest
    subst hg
    jvm_step X.here [hexec, hdg, su_warm (e := e) (u := T) (u0 := s) (f := g) X.here.top hpv X.warmed hE hd hcf hcp' hnt hck hno,
      invokestatic.wp_ready (e := e) (s := T.setVm (T.vm.calledUp g.method.cls ci index cn mk)) (k := k2) (meth := mm) (m := mk) (args := argsL) (rest := rest) (f := g)
        X.here.top ⟨ci, mname, mdesc, false, cn, ck2, memberRef_ask_via (e := e) hdk2 (by rw [hed2]; exact hcf) hcp' hnt, hE.classReady, hck2, hno2⟩ hE.ready hk2
        (by show (T.vm.calledUp g.method.cls ci index cn mk).method? mk = some mm; rw [alike.method?]; exact hmm)
        (by rw [he2]; show signaturePolymorphic ko mm = false; simp [signaturePolymorphic, hnm, hy.1, hy.2]) hst (by rw [he2]; exact hini) (hlen _ hsig) hstack]
    exact fun acts => hrest _
  obtain ⟨v, B, X', hpost, hsteps⟩ := hK m meth c ⟨T.setVm _, locs, cells, slots⟩ { g with stack := rest } (.invokestatic index) mk argsL.toArray X1 hg hsize hdg hW (X1.named hnamed) (hpre _ X1.warmed)
  exact ⟨v, _, B, X1.warmed, X', hpost, fun target h => hstep _ fun acts => by rw [doInvoke_state]; exact hsteps.trans h⟩
end SUPS
section SUP
variable {p : Program} {l : Launch} {e : Env} {R : Room} {s : State} {m : MethodId} {args : Array Value} {below : List Frame} {meth : Method} {c : Code} {H : Heap} {locs : List Loc} {cells slots : Nat} {Q : State → Prop}
variable {EV : Ev} {K : List Kd} {D : va_G} {dA : Nat → ClassId} {q : Nat → Nat} {A : Nat → Prop} {own : String} {w w' : Wt}
variable {cc : ByteArray} {pc nL : Nat} {ls : Array Slot} {rest st : List Value}
variable {index : Nat} {y : MethodName} {b : ByteArray} {n : Nat} {ret : Option FieldType} {na : Nat} {rm : Room} {As : List Value} {mc ms : Nat}
theorem q_SU {owner : String} {x : MethodName} {Qc : Array Value → State → Outcome → State → Prop} (link : lkSU own index owner x y b n ret na) (ev : evOk EV) (hx : p.tables.exec = Jvm.exec) (hb : c.code = cc) (hml : c.maxLocals = nL) (C : Cx EV K D dA q A s m args own) (S : Sta K D dA q A s.heap w H locs)
    (hM : Met l y (.code y b n ret :: wall) rm (va_Pc As (Pr EV K D dA q H.size w)) Qc mc ms (Aq K q H.size)) (hrc : rm.cells = mc) (hrs : rm.slots = ms) (hR : rm.frames + 1 ≤ R.frames ∧ 8 + (n + 11) + rm.locals ≤ R.locals) (hn : As.length = na) (hsz : ls.size = nL) (hst : st = As.reverse ++ rest) (hW : (rest.map fun v => v.category).sum ≤ 8) (hdg : decode cc pc = .ok (.invokestatic index, 3)) (hf : cells + mc ≤ R.cells ∧ slots + ms ≤ R.slots) :
    va_Run p l e R s m args below meth c H locs cells slots mc ms (F0 m pc ls st) rest (Qc As.toArray) (Aq K q H.size) := by
  obtain ⟨h1, h2, h3, h4, h5, h6, h7, rfl⟩ := link
  obtain ⟨g1, g2, g3, g4, g5, g6⟩ := r_cb (R := R) C (yl := ⟨owner, x.name, x.desc⟩) h4 h5 hrc hrs hR
  have hK : Back l R p e below s args ⟨owner, x.name, x.desc⟩ 3 8 (PreOf R mc ms (va_Pc As (Pr EV K D dA q H.size w))) (PostOf Qc mc ms (Aq K q H.size)) :=
    back_of (bytes := b) (maxL := n) (ret := ret) hM (Pr.blind ev) g1 g2 g3 g4 g5 g6 (fun a' U hW => word_at hW (Or.inl (by first | rfl | simp [Cond.onTables, Cond.keeps, Cond.steady])) (C.2.1 _ h4))
  intro T hT X
  obtain ⟨v, vm₁, ⟨U', l2, c2, s2⟩, hW₁, X', ⟨g', mk, t, L, e1, e2, hq, k1, hL, k2, k3⟩, st⟩ := su_call X hx (bytes := b) (maxL := n) (ret := ret) C.1 (C.2.1 _ h1) (C.2.1 _ h2) (C.2.1 _ h3) (C.2.1 _ h4) (C.2.1 _ h5) h6 hK (g := F0 m pc ls st) rfl (hsz.trans hml.symm) (argsL := As) (rest := rest) (fun sig h => hn.trans (r_len (y := ⟨owner, x.name, x.desc⟩) h7 sig h)) hst (lv_room hW) (by rw [hb]; exact hdg)
    (fun vm₁ hW₁ => ⟨hf.1, hf.2, Cx.pre ev C S (U := T.setVm vm₁) hT hW₁⟩)
  dsimp only [Pt.U, Pt.locs, Pt.cells, Pt.slots] at X' e1 e2 k1 k2 k3 st
  subst k1; subst k2; subst k3
  exact ⟨v, (T.setVm vm₁).calling g' mk As.toArray, t, U', L, hT, X', hL, e1, e2, hq, st⟩
theorem sk_0 (C : Cx EVc K D dA q A s m args own) : vk_R "Ballotscript$Text" 27 "tbamxrlhq" (sA s 0) s := C.str 0 (by decide) rfl
theorem sk_1 (C : Cx EVc K D dA q A s m args own) : vk_R "Ballotscript$Count" 39 "tba" (sA s 1) s := C.str 1 (by decide) rfl
theorem sk_2 (C : Cx EVc K D dA q A s m args own) : vk_R "Ballotscript$Count" 51 "lhq" (sA s 2) s := C.str 2 (by decide) rfl
end SUP

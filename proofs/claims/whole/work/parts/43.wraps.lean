/-! THE LAW'S HELPERS: a call of the class, its exceptions told as numbers; the answer goes into a long[] of one place -/
def EVl : Ev := fun A U H => EVc A U H ∧ ∀ i j : Nat, i < 3 → j < 3 → i ≠ j → va_Nc (exn i) (exn j) U
theorem EVl_ok : evOk EVl := by
  refine ⟨fun A s U H hW h => ⟨EVc_ok.1 A s U H hW h.1, fun i j hi hj hij => va_Nc.moved hW.alike (h.2 i j hi hj hij)⟩, fun A U H H1 h hq => ⟨EVc_ok.2.1 A U H H1 h.1 hq, h.2⟩, fun A B U H h hAB => ⟨EVc_ok.2.2 A B U H h.1 hAB, h.2⟩⟩
def tysL (dA : Nat → ClassId) : List (ClassId × FieldType) := tysW dA ++ [(dA 5, .long)]
theorem tysL_W {D : va_G} {dA : Nat → ClassId} {U : State} (h : va_K D vwCl (tysL dA) U) : va_K D vwCl (tysW dA) U := h.sub [0, 1, 2, 3, 4] rfl
abbrev ocell (dA : Nat → ClassId) (o : Int64) : va_E := .inl (dA 5, 1, .inr (.inl (fun _ => o)))
def Al (q : Nat → Nat) (qo sz : Nat) : Nat → Prop := fun a => Aq KC q sz a ∨ a = qo
/-- which number a helper answers: 0, or the place of the exception among those that it catches -/
def cdN : List Nat → Nat → Nat → Nat
  | [], _, n => n
  | x :: l, k, n => if k = x then n else cdN l k (n + 1)
def cdX (L : List Nat) (res : Nat ⊕ Int32) : Int32 := match res with
  | .inl k => nI (cdN L k 1)
  | .inr _ => 0
def outI (o : Int64) (res : Nat ⊕ Int32) : Int64 := match res with
  | .inl _ => o
  | .inr v => v.toInt64
def outZ (o : Int64) (res : Nat ⊕ Int32) : Int64 := match res with
  | .inl _ => o
  | .inr v => if v = 0 then 0 else 1
def Lp (D : va_G) (dA : Nat → ClassId) (q : Nat → Nat) (qo sz : Nat) (w : Wt) (o : Int64) : State → Prop := fun U => U.heap.size = sz ∧ va_P D vwCl (wld KC dA q w) U.heap ∧ va_P D vwCl [(qo, ocell dA o)] U.heap ∧ va_K D vwCl (tysL dA) U ∧ injK KC q ∧ (∀ i, i < KC.length → q i ≠ qo) ∧ EVl (Al q qo sz) U U.heap
theorem Lp.blind {D : va_G} {dA : Nat → ClassId} {q : Nat → Nat} {qo sz : Nat} {w : Wt} {o : Int64} {av : List Value} : FrameBlind (va_Pc av (Lp D dA q qo sz w o)) := by
  intro a U g mk h
  obtain ⟨h0, h1, h2, h3, h4, h5, h6, h7⟩ := h
  exact ⟨h0, h1, h2, h3, va_K.moved (u := U) (U := U.calling g mk a) (Vm.Alike.refl U.vm) h4, h5, h6, EVl_ok.1 _ U (U.calling g mk a) _ (State.WarmedH.refl U) h7⟩
abbrev RMw : Room := { frames := 60, cells := 4, slots := 24, locals := 1500 }
def Mw (l : Launch) (D : va_G) (dA : Nat → ClassId) (q : Nat → Nat) (qo : Nat) (y : MethodName) (b : ByteArray) (n : Nat) (hh : List (Nat × Nat × Nat × Nat)) (av : List Value) (w : Wt) (o : Int64) (r : Int32) (w' : Wt) (o' : Int64) : Prop :=
  ∀ sz : Nat, Met l y (.codeWith y b n (some .int) hh :: wall) RMw (va_Pc av (Lp D dA q qo sz w o)) (va_Qi (fun (r' : Int32) (_ : Unit) => r' = r) (fun _ t => va_P D vwCl (wld KC dA q w') t.heap ∧ va_P D vwCl [(qo, ocell dA o')] t.heap) (Al q qo sz)) 4 24 (Al q qo sz)
theorem met_with {l : Launch} {y : MethodName} {ws ws' : List Cond} {rm : Room} {Pc : Array Value → State → Prop} {Qc : Array Value → State → Outcome → State → Prop} {mc ms : Nat} {free : Addr → Prop} {cc : ByteArray} {maxL : Nat} {ret : Option FieldType} {hh : List (Nat × Nat × Nat × Nat)}
    (hy : plainName y.cls = true) (hw : ws = Cond.codeWith y cc maxL ret hh :: ws')
    (body : ∀ p e s m args below meth c s₁, BodyLoose p l y (headSpec ws rm) cc maxL ret e s m args below meth c s₁ → c.maxLocals = maxL → Pc args s →
      W p l e (headSpec ws rm).room s m args below meth c s.heap [] 0 0 (MQ below Qc args s mc ms free) (entryFrame m args maxL)) : Met l y ws rm Pc Qc mc ms free := by
  refine MetFree.of_bodyS (code := cc) (maxLocals := maxL) (ret := ret) hy ?_ ?_
  · intro args s m h hn
    obtain ⟨m9, meth, c, hn9, h1, h2, h3, h4, -, h5, h6, -⟩ := Cond.codeWith_spec (atoms_spec (ws := ws) h _ (by rw [hw]; exact List.mem_cons_self))
    cases hn.symm.trans hn9
    exact ⟨meth, c, h1, h2, h3, h4, h5, h6⟩
  · intro p e s m args below meth c s₁ B hml hP _
    have hh0 : s₁.heap = s.heap := by rw [B.state]; rfl
    obtain ⟨t, a1, o, b1, b2, b3⟩ := body p e s m args below meth c s₁ B hml hP s₁ hh0 (Stand.of_body B)
    exact ⟨t, o, a1, b1, b2, ⟨b3.1, b3.2⟩⟩
section WRAP
variable {p : Program} {l : Launch} {e : Env} {R : Room} {s : State} {m : MethodId} {args : Array Value} {below : List Frame} {meth : Method} {c : Code} {H : Heap} {locs : List Loc} {cells slots : Nat} {Q : State → Prop}
variable {D : va_G} {dA : Nat → ClassId} {q : Nat → Nat} {qo : Nat} {A : Nat → Prop} {own : String} {w w' : Wt} {o : Int64} {res : Nat ⊕ Int32}
variable {cc : ByteArray} {pc nL : Nat} {ls : Array Slot} {rest st : List Value}
theorem mk_w {y : MethodName} {b : ByteArray} {n : Nat} {hh : List (Nat × Nat × Nat × Nat)} {av : List Value} {r : Int32} {o' : Int64} (hy : plainName y.cls = true) (ho : y.cls = own) (hn : (lg_sl av).length ≤ n)
    (walk : ∀ (p : Program) (e : Env) (s : State) (m : MethodId) (args : Array Value) (below : List Frame) (meth : Method) (c : Code) (A : Nat → Prop) (Q : State → Prop) (ls : Array Slot), p.tables.exec = Jvm.exec → c.code = b → c.maxLocals = n → c.exceptionTable.toList = tableOf hh → Cx EVc KC D dA q A s m args own → va_K D vwCl (tysL dA) s → (∀ i j : Nat, i < 3 → j < 3 → i ≠ j → va_Nc (exn i) (exn j) s) → (∀ i, i < KC.length → q i ≠ qo) → A qo → Sta KC D dA q A s.heap w s.heap [] → va_P D vwCl [(qo, ocell dA o)] s.heap → lv_has ls n (lv_args 0 av) →
      (∀ (H : Heap) (locs : List Loc) (ls : Array Slot) (r' : Int32) (pc cl sl : Nat), cl ≤ 4 → sl ≤ 24 → Sta KC D dA q A s.heap w' H locs → va_P D vwCl [(qo, ocell dA o')] H → r' = r → decode b pc = .ok (.ireturn, 1) → W p l e RMw s m args below meth c H locs cl sl Q (F0 m pc ls [.int r'])) →
      W p l e RMw s m args below meth c s.heap [] 0 0 Q (F0 m 0 ls [])) : Mw l D dA q qo y b n hh av w o r w' o' := by
  intro sz
  refine met_with (cc := b) (maxL := n) (ret := some .int) (hh := hh) hy rfl ?_
  intro p e s m args below meth c s₁ B hml hv
  obtain ⟨rfl, rfl, h1, h2, h3, h4, h5, h6⟩ := hv
  have hts0 := atoms_spec (ws := Cond.codeWith y b n (some .int) hh :: wall) B.pre
  have hts : ∀ x ∈ wall, x.before av.toArray s = true := fun x hx => hts0 x (List.mem_cons_of_mem _ hx)
  have htab := vx_table (x := y) B (hts0 _ List.mem_cons_self)
  obtain ⟨ls, e1, hl⟩ := lv_start (m := m) hn
  rw [e1]
  refine walk p e s m _ below meth c (Al q qo s.heap.size) _ ls B.exec B.bytes hml htab ⟨ho ▸ findClass_of_methodNamed B.named, hts, tysL_W h3, h4, fun i hi => Or.inl (Or.inl ⟨i, hi, rfl⟩), fun a ha => Or.inl (Or.inr ha), h6.1⟩ h3 h6.2 h5 (Or.inr rfl) ⟨h1, va_S.rf⟩ h2 hl (fun H locs ls r' pc cl sl hc hs S hO hr d => ?_)
  subst hr
  refine W.widen hc hs ?_
  exact W.iret (v := r') B.exec B.bytes B.returns (fun t ht hW => ⟨⟨r', (), rfl, rfl, by rw [ht]; exact S.1, by rw [ht]; exact hO⟩, S.2.F ht⟩) S.2.2.2 d B.notSynchronized
theorem kl_out (hO : va_P D vwCl [(qo, ocell dA o)] H) (hq : ∀ i, i < KC.length → q i ≠ qo) {H1 : Heap} (hk : ∀ z : Nat, z < H.size → ¬ Aq KC q H.size z → H1[z]? = H[z]?) : va_P D vwCl [(qo, ocell dA o)] H1 := by
  intro k z hz
  have hz1 : k < 1 := (List.getElem?_eq_some_iff.mp hz).1
  have e0 : k = 0 := by omega
  subst e0
  obtain rfl := Option.some.inj hz
  have h := hO 0 _ rfl
  refine h.kept (hk qo h.lt (fun hA => ?_))
  rcases hA with ⟨i, hi, e⟩ | hA
  · exact hq i hi e.symm
  · exact absurd h.lt (Nat.not_lt.mpr hA)
theorem kl_i {a : Array Value} (C : Cx EVc KC D dA q A s m args own) (S : Sta KC D dA q A s.heap w H locs) (hO : va_P D vwCl [(qo, ocell dA o)] H) (hq : ∀ i, i < KC.length → q i ≠ qo) (hr : vx_Run p l e R s m args below meth c H locs cells slots 4 24 (F0 m pc ls st) rest (va_Qi (fun (r' : Int32) (_ : Unit) => res = .inr r') (fun _ t => va_P D vwCl (wld KC dA q w') t.heap) (Aq KC q H.size) a) (xQ KC D dA q res w' H.size) (Aq KC q H.size))
    (kx : ∀ k, res = .inl k → ∀ (H1 : Heap) (locs1 : List Loc) (q9 : Nat) (ce : Cell), Sta KC D dA q A s.heap w' H1 locs1 → va_P D vwCl [(qo, ocell dA o)] H1 → H1[q9]? = some ce → ce.vm = .none → s.vm.findClass (exn k) = some ce.cls → vx_W p l e R s m args below meth c H1 locs1 (cells + 4) (slots + 24) Q (F0 m pc ls rest) q9)
    (kk : ∀ r, res = .inr r → ∀ (H1 : Heap) (locs1 : List Loc), Sta KC D dA q A s.heap w' H1 locs1 → va_P D vwCl [(qo, ocell dA o)] H1 → W p l e R s m args below meth c H1 locs1 (cells + 4) (slots + 24) Q (F0 m (pc + 3) ls (.int r :: rest))) : W p l e R s m args below meth c H locs cells slots Q (F0 m pc ls st) := by
  refine vx_calli hr S.2 (fun x _ h => C.sub S x h) (C.sub S) (fun x _ h => C.sub S x h) (fun E ce q9 u t H1 locs1 ht _ _ hb _ hk hS h1 h2 h3 => ?_) (fun r u t H1 locs1 ht _ hp hb _ hk hS => ?_)
  · obtain ⟨⟨k, e1, rfl⟩, hP⟩ := hb
    exact kx k e1 H1 locs1 q9 ce (q_sta ht hP hS) (kl_out hO hq hk) h1 h2 h3
  · exact kk r hp H1 locs1 (q_sta ht hb hS) (kl_out hO hq hk)
theorem kl_v {a : Array Value} (C : Cx EVc KC D dA q A s m args own) (S : Sta KC D dA q A s.heap w H locs) (hO : va_P D vwCl [(qo, ocell dA o)] H) (hq : ∀ i, i < KC.length → q i ≠ qo) (hr : vx_Run p l e R s m args below meth c H locs cells slots 4 24 (F0 m pc ls st) rest (va_Qv (fun (_ : Unit) => ∃ r, res = .inr r) (fun _ t => va_P D vwCl (wld KC dA q w') t.heap) (Aq KC q H.size) a) (xQ KC D dA q res w' H.size) (Aq KC q H.size))
    (kx : ∀ k, res = .inl k → ∀ (H1 : Heap) (locs1 : List Loc) (q9 : Nat) (ce : Cell), Sta KC D dA q A s.heap w' H1 locs1 → va_P D vwCl [(qo, ocell dA o)] H1 → H1[q9]? = some ce → ce.vm = .none → s.vm.findClass (exn k) = some ce.cls → vx_W p l e R s m args below meth c H1 locs1 (cells + 4) (slots + 24) Q (F0 m pc ls rest) q9)
    (kk : ∀ r, res = .inr r → ∀ (H1 : Heap) (locs1 : List Loc), Sta KC D dA q A s.heap w' H1 locs1 → va_P D vwCl [(qo, ocell dA o)] H1 → W p l e R s m args below meth c H1 locs1 (cells + 4) (slots + 24) Q (F0 m (pc + 3) ls rest)) : W p l e R s m args below meth c H locs cells slots Q (F0 m pc ls st) := by
  refine vx_callv hr S.2 (fun x _ h => C.sub S x h) (C.sub S) (fun x _ h => C.sub S x h) (fun E ce q9 u t H1 locs1 ht _ _ hb _ hk hS h1 h2 h3 => ?_) (fun u t H1 locs1 ht _ hp hb _ hk hS => ?_)
  · obtain ⟨⟨k, e1, rfl⟩, hP⟩ := hb
    exact kx k e1 H1 locs1 q9 ce (q_sta ht hP hS) (kl_out hO hq hk) h1 h2 h3
  · obtain ⟨r, e1⟩ := hp
    exact kk r e1 H1 locs1 (q_sta ht hb hS) (kl_out hO hq hk)
/-- out[0] = v -/
theorem kl_last {v : Int64} (hx : p.tables.exec = Jvm.exec) (hb : c.code = cc) (hK : va_K D vwCl (tysL dA) s) (C : Cx EVc KC D dA q A s m args own) (hq : ∀ i, i < KC.length → q i ≠ qo) (hAo : A qo) (S : Sta KC D dA q A s.heap w H locs) (hO : va_P D vwCl [(qo, ocell dA o)] H) (hdg : decode cc pc = .ok (.lastore, 1))
    (kk : ∀ (H1 : Heap) (locs1 : List Loc), Sta KC D dA q A s.heap w H1 locs1 → va_P D vwCl [(qo, ocell dA v)] H1 → W p l e R s m args below meth c H1 locs1 cells slots Q (F0 m (pc + 1) ls rest)) : W p l e R s m args below meth c H locs cells slots Q (F0 m pc ls (.long v :: .int 0 :: .ref qo :: rest)) := by
  have hlen : (wld KC dA q w).length = KC.length := wld_len
  have hD1 := wld_D (dA := dA) (w := w) C.2.2.2.1 C.2.2.2.2.1
  have hD2 : va_D A [(qo, ocell dA o)] := by
    refine ⟨fun i j p r hi hj _ => ?_, fun k r hk => ?_⟩
    · have h1 : i < 1 := (List.getElem?_eq_some_iff.mp hi).1
      have h2 : j < 1 := (List.getElem?_eq_some_iff.mp hj).1
      omega
    · have h1 : k < 1 := (List.getElem?_eq_some_iff.mp hk).1
      have e0 : k = 0 := by omega
      subst e0
      obtain rfl := Option.some.inj hk
      exact hAo
  have hP := va_P.app S.1 hO
  have hD : va_D A (wld KC dA q w ++ [(qo, ocell dA o)]) := va_D.app hD1 hD2 (fun i j x y hx hy => by
    obtain ⟨h1, h2⟩ := wld_in hx
    have h3 : j < 1 := (List.getElem?_eq_some_iff.mp hy).1
    have e0 : j = 0 := by omega
    subst e0
    obtain rfl := Option.some.inj hy
    rw [h2]
    exact hq i h1)
  have hget : (wld KC dA q w ++ [(qo, ocell dA o)])[KC.length]? = some (qo, ocell dA o) := by
    rw [List.getElem?_append_right (by rw [hlen]; exact Nat.le_refl _), hlen, Nat.sub_self]
    rfl
  refine va_last hx hb hK hP hD S.2 KC.length 5 hget rfl (vp_in_iff.mpr (by decide)) hdg (fun H1 locs1 hP1 _ hS1 => ?_)
  rw [List.set_append_right _ _ (by rw [hlen]; exact Nat.le_refl _), hlen, Nat.sub_self] at hP1
  refine kk H1 locs1 ⟨fun k z hz => hP1 k z (by rw [List.getElem?_append_left (List.getElem?_eq_some_iff.mp hz).1]; exact hz), hS1⟩ (fun k z hz => ?_)
  have h3 : k < 1 := (List.getElem?_eq_some_iff.mp hz).1
  have e0 : k = 0 := by omega
  subst e0
  obtain rfl := Option.some.inj hz
  have h4 := hP1 KC.length (qo, .inl (dA 5, 1, .inr (.inl (vp_updL (fun _ => o) (0 : Int32).toNatClampNeg v)))) (by
    rw [List.getElem?_append_right (by rw [hlen]; exact Nat.le_refl _), hlen, Nat.sub_self]
    rfl)
  show H1[qo]? = some (vp_cell (dA 5) (1, .inr (.inl (fun _ => v))))
  have h5 : H1[qo]? = some (vp_cell (dA 5) (1, .inr (.inl (vp_updL (fun _ => o) (0 : Int32).toNatClampNeg v)))) := h4
  rw [h5]
  refine congrArg some ?_
  rw [vp_cell_l, vp_cell_l]
  refine n_arrV (fun j hj => ?_)
  have ej : j = 0 := by omega
  subst ej
  rfl
/-- an exception that is caught: the handler is the entry i of the table -/
theorem kl_catch {k q9 : Nat} {ce : Cell} {hh : List (Nat × Nat × Nat × Nat)} (i : Nat) (htab : c.exceptionTable.toList = tableOf hh) (hown : s.vm.findClass own = some m.cls) (hxw : ∀ w ∈ xw1, va_Nw w s) (hts : ∀ w ∈ wall, w.before args s = true) (hNC : ∀ i j : Nat, i < 3 → j < 3 → i ≠ j → va_Nc (exn i) (exn j) s)
    {h : Nat × Nat × Nat × Nat} (hi : hh[i]? = some h) (hk : k < 3) (hpre : ∀ z ∈ hh.take i, z.2.2.2 ≠ 0 ∧ ∃ j, j < 3 ∧ j ≠ k ∧ Cond.classLink own z.2.2.2 (exn j) ∈ wall) (hc : covers ⟨h.1, h.2.1, h.2.2.1, h.2.2.2⟩ pc = true) (h0 : h.2.2.2 ≠ 0) (hlink : Cond.classLink own h.2.2.2 (exn k) ∈ wall) (hca : Cond.castable (exn k) (exn k) ∈ xw1) (hcell : H[q9]? = some ce) (hv : ce.vm = .none) (hcl : s.vm.findClass (exn k) = some ce.cls)
    (kk : W p l e R s m args below meth c H locs cells slots Q (F0 m h.2.2.1 ls [.ref q9])) : vx_W p l e R s m args below meth c H locs cells slots Q (F0 m pc ls rest) q9 := by
  have hil : i < hh.length := (List.getElem?_eq_some_iff.mp hi).1
  have hsplit : c.exceptionTable.toList = tableOf (hh.take i) ++ (⟨h.1, h.2.1, h.2.2.1, h.2.2.2⟩ : ExceptionTableEntry) :: tableOf (hh.drop (i + 1)) := by
    rw [htab]
    have e1 : hh = hh.take i ++ h :: hh.drop (i + 1) := by
      have e2 : hh.drop i = h :: hh.drop (i + 1) := by
        rw [List.drop_eq_getElem_cons hil]
        rw [(List.getElem?_eq_some_iff.mp hi).2]
      rw [← e2, List.take_append_drop]
    conv => lhs; rw [e1]
    show List.map _ _ = _
    rw [List.map_append]
    rfl
  refine vx_catch (name := exn k) hown (tableOf (hh.take i)) _ (tableOf (hh.drop (i + 1))) hsplit (fun z hz => ?_) hc h0 (hts _ hlink) (va_Nw.use rfl (hxw _ hca)) hcell hv hcl kk
  obtain ⟨y, hy, rfl⟩ := List.mem_map.mp hz
  obtain ⟨h1, j, h2, h3, h4⟩ := hpre y hy
  exact Or.inr ⟨h1, exn j, hts _ h4, hNC k j hk h2 (fun e => h3 e.symm)⟩
end WRAP
set_option maxHeartbeats 4000000 in
set_option maxRecDepth 20000 in
theorem c_L_enter (l : Launch) (hfl : l.stackTraces = false) (D : va_G) (dA : Nat → ClassId) (q : Nat → Nat) (qo : Nat) (a1 : Int32) (a2 : Int32) (a3 : Int32) (a4 : Int32) (w w' : Wt) (o : Int64) (res : Nat ⊕ Int32) (h : f_Ballotscript_enter a1 a2 a3 a4 w = some (res, w')) (hres : ∀ k, res = .inl k → k = 0 ∨ k = 1 ∨ k = 2) : Mw l D dA q qo yL_enter cL_enter 7 [(0, 14, 17, 13), (0, 14, 21, 15), (0, 14, 25, 17)] [.ref (q 0), .int a1, .int a2, .int a3, .int a4, .ref qo] w o (cdX [0, 1, 2] res) w' (outI o res) :=
  mk_w (own := RL) (by decide) rfl (Nat.le_of_ble_eq_true rfl) (fun p e s m args below meth c A Q ls hx hb hml htab C hK hNC hq hAo S hO hl fin => by
    have hl : lv_has ls 7 [(0, .ref (q 0)), (1, .int a1), (2, .int a2), (3, .int a3), (4, .int a4), (5, .ref qo)] := hl
    have hS0 := S
    refine lv_aload hx hb dL_enter_0 (lv_at hl 5 rfl) ?_
    refine lv_iconst (v := 0) hx hb dL_enter_2 (by decide) ?_
    refine lv_aload_n hx hb dL_enter_3 rfl (lv_at hl 0 rfl) ?_
    refine lv_iload_n hx hb dL_enter_4 rfl (lv_at hl 1 rfl) ?_
    refine lv_iload_n hx hb dL_enter_5 rfl (lv_at hl 2 rfl) ?_
    refine lv_iload_n hx hb dL_enter_6 rfl (lv_at hl 3 rfl) ?_
    refine lv_iload hx hb dL_enter_7 (lv_at hl 4 rfl) ?_
    refine kl_i C S hO hq (x_V (rest := [.int 0, .ref qo]) (As := [.int a1, .int a2, .int a3, .int a4]) lk_RL_7 EVc_ok hx hb hml C S KC_0 rfl (c_f_Ballotscript_enter l hfl D dA q a1 a2 a3 a4 w w' res h _) rfl rfl ⟨(Nat.le_of_ble_eq_true rfl), (Nat.le_of_ble_eq_true rfl)⟩ rfl hl.1 rfl (Nat.le_of_ble_eq_true rfl) dL_enter_9 ⟨(Nat.le_of_ble_eq_true rfl), (Nat.le_of_ble_eq_true rfl)⟩) (fun k er H locs q9 ce S hO h1 h2 h3 => ?_) (fun r er H locs S hO => ?_)
    · rcases hres k er with rfl | rfl | rfl
      · refine kl_catch (k := 0) 0 htab C.1 C.2.2.2.2.2.2.1 C.2.1 hNC (h := (0, 14, 17, 13)) rfl (by decide) (by intro z hz; cases hz) (by decide) (by decide) cle_13 cae_0 h1 h2 h3 ?_
        refine lv_astore (lv' := [(6, .ref q9), (0, .ref (q 0)), (1, .int a1), (2, .int a2), (3, .int a3), (4, .int a4), (5, .ref qo)]) hx hb dL_enter_17 hl (Nat.le_of_ble_eq_true rfl) rfl (fun ls hl => ?_)
        refine lv_iconst (v := 1) hx hb dL_enter_19 (by decide) ?_
        exact fin H locs ls 1 _ _ _ (Nat.le_of_ble_eq_true rfl) (Nat.le_of_ble_eq_true rfl) S (by rw [er]; exact hO) (by rw [er]; rfl) dL_enter_20
      · refine kl_catch (k := 1) 1 htab C.1 C.2.2.2.2.2.2.1 C.2.1 hNC (h := (0, 14, 21, 15)) rfl (by decide) (by
        intro z hz
        simp only [List.take, List.mem_cons, List.not_mem_nil, or_false] at hz
        subst hz
        exact ⟨by decide, 0, by decide, by decide, cle_13⟩) (by decide) (by decide) cle_15 cae_1 h1 h2 h3 ?_
        refine lv_astore (lv' := [(6, .ref q9), (0, .ref (q 0)), (1, .int a1), (2, .int a2), (3, .int a3), (4, .int a4), (5, .ref qo)]) hx hb dL_enter_21 hl (Nat.le_of_ble_eq_true rfl) rfl (fun ls hl => ?_)
        refine lv_iconst (v := 2) hx hb dL_enter_23 (by decide) ?_
        exact fin H locs ls 2 _ _ _ (Nat.le_of_ble_eq_true rfl) (Nat.le_of_ble_eq_true rfl) S (by rw [er]; exact hO) (by rw [er]; rfl) dL_enter_24
      · refine kl_catch (k := 2) 2 htab C.1 C.2.2.2.2.2.2.1 C.2.1 hNC (h := (0, 14, 25, 17)) rfl (by decide) (by
        intro z hz
        simp only [List.take, List.mem_cons, List.not_mem_nil, or_false] at hz
        rcases hz with rfl | rfl
        · exact ⟨by decide, 0, by decide, by decide, cle_13⟩
        · exact ⟨by decide, 1, by decide, by decide, cle_15⟩) (by decide) (by decide) cle_17 cae_2 h1 h2 h3 ?_
        refine lv_astore (lv' := [(6, .ref q9), (0, .ref (q 0)), (1, .int a1), (2, .int a2), (3, .int a3), (4, .int a4), (5, .ref qo)]) hx hb dL_enter_25 hl (Nat.le_of_ble_eq_true rfl) rfl (fun ls hl => ?_)
        refine lv_iconst (v := 3) hx hb dL_enter_27 (by decide) ?_
        exact fin H locs ls 3 _ _ _ (Nat.le_of_ble_eq_true rfl) (Nat.le_of_ble_eq_true rfl) S (by rw [er]; exact hO) (by rw [er]; rfl) dL_enter_28
    · subst er
      refine lv_i2l hx hb dL_enter_12 rfl ?_
      refine kl_last hx hb hK C hq hAo S hO dL_enter_13 (fun H locs S hO => ?_)
      refine lv_goto (tgt := 29) hx hb dL_enter_14 rfl ?_
      refine lv_iconst (v := 0) hx hb dL_enter_29 (by decide) ?_
      exact fin H locs ls 0 _ _ _ (Nat.le_of_ble_eq_true rfl) (Nat.le_of_ble_eq_true rfl) S hO rfl dL_enter_30)
set_option maxHeartbeats 4000000 in
set_option maxRecDepth 20000 in
theorem c_L_strike (l : Launch) (hfl : l.stackTraces = false) (D : va_G) (dA : Nat → ClassId) (q : Nat → Nat) (qo : Nat) (a1 : Int32) (w w' : Wt) (o : Int64) (res : Nat ⊕ Int32) (h : f_Ballotscript_strike a1 w = some (res, w')) (hres : ∀ k, res = .inl k → k = 0 ∨ k = 2) : Mw l D dA q qo yL_strike cL_strike 4 [(0, 9, 12, 13), (0, 9, 15, 17)] [.ref (q 0), .int a1, .ref qo] w o (cdX [0, 2] res) w' (outI o res) :=
  mk_w (own := RL) (by decide) rfl (Nat.le_of_ble_eq_true rfl) (fun p e s m args below meth c A Q ls hx hb hml htab C hK hNC hq hAo S hO hl fin => by
    have hl : lv_has ls 4 [(0, .ref (q 0)), (1, .int a1), (2, .ref qo)] := hl
    have hS0 := S
    refine lv_aload_n hx hb dL_strike_0 rfl (lv_at hl 2 rfl) ?_
    refine lv_iconst (v := 0) hx hb dL_strike_1 (by decide) ?_
    refine lv_aload_n hx hb dL_strike_2 rfl (lv_at hl 0 rfl) ?_
    refine lv_iload_n hx hb dL_strike_3 rfl (lv_at hl 1 rfl) ?_
    refine kl_i C S hO hq (x_V (rest := [.int 0, .ref qo]) (As := [.int a1]) lk_RL_19 EVc_ok hx hb hml C S KC_0 rfl (c_f_Ballotscript_strike l hfl D dA q a1 w w' res h _) rfl rfl ⟨(Nat.le_of_ble_eq_true rfl), (Nat.le_of_ble_eq_true rfl)⟩ rfl hl.1 rfl (Nat.le_of_ble_eq_true rfl) dL_strike_4 ⟨(Nat.le_of_ble_eq_true rfl), (Nat.le_of_ble_eq_true rfl)⟩) (fun k er H locs q9 ce S hO h1 h2 h3 => ?_) (fun r er H locs S hO => ?_)
    · rcases hres k er with rfl | rfl
      · refine kl_catch (k := 0) 0 htab C.1 C.2.2.2.2.2.2.1 C.2.1 hNC (h := (0, 9, 12, 13)) rfl (by decide) (by intro z hz; cases hz) (by decide) (by decide) cle_13 cae_0 h1 h2 h3 ?_
        refine lv_astore_n (lv' := [(3, .ref q9), (0, .ref (q 0)), (1, .int a1), (2, .ref qo)]) hx hb dL_strike_12 rfl hl (Nat.le_of_ble_eq_true rfl) rfl (fun ls hl => ?_)
        refine lv_iconst (v := 1) hx hb dL_strike_13 (by decide) ?_
        exact fin H locs ls 1 _ _ _ (Nat.le_of_ble_eq_true rfl) (Nat.le_of_ble_eq_true rfl) S (by rw [er]; exact hO) (by rw [er]; rfl) dL_strike_14
      · refine kl_catch (k := 2) 1 htab C.1 C.2.2.2.2.2.2.1 C.2.1 hNC (h := (0, 9, 15, 17)) rfl (by decide) (by
        intro z hz
        simp only [List.take, List.mem_cons, List.not_mem_nil, or_false] at hz
        subst hz
        exact ⟨by decide, 0, by decide, by decide, cle_13⟩) (by decide) (by decide) cle_17 cae_2 h1 h2 h3 ?_
        refine lv_astore_n (lv' := [(3, .ref q9), (0, .ref (q 0)), (1, .int a1), (2, .ref qo)]) hx hb dL_strike_15 rfl hl (Nat.le_of_ble_eq_true rfl) rfl (fun ls hl => ?_)
        refine lv_iconst (v := 2) hx hb dL_strike_16 (by decide) ?_
        exact fin H locs ls 2 _ _ _ (Nat.le_of_ble_eq_true rfl) (Nat.le_of_ble_eq_true rfl) S (by rw [er]; exact hO) (by rw [er]; rfl) dL_strike_17
    · subst er
      refine lv_i2l hx hb dL_strike_7 rfl ?_
      refine kl_last hx hb hK C hq hAo S hO dL_strike_8 (fun H locs S hO => ?_)
      refine lv_goto (tgt := 18) hx hb dL_strike_9 rfl ?_
      refine lv_iconst (v := 0) hx hb dL_strike_18 (by decide) ?_
      exact fin H locs ls 0 _ _ _ (Nat.le_of_ble_eq_true rfl) (Nat.le_of_ble_eq_true rfl) S hO rfl dL_strike_19)
set_option maxHeartbeats 4000000 in
set_option maxRecDepth 20000 in
theorem c_L_isAllowed (l : Launch) (hfl : l.stackTraces = false) (D : va_G) (dA : Nat → ClassId) (q : Nat → Nat) (qo : Nat) (a1 : Int32) (a2 : Int32) (a3 : Int32) (w : Wt) (o : Int64) (res : Nat ⊕ Int32) (h : f_Ballotscript_isAllowed a1 a2 a3 w = some res) (hres : ∀ k, res = .inl k → k = 0 ∨ k = 1) : Mw l D dA q qo yL_isAllowed cL_isAllowed 6 [(0, 19, 22, 13), (0, 19, 26, 15)] [.ref (q 0), .int a1, .int a2, .int a3, .ref qo] w o (cdX [0, 1] res) w (outZ o res) :=
  mk_w (own := RL) (by decide) rfl (Nat.le_of_ble_eq_true rfl) (fun p e s m args below meth c A Q ls hx hb hml htab C hK hNC hq hAo S hO hl fin => by
    have hl : lv_has ls 6 [(0, .ref (q 0)), (1, .int a1), (2, .int a2), (3, .int a3), (4, .ref qo)] := hl
    have hS0 := S
    refine lv_aload hx hb dL_isAllowed_0 (lv_at hl 4 rfl) ?_
    refine lv_iconst (v := 0) hx hb dL_isAllowed_2 (by decide) ?_
    refine lv_aload_n hx hb dL_isAllowed_3 rfl (lv_at hl 0 rfl) ?_
    refine lv_iload_n hx hb dL_isAllowed_4 rfl (lv_at hl 1 rfl) ?_
    refine lv_iload_n hx hb dL_isAllowed_5 rfl (lv_at hl 2 rfl) ?_
    refine lv_iload_n hx hb dL_isAllowed_6 rfl (lv_at hl 3 rfl) ?_
    refine kl_i C S hO hq (x_V (rest := [.int 0, .ref qo]) (As := [.int a1, .int a2, .int a3]) lk_RL_23 EVc_ok hx hb hml C S KC_0 rfl (c_f_Ballotscript_isAllowed l hfl D dA q a1 a2 a3 w res h _) rfl rfl ⟨(Nat.le_of_ble_eq_true rfl), (Nat.le_of_ble_eq_true rfl)⟩ rfl hl.1 rfl (Nat.le_of_ble_eq_true rfl) dL_isAllowed_7 ⟨(Nat.le_of_ble_eq_true rfl), (Nat.le_of_ble_eq_true rfl)⟩) (fun k er H locs q9 ce S hO h1 h2 h3 => ?_) (fun r er H locs S hO => ?_)
    · rcases hres k er with rfl | rfl
      · refine kl_catch (k := 0) 0 htab C.1 C.2.2.2.2.2.2.1 C.2.1 hNC (h := (0, 19, 22, 13)) rfl (by decide) (by intro z hz; cases hz) (by decide) (by decide) cle_13 cae_0 h1 h2 h3 ?_
        refine lv_astore (lv' := [(5, .ref q9), (0, .ref (q 0)), (1, .int a1), (2, .int a2), (3, .int a3), (4, .ref qo)]) hx hb dL_isAllowed_22 hl (Nat.le_of_ble_eq_true rfl) rfl (fun ls hl => ?_)
        refine lv_iconst (v := 1) hx hb dL_isAllowed_24 (by decide) ?_
        exact fin H locs ls 1 _ _ _ (Nat.le_of_ble_eq_true rfl) (Nat.le_of_ble_eq_true rfl) S (by rw [er]; exact hO) (by rw [er]; rfl) dL_isAllowed_25
      · refine kl_catch (k := 1) 1 htab C.1 C.2.2.2.2.2.2.1 C.2.1 hNC (h := (0, 19, 26, 15)) rfl (by decide) (by
        intro z hz
        simp only [List.take, List.mem_cons, List.not_mem_nil, or_false] at hz
        subst hz
        exact ⟨by decide, 0, by decide, by decide, cle_13⟩) (by decide) (by decide) cle_15 cae_1 h1 h2 h3 ?_
        refine lv_astore (lv' := [(5, .ref q9), (0, .ref (q 0)), (1, .int a1), (2, .int a2), (3, .int a3), (4, .ref qo)]) hx hb dL_isAllowed_26 hl (Nat.le_of_ble_eq_true rfl) rfl (fun ls hl => ?_)
        refine lv_iconst (v := 2) hx hb dL_isAllowed_28 (by decide) ?_
        exact fin H locs ls 2 _ _ _ (Nat.le_of_ble_eq_true rfl) (Nat.le_of_ble_eq_true rfl) S (by rw [er]; exact hO) (by rw [er]; rfl) dL_isAllowed_29
    · subst er
      refine lv_if_eq (tgt := 17) hx hb dL_isAllowed_10 rfl (fun c1 => ?_) (fun c1 => ?_)
      · refine lv_lconst (v := 0) hx hb dL_isAllowed_17 (by decide) ?_
        refine kl_last hx hb hK C hq hAo S hO dL_isAllowed_18 (fun H locs S hO => ?_)
        refine lv_goto (tgt := 30) hx hb dL_isAllowed_19 rfl ?_
        refine lv_iconst (v := 0) hx hb dL_isAllowed_30 (by decide) ?_
        exact fin H locs ls 0 _ _ _ (Nat.le_of_ble_eq_true rfl) (Nat.le_of_ble_eq_true rfl) S (by rw [show outZ o (.inr r) = 0 from if_pos c1]; exact hO) rfl dL_isAllowed_31
      · refine lv_lconst (v := 1) hx hb dL_isAllowed_13 (by decide) ?_
        refine lv_goto (tgt := 18) hx hb dL_isAllowed_14 rfl ?_
        refine kl_last hx hb hK C hq hAo S hO dL_isAllowed_18 (fun H locs S hO => ?_)
        refine lv_goto (tgt := 30) hx hb dL_isAllowed_19 rfl ?_
        refine lv_iconst (v := 0) hx hb dL_isAllowed_30 (by decide) ?_
        exact fin H locs ls 0 _ _ _ (Nat.le_of_ble_eq_true rfl) (Nat.le_of_ble_eq_true rfl) S (by rw [show outZ o (.inr r) = 1 from if_neg c1]; exact hO) rfl dL_isAllowed_31)
set_option maxHeartbeats 4000000 in
set_option maxRecDepth 20000 in
theorem c_L_pass (l : Launch) (hfl : l.stackTraces = false) (D : va_G) (dA : Nat → ClassId) (q : Nat → Nat) (qo : Nat) (a1 : Int32) (w w' : Wt) (o : Int64) (res : Nat ⊕ Int32) (h : f_Ballotscript_pass a1 w = some (res, w')) (hres : ∀ k, res = .inl k → k = 1 ∨ k = 2) : Mw l D dA q qo yL_pass cL_pass 4 [(0, 9, 12, 15), (0, 9, 15, 17)] [.ref (q 0), .int a1, .ref qo] w o (cdX [1, 2] res) w' (outI o res) :=
  mk_w (own := RL) (by decide) rfl (Nat.le_of_ble_eq_true rfl) (fun p e s m args below meth c A Q ls hx hb hml htab C hK hNC hq hAo S hO hl fin => by
    have hl : lv_has ls 4 [(0, .ref (q 0)), (1, .int a1), (2, .ref qo)] := hl
    have hS0 := S
    refine lv_aload_n hx hb dL_pass_0 rfl (lv_at hl 2 rfl) ?_
    refine lv_iconst (v := 0) hx hb dL_pass_1 (by decide) ?_
    refine lv_aload_n hx hb dL_pass_2 rfl (lv_at hl 0 rfl) ?_
    refine lv_iload_n hx hb dL_pass_3 rfl (lv_at hl 1 rfl) ?_
    refine kl_i C S hO hq (x_V (rest := [.int 0, .ref qo]) (As := [.int a1]) lk_RL_27 EVc_ok hx hb hml C S KC_0 rfl (c_f_Ballotscript_pass l hfl D dA q a1 w w' res h _) rfl rfl ⟨(Nat.le_of_ble_eq_true rfl), (Nat.le_of_ble_eq_true rfl)⟩ rfl hl.1 rfl (Nat.le_of_ble_eq_true rfl) dL_pass_4 ⟨(Nat.le_of_ble_eq_true rfl), (Nat.le_of_ble_eq_true rfl)⟩) (fun k er H locs q9 ce S hO h1 h2 h3 => ?_) (fun r er H locs S hO => ?_)
    · rcases hres k er with rfl | rfl
      · refine kl_catch (k := 1) 0 htab C.1 C.2.2.2.2.2.2.1 C.2.1 hNC (h := (0, 9, 12, 15)) rfl (by decide) (by intro z hz; cases hz) (by decide) (by decide) cle_15 cae_1 h1 h2 h3 ?_
        refine lv_astore_n (lv' := [(3, .ref q9), (0, .ref (q 0)), (1, .int a1), (2, .ref qo)]) hx hb dL_pass_12 rfl hl (Nat.le_of_ble_eq_true rfl) rfl (fun ls hl => ?_)
        refine lv_iconst (v := 1) hx hb dL_pass_13 (by decide) ?_
        exact fin H locs ls 1 _ _ _ (Nat.le_of_ble_eq_true rfl) (Nat.le_of_ble_eq_true rfl) S (by rw [er]; exact hO) (by rw [er]; rfl) dL_pass_14
      · refine kl_catch (k := 2) 1 htab C.1 C.2.2.2.2.2.2.1 C.2.1 hNC (h := (0, 9, 15, 17)) rfl (by decide) (by
        intro z hz
        simp only [List.take, List.mem_cons, List.not_mem_nil, or_false] at hz
        subst hz
        exact ⟨by decide, 1, by decide, by decide, cle_15⟩) (by decide) (by decide) cle_17 cae_2 h1 h2 h3 ?_
        refine lv_astore_n (lv' := [(3, .ref q9), (0, .ref (q 0)), (1, .int a1), (2, .ref qo)]) hx hb dL_pass_15 rfl hl (Nat.le_of_ble_eq_true rfl) rfl (fun ls hl => ?_)
        refine lv_iconst (v := 2) hx hb dL_pass_16 (by decide) ?_
        exact fin H locs ls 2 _ _ _ (Nat.le_of_ble_eq_true rfl) (Nat.le_of_ble_eq_true rfl) S (by rw [er]; exact hO) (by rw [er]; rfl) dL_pass_17
    · subst er
      refine lv_i2l hx hb dL_pass_7 rfl ?_
      refine kl_last hx hb hK C hq hAo S hO dL_pass_8 (fun H locs S hO => ?_)
      refine lv_goto (tgt := 18) hx hb dL_pass_9 rfl ?_
      refine lv_iconst (v := 0) hx hb dL_pass_18 (by decide) ?_
      exact fin H locs ls 0 _ _ _ (Nat.le_of_ble_eq_true rfl) (Nat.le_of_ble_eq_true rfl) S hO rfl dL_pass_19)
set_option maxHeartbeats 4000000 in
set_option maxRecDepth 20000 in
theorem c_L_type (l : Launch) (hfl : l.stackTraces = false) (D : va_G) (dA : Nat → ClassId) (q : Nat → Nat) (qo : Nat) (a1 : Int32) (w w' : Wt) (o : Int64) (res : Nat ⊕ Int32) (h : f_Ballotscript_type a1 w = some (res, w')) (hres : ∀ k, res = .inl k → k = 1 ∨ k = 2) : Mw l D dA q qo yL_type cL_type 4 [(0, 9, 12, 15), (0, 9, 15, 17)] [.ref (q 0), .int a1, .ref qo] w o (cdX [1, 2] res) w' (outI o res) :=
  mk_w (own := RL) (by decide) rfl (Nat.le_of_ble_eq_true rfl) (fun p e s m args below meth c A Q ls hx hb hml htab C hK hNC hq hAo S hO hl fin => by
    have hl : lv_has ls 4 [(0, .ref (q 0)), (1, .int a1), (2, .ref qo)] := hl
    have hS0 := S
    refine lv_aload_n hx hb dL_type_0 rfl (lv_at hl 2 rfl) ?_
    refine lv_iconst (v := 0) hx hb dL_type_1 (by decide) ?_
    refine lv_aload_n hx hb dL_type_2 rfl (lv_at hl 0 rfl) ?_
    refine lv_iload_n hx hb dL_type_3 rfl (lv_at hl 1 rfl) ?_
    refine kl_i C S hO hq (x_V (rest := [.int 0, .ref qo]) (As := [.int a1]) lk_RL_30 EVc_ok hx hb hml C S KC_0 rfl (c_f_Ballotscript_type l hfl D dA q a1 w w' res h _) rfl rfl ⟨(Nat.le_of_ble_eq_true rfl), (Nat.le_of_ble_eq_true rfl)⟩ rfl hl.1 rfl (Nat.le_of_ble_eq_true rfl) dL_type_4 ⟨(Nat.le_of_ble_eq_true rfl), (Nat.le_of_ble_eq_true rfl)⟩) (fun k er H locs q9 ce S hO h1 h2 h3 => ?_) (fun r er H locs S hO => ?_)
    · rcases hres k er with rfl | rfl
      · refine kl_catch (k := 1) 0 htab C.1 C.2.2.2.2.2.2.1 C.2.1 hNC (h := (0, 9, 12, 15)) rfl (by decide) (by intro z hz; cases hz) (by decide) (by decide) cle_15 cae_1 h1 h2 h3 ?_
        refine lv_astore_n (lv' := [(3, .ref q9), (0, .ref (q 0)), (1, .int a1), (2, .ref qo)]) hx hb dL_type_12 rfl hl (Nat.le_of_ble_eq_true rfl) rfl (fun ls hl => ?_)
        refine lv_iconst (v := 1) hx hb dL_type_13 (by decide) ?_
        exact fin H locs ls 1 _ _ _ (Nat.le_of_ble_eq_true rfl) (Nat.le_of_ble_eq_true rfl) S (by rw [er]; exact hO) (by rw [er]; rfl) dL_type_14
      · refine kl_catch (k := 2) 1 htab C.1 C.2.2.2.2.2.2.1 C.2.1 hNC (h := (0, 9, 15, 17)) rfl (by decide) (by
        intro z hz
        simp only [List.take, List.mem_cons, List.not_mem_nil, or_false] at hz
        subst hz
        exact ⟨by decide, 1, by decide, by decide, cle_15⟩) (by decide) (by decide) cle_17 cae_2 h1 h2 h3 ?_
        refine lv_astore_n (lv' := [(3, .ref q9), (0, .ref (q 0)), (1, .int a1), (2, .ref qo)]) hx hb dL_type_15 rfl hl (Nat.le_of_ble_eq_true rfl) rfl (fun ls hl => ?_)
        refine lv_iconst (v := 2) hx hb dL_type_16 (by decide) ?_
        exact fin H locs ls 2 _ _ _ (Nat.le_of_ble_eq_true rfl) (Nat.le_of_ble_eq_true rfl) S (by rw [er]; exact hO) (by rw [er]; rfl) dL_type_17
    · subst er
      refine lv_i2l hx hb dL_type_7 rfl ?_
      refine kl_last hx hb hK C hq hAo S hO dL_type_8 (fun H locs S hO => ?_)
      refine lv_goto (tgt := 18) hx hb dL_type_9 rfl ?_
      refine lv_iconst (v := 0) hx hb dL_type_18 (by decide) ?_
      exact fin H locs ls 0 _ _ _ (Nat.le_of_ble_eq_true rfl) (Nat.le_of_ble_eq_true rfl) S hO rfl dL_type_19)
set_option maxHeartbeats 4000000 in
set_option maxRecDepth 20000 in
theorem c_L_rule (l : Launch) (hfl : l.stackTraces = false) (D : va_G) (dA : Nat → ClassId) (q : Nat → Nat) (qo : Nat) (w w' : Wt) (o : Int64) (res : Nat ⊕ Int32) (h : f_Ballotscript_rule w = some (res, w')) (hres : ∀ k, res = .inl k → k = 1 ∨ k = 2) : Mw l D dA q qo yL_rule cL_rule 3 [(0, 8, 11, 15), (0, 8, 14, 17)] [.ref (q 0), .ref qo] w o (cdX [1, 2] res) w' (outI o res) :=
  mk_w (own := RL) (by decide) rfl (Nat.le_of_ble_eq_true rfl) (fun p e s m args below meth c A Q ls hx hb hml htab C hK hNC hq hAo S hO hl fin => by
    have hl : lv_has ls 3 [(0, .ref (q 0)), (1, .ref qo)] := hl
    have hS0 := S
    refine lv_aload_n hx hb dL_rule_0 rfl (lv_at hl 1 rfl) ?_
    refine lv_iconst (v := 0) hx hb dL_rule_1 (by decide) ?_
    refine lv_aload_n hx hb dL_rule_2 rfl (lv_at hl 0 rfl) ?_
    refine kl_i C S hO hq (x_V (rest := [.int 0, .ref qo]) (As := []) lk_RL_34 EVc_ok hx hb hml C S KC_0 rfl (c_f_Ballotscript_rule l hfl D dA q w w' res h _) rfl rfl ⟨(Nat.le_of_ble_eq_true rfl), (Nat.le_of_ble_eq_true rfl)⟩ rfl hl.1 rfl (Nat.le_of_ble_eq_true rfl) dL_rule_3 ⟨(Nat.le_of_ble_eq_true rfl), (Nat.le_of_ble_eq_true rfl)⟩) (fun k er H locs q9 ce S hO h1 h2 h3 => ?_) (fun r er H locs S hO => ?_)
    · rcases hres k er with rfl | rfl
      · refine kl_catch (k := 1) 0 htab C.1 C.2.2.2.2.2.2.1 C.2.1 hNC (h := (0, 8, 11, 15)) rfl (by decide) (by intro z hz; cases hz) (by decide) (by decide) cle_15 cae_1 h1 h2 h3 ?_
        refine lv_astore_n (lv' := [(2, .ref q9), (0, .ref (q 0)), (1, .ref qo)]) hx hb dL_rule_11 rfl hl (Nat.le_of_ble_eq_true rfl) rfl (fun ls hl => ?_)
        refine lv_iconst (v := 1) hx hb dL_rule_12 (by decide) ?_
        exact fin H locs ls 1 _ _ _ (Nat.le_of_ble_eq_true rfl) (Nat.le_of_ble_eq_true rfl) S (by rw [er]; exact hO) (by rw [er]; rfl) dL_rule_13
      · refine kl_catch (k := 2) 1 htab C.1 C.2.2.2.2.2.2.1 C.2.1 hNC (h := (0, 8, 14, 17)) rfl (by decide) (by
        intro z hz
        simp only [List.take, List.mem_cons, List.not_mem_nil, or_false] at hz
        subst hz
        exact ⟨by decide, 1, by decide, by decide, cle_15⟩) (by decide) (by decide) cle_17 cae_2 h1 h2 h3 ?_
        refine lv_astore_n (lv' := [(2, .ref q9), (0, .ref (q 0)), (1, .ref qo)]) hx hb dL_rule_14 rfl hl (Nat.le_of_ble_eq_true rfl) rfl (fun ls hl => ?_)
        refine lv_iconst (v := 2) hx hb dL_rule_15 (by decide) ?_
        exact fin H locs ls 2 _ _ _ (Nat.le_of_ble_eq_true rfl) (Nat.le_of_ble_eq_true rfl) S (by rw [er]; exact hO) (by rw [er]; rfl) dL_rule_16
    · subst er
      refine lv_i2l hx hb dL_rule_6 rfl ?_
      refine kl_last hx hb hK C hq hAo S hO dL_rule_7 (fun H locs S hO => ?_)
      refine lv_goto (tgt := 17) hx hb dL_rule_8 rfl ?_
      refine lv_iconst (v := 0) hx hb dL_rule_17 (by decide) ?_
      exact fin H locs ls 0 _ _ _ (Nat.le_of_ble_eq_true rfl) (Nat.le_of_ble_eq_true rfl) S hO rfl dL_rule_18)
set_option maxHeartbeats 4000000 in
set_option maxRecDepth 20000 in
theorem c_L_mend (l : Launch) (hfl : l.stackTraces = false) (D : va_G) (dA : Nat → ClassId) (q : Nat → Nat) (qo : Nat) (a1 : Int32) (w w' : Wt) (o : Int64) (res : Nat ⊕ Int32) (h : f_Ballotscript_mend a1 w = some (res, w')) (hres : ∀ k, res = .inl k → k = 0 ∨ k = 1) : Mw l D dA q qo yL_mend cL_mend 4 [(0, 9, 12, 13), (0, 9, 15, 15)] [.ref (q 0), .int a1, .ref qo] w o (cdX [0, 1] res) w' (outI o res) :=
  mk_w (own := RL) (by decide) rfl (Nat.le_of_ble_eq_true rfl) (fun p e s m args below meth c A Q ls hx hb hml htab C hK hNC hq hAo S hO hl fin => by
    have hl : lv_has ls 4 [(0, .ref (q 0)), (1, .int a1), (2, .ref qo)] := hl
    have hS0 := S
    refine lv_aload_n hx hb dL_mend_0 rfl (lv_at hl 2 rfl) ?_
    refine lv_iconst (v := 0) hx hb dL_mend_1 (by decide) ?_
    refine lv_aload_n hx hb dL_mend_2 rfl (lv_at hl 0 rfl) ?_
    refine lv_iload_n hx hb dL_mend_3 rfl (lv_at hl 1 rfl) ?_
    refine kl_i C S hO hq (x_V (rest := [.int 0, .ref qo]) (As := [.int a1]) lk_RL_38 EVc_ok hx hb hml C S KC_0 rfl (c_f_Ballotscript_mend l hfl D dA q a1 w w' res h _) rfl rfl ⟨(Nat.le_of_ble_eq_true rfl), (Nat.le_of_ble_eq_true rfl)⟩ rfl hl.1 rfl (Nat.le_of_ble_eq_true rfl) dL_mend_4 ⟨(Nat.le_of_ble_eq_true rfl), (Nat.le_of_ble_eq_true rfl)⟩) (fun k er H locs q9 ce S hO h1 h2 h3 => ?_) (fun r er H locs S hO => ?_)
    · rcases hres k er with rfl | rfl
      · refine kl_catch (k := 0) 0 htab C.1 C.2.2.2.2.2.2.1 C.2.1 hNC (h := (0, 9, 12, 13)) rfl (by decide) (by intro z hz; cases hz) (by decide) (by decide) cle_13 cae_0 h1 h2 h3 ?_
        refine lv_astore_n (lv' := [(3, .ref q9), (0, .ref (q 0)), (1, .int a1), (2, .ref qo)]) hx hb dL_mend_12 rfl hl (Nat.le_of_ble_eq_true rfl) rfl (fun ls hl => ?_)
        refine lv_iconst (v := 1) hx hb dL_mend_13 (by decide) ?_
        exact fin H locs ls 1 _ _ _ (Nat.le_of_ble_eq_true rfl) (Nat.le_of_ble_eq_true rfl) S (by rw [er]; exact hO) (by rw [er]; rfl) dL_mend_14
      · refine kl_catch (k := 1) 1 htab C.1 C.2.2.2.2.2.2.1 C.2.1 hNC (h := (0, 9, 15, 15)) rfl (by decide) (by
        intro z hz
        simp only [List.take, List.mem_cons, List.not_mem_nil, or_false] at hz
        subst hz
        exact ⟨by decide, 0, by decide, by decide, cle_13⟩) (by decide) (by decide) cle_15 cae_1 h1 h2 h3 ?_
        refine lv_astore_n (lv' := [(3, .ref q9), (0, .ref (q 0)), (1, .int a1), (2, .ref qo)]) hx hb dL_mend_15 rfl hl (Nat.le_of_ble_eq_true rfl) rfl (fun ls hl => ?_)
        refine lv_iconst (v := 2) hx hb dL_mend_16 (by decide) ?_
        exact fin H locs ls 2 _ _ _ (Nat.le_of_ble_eq_true rfl) (Nat.le_of_ble_eq_true rfl) S (by rw [er]; exact hO) (by rw [er]; rfl) dL_mend_17
    · subst er
      refine lv_i2l hx hb dL_mend_7 rfl ?_
      refine kl_last hx hb hK C hq hAo S hO dL_mend_8 (fun H locs S hO => ?_)
      refine lv_goto (tgt := 18) hx hb dL_mend_9 rfl ?_
      refine lv_iconst (v := 0) hx hb dL_mend_18 (by decide) ?_
      exact fin H locs ls 0 _ _ _ (Nat.le_of_ble_eq_true rfl) (Nat.le_of_ble_eq_true rfl) S hO rfl dL_mend_19)
set_option maxHeartbeats 4000000 in
set_option maxRecDepth 20000 in
theorem c_L_commands (l : Launch) (hfl : l.stackTraces = false) (D : va_G) (dA : Nat → ClassId) (q : Nat → Nat) (qo : Nat) (a1 : Int32) (w : Wt) (o : Int64) (res : Nat ⊕ Int32) (h : f_Ballotscript_commands a1 w = some res) (hres : ∀ k, res = .inl k → k = 0) : Mw l D dA q qo yL_commands cL_commands 4 [(0, 9, 12, 13)] [.ref (q 0), .int a1, .ref qo] w o (cdX [0] res) w (outI o res) :=
  mk_w (own := RL) (by decide) rfl (Nat.le_of_ble_eq_true rfl) (fun p e s m args below meth c A Q ls hx hb hml htab C hK hNC hq hAo S hO hl fin => by
    have hl : lv_has ls 4 [(0, .ref (q 0)), (1, .int a1), (2, .ref qo)] := hl
    have hS0 := S
    refine lv_aload_n hx hb dL_commands_0 rfl (lv_at hl 2 rfl) ?_
    refine lv_iconst (v := 0) hx hb dL_commands_1 (by decide) ?_
    refine lv_aload_n hx hb dL_commands_2 rfl (lv_at hl 0 rfl) ?_
    refine lv_iload_n hx hb dL_commands_3 rfl (lv_at hl 1 rfl) ?_
    refine kl_i C S hO hq (x_V (rest := [.int 0, .ref qo]) (As := [.int a1]) lk_RL_41 EVc_ok hx hb hml C S KC_0 rfl (c_f_Ballotscript_commands l hfl D dA q a1 w res h _) rfl rfl ⟨(Nat.le_of_ble_eq_true rfl), (Nat.le_of_ble_eq_true rfl)⟩ rfl hl.1 rfl (Nat.le_of_ble_eq_true rfl) dL_commands_4 ⟨(Nat.le_of_ble_eq_true rfl), (Nat.le_of_ble_eq_true rfl)⟩) (fun k er H locs q9 ce S hO h1 h2 h3 => ?_) (fun r er H locs S hO => ?_)
    · obtain rfl := hres k er
      refine kl_catch (k := 0) 0 htab C.1 C.2.2.2.2.2.2.1 C.2.1 hNC (h := (0, 9, 12, 13)) rfl (by decide) (by intro z hz; cases hz) (by decide) (by decide) cle_13 cae_0 h1 h2 h3 ?_
      refine lv_astore_n (lv' := [(3, .ref q9), (0, .ref (q 0)), (1, .int a1), (2, .ref qo)]) hx hb dL_commands_12 rfl hl (Nat.le_of_ble_eq_true rfl) rfl (fun ls hl => ?_)
      refine lv_iconst (v := 1) hx hb dL_commands_13 (by decide) ?_
      exact fin H locs ls 1 _ _ _ (Nat.le_of_ble_eq_true rfl) (Nat.le_of_ble_eq_true rfl) S (by rw [er]; exact hO) (by rw [er]; rfl) dL_commands_14
    · subst er
      refine lv_i2l hx hb dL_commands_7 rfl ?_
      refine kl_last hx hb hK C hq hAo S hO dL_commands_8 (fun H locs S hO => ?_)
      refine lv_goto (tgt := 15) hx hb dL_commands_9 rfl ?_
      refine lv_iconst (v := 0) hx hb dL_commands_15 (by decide) ?_
      exact fin H locs ls 0 _ _ _ (Nat.le_of_ble_eq_true rfl) (Nat.le_of_ble_eq_true rfl) S hO rfl dL_commands_16)
set_option maxHeartbeats 4000000 in
set_option maxRecDepth 20000 in
theorem c_L_open (l : Launch) (hfl : l.stackTraces = false) (D : va_G) (dA : Nat → ClassId) (q : Nat → Nat) (qo : Nat) (a1 : Int32) (a2 : Int32) (a3 : Int32) (a4 : Int32) (w w' : Wt) (o : Int64) (res : Nat ⊕ Int32) (h : f_Ballotscript_open a1 a2 a3 a4 w = some (res, w')) (hres : ∀ k, res = .inl k → k = 0 ∨ k = 1 ∨ k = 2) : Mw l D dA q qo yL_open cL_open 7 [(0, 14, 17, 13), (0, 14, 21, 15), (0, 14, 25, 17)] [.ref (q 0), .int a1, .int a2, .int a3, .int a4, .ref qo] w o (cdX [0, 1, 2] res) w' (outI o res) :=
  mk_w (own := RL) (by decide) rfl (Nat.le_of_ble_eq_true rfl) (fun p e s m args below meth c A Q ls hx hb hml htab C hK hNC hq hAo S hO hl fin => by
    have hl : lv_has ls 7 [(0, .ref (q 0)), (1, .int a1), (2, .int a2), (3, .int a3), (4, .int a4), (5, .ref qo)] := hl
    have hS0 := S
    refine lv_aload hx hb dL_open_0 (lv_at hl 5 rfl) ?_
    refine lv_iconst (v := 0) hx hb dL_open_2 (by decide) ?_
    refine lv_aload_n hx hb dL_open_3 rfl (lv_at hl 0 rfl) ?_
    refine lv_iload_n hx hb dL_open_4 rfl (lv_at hl 1 rfl) ?_
    refine lv_iload_n hx hb dL_open_5 rfl (lv_at hl 2 rfl) ?_
    refine lv_iload_n hx hb dL_open_6 rfl (lv_at hl 3 rfl) ?_
    refine lv_iload hx hb dL_open_7 (lv_at hl 4 rfl) ?_
    refine kl_i C S hO hq (x_V (rest := [.int 0, .ref qo]) (As := [.int a1, .int a2, .int a3, .int a4]) lk_RL_44 EVc_ok hx hb hml C S KC_0 rfl (c_f_Ballotscript_open l hfl D dA q a1 a2 a3 a4 w w' res h _) rfl rfl ⟨(Nat.le_of_ble_eq_true rfl), (Nat.le_of_ble_eq_true rfl)⟩ rfl hl.1 rfl (Nat.le_of_ble_eq_true rfl) dL_open_9 ⟨(Nat.le_of_ble_eq_true rfl), (Nat.le_of_ble_eq_true rfl)⟩) (fun k er H locs q9 ce S hO h1 h2 h3 => ?_) (fun r er H locs S hO => ?_)
    · rcases hres k er with rfl | rfl | rfl
      · refine kl_catch (k := 0) 0 htab C.1 C.2.2.2.2.2.2.1 C.2.1 hNC (h := (0, 14, 17, 13)) rfl (by decide) (by intro z hz; cases hz) (by decide) (by decide) cle_13 cae_0 h1 h2 h3 ?_
        refine lv_astore (lv' := [(6, .ref q9), (0, .ref (q 0)), (1, .int a1), (2, .int a2), (3, .int a3), (4, .int a4), (5, .ref qo)]) hx hb dL_open_17 hl (Nat.le_of_ble_eq_true rfl) rfl (fun ls hl => ?_)
        refine lv_iconst (v := 1) hx hb dL_open_19 (by decide) ?_
        exact fin H locs ls 1 _ _ _ (Nat.le_of_ble_eq_true rfl) (Nat.le_of_ble_eq_true rfl) S (by rw [er]; exact hO) (by rw [er]; rfl) dL_open_20
      · refine kl_catch (k := 1) 1 htab C.1 C.2.2.2.2.2.2.1 C.2.1 hNC (h := (0, 14, 21, 15)) rfl (by decide) (by
        intro z hz
        simp only [List.take, List.mem_cons, List.not_mem_nil, or_false] at hz
        subst hz
        exact ⟨by decide, 0, by decide, by decide, cle_13⟩) (by decide) (by decide) cle_15 cae_1 h1 h2 h3 ?_
        refine lv_astore (lv' := [(6, .ref q9), (0, .ref (q 0)), (1, .int a1), (2, .int a2), (3, .int a3), (4, .int a4), (5, .ref qo)]) hx hb dL_open_21 hl (Nat.le_of_ble_eq_true rfl) rfl (fun ls hl => ?_)
        refine lv_iconst (v := 2) hx hb dL_open_23 (by decide) ?_
        exact fin H locs ls 2 _ _ _ (Nat.le_of_ble_eq_true rfl) (Nat.le_of_ble_eq_true rfl) S (by rw [er]; exact hO) (by rw [er]; rfl) dL_open_24
      · refine kl_catch (k := 2) 2 htab C.1 C.2.2.2.2.2.2.1 C.2.1 hNC (h := (0, 14, 25, 17)) rfl (by decide) (by
        intro z hz
        simp only [List.take, List.mem_cons, List.not_mem_nil, or_false] at hz
        rcases hz with rfl | rfl
        · exact ⟨by decide, 0, by decide, by decide, cle_13⟩
        · exact ⟨by decide, 1, by decide, by decide, cle_15⟩) (by decide) (by decide) cle_17 cae_2 h1 h2 h3 ?_
        refine lv_astore (lv' := [(6, .ref q9), (0, .ref (q 0)), (1, .int a1), (2, .int a2), (3, .int a3), (4, .int a4), (5, .ref qo)]) hx hb dL_open_25 hl (Nat.le_of_ble_eq_true rfl) rfl (fun ls hl => ?_)
        refine lv_iconst (v := 3) hx hb dL_open_27 (by decide) ?_
        exact fin H locs ls 3 _ _ _ (Nat.le_of_ble_eq_true rfl) (Nat.le_of_ble_eq_true rfl) S (by rw [er]; exact hO) (by rw [er]; rfl) dL_open_28
    · subst er
      refine lv_i2l hx hb dL_open_12 rfl ?_
      refine kl_last hx hb hK C hq hAo S hO dL_open_13 (fun H locs S hO => ?_)
      refine lv_goto (tgt := 29) hx hb dL_open_14 rfl ?_
      refine lv_iconst (v := 0) hx hb dL_open_29 (by decide) ?_
      exact fin H locs ls 0 _ _ _ (Nat.le_of_ble_eq_true rfl) (Nat.le_of_ble_eq_true rfl) S hO rfl dL_open_30)
set_option maxHeartbeats 4000000 in
set_option maxRecDepth 20000 in
theorem c_L_close (l : Launch) (hfl : l.stackTraces = false) (D : va_G) (dA : Nat → ClassId) (q : Nat → Nat) (qo : Nat) (a1 : Int32) (w w' : Wt) (o : Int64) (res : Nat ⊕ Int32) (h : f_Ballotscript_close a1 w = some (res, w')) (hres : ∀ k, res = .inl k → k = 0 ∨ k = 2) : Mw l D dA q qo yL_close cL_close 4 [(0, 9, 12, 13), (0, 9, 15, 17)] [.ref (q 0), .int a1, .ref qo] w o (cdX [0, 2] res) w' (outI o res) :=
  mk_w (own := RL) (by decide) rfl (Nat.le_of_ble_eq_true rfl) (fun p e s m args below meth c A Q ls hx hb hml htab C hK hNC hq hAo S hO hl fin => by
    have hl : lv_has ls 4 [(0, .ref (q 0)), (1, .int a1), (2, .ref qo)] := hl
    have hS0 := S
    refine lv_aload_n hx hb dL_close_0 rfl (lv_at hl 2 rfl) ?_
    refine lv_iconst (v := 0) hx hb dL_close_1 (by decide) ?_
    refine lv_aload_n hx hb dL_close_2 rfl (lv_at hl 0 rfl) ?_
    refine lv_iload_n hx hb dL_close_3 rfl (lv_at hl 1 rfl) ?_
    refine kl_i C S hO hq (x_V (rest := [.int 0, .ref qo]) (As := [.int a1]) lk_RL_47 EVc_ok hx hb hml C S KC_0 rfl (c_f_Ballotscript_close l hfl D dA q a1 w w' res h _) rfl rfl ⟨(Nat.le_of_ble_eq_true rfl), (Nat.le_of_ble_eq_true rfl)⟩ rfl hl.1 rfl (Nat.le_of_ble_eq_true rfl) dL_close_4 ⟨(Nat.le_of_ble_eq_true rfl), (Nat.le_of_ble_eq_true rfl)⟩) (fun k er H locs q9 ce S hO h1 h2 h3 => ?_) (fun r er H locs S hO => ?_)
    · rcases hres k er with rfl | rfl
      · refine kl_catch (k := 0) 0 htab C.1 C.2.2.2.2.2.2.1 C.2.1 hNC (h := (0, 9, 12, 13)) rfl (by decide) (by intro z hz; cases hz) (by decide) (by decide) cle_13 cae_0 h1 h2 h3 ?_
        refine lv_astore_n (lv' := [(3, .ref q9), (0, .ref (q 0)), (1, .int a1), (2, .ref qo)]) hx hb dL_close_12 rfl hl (Nat.le_of_ble_eq_true rfl) rfl (fun ls hl => ?_)
        refine lv_iconst (v := 1) hx hb dL_close_13 (by decide) ?_
        exact fin H locs ls 1 _ _ _ (Nat.le_of_ble_eq_true rfl) (Nat.le_of_ble_eq_true rfl) S (by rw [er]; exact hO) (by rw [er]; rfl) dL_close_14
      · refine kl_catch (k := 2) 1 htab C.1 C.2.2.2.2.2.2.1 C.2.1 hNC (h := (0, 9, 15, 17)) rfl (by decide) (by
        intro z hz
        simp only [List.take, List.mem_cons, List.not_mem_nil, or_false] at hz
        subst hz
        exact ⟨by decide, 0, by decide, by decide, cle_13⟩) (by decide) (by decide) cle_17 cae_2 h1 h2 h3 ?_
        refine lv_astore_n (lv' := [(3, .ref q9), (0, .ref (q 0)), (1, .int a1), (2, .ref qo)]) hx hb dL_close_15 rfl hl (Nat.le_of_ble_eq_true rfl) rfl (fun ls hl => ?_)
        refine lv_iconst (v := 2) hx hb dL_close_16 (by decide) ?_
        exact fin H locs ls 2 _ _ _ (Nat.le_of_ble_eq_true rfl) (Nat.le_of_ble_eq_true rfl) S (by rw [er]; exact hO) (by rw [er]; rfl) dL_close_17
    · subst er
      refine lv_i2l hx hb dL_close_7 rfl ?_
      refine kl_last hx hb hK C hq hAo S hO dL_close_8 (fun H locs S hO => ?_)
      refine lv_goto (tgt := 18) hx hb dL_close_9 rfl ?_
      refine lv_iconst (v := 0) hx hb dL_close_18 (by decide) ?_
      exact fin H locs ls 0 _ _ _ (Nat.le_of_ble_eq_true rfl) (Nat.le_of_ble_eq_true rfl) S hO rfl dL_close_19)
set_option maxHeartbeats 4000000 in
set_option maxRecDepth 20000 in
theorem c_L_mark (l : Launch) (hfl : l.stackTraces = false) (D : va_G) (dA : Nat → ClassId) (q : Nat → Nat) (qo : Nat) (a1 : Int32) (w w' : Wt) (o : Int64) (res : Nat ⊕ Int32) (h : f_Ballotscript_mark a1 w = some (res, w')) (hres : ∀ k, res = .inl k → k = 0 ∨ k = 2) : Mw l D dA q qo yL_mark cL_mark 4 [(0, 9, 12, 13), (0, 9, 15, 17)] [.ref (q 0), .int a1, .ref qo] w o (cdX [0, 2] res) w' (outI o res) :=
  mk_w (own := RL) (by decide) rfl (Nat.le_of_ble_eq_true rfl) (fun p e s m args below meth c A Q ls hx hb hml htab C hK hNC hq hAo S hO hl fin => by
    have hl : lv_has ls 4 [(0, .ref (q 0)), (1, .int a1), (2, .ref qo)] := hl
    have hS0 := S
    refine lv_aload_n hx hb dL_mark_0 rfl (lv_at hl 2 rfl) ?_
    refine lv_iconst (v := 0) hx hb dL_mark_1 (by decide) ?_
    refine lv_aload_n hx hb dL_mark_2 rfl (lv_at hl 0 rfl) ?_
    refine lv_iload_n hx hb dL_mark_3 rfl (lv_at hl 1 rfl) ?_
    refine kl_i C S hO hq (x_V (rest := [.int 0, .ref qo]) (As := [.int a1]) lk_RL_50 EVc_ok hx hb hml C S KC_0 rfl (c_f_Ballotscript_mark l hfl D dA q a1 w w' res h _) rfl rfl ⟨(Nat.le_of_ble_eq_true rfl), (Nat.le_of_ble_eq_true rfl)⟩ rfl hl.1 rfl (Nat.le_of_ble_eq_true rfl) dL_mark_4 ⟨(Nat.le_of_ble_eq_true rfl), (Nat.le_of_ble_eq_true rfl)⟩) (fun k er H locs q9 ce S hO h1 h2 h3 => ?_) (fun r er H locs S hO => ?_)
    · rcases hres k er with rfl | rfl
      · refine kl_catch (k := 0) 0 htab C.1 C.2.2.2.2.2.2.1 C.2.1 hNC (h := (0, 9, 12, 13)) rfl (by decide) (by intro z hz; cases hz) (by decide) (by decide) cle_13 cae_0 h1 h2 h3 ?_
        refine lv_astore_n (lv' := [(3, .ref q9), (0, .ref (q 0)), (1, .int a1), (2, .ref qo)]) hx hb dL_mark_12 rfl hl (Nat.le_of_ble_eq_true rfl) rfl (fun ls hl => ?_)
        refine lv_iconst (v := 1) hx hb dL_mark_13 (by decide) ?_
        exact fin H locs ls 1 _ _ _ (Nat.le_of_ble_eq_true rfl) (Nat.le_of_ble_eq_true rfl) S (by rw [er]; exact hO) (by rw [er]; rfl) dL_mark_14
      · refine kl_catch (k := 2) 1 htab C.1 C.2.2.2.2.2.2.1 C.2.1 hNC (h := (0, 9, 15, 17)) rfl (by decide) (by
        intro z hz
        simp only [List.take, List.mem_cons, List.not_mem_nil, or_false] at hz
        subst hz
        exact ⟨by decide, 0, by decide, by decide, cle_13⟩) (by decide) (by decide) cle_17 cae_2 h1 h2 h3 ?_
        refine lv_astore_n (lv' := [(3, .ref q9), (0, .ref (q 0)), (1, .int a1), (2, .ref qo)]) hx hb dL_mark_15 rfl hl (Nat.le_of_ble_eq_true rfl) rfl (fun ls hl => ?_)
        refine lv_iconst (v := 2) hx hb dL_mark_16 (by decide) ?_
        exact fin H locs ls 2 _ _ _ (Nat.le_of_ble_eq_true rfl) (Nat.le_of_ble_eq_true rfl) S (by rw [er]; exact hO) (by rw [er]; rfl) dL_mark_17
    · subst er
      refine lv_i2l hx hb dL_mark_7 rfl ?_
      refine kl_last hx hb hK C hq hAo S hO dL_mark_8 (fun H locs S hO => ?_)
      refine lv_goto (tgt := 18) hx hb dL_mark_9 rfl ?_
      refine lv_iconst (v := 0) hx hb dL_mark_18 (by decide) ?_
      exact fin H locs ls 0 _ _ _ (Nat.le_of_ble_eq_true rfl) (Nat.le_of_ble_eq_true rfl) S hO rfl dL_mark_19)
set_option maxHeartbeats 4000000 in
set_option maxRecDepth 20000 in
theorem c_L_cast (l : Launch) (hfl : l.stackTraces = false) (D : va_G) (dA : Nat → ClassId) (q : Nat → Nat) (qo : Nat) (a1 : Int32) (a2 : Int32) (w w' : Wt) (o : Int64) (res : Nat ⊕ Int32) (h : f_Ballotscript_cast a1 a2 w = some (res, w')) (hres : ∀ k, res = .inl k → k = 0 ∨ k = 2) : Mw l D dA q qo yL_cast cL_cast 5 [(0, 10, 13, 13), (0, 10, 17, 17)] [.ref (q 0), .int a1, .int a2, .ref qo] w o (cdX [0, 2] res) w' (outI o res) :=
  mk_w (own := RL) (by decide) rfl (Nat.le_of_ble_eq_true rfl) (fun p e s m args below meth c A Q ls hx hb hml htab C hK hNC hq hAo S hO hl fin => by
    have hl : lv_has ls 5 [(0, .ref (q 0)), (1, .int a1), (2, .int a2), (3, .ref qo)] := hl
    have hS0 := S
    refine lv_aload_n hx hb dL_cast_0 rfl (lv_at hl 3 rfl) ?_
    refine lv_iconst (v := 0) hx hb dL_cast_1 (by decide) ?_
    refine lv_aload_n hx hb dL_cast_2 rfl (lv_at hl 0 rfl) ?_
    refine lv_iload_n hx hb dL_cast_3 rfl (lv_at hl 1 rfl) ?_
    refine lv_iload_n hx hb dL_cast_4 rfl (lv_at hl 2 rfl) ?_
    refine kl_i C S hO hq (x_V (rest := [.int 0, .ref qo]) (As := [.int a1, .int a2]) lk_RL_53 EVc_ok hx hb hml C S KC_0 rfl (c_f_Ballotscript_cast l hfl D dA q a1 a2 w w' res h _) rfl rfl ⟨(Nat.le_of_ble_eq_true rfl), (Nat.le_of_ble_eq_true rfl)⟩ rfl hl.1 rfl (Nat.le_of_ble_eq_true rfl) dL_cast_5 ⟨(Nat.le_of_ble_eq_true rfl), (Nat.le_of_ble_eq_true rfl)⟩) (fun k er H locs q9 ce S hO h1 h2 h3 => ?_) (fun r er H locs S hO => ?_)
    · rcases hres k er with rfl | rfl
      · refine kl_catch (k := 0) 0 htab C.1 C.2.2.2.2.2.2.1 C.2.1 hNC (h := (0, 10, 13, 13)) rfl (by decide) (by intro z hz; cases hz) (by decide) (by decide) cle_13 cae_0 h1 h2 h3 ?_
        refine lv_astore (lv' := [(4, .ref q9), (0, .ref (q 0)), (1, .int a1), (2, .int a2), (3, .ref qo)]) hx hb dL_cast_13 hl (Nat.le_of_ble_eq_true rfl) rfl (fun ls hl => ?_)
        refine lv_iconst (v := 1) hx hb dL_cast_15 (by decide) ?_
        exact fin H locs ls 1 _ _ _ (Nat.le_of_ble_eq_true rfl) (Nat.le_of_ble_eq_true rfl) S (by rw [er]; exact hO) (by rw [er]; rfl) dL_cast_16
      · refine kl_catch (k := 2) 1 htab C.1 C.2.2.2.2.2.2.1 C.2.1 hNC (h := (0, 10, 17, 17)) rfl (by decide) (by
        intro z hz
        simp only [List.take, List.mem_cons, List.not_mem_nil, or_false] at hz
        subst hz
        exact ⟨by decide, 0, by decide, by decide, cle_13⟩) (by decide) (by decide) cle_17 cae_2 h1 h2 h3 ?_
        refine lv_astore (lv' := [(4, .ref q9), (0, .ref (q 0)), (1, .int a1), (2, .int a2), (3, .ref qo)]) hx hb dL_cast_17 hl (Nat.le_of_ble_eq_true rfl) rfl (fun ls hl => ?_)
        refine lv_iconst (v := 2) hx hb dL_cast_19 (by decide) ?_
        exact fin H locs ls 2 _ _ _ (Nat.le_of_ble_eq_true rfl) (Nat.le_of_ble_eq_true rfl) S (by rw [er]; exact hO) (by rw [er]; rfl) dL_cast_20
    · subst er
      refine lv_i2l hx hb dL_cast_8 rfl ?_
      refine kl_last hx hb hK C hq hAo S hO dL_cast_9 (fun H locs S hO => ?_)
      refine lv_goto (tgt := 21) hx hb dL_cast_10 rfl ?_
      refine lv_iconst (v := 0) hx hb dL_cast_21 (by decide) ?_
      exact fin H locs ls 0 _ _ _ (Nat.le_of_ble_eq_true rfl) (Nat.le_of_ble_eq_true rfl) S hO rfl dL_cast_22)
set_option maxHeartbeats 4000000 in
set_option maxRecDepth 20000 in
theorem c_L_why (l : Launch) (hfl : l.stackTraces = false) (D : va_G) (dA : Nat → ClassId) (q : Nat → Nat) (qo : Nat) (a1 : Int32) (w : Wt) (o : Int64) (res : Nat ⊕ Int32) (h : f_Ballotscript_why a1 w = some res) (hres : ∀ k, res = .inl k → k = 0) : Mw l D dA q qo yL_why cL_why 4 [(0, 9, 12, 13)] [.ref (q 0), .int a1, .ref qo] w o (cdX [0] res) w (outI o res) :=
  mk_w (own := RL) (by decide) rfl (Nat.le_of_ble_eq_true rfl) (fun p e s m args below meth c A Q ls hx hb hml htab C hK hNC hq hAo S hO hl fin => by
    have hl : lv_has ls 4 [(0, .ref (q 0)), (1, .int a1), (2, .ref qo)] := hl
    have hS0 := S
    refine lv_aload_n hx hb dL_why_0 rfl (lv_at hl 2 rfl) ?_
    refine lv_iconst (v := 0) hx hb dL_why_1 (by decide) ?_
    refine lv_aload_n hx hb dL_why_2 rfl (lv_at hl 0 rfl) ?_
    refine lv_iload_n hx hb dL_why_3 rfl (lv_at hl 1 rfl) ?_
    refine kl_i C S hO hq (x_V (rest := [.int 0, .ref qo]) (As := [.int a1]) lk_RL_57 EVc_ok hx hb hml C S KC_0 rfl (c_f_Ballotscript_why l hfl D dA q a1 w res h _) rfl rfl ⟨(Nat.le_of_ble_eq_true rfl), (Nat.le_of_ble_eq_true rfl)⟩ rfl hl.1 rfl (Nat.le_of_ble_eq_true rfl) dL_why_4 ⟨(Nat.le_of_ble_eq_true rfl), (Nat.le_of_ble_eq_true rfl)⟩) (fun k er H locs q9 ce S hO h1 h2 h3 => ?_) (fun r er H locs S hO => ?_)
    · obtain rfl := hres k er
      refine kl_catch (k := 0) 0 htab C.1 C.2.2.2.2.2.2.1 C.2.1 hNC (h := (0, 9, 12, 13)) rfl (by decide) (by intro z hz; cases hz) (by decide) (by decide) cle_13 cae_0 h1 h2 h3 ?_
      refine lv_astore_n (lv' := [(3, .ref q9), (0, .ref (q 0)), (1, .int a1), (2, .ref qo)]) hx hb dL_why_12 rfl hl (Nat.le_of_ble_eq_true rfl) rfl (fun ls hl => ?_)
      refine lv_iconst (v := 1) hx hb dL_why_13 (by decide) ?_
      exact fin H locs ls 1 _ _ _ (Nat.le_of_ble_eq_true rfl) (Nat.le_of_ble_eq_true rfl) S (by rw [er]; exact hO) (by rw [er]; rfl) dL_why_14
    · subst er
      refine lv_i2l hx hb dL_why_7 rfl ?_
      refine kl_last hx hb hK C hq hAo S hO dL_why_8 (fun H locs S hO => ?_)
      refine lv_goto (tgt := 15) hx hb dL_why_9 rfl ?_
      refine lv_iconst (v := 0) hx hb dL_why_15 (by decide) ?_
      exact fin H locs ls 0 _ _ _ (Nat.le_of_ble_eq_true rfl) (Nat.le_of_ble_eq_true rfl) S hO rfl dL_why_16)
set_option maxHeartbeats 4000000 in
set_option maxRecDepth 20000 in
theorem c_L_read (l : Launch) (hfl : l.stackTraces = false) (D : va_G) (dA : Nat → ClassId) (q : Nat → Nat) (qo : Nat) (a1 : Int32) (a2 : Int32) (w : Wt) (o : Int64) (res : Nat ⊕ Int32) (h : f_Ballotscript_read a1 a2 w = some res) (hres : ∀ k, res = .inl k → k = 0) : Mw l D dA q qo yL_read cL_read 5 [(0, 10, 13, 13)] [.ref (q 0), .int a1, .int a2, .ref qo] w o (cdX [0] res) w (outI o res) :=
  mk_w (own := RL) (by decide) rfl (Nat.le_of_ble_eq_true rfl) (fun p e s m args below meth c A Q ls hx hb hml htab C hK hNC hq hAo S hO hl fin => by
    have hl : lv_has ls 5 [(0, .ref (q 0)), (1, .int a1), (2, .int a2), (3, .ref qo)] := hl
    have hS0 := S
    refine lv_aload_n hx hb dL_read_0 rfl (lv_at hl 3 rfl) ?_
    refine lv_iconst (v := 0) hx hb dL_read_1 (by decide) ?_
    refine lv_aload_n hx hb dL_read_2 rfl (lv_at hl 0 rfl) ?_
    refine lv_iload_n hx hb dL_read_3 rfl (lv_at hl 1 rfl) ?_
    refine lv_iload_n hx hb dL_read_4 rfl (lv_at hl 2 rfl) ?_
    refine kl_i C S hO hq (x_V (rest := [.int 0, .ref qo]) (As := [.int a1, .int a2]) lk_RL_60 EVc_ok hx hb hml C S KC_0 rfl (c_f_Ballotscript_read l hfl D dA q a1 a2 w res h _) rfl rfl ⟨(Nat.le_of_ble_eq_true rfl), (Nat.le_of_ble_eq_true rfl)⟩ rfl hl.1 rfl (Nat.le_of_ble_eq_true rfl) dL_read_5 ⟨(Nat.le_of_ble_eq_true rfl), (Nat.le_of_ble_eq_true rfl)⟩) (fun k er H locs q9 ce S hO h1 h2 h3 => ?_) (fun r er H locs S hO => ?_)
    · obtain rfl := hres k er
      refine kl_catch (k := 0) 0 htab C.1 C.2.2.2.2.2.2.1 C.2.1 hNC (h := (0, 10, 13, 13)) rfl (by decide) (by intro z hz; cases hz) (by decide) (by decide) cle_13 cae_0 h1 h2 h3 ?_
      refine lv_astore (lv' := [(4, .ref q9), (0, .ref (q 0)), (1, .int a1), (2, .int a2), (3, .ref qo)]) hx hb dL_read_13 hl (Nat.le_of_ble_eq_true rfl) rfl (fun ls hl => ?_)
      refine lv_iconst (v := 1) hx hb dL_read_15 (by decide) ?_
      exact fin H locs ls 1 _ _ _ (Nat.le_of_ble_eq_true rfl) (Nat.le_of_ble_eq_true rfl) S (by rw [er]; exact hO) (by rw [er]; rfl) dL_read_16
    · subst er
      refine lv_i2l hx hb dL_read_8 rfl ?_
      refine kl_last hx hb hK C hq hAo S hO dL_read_9 (fun H locs S hO => ?_)
      refine lv_goto (tgt := 17) hx hb dL_read_10 rfl ?_
      refine lv_iconst (v := 0) hx hb dL_read_17 (by decide) ?_
      exact fin H locs ls 0 _ _ _ (Nat.le_of_ble_eq_true rfl) (Nat.le_of_ble_eq_true rfl) S hO rfl dL_read_18)
set_option maxHeartbeats 4000000 in
set_option maxRecDepth 20000 in
theorem c_L_misread (l : Launch) (hfl : l.stackTraces = false) (D : va_G) (dA : Nat → ClassId) (q : Nat → Nat) (qo : Nat) (a1 : Int32) (w w' : Wt) (o : Int64) (res : Nat ⊕ Int32) (h : f_Ballotscript_misread a1 w = some (res, w')) (hres : ∀ k, res = .inl k → k = 0 ∨ k = 2) : Mw l D dA q qo yL_misread cL_misread 3 [(0, 5, 8, 13), (0, 5, 11, 17)] [.ref (q 0), .int a1] w o (cdX [0, 2] res) w' o :=
  mk_w (own := RL) (by decide) rfl (Nat.le_of_ble_eq_true rfl) (fun p e s m args below meth c A Q ls hx hb hml htab C hK hNC hq hAo S hO hl fin => by
    have hl : lv_has ls 3 [(0, .ref (q 0)), (1, .int a1)] := hl
    have hS0 := S
    refine lv_aload_n hx hb dL_misread_0 rfl (lv_at hl 0 rfl) ?_
    refine lv_iload_n hx hb dL_misread_1 rfl (lv_at hl 1 rfl) ?_
    refine kl_v C S hO hq (x_V (rest := []) (As := [.int a1]) lk_RL_63 EVc_ok hx hb hml C S KC_0 rfl (c_f_Ballotscript_misread l hfl D dA q a1 w w' res h _) rfl rfl ⟨(Nat.le_of_ble_eq_true rfl), (Nat.le_of_ble_eq_true rfl)⟩ rfl hl.1 rfl (Nat.le_of_ble_eq_true rfl) dL_misread_2 ⟨(Nat.le_of_ble_eq_true rfl), (Nat.le_of_ble_eq_true rfl)⟩) (fun k er H locs q9 ce S hO h1 h2 h3 => ?_) (fun r er H locs S hO => ?_)
    · rcases hres k er with rfl | rfl
      · refine kl_catch (k := 0) 0 htab C.1 C.2.2.2.2.2.2.1 C.2.1 hNC (h := (0, 5, 8, 13)) rfl (by decide) (by intro z hz; cases hz) (by decide) (by decide) cle_13 cae_0 h1 h2 h3 ?_
        refine lv_astore_n (lv' := [(2, .ref q9), (0, .ref (q 0)), (1, .int a1)]) hx hb dL_misread_8 rfl hl (Nat.le_of_ble_eq_true rfl) rfl (fun ls hl => ?_)
        refine lv_iconst (v := 1) hx hb dL_misread_9 (by decide) ?_
        exact fin H locs ls 1 _ _ _ (Nat.le_of_ble_eq_true rfl) (Nat.le_of_ble_eq_true rfl) S hO (by rw [er]; rfl) dL_misread_10
      · refine kl_catch (k := 2) 1 htab C.1 C.2.2.2.2.2.2.1 C.2.1 hNC (h := (0, 5, 11, 17)) rfl (by decide) (by
        intro z hz
        simp only [List.take, List.mem_cons, List.not_mem_nil, or_false] at hz
        subst hz
        exact ⟨by decide, 0, by decide, by decide, cle_13⟩) (by decide) (by decide) cle_17 cae_2 h1 h2 h3 ?_
        refine lv_astore_n (lv' := [(2, .ref q9), (0, .ref (q 0)), (1, .int a1)]) hx hb dL_misread_11 rfl hl (Nat.le_of_ble_eq_true rfl) rfl (fun ls hl => ?_)
        refine lv_iconst (v := 2) hx hb dL_misread_12 (by decide) ?_
        exact fin H locs ls 2 _ _ _ (Nat.le_of_ble_eq_true rfl) (Nat.le_of_ble_eq_true rfl) S hO (by rw [er]; rfl) dL_misread_13
    · subst er
      refine lv_goto (tgt := 14) hx hb dL_misread_5 rfl ?_
      refine lv_iconst (v := 0) hx hb dL_misread_14 (by decide) ?_
      exact fin H locs ls 0 _ _ _ (Nat.le_of_ble_eq_true rfl) (Nat.le_of_ble_eq_true rfl) S hO rfl dL_misread_15)
set_option maxHeartbeats 4000000 in
set_option maxRecDepth 20000 in
theorem c_L_sample (l : Launch) (hfl : l.stackTraces = false) (D : va_G) (dA : Nat → ClassId) (q : Nat → Nat) (qo : Nat) (a1 : Int32) (a2 : Int32) (a3 : Int32) (w w' : Wt) (o : Int64) (res : Nat ⊕ Int32) (h : f_Ballotscript_sample a1 a2 a3 w = some (res, w')) (hres : ∀ k, res = .inl k → k = 0 ∨ k = 1 ∨ k = 2) : Mw l D dA q qo yL_sample cL_sample 6 [(0, 12, 15, 13), (0, 12, 19, 15), (0, 12, 23, 17)] [.ref (q 0), .int a1, .int a2, .int a3, .ref qo] w o (cdX [0, 1, 2] res) w' (outI o res) :=
  mk_w (own := RL) (by decide) rfl (Nat.le_of_ble_eq_true rfl) (fun p e s m args below meth c A Q ls hx hb hml htab C hK hNC hq hAo S hO hl fin => by
    have hl : lv_has ls 6 [(0, .ref (q 0)), (1, .int a1), (2, .int a2), (3, .int a3), (4, .ref qo)] := hl
    have hS0 := S
    refine lv_aload hx hb dL_sample_0 (lv_at hl 4 rfl) ?_
    refine lv_iconst (v := 0) hx hb dL_sample_2 (by decide) ?_
    refine lv_aload_n hx hb dL_sample_3 rfl (lv_at hl 0 rfl) ?_
    refine lv_iload_n hx hb dL_sample_4 rfl (lv_at hl 1 rfl) ?_
    refine lv_iload_n hx hb dL_sample_5 rfl (lv_at hl 2 rfl) ?_
    refine lv_iload_n hx hb dL_sample_6 rfl (lv_at hl 3 rfl) ?_
    refine kl_i C S hO hq (x_V (rest := [.int 0, .ref qo]) (As := [.int a1, .int a2, .int a3]) lk_RL_67 EVc_ok hx hb hml C S KC_0 rfl (c_f_Ballotscript_sample l hfl D dA q a1 a2 a3 w w' res h _) rfl rfl ⟨(Nat.le_of_ble_eq_true rfl), (Nat.le_of_ble_eq_true rfl)⟩ rfl hl.1 rfl (Nat.le_of_ble_eq_true rfl) dL_sample_7 ⟨(Nat.le_of_ble_eq_true rfl), (Nat.le_of_ble_eq_true rfl)⟩) (fun k er H locs q9 ce S hO h1 h2 h3 => ?_) (fun r er H locs S hO => ?_)
    · rcases hres k er with rfl | rfl | rfl
      · refine kl_catch (k := 0) 0 htab C.1 C.2.2.2.2.2.2.1 C.2.1 hNC (h := (0, 12, 15, 13)) rfl (by decide) (by intro z hz; cases hz) (by decide) (by decide) cle_13 cae_0 h1 h2 h3 ?_
        refine lv_astore (lv' := [(5, .ref q9), (0, .ref (q 0)), (1, .int a1), (2, .int a2), (3, .int a3), (4, .ref qo)]) hx hb dL_sample_15 hl (Nat.le_of_ble_eq_true rfl) rfl (fun ls hl => ?_)
        refine lv_iconst (v := 1) hx hb dL_sample_17 (by decide) ?_
        exact fin H locs ls 1 _ _ _ (Nat.le_of_ble_eq_true rfl) (Nat.le_of_ble_eq_true rfl) S (by rw [er]; exact hO) (by rw [er]; rfl) dL_sample_18
      · refine kl_catch (k := 1) 1 htab C.1 C.2.2.2.2.2.2.1 C.2.1 hNC (h := (0, 12, 19, 15)) rfl (by decide) (by
        intro z hz
        simp only [List.take, List.mem_cons, List.not_mem_nil, or_false] at hz
        subst hz
        exact ⟨by decide, 0, by decide, by decide, cle_13⟩) (by decide) (by decide) cle_15 cae_1 h1 h2 h3 ?_
        refine lv_astore (lv' := [(5, .ref q9), (0, .ref (q 0)), (1, .int a1), (2, .int a2), (3, .int a3), (4, .ref qo)]) hx hb dL_sample_19 hl (Nat.le_of_ble_eq_true rfl) rfl (fun ls hl => ?_)
        refine lv_iconst (v := 2) hx hb dL_sample_21 (by decide) ?_
        exact fin H locs ls 2 _ _ _ (Nat.le_of_ble_eq_true rfl) (Nat.le_of_ble_eq_true rfl) S (by rw [er]; exact hO) (by rw [er]; rfl) dL_sample_22
      · refine kl_catch (k := 2) 2 htab C.1 C.2.2.2.2.2.2.1 C.2.1 hNC (h := (0, 12, 23, 17)) rfl (by decide) (by
        intro z hz
        simp only [List.take, List.mem_cons, List.not_mem_nil, or_false] at hz
        rcases hz with rfl | rfl
        · exact ⟨by decide, 0, by decide, by decide, cle_13⟩
        · exact ⟨by decide, 1, by decide, by decide, cle_15⟩) (by decide) (by decide) cle_17 cae_2 h1 h2 h3 ?_
        refine lv_astore (lv' := [(5, .ref q9), (0, .ref (q 0)), (1, .int a1), (2, .int a2), (3, .int a3), (4, .ref qo)]) hx hb dL_sample_23 hl (Nat.le_of_ble_eq_true rfl) rfl (fun ls hl => ?_)
        refine lv_iconst (v := 3) hx hb dL_sample_25 (by decide) ?_
        exact fin H locs ls 3 _ _ _ (Nat.le_of_ble_eq_true rfl) (Nat.le_of_ble_eq_true rfl) S (by rw [er]; exact hO) (by rw [er]; rfl) dL_sample_26
    · subst er
      refine lv_i2l hx hb dL_sample_10 rfl ?_
      refine kl_last hx hb hK C hq hAo S hO dL_sample_11 (fun H locs S hO => ?_)
      refine lv_goto (tgt := 27) hx hb dL_sample_12 rfl ?_
      refine lv_iconst (v := 0) hx hb dL_sample_27 (by decide) ?_
      exact fin H locs ls 0 _ _ _ (Nat.le_of_ble_eq_true rfl) (Nat.le_of_ble_eq_true rfl) S hO rfl dL_sample_28)
set_option maxHeartbeats 4000000 in
set_option maxRecDepth 20000 in
theorem c_L_recount (l : Launch) (hfl : l.stackTraces = false) (D : va_G) (dA : Nat → ClassId) (q : Nat → Nat) (qo : Nat) (a1 : Int32) (w w' : Wt) (o : Int64) (res : Nat ⊕ Int32) (h : f_Ballotscript_recount a1 w = some (res, w')) (hres : ∀ k, res = .inl k → k = 0) : Mw l D dA q qo yL_recount cL_recount 4 [(0, 9, 12, 13)] [.ref (q 0), .int a1, .ref qo] w o (cdX [0] res) w' (outI o res) :=
  mk_w (own := RL) (by decide) rfl (Nat.le_of_ble_eq_true rfl) (fun p e s m args below meth c A Q ls hx hb hml htab C hK hNC hq hAo S hO hl fin => by
    have hl : lv_has ls 4 [(0, .ref (q 0)), (1, .int a1), (2, .ref qo)] := hl
    have hS0 := S
    refine lv_aload_n hx hb dL_recount_0 rfl (lv_at hl 2 rfl) ?_
    refine lv_iconst (v := 0) hx hb dL_recount_1 (by decide) ?_
    refine lv_aload_n hx hb dL_recount_2 rfl (lv_at hl 0 rfl) ?_
    refine lv_iload_n hx hb dL_recount_3 rfl (lv_at hl 1 rfl) ?_
    refine kl_i C S hO hq (x_V (rest := [.int 0, .ref qo]) (As := [.int a1]) lk_RL_71 EVc_ok hx hb hml C S KC_0 rfl (c_f_Ballotscript_recount l hfl D dA q a1 w w' res h _) rfl rfl ⟨(Nat.le_of_ble_eq_true rfl), (Nat.le_of_ble_eq_true rfl)⟩ rfl hl.1 rfl (Nat.le_of_ble_eq_true rfl) dL_recount_4 ⟨(Nat.le_of_ble_eq_true rfl), (Nat.le_of_ble_eq_true rfl)⟩) (fun k er H locs q9 ce S hO h1 h2 h3 => ?_) (fun r er H locs S hO => ?_)
    · obtain rfl := hres k er
      refine kl_catch (k := 0) 0 htab C.1 C.2.2.2.2.2.2.1 C.2.1 hNC (h := (0, 9, 12, 13)) rfl (by decide) (by intro z hz; cases hz) (by decide) (by decide) cle_13 cae_0 h1 h2 h3 ?_
      refine lv_astore_n (lv' := [(3, .ref q9), (0, .ref (q 0)), (1, .int a1), (2, .ref qo)]) hx hb dL_recount_12 rfl hl (Nat.le_of_ble_eq_true rfl) rfl (fun ls hl => ?_)
      refine lv_iconst (v := 1) hx hb dL_recount_13 (by decide) ?_
      exact fin H locs ls 1 _ _ _ (Nat.le_of_ble_eq_true rfl) (Nat.le_of_ble_eq_true rfl) S (by rw [er]; exact hO) (by rw [er]; rfl) dL_recount_14
    · subst er
      refine lv_i2l hx hb dL_recount_7 rfl ?_
      refine kl_last hx hb hK C hq hAo S hO dL_recount_8 (fun H locs S hO => ?_)
      refine lv_goto (tgt := 15) hx hb dL_recount_9 rfl ?_
      refine lv_iconst (v := 0) hx hb dL_recount_15 (by decide) ?_
      exact fin H locs ls 0 _ _ _ (Nat.le_of_ble_eq_true rfl) (Nat.le_of_ble_eq_true rfl) S hO rfl dL_recount_16)
set_option maxHeartbeats 4000000 in
set_option maxRecDepth 20000 in
theorem c_L_doubt (l : Launch) (hfl : l.stackTraces = false) (D : va_G) (dA : Nat → ClassId) (q : Nat → Nat) (qo : Nat) (a1 : Int32) (w : Wt) (o : Int64) (res : Nat ⊕ Int32) (h : f_Ballotscript_doubt a1 w = some res) (hres : ∀ k, res = .inl k → k = 0) : Mw l D dA q qo yL_doubt cL_doubt 4 [(0, 9, 12, 13)] [.ref (q 0), .int a1, .ref qo] w o (cdX [0] res) w (outI o res) :=
  mk_w (own := RL) (by decide) rfl (Nat.le_of_ble_eq_true rfl) (fun p e s m args below meth c A Q ls hx hb hml htab C hK hNC hq hAo S hO hl fin => by
    have hl : lv_has ls 4 [(0, .ref (q 0)), (1, .int a1), (2, .ref qo)] := hl
    have hS0 := S
    refine lv_aload_n hx hb dL_doubt_0 rfl (lv_at hl 2 rfl) ?_
    refine lv_iconst (v := 0) hx hb dL_doubt_1 (by decide) ?_
    refine lv_aload_n hx hb dL_doubt_2 rfl (lv_at hl 0 rfl) ?_
    refine lv_iload_n hx hb dL_doubt_3 rfl (lv_at hl 1 rfl) ?_
    refine kl_i C S hO hq (x_V (rest := [.int 0, .ref qo]) (As := [.int a1]) lk_RL_74 EVc_ok hx hb hml C S KC_0 rfl (c_f_Ballotscript_doubt l hfl D dA q a1 w res h _) rfl rfl ⟨(Nat.le_of_ble_eq_true rfl), (Nat.le_of_ble_eq_true rfl)⟩ rfl hl.1 rfl (Nat.le_of_ble_eq_true rfl) dL_doubt_4 ⟨(Nat.le_of_ble_eq_true rfl), (Nat.le_of_ble_eq_true rfl)⟩) (fun k er H locs q9 ce S hO h1 h2 h3 => ?_) (fun r er H locs S hO => ?_)
    · obtain rfl := hres k er
      refine kl_catch (k := 0) 0 htab C.1 C.2.2.2.2.2.2.1 C.2.1 hNC (h := (0, 9, 12, 13)) rfl (by decide) (by intro z hz; cases hz) (by decide) (by decide) cle_13 cae_0 h1 h2 h3 ?_
      refine lv_astore_n (lv' := [(3, .ref q9), (0, .ref (q 0)), (1, .int a1), (2, .ref qo)]) hx hb dL_doubt_12 rfl hl (Nat.le_of_ble_eq_true rfl) rfl (fun ls hl => ?_)
      refine lv_iconst (v := 1) hx hb dL_doubt_13 (by decide) ?_
      exact fin H locs ls 1 _ _ _ (Nat.le_of_ble_eq_true rfl) (Nat.le_of_ble_eq_true rfl) S (by rw [er]; exact hO) (by rw [er]; rfl) dL_doubt_14
    · subst er
      refine lv_i2l hx hb dL_doubt_7 rfl ?_
      refine kl_last hx hb hK C hq hAo S hO dL_doubt_8 (fun H locs S hO => ?_)
      refine lv_goto (tgt := 15) hx hb dL_doubt_9 rfl ?_
      refine lv_iconst (v := 0) hx hb dL_doubt_15 (by decide) ?_
      exact fin H locs ls 0 _ _ _ (Nat.le_of_ble_eq_true rfl) (Nat.le_of_ble_eq_true rfl) S hO rfl dL_doubt_16)
set_option maxHeartbeats 4000000 in
set_option maxRecDepth 20000 in
theorem c_L_winners (l : Launch) (hfl : l.stackTraces = false) (D : va_G) (dA : Nat → ClassId) (q : Nat → Nat) (qo : Nat) (a1 : Int32) (w w' : Wt) (o : Int64) (res : Nat ⊕ Int32) (h : f_Ballotscript_winners a1 w = some (res, w')) (hres : ∀ k, res = .inl k → k = 0) : Mw l D dA q qo yL_winners cL_winners 4 [(0, 9, 12, 13)] [.ref (q 0), .int a1, .ref qo] w o (cdX [0] res) w' (outI o res) :=
  mk_w (own := RL) (by decide) rfl (Nat.le_of_ble_eq_true rfl) (fun p e s m args below meth c A Q ls hx hb hml htab C hK hNC hq hAo S hO hl fin => by
    have hl : lv_has ls 4 [(0, .ref (q 0)), (1, .int a1), (2, .ref qo)] := hl
    have hS0 := S
    refine lv_aload_n hx hb dL_winners_0 rfl (lv_at hl 2 rfl) ?_
    refine lv_iconst (v := 0) hx hb dL_winners_1 (by decide) ?_
    refine lv_aload_n hx hb dL_winners_2 rfl (lv_at hl 0 rfl) ?_
    refine lv_iload_n hx hb dL_winners_3 rfl (lv_at hl 1 rfl) ?_
    refine kl_i C S hO hq (x_V (rest := [.int 0, .ref qo]) (As := [.int a1]) lk_RL_77 EVc_ok hx hb hml C S KC_0 rfl (c_f_Ballotscript_winners l hfl D dA q a1 w w' res h _) rfl rfl ⟨(Nat.le_of_ble_eq_true rfl), (Nat.le_of_ble_eq_true rfl)⟩ rfl hl.1 rfl (Nat.le_of_ble_eq_true rfl) dL_winners_4 ⟨(Nat.le_of_ble_eq_true rfl), (Nat.le_of_ble_eq_true rfl)⟩) (fun k er H locs q9 ce S hO h1 h2 h3 => ?_) (fun r er H locs S hO => ?_)
    · obtain rfl := hres k er
      refine kl_catch (k := 0) 0 htab C.1 C.2.2.2.2.2.2.1 C.2.1 hNC (h := (0, 9, 12, 13)) rfl (by decide) (by intro z hz; cases hz) (by decide) (by decide) cle_13 cae_0 h1 h2 h3 ?_
      refine lv_astore_n (lv' := [(3, .ref q9), (0, .ref (q 0)), (1, .int a1), (2, .ref qo)]) hx hb dL_winners_12 rfl hl (Nat.le_of_ble_eq_true rfl) rfl (fun ls hl => ?_)
      refine lv_iconst (v := 1) hx hb dL_winners_13 (by decide) ?_
      exact fin H locs ls 1 _ _ _ (Nat.le_of_ble_eq_true rfl) (Nat.le_of_ble_eq_true rfl) S (by rw [er]; exact hO) (by rw [er]; rfl) dL_winners_14
    · subst er
      refine lv_i2l hx hb dL_winners_7 rfl ?_
      refine kl_last hx hb hK C hq hAo S hO dL_winners_8 (fun H locs S hO => ?_)
      refine lv_goto (tgt := 15) hx hb dL_winners_9 rfl ?_
      refine lv_iconst (v := 0) hx hb dL_winners_15 (by decide) ?_
      exact fin H locs ls 0 _ _ _ (Nat.le_of_ble_eq_true rfl) (Nat.le_of_ble_eq_true rfl) S hO rfl dL_winners_16)
set_option maxHeartbeats 4000000 in
set_option maxRecDepth 20000 in
theorem c_L_winnersByHand (l : Launch) (hfl : l.stackTraces = false) (D : va_G) (dA : Nat → ClassId) (q : Nat → Nat) (qo : Nat) (a1 : Int32) (w w' : Wt) (o : Int64) (res : Nat ⊕ Int32) (h : f_Ballotscript_winnersByHand a1 w = some (res, w')) (hres : ∀ k, res = .inl k → k = 0) : Mw l D dA q qo yL_winnersByHand cL_winnersByHand 4 [(0, 9, 12, 13)] [.ref (q 0), .int a1, .ref qo] w o (cdX [0] res) w' (outI o res) :=
  mk_w (own := RL) (by decide) rfl (Nat.le_of_ble_eq_true rfl) (fun p e s m args below meth c A Q ls hx hb hml htab C hK hNC hq hAo S hO hl fin => by
    have hl : lv_has ls 4 [(0, .ref (q 0)), (1, .int a1), (2, .ref qo)] := hl
    have hS0 := S
    refine lv_aload_n hx hb dL_winnersByHand_0 rfl (lv_at hl 2 rfl) ?_
    refine lv_iconst (v := 0) hx hb dL_winnersByHand_1 (by decide) ?_
    refine lv_aload_n hx hb dL_winnersByHand_2 rfl (lv_at hl 0 rfl) ?_
    refine lv_iload_n hx hb dL_winnersByHand_3 rfl (lv_at hl 1 rfl) ?_
    refine kl_i C S hO hq (x_V (rest := [.int 0, .ref qo]) (As := [.int a1]) lk_RL_80 EVc_ok hx hb hml C S KC_0 rfl (c_f_Ballotscript_winnersByHand l hfl D dA q a1 w w' res h _) rfl rfl ⟨(Nat.le_of_ble_eq_true rfl), (Nat.le_of_ble_eq_true rfl)⟩ rfl hl.1 rfl (Nat.le_of_ble_eq_true rfl) dL_winnersByHand_4 ⟨(Nat.le_of_ble_eq_true rfl), (Nat.le_of_ble_eq_true rfl)⟩) (fun k er H locs q9 ce S hO h1 h2 h3 => ?_) (fun r er H locs S hO => ?_)
    · obtain rfl := hres k er
      refine kl_catch (k := 0) 0 htab C.1 C.2.2.2.2.2.2.1 C.2.1 hNC (h := (0, 9, 12, 13)) rfl (by decide) (by intro z hz; cases hz) (by decide) (by decide) cle_13 cae_0 h1 h2 h3 ?_
      refine lv_astore_n (lv' := [(3, .ref q9), (0, .ref (q 0)), (1, .int a1), (2, .ref qo)]) hx hb dL_winnersByHand_12 rfl hl (Nat.le_of_ble_eq_true rfl) rfl (fun ls hl => ?_)
      refine lv_iconst (v := 1) hx hb dL_winnersByHand_13 (by decide) ?_
      exact fin H locs ls 1 _ _ _ (Nat.le_of_ble_eq_true rfl) (Nat.le_of_ble_eq_true rfl) S (by rw [er]; exact hO) (by rw [er]; rfl) dL_winnersByHand_14
    · subst er
      refine lv_i2l hx hb dL_winnersByHand_7 rfl ?_
      refine kl_last hx hb hK C hq hAo S hO dL_winnersByHand_8 (fun H locs S hO => ?_)
      refine lv_goto (tgt := 15) hx hb dL_winnersByHand_9 rfl ?_
      refine lv_iconst (v := 0) hx hb dL_winnersByHand_15 (by decide) ?_
      exact fin H locs ls 0 _ _ _ (Nat.le_of_ble_eq_true rfl) (Nat.le_of_ble_eq_true rfl) S hO rfl dL_winnersByHand_16)
set_option maxHeartbeats 4000000 in
set_option maxRecDepth 20000 in
theorem c_L_tallies (l : Launch) (hfl : l.stackTraces = false) (D : va_G) (dA : Nat → ClassId) (q : Nat → Nat) (qo : Nat) (a1 : Int32) (w w' : Wt) (o : Int64) (res : Nat ⊕ Int32) (h : f_Ballotscript_tallies a1 w = some (res, w')) (hres : ∀ k, res = .inl k → k = 0) : Mw l D dA q qo yL_tallies cL_tallies 4 [(0, 9, 12, 13)] [.ref (q 0), .int a1, .ref qo] w o (cdX [0] res) w' (outI o res) :=
  mk_w (own := RL) (by decide) rfl (Nat.le_of_ble_eq_true rfl) (fun p e s m args below meth c A Q ls hx hb hml htab C hK hNC hq hAo S hO hl fin => by
    have hl : lv_has ls 4 [(0, .ref (q 0)), (1, .int a1), (2, .ref qo)] := hl
    have hS0 := S
    refine lv_aload_n hx hb dL_tallies_0 rfl (lv_at hl 2 rfl) ?_
    refine lv_iconst (v := 0) hx hb dL_tallies_1 (by decide) ?_
    refine lv_aload_n hx hb dL_tallies_2 rfl (lv_at hl 0 rfl) ?_
    refine lv_iload_n hx hb dL_tallies_3 rfl (lv_at hl 1 rfl) ?_
    refine kl_i C S hO hq (x_V (rest := [.int 0, .ref qo]) (As := [.int a1]) lk_RL_83 EVc_ok hx hb hml C S KC_0 rfl (c_f_Ballotscript_tallies l hfl D dA q a1 w w' res h _) rfl rfl ⟨(Nat.le_of_ble_eq_true rfl), (Nat.le_of_ble_eq_true rfl)⟩ rfl hl.1 rfl (Nat.le_of_ble_eq_true rfl) dL_tallies_4 ⟨(Nat.le_of_ble_eq_true rfl), (Nat.le_of_ble_eq_true rfl)⟩) (fun k er H locs q9 ce S hO h1 h2 h3 => ?_) (fun r er H locs S hO => ?_)
    · obtain rfl := hres k er
      refine kl_catch (k := 0) 0 htab C.1 C.2.2.2.2.2.2.1 C.2.1 hNC (h := (0, 9, 12, 13)) rfl (by decide) (by intro z hz; cases hz) (by decide) (by decide) cle_13 cae_0 h1 h2 h3 ?_
      refine lv_astore_n (lv' := [(3, .ref q9), (0, .ref (q 0)), (1, .int a1), (2, .ref qo)]) hx hb dL_tallies_12 rfl hl (Nat.le_of_ble_eq_true rfl) rfl (fun ls hl => ?_)
      refine lv_iconst (v := 1) hx hb dL_tallies_13 (by decide) ?_
      exact fin H locs ls 1 _ _ _ (Nat.le_of_ble_eq_true rfl) (Nat.le_of_ble_eq_true rfl) S (by rw [er]; exact hO) (by rw [er]; rfl) dL_tallies_14
    · subst er
      refine lv_i2l hx hb dL_tallies_7 rfl ?_
      refine kl_last hx hb hK C hq hAo S hO dL_tallies_8 (fun H locs S hO => ?_)
      refine lv_goto (tgt := 15) hx hb dL_tallies_9 rfl ?_
      refine lv_iconst (v := 0) hx hb dL_tallies_15 (by decide) ?_
      exact fin H locs ls 0 _ _ _ (Nat.le_of_ble_eq_true rfl) (Nat.le_of_ble_eq_true rfl) S hO rfl dL_tallies_16)
set_option maxHeartbeats 4000000 in
set_option maxRecDepth 20000 in
theorem c_L_votes (l : Launch) (hfl : l.stackTraces = false) (D : va_G) (dA : Nat → ClassId) (q : Nat → Nat) (qo : Nat) (a1 : Int32) (a2 : Int32) (a3 : Int32) (w w' : Wt) (o : Int64) (res : Nat ⊕ Int32) (h : f_Ballotscript_votes a1 a2 a3 w = some (res, w')) (hres : ∀ k, res = .inl k → k = 0) : Mw l D dA q qo yL_votes cL_votes 6 [(0, 12, 15, 13)] [.ref (q 0), .int a1, .int a2, .int a3, .ref qo] w o (cdX [0] res) w' (outI o res) :=
  mk_w (own := RL) (by decide) rfl (Nat.le_of_ble_eq_true rfl) (fun p e s m args below meth c A Q ls hx hb hml htab C hK hNC hq hAo S hO hl fin => by
    have hl : lv_has ls 6 [(0, .ref (q 0)), (1, .int a1), (2, .int a2), (3, .int a3), (4, .ref qo)] := hl
    have hS0 := S
    refine lv_aload hx hb dL_votes_0 (lv_at hl 4 rfl) ?_
    refine lv_iconst (v := 0) hx hb dL_votes_2 (by decide) ?_
    refine lv_aload_n hx hb dL_votes_3 rfl (lv_at hl 0 rfl) ?_
    refine lv_iload_n hx hb dL_votes_4 rfl (lv_at hl 1 rfl) ?_
    refine lv_iload_n hx hb dL_votes_5 rfl (lv_at hl 2 rfl) ?_
    refine lv_iload_n hx hb dL_votes_6 rfl (lv_at hl 3 rfl) ?_
    refine kl_i C S hO hq (x_V (rest := [.int 0, .ref qo]) (As := [.int a1, .int a2, .int a3]) lk_RL_86 EVc_ok hx hb hml C S KC_0 rfl (c_f_Ballotscript_votes l hfl D dA q a1 a2 a3 w w' res h _) rfl rfl ⟨(Nat.le_of_ble_eq_true rfl), (Nat.le_of_ble_eq_true rfl)⟩ rfl hl.1 rfl (Nat.le_of_ble_eq_true rfl) dL_votes_7 ⟨(Nat.le_of_ble_eq_true rfl), (Nat.le_of_ble_eq_true rfl)⟩) (fun k er H locs q9 ce S hO h1 h2 h3 => ?_) (fun r er H locs S hO => ?_)
    · obtain rfl := hres k er
      refine kl_catch (k := 0) 0 htab C.1 C.2.2.2.2.2.2.1 C.2.1 hNC (h := (0, 12, 15, 13)) rfl (by decide) (by intro z hz; cases hz) (by decide) (by decide) cle_13 cae_0 h1 h2 h3 ?_
      refine lv_astore (lv' := [(5, .ref q9), (0, .ref (q 0)), (1, .int a1), (2, .int a2), (3, .int a3), (4, .ref qo)]) hx hb dL_votes_15 hl (Nat.le_of_ble_eq_true rfl) rfl (fun ls hl => ?_)
      refine lv_iconst (v := 1) hx hb dL_votes_17 (by decide) ?_
      exact fin H locs ls 1 _ _ _ (Nat.le_of_ble_eq_true rfl) (Nat.le_of_ble_eq_true rfl) S (by rw [er]; exact hO) (by rw [er]; rfl) dL_votes_18
    · subst er
      refine lv_i2l hx hb dL_votes_10 rfl ?_
      refine kl_last hx hb hK C hq hAo S hO dL_votes_11 (fun H locs S hO => ?_)
      refine lv_goto (tgt := 19) hx hb dL_votes_12 rfl ?_
      refine lv_iconst (v := 0) hx hb dL_votes_19 (by decide) ?_
      exact fin H locs ls 0 _ _ _ (Nat.le_of_ble_eq_true rfl) (Nat.le_of_ble_eq_true rfl) S hO rfl dL_votes_20)
set_option maxHeartbeats 4000000 in
set_option maxRecDepth 20000 in
theorem c_L_ties (l : Launch) (hfl : l.stackTraces = false) (D : va_G) (dA : Nat → ClassId) (q : Nat → Nat) (qo : Nat) (a1 : Int32) (w w' : Wt) (o : Int64) (res : Nat ⊕ Int32) (h : f_Ballotscript_ties a1 w = some (res, w')) (hres : ∀ k, res = .inl k → k = 0) : Mw l D dA q qo yL_ties cL_ties 4 [(0, 9, 12, 13)] [.ref (q 0), .int a1, .ref qo] w o (cdX [0] res) w' (outI o res) :=
  mk_w (own := RL) (by decide) rfl (Nat.le_of_ble_eq_true rfl) (fun p e s m args below meth c A Q ls hx hb hml htab C hK hNC hq hAo S hO hl fin => by
    have hl : lv_has ls 4 [(0, .ref (q 0)), (1, .int a1), (2, .ref qo)] := hl
    have hS0 := S
    refine lv_aload_n hx hb dL_ties_0 rfl (lv_at hl 2 rfl) ?_
    refine lv_iconst (v := 0) hx hb dL_ties_1 (by decide) ?_
    refine lv_aload_n hx hb dL_ties_2 rfl (lv_at hl 0 rfl) ?_
    refine lv_iload_n hx hb dL_ties_3 rfl (lv_at hl 1 rfl) ?_
    refine kl_i C S hO hq (x_V (rest := [.int 0, .ref qo]) (As := [.int a1]) lk_RL_89 EVc_ok hx hb hml C S KC_0 rfl (c_f_Ballotscript_ties l hfl D dA q a1 w w' res h _) rfl rfl ⟨(Nat.le_of_ble_eq_true rfl), (Nat.le_of_ble_eq_true rfl)⟩ rfl hl.1 rfl (Nat.le_of_ble_eq_true rfl) dL_ties_4 ⟨(Nat.le_of_ble_eq_true rfl), (Nat.le_of_ble_eq_true rfl)⟩) (fun k er H locs q9 ce S hO h1 h2 h3 => ?_) (fun r er H locs S hO => ?_)
    · obtain rfl := hres k er
      refine kl_catch (k := 0) 0 htab C.1 C.2.2.2.2.2.2.1 C.2.1 hNC (h := (0, 9, 12, 13)) rfl (by decide) (by intro z hz; cases hz) (by decide) (by decide) cle_13 cae_0 h1 h2 h3 ?_
      refine lv_astore_n (lv' := [(3, .ref q9), (0, .ref (q 0)), (1, .int a1), (2, .ref qo)]) hx hb dL_ties_12 rfl hl (Nat.le_of_ble_eq_true rfl) rfl (fun ls hl => ?_)
      refine lv_iconst (v := 1) hx hb dL_ties_13 (by decide) ?_
      exact fin H locs ls 1 _ _ _ (Nat.le_of_ble_eq_true rfl) (Nat.le_of_ble_eq_true rfl) S (by rw [er]; exact hO) (by rw [er]; rfl) dL_ties_14
    · subst er
      refine lv_i2l hx hb dL_ties_7 rfl ?_
      refine kl_last hx hb hK C hq hAo S hO dL_ties_8 (fun H locs S hO => ?_)
      refine lv_goto (tgt := 15) hx hb dL_ties_9 rfl ?_
      refine lv_iconst (v := 0) hx hb dL_ties_15 (by decide) ?_
      exact fin H locs ls 0 _ _ _ (Nat.le_of_ble_eq_true rfl) (Nat.le_of_ble_eq_true rfl) S hO rfl dL_ties_16)
set_option maxHeartbeats 4000000 in
set_option maxRecDepth 20000 in
theorem c_L_tied (l : Launch) (hfl : l.stackTraces = false) (D : va_G) (dA : Nat → ClassId) (q : Nat → Nat) (qo : Nat) (a1 : Int32) (a2 : Int32) (w w' : Wt) (o : Int64) (res : Nat ⊕ Int32) (h : f_Ballotscript_tied a1 a2 w = some (res, w')) (hres : ∀ k, res = .inl k → k = 0) : Mw l D dA q qo yL_tied cL_tied 5 [(0, 10, 13, 13)] [.ref (q 0), .int a1, .int a2, .ref qo] w o (cdX [0] res) w' (outI o res) :=
  mk_w (own := RL) (by decide) rfl (Nat.le_of_ble_eq_true rfl) (fun p e s m args below meth c A Q ls hx hb hml htab C hK hNC hq hAo S hO hl fin => by
    have hl : lv_has ls 5 [(0, .ref (q 0)), (1, .int a1), (2, .int a2), (3, .ref qo)] := hl
    have hS0 := S
    refine lv_aload_n hx hb dL_tied_0 rfl (lv_at hl 3 rfl) ?_
    refine lv_iconst (v := 0) hx hb dL_tied_1 (by decide) ?_
    refine lv_aload_n hx hb dL_tied_2 rfl (lv_at hl 0 rfl) ?_
    refine lv_iload_n hx hb dL_tied_3 rfl (lv_at hl 1 rfl) ?_
    refine lv_iload_n hx hb dL_tied_4 rfl (lv_at hl 2 rfl) ?_
    refine kl_i C S hO hq (x_V (rest := [.int 0, .ref qo]) (As := [.int a1, .int a2]) lk_RL_92 EVc_ok hx hb hml C S KC_0 rfl (c_f_Ballotscript_tied l hfl D dA q a1 a2 w w' res h _) rfl rfl ⟨(Nat.le_of_ble_eq_true rfl), (Nat.le_of_ble_eq_true rfl)⟩ rfl hl.1 rfl (Nat.le_of_ble_eq_true rfl) dL_tied_5 ⟨(Nat.le_of_ble_eq_true rfl), (Nat.le_of_ble_eq_true rfl)⟩) (fun k er H locs q9 ce S hO h1 h2 h3 => ?_) (fun r er H locs S hO => ?_)
    · obtain rfl := hres k er
      refine kl_catch (k := 0) 0 htab C.1 C.2.2.2.2.2.2.1 C.2.1 hNC (h := (0, 10, 13, 13)) rfl (by decide) (by intro z hz; cases hz) (by decide) (by decide) cle_13 cae_0 h1 h2 h3 ?_
      refine lv_astore (lv' := [(4, .ref q9), (0, .ref (q 0)), (1, .int a1), (2, .int a2), (3, .ref qo)]) hx hb dL_tied_13 hl (Nat.le_of_ble_eq_true rfl) rfl (fun ls hl => ?_)
      refine lv_iconst (v := 1) hx hb dL_tied_15 (by decide) ?_
      exact fin H locs ls 1 _ _ _ (Nat.le_of_ble_eq_true rfl) (Nat.le_of_ble_eq_true rfl) S (by rw [er]; exact hO) (by rw [er]; rfl) dL_tied_16
    · subst er
      refine lv_i2l hx hb dL_tied_8 rfl ?_
      refine kl_last hx hb hK C hq hAo S hO dL_tied_9 (fun H locs S hO => ?_)
      refine lv_goto (tgt := 17) hx hb dL_tied_10 rfl ?_
      refine lv_iconst (v := 0) hx hb dL_tied_17 (by decide) ?_
      exact fin H locs ls 0 _ _ _ (Nat.le_of_ble_eq_true rfl) (Nat.le_of_ble_eq_true rfl) S hO rfl dL_tied_18)
set_option maxHeartbeats 4000000 in
set_option maxRecDepth 20000 in
theorem c_L_certify (l : Launch) (hfl : l.stackTraces = false) (D : va_G) (dA : Nat → ClassId) (q : Nat → Nat) (qo : Nat) (a1 : Int32) (w w' : Wt) (o : Int64) (res : Nat ⊕ Int32) (h : f_Ballotscript_certify a1 w = some (res, w')) (hres : ∀ k, res = .inl k → k = 0 ∨ k = 2) : Mw l D dA q qo yL_certify cL_certify 4 [(0, 9, 12, 13), (0, 9, 15, 17)] [.ref (q 0), .int a1, .ref qo] w o (cdX [0, 2] res) w' (outI o res) :=
  mk_w (own := RL) (by decide) rfl (Nat.le_of_ble_eq_true rfl) (fun p e s m args below meth c A Q ls hx hb hml htab C hK hNC hq hAo S hO hl fin => by
    have hl : lv_has ls 4 [(0, .ref (q 0)), (1, .int a1), (2, .ref qo)] := hl
    have hS0 := S
    refine lv_aload_n hx hb dL_certify_0 rfl (lv_at hl 2 rfl) ?_
    refine lv_iconst (v := 0) hx hb dL_certify_1 (by decide) ?_
    refine lv_aload_n hx hb dL_certify_2 rfl (lv_at hl 0 rfl) ?_
    refine lv_iload_n hx hb dL_certify_3 rfl (lv_at hl 1 rfl) ?_
    refine kl_i C S hO hq (x_V (rest := [.int 0, .ref qo]) (As := [.int a1]) lk_RL_95 EVc_ok hx hb hml C S KC_0 rfl (c_f_Ballotscript_certify l hfl D dA q a1 w w' res h _) rfl rfl ⟨(Nat.le_of_ble_eq_true rfl), (Nat.le_of_ble_eq_true rfl)⟩ rfl hl.1 rfl (Nat.le_of_ble_eq_true rfl) dL_certify_4 ⟨(Nat.le_of_ble_eq_true rfl), (Nat.le_of_ble_eq_true rfl)⟩) (fun k er H locs q9 ce S hO h1 h2 h3 => ?_) (fun r er H locs S hO => ?_)
    · rcases hres k er with rfl | rfl
      · refine kl_catch (k := 0) 0 htab C.1 C.2.2.2.2.2.2.1 C.2.1 hNC (h := (0, 9, 12, 13)) rfl (by decide) (by intro z hz; cases hz) (by decide) (by decide) cle_13 cae_0 h1 h2 h3 ?_
        refine lv_astore_n (lv' := [(3, .ref q9), (0, .ref (q 0)), (1, .int a1), (2, .ref qo)]) hx hb dL_certify_12 rfl hl (Nat.le_of_ble_eq_true rfl) rfl (fun ls hl => ?_)
        refine lv_iconst (v := 1) hx hb dL_certify_13 (by decide) ?_
        exact fin H locs ls 1 _ _ _ (Nat.le_of_ble_eq_true rfl) (Nat.le_of_ble_eq_true rfl) S (by rw [er]; exact hO) (by rw [er]; rfl) dL_certify_14
      · refine kl_catch (k := 2) 1 htab C.1 C.2.2.2.2.2.2.1 C.2.1 hNC (h := (0, 9, 15, 17)) rfl (by decide) (by
        intro z hz
        simp only [List.take, List.mem_cons, List.not_mem_nil, or_false] at hz
        subst hz
        exact ⟨by decide, 0, by decide, by decide, cle_13⟩) (by decide) (by decide) cle_17 cae_2 h1 h2 h3 ?_
        refine lv_astore_n (lv' := [(3, .ref q9), (0, .ref (q 0)), (1, .int a1), (2, .ref qo)]) hx hb dL_certify_15 rfl hl (Nat.le_of_ble_eq_true rfl) rfl (fun ls hl => ?_)
        refine lv_iconst (v := 2) hx hb dL_certify_16 (by decide) ?_
        exact fin H locs ls 2 _ _ _ (Nat.le_of_ble_eq_true rfl) (Nat.le_of_ble_eq_true rfl) S (by rw [er]; exact hO) (by rw [er]; rfl) dL_certify_17
    · subst er
      refine lv_i2l hx hb dL_certify_7 rfl ?_
      refine kl_last hx hb hK C hq hAo S hO dL_certify_8 (fun H locs S hO => ?_)
      refine lv_goto (tgt := 18) hx hb dL_certify_9 rfl ?_
      refine lv_iconst (v := 0) hx hb dL_certify_18 (by decide) ?_
      exact fin H locs ls 0 _ _ _ (Nat.le_of_ble_eq_true rfl) (Nat.le_of_ble_eq_true rfl) S hO rfl dL_certify_19)
set_option maxHeartbeats 4000000 in
set_option maxRecDepth 20000 in
theorem c_L_certified (l : Launch) (hfl : l.stackTraces = false) (D : va_G) (dA : Nat → ClassId) (q : Nat → Nat) (qo : Nat) (a1 : Int32) (w : Wt) (o : Int64) (res : Nat ⊕ Int32) (h : f_Ballotscript_certified a1 w = some res) (hres : ∀ k, res = .inl k → k = 0) : Mw l D dA q qo yL_certified cL_certified 4 [(0, 9, 12, 13)] [.ref (q 0), .int a1, .ref qo] w o (cdX [0] res) w (outI o res) :=
  mk_w (own := RL) (by decide) rfl (Nat.le_of_ble_eq_true rfl) (fun p e s m args below meth c A Q ls hx hb hml htab C hK hNC hq hAo S hO hl fin => by
    have hl : lv_has ls 4 [(0, .ref (q 0)), (1, .int a1), (2, .ref qo)] := hl
    have hS0 := S
    refine lv_aload_n hx hb dL_certified_0 rfl (lv_at hl 2 rfl) ?_
    refine lv_iconst (v := 0) hx hb dL_certified_1 (by decide) ?_
    refine lv_aload_n hx hb dL_certified_2 rfl (lv_at hl 0 rfl) ?_
    refine lv_iload_n hx hb dL_certified_3 rfl (lv_at hl 1 rfl) ?_
    refine kl_i C S hO hq (x_V (rest := [.int 0, .ref qo]) (As := [.int a1]) lk_RL_98 EVc_ok hx hb hml C S KC_0 rfl (c_f_Ballotscript_certified l hfl D dA q a1 w res h _) rfl rfl ⟨(Nat.le_of_ble_eq_true rfl), (Nat.le_of_ble_eq_true rfl)⟩ rfl hl.1 rfl (Nat.le_of_ble_eq_true rfl) dL_certified_4 ⟨(Nat.le_of_ble_eq_true rfl), (Nat.le_of_ble_eq_true rfl)⟩) (fun k er H locs q9 ce S hO h1 h2 h3 => ?_) (fun r er H locs S hO => ?_)
    · obtain rfl := hres k er
      refine kl_catch (k := 0) 0 htab C.1 C.2.2.2.2.2.2.1 C.2.1 hNC (h := (0, 9, 12, 13)) rfl (by decide) (by intro z hz; cases hz) (by decide) (by decide) cle_13 cae_0 h1 h2 h3 ?_
      refine lv_astore_n (lv' := [(3, .ref q9), (0, .ref (q 0)), (1, .int a1), (2, .ref qo)]) hx hb dL_certified_12 rfl hl (Nat.le_of_ble_eq_true rfl) rfl (fun ls hl => ?_)
      refine lv_iconst (v := 1) hx hb dL_certified_13 (by decide) ?_
      exact fin H locs ls 1 _ _ _ (Nat.le_of_ble_eq_true rfl) (Nat.le_of_ble_eq_true rfl) S (by rw [er]; exact hO) (by rw [er]; rfl) dL_certified_14
    · subst er
      refine lv_i2l hx hb dL_certified_7 rfl ?_
      refine kl_last hx hb hK C hq hAo S hO dL_certified_8 (fun H locs S hO => ?_)
      refine lv_goto (tgt := 15) hx hb dL_certified_9 rfl ?_
      refine lv_iconst (v := 0) hx hb dL_certified_15 (by decide) ?_
      exact fin H locs ls 0 _ _ _ (Nat.le_of_ble_eq_true rfl) (Nat.le_of_ble_eq_true rfl) S hO rfl dL_certified_16)

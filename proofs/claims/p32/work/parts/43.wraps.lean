/-! THE LAW'S HELPERS: a call of the class, its exceptions told as numbers -/
def EVl : Ev := fun A U H => EVc A U H ∧ ∀ i j : Nat, i < 3 → j < 3 → i ≠ j → va_Nc (exn i) (exn j) U
theorem EVl_ok : evOk EVl := by
  refine ⟨fun A s U H hW h => ⟨EVc_ok.1 A s U H hW h.1, fun i j hi hj hij => va_Nc.moved hW.alike (h.2 i j hi hj hij)⟩, fun A U H H1 h hq => ⟨EVc_ok.2.1 A U H H1 h.1 hq, h.2⟩, fun A B U H h hAB => ⟨EVc_ok.2.2 A B U H h.1 hAB, h.2⟩⟩
/-- what a helper answers -/
def okX (L : List Nat) (r : Nat ⊕ Int32) : Bool := match r with
  | .inl k => decide (k ∈ L)
  | .inr _ => true
def cdk (k : Nat) : Int32 := if k = 0 then -101 else if k = 1 then -102 else -103
def cdW (r : Nat ⊕ Int32) : Int32 := match r with
  | .inl k => cdk k
  | .inr x => x
def cdZ (r : Nat ⊕ Int32) : Int32 := match r with
  | .inl k => cdk k
  | .inr x => if x = 0 then 0 else 1
def cdV (r : Nat ⊕ Int32) : Int32 := match r with
  | .inl k => cdk k
  | .inr _ => 0
abbrev RMw : Room := { frames := 60, cells := 4, slots := 24, locals := 1500 }
def Mw (l : Launch) (D : va_G) (dA : Nat → ClassId) (q : Nat → Nat) (y : MethodName) (b : ByteArray) (n : Nat) (hh : List (Nat × Nat × Nat × Nat)) (av : List Value) (w : Wt) (r : Int32) (w' : Wt) : Prop :=
  ∀ sz : Nat, Met l y (.codeWith y b n (some .int) hh :: wall) RMw (va_Pc av (Pr EVl KC D dA q sz w)) (va_Qi (fun (r' : Int32) (_ : Unit) => r' = r) (fun _ t => va_P D vwCl (wld KC dA q w') t.heap) (Aq KC q sz)) 4 24 (Aq KC q sz)
theorem met_with {l : Launch} {y : MethodName} {ws ws' : List Cond} {rm : Room} {Pc : Array Value → State → Prop} {Qc : Array Value → State → Outcome → State → Prop} {mc ms : Nat} {free : Addr → Prop} {cc : ByteArray} {maxL : Nat} {ret : Option FieldType} {hh : List (Nat × Nat × Nat × Nat)}
    (hy : plainName y.cls = true) (hw : ws = Cond.codeWith y cc maxL ret hh :: ws')
    (body : ∀ p e s m args below meth c s₁, BodyLoose p l y (headSpec ws rm) cc maxL ret e s m args below meth c s₁ → c.maxLocals = maxL → Pc args s →
      W p l e (headSpec ws rm).room s m args below meth c s.heap [] 0 0 (MQ below Qc args s mc ms free) (entryFrame m args maxL)) : Met l y ws rm Pc Qc mc ms free := by
  refine MetFree.of_bodyS (code := cc) (maxLocals := maxL) (ret := ret) hy ?_ ?_
  · intro args s m h hn
    obtain ⟨m9, meth, c, hn9, h1, h2, h3, h4, -, h5, h6, -⟩ := Cond.codeWith_spec (atoms_spec (ws := ws) h _ (by rw [hw]; exact List.mem_cons_self))
    cases hn.symm.trans hn9
    exact ⟨meth, c, h1, h2, h3, h4, h5, h6⟩
  · intro p e s m args below meth c s₁ B hml hP _
    have hh0 : s₁.heap = s.heap := by rw [B.state]; rfl
    obtain ⟨t, a1, o, b1, b2, b3⟩ := body p e s m args below meth c s₁ B hml hP s₁ hh0 (Stand.of_body B)
    exact ⟨t, o, a1, b1, b2, ⟨b3.1, b3.2⟩⟩
section WRAP
variable {p : Program} {l : Launch} {e : Env} {R : Room} {s : State} {m : MethodId} {args : Array Value} {below : List Frame} {meth : Method} {c : Code} {H : Heap} {locs : List Loc} {cells slots : Nat} {Q : State → Prop}
variable {D : va_G} {dA : Nat → ClassId} {q : Nat → Nat} {A : Nat → Prop} {own : String} {w w' : Wt} {res : Nat ⊕ Int32}
variable {cc : ByteArray} {pc nL : Nat} {ls : Array Slot} {rest st : List Value}
theorem mk_w {y : MethodName} {b : ByteArray} {n : Nat} {hh : List (Nat × Nat × Nat × Nat)} {av : List Value} {r : Int32} (hy : plainName y.cls = true) (ho : y.cls = own) (hn : (lg_sl av).length ≤ n)
    (walk : ∀ (p : Program) (e : Env) (s : State) (m : MethodId) (args : Array Value) (below : List Frame) (meth : Method) (c : Code) (A : Nat → Prop) (Q : State → Prop) (ls : Array Slot), p.tables.exec = Jvm.exec → c.code = b → c.maxLocals = n → c.exceptionTable.toList = tableOf hh → Cx EVc KC D dA q A s m args own → (∀ i j : Nat, i < 3 → j < 3 → i ≠ j → va_Nc (exn i) (exn j) s) → Sta KC D dA q A s.heap w s.heap [] → lv_has ls n (lv_args 0 av) →
      (∀ (H : Heap) (locs : List Loc) (ls : Array Slot) (r' : Int32) (pc cl sl : Nat), cl ≤ 4 → sl ≤ 24 → Sta KC D dA q A s.heap w' H locs → r' = r → decode b pc = .ok (.ireturn, 1) → W p l e RMw s m args below meth c H locs cl sl Q (F0 m pc ls [.int r'])) →
      W p l e RMw s m args below meth c s.heap [] 0 0 Q (F0 m 0 ls [])) : Mw l D dA q y b n hh av w r w' := by
  intro sz
  refine met_with (cc := b) (maxL := n) (ret := some .int) (hh := hh) hy rfl ?_
  intro p e s m args below meth c s₁ B hml hv
  obtain ⟨rfl, rfl, h1, h2, h3, h4⟩ := hv
  have hts0 := atoms_spec (ws := Cond.codeWith y b n (some .int) hh :: wall) B.pre
  have hts : ∀ x ∈ wall, x.before av.toArray s = true := fun x hx => hts0 x (List.mem_cons_of_mem _ hx)
  have htab := vx_table (x := y) B (hts0 _ List.mem_cons_self)
  obtain ⟨ls, e1, hl⟩ := lv_start (m := m) hn
  rw [e1]
  refine walk p e s m _ below meth c (Aq KC q s.heap.size) _ ls B.exec B.bytes hml htab ⟨ho ▸ findClass_of_methodNamed B.named, hts, h2, h3, fun i hi => Or.inl ⟨i, hi, rfl⟩, fun a ha => Or.inr ha, h4.1⟩ h4.2 ⟨h1, va_S.rf⟩ hl (fun H locs ls r' pc cl sl hc hs S hr d => ?_)
  subst hr
  refine W.widen hc hs ?_
  exact W.iret (v := r') B.exec B.bytes B.returns (fun t ht hW => ⟨⟨r', (), rfl, rfl, by show va_P _ _ _ t.heap; rw [ht]; exact S.1⟩, S.2.F ht⟩) S.2.2.2 d B.notSynchronized
theorem kw_i {a : Array Value} (C : Cx EVc KC D dA q A s m args own) (S : Sta KC D dA q A s.heap w H locs) (hr : vx_Run p l e R s m args below meth c H locs cells slots 4 24 (F0 m pc ls st) rest (va_Qi (fun (r' : Int32) (_ : Unit) => res = .inr r') (fun _ t => va_P D vwCl (wld KC dA q w') t.heap) (Aq KC q H.size) a) (xQ KC D dA q res w' H.size) (Aq KC q H.size))
    (kx : ∀ k, res = .inl k → ∀ (H1 : Heap) (locs1 : List Loc) (q9 : Nat) (ce : Cell), Sta KC D dA q A s.heap w' H1 locs1 → H1[q9]? = some ce → ce.vm = .none → s.vm.findClass (exn k) = some ce.cls → vx_W p l e R s m args below meth c H1 locs1 (cells + 4) (slots + 24) Q (F0 m pc ls rest) q9)
    (kk : ∀ r, res = .inr r → ∀ (H1 : Heap) (locs1 : List Loc), Sta KC D dA q A s.heap w' H1 locs1 → W p l e R s m args below meth c H1 locs1 (cells + 4) (slots + 24) Q (F0 m (pc + 3) ls (.int r :: rest))) : W p l e R s m args below meth c H locs cells slots Q (F0 m pc ls st) := by
  refine vx_calli hr S.2 (fun x _ h => C.sub S x h) (C.sub S) (fun x _ h => C.sub S x h) (fun E ce q9 u t H1 locs1 ht _ _ hb _ hk hS h1 h2 h3 => ?_) (fun r u t H1 locs1 ht _ hp hb _ hk hS => ?_)
  · obtain ⟨⟨k, e1, rfl⟩, hP⟩ := hb
    exact kx k e1 H1 locs1 q9 ce (q_sta ht hP hS) h1 h2 h3
  · exact kk r hp H1 locs1 (q_sta ht hb hS)
theorem kw_v {a : Array Value} (C : Cx EVc KC D dA q A s m args own) (S : Sta KC D dA q A s.heap w H locs) (hr : vx_Run p l e R s m args below meth c H locs cells slots 4 24 (F0 m pc ls st) rest (va_Qv (fun (_ : Unit) => ∃ r, res = .inr r) (fun _ t => va_P D vwCl (wld KC dA q w') t.heap) (Aq KC q H.size) a) (xQ KC D dA q res w' H.size) (Aq KC q H.size))
    (kx : ∀ k, res = .inl k → ∀ (H1 : Heap) (locs1 : List Loc) (q9 : Nat) (ce : Cell), Sta KC D dA q A s.heap w' H1 locs1 → H1[q9]? = some ce → ce.vm = .none → s.vm.findClass (exn k) = some ce.cls → vx_W p l e R s m args below meth c H1 locs1 (cells + 4) (slots + 24) Q (F0 m pc ls rest) q9)
    (kk : ∀ r, res = .inr r → ∀ (H1 : Heap) (locs1 : List Loc), Sta KC D dA q A s.heap w' H1 locs1 → W p l e R s m args below meth c H1 locs1 (cells + 4) (slots + 24) Q (F0 m (pc + 3) ls rest)) : W p l e R s m args below meth c H locs cells slots Q (F0 m pc ls st) := by
  refine vx_callv hr S.2 (fun x _ h => C.sub S x h) (C.sub S) (fun x _ h => C.sub S x h) (fun E ce q9 u t H1 locs1 ht _ _ hb _ hk hS h1 h2 h3 => ?_) (fun u t H1 locs1 ht _ hp hb _ hk hS => ?_)
  · obtain ⟨⟨k, e1, rfl⟩, hP⟩ := hb
    exact kx k e1 H1 locs1 q9 ce (q_sta ht hP hS) h1 h2 h3
  · obtain ⟨r, e1⟩ := hp
    exact kk r e1 H1 locs1 (q_sta ht hb hS)
/-- an exception that is caught: the handler is the entry i of the table -/
theorem kl_catch {k q9 : Nat} {ce : Cell} {hh : List (Nat × Nat × Nat × Nat)} (i : Nat) (htab : c.exceptionTable.toList = tableOf hh) (hown : s.vm.findClass own = some m.cls) (hxw : ∀ w ∈ xw1, va_Nw w s) (hts : ∀ w ∈ wall, w.before args s = true) (hNC : ∀ i j : Nat, i < 3 → j < 3 → i ≠ j → va_Nc (exn i) (exn j) s)
    {h : Nat × Nat × Nat × Nat} (hi : hh[i]? = some h) (hk : k < 3) (hpre : ∀ z ∈ hh.take i, z.2.2.2 ≠ 0 ∧ ∃ j, j < 3 ∧ j ≠ k ∧ Cond.classLink own z.2.2.2 (exn j) ∈ wall) (hc : covers ⟨h.1, h.2.1, h.2.2.1, h.2.2.2⟩ pc = true) (h0 : h.2.2.2 ≠ 0) (hlink : Cond.classLink own h.2.2.2 (exn k) ∈ wall) (hca : Cond.castable (exn k) (exn k) ∈ xw1) (hcell : H[q9]? = some ce) (hv : ce.vm = .none) (hcl : s.vm.findClass (exn k) = some ce.cls)
    (kk : W p l e R s m args below meth c H locs cells slots Q (F0 m h.2.2.1 ls [.ref q9])) : vx_W p l e R s m args below meth c H locs cells slots Q (F0 m pc ls rest) q9 := by
  have hil : i < hh.length := (List.getElem?_eq_some_iff.mp hi).1
  have hsplit : c.exceptionTable.toList = tableOf (hh.take i) ++ (⟨h.1, h.2.1, h.2.2.1, h.2.2.2⟩ : ExceptionTableEntry) :: tableOf (hh.drop (i + 1)) := by
    rw [htab]
    have e1 : hh = hh.take i ++ h :: hh.drop (i + 1) := by
      have e2 : hh.drop i = h :: hh.drop (i + 1) := by
        rw [List.drop_eq_getElem_cons hil]
        rw [(List.getElem?_eq_some_iff.mp hi).2]
      rw [← e2, List.take_append_drop]
    conv => lhs; rw [e1]
    show List.map _ _ = _
    rw [List.map_append]
    rfl
  refine vx_catch (name := exn k) hown (tableOf (hh.take i)) _ (tableOf (hh.drop (i + 1))) hsplit (fun z hz => ?_) hc h0 (hts _ hlink) (va_Nw.use rfl (hxw _ hca)) hcell hv hcl kk
  obtain ⟨y, hy, rfl⟩ := List.mem_map.mp hz
  obtain ⟨h1, j, h2, h3, h4⟩ := hpre y hy
  exact Or.inr ⟨h1, exn j, hts _ h4, hNC k j hk h2 (fun e => h3 e.symm)⟩
end WRAP
theorem h_cs {α β : Type} {a : Option α} {f : α → Option β} {z : β} (h : Option.bind a f = some z) : ∃ x, a = some x ∧ f x = some z := by
  cases a with
  | none => cases h
  | some x => exact ⟨x, rfl, h⟩
theorem h_gs {α : Type} {b : Bool} {o : Option α} {z : α} (h : gd b o = some z) : b = true ∧ o = some z := by
  unfold gd at h
  by_cases hb : b = true
  · rw [if_pos hb] at h; exact ⟨hb, h⟩
  · rw [if_neg hb] at h; cases h
theorem okX_m {L : List Nat} {r : Nat ⊕ Int32} (g : okX L r = true) : ∀ k, r = .inl k → k ∈ L := fun k hk => by
  subst hk
  exact of_decide_eq_true g
def l_enter (a1 : Int32) (a2 : Int32) (a3 : Int32) (a4 : Int32) (w : Wt) : Option (Int32 × Wt) := Option.bind (f_Ballotscript_enter a1 a2 a3 a4 w) fun x => gd (okX [0, 1, 2] x.1) (some (cdW x.1, x.2))
def l_strike (a1 : Int32) (w : Wt) : Option (Int32 × Wt) := Option.bind (f_Ballotscript_strike a1 w) fun x => gd (okX [0, 2] x.1) (some (cdW x.1, x.2))
def l_allowed (a1 : Int32) (a2 : Int32) (a3 : Int32) (w : Wt) : Option Int32 := Option.bind (f_Ballotscript_isAllowed a1 a2 a3 w) fun x => gd (okX [0, 1] x) (some (cdZ x))
def l_pass (a1 : Int32) (w : Wt) : Option (Int32 × Wt) := Option.bind (f_Ballotscript_pass a1 w) fun x => gd (okX [1, 2] x.1) (some (cdW x.1, x.2))
def l_type (a1 : Int32) (w : Wt) : Option (Int32 × Wt) := Option.bind (f_Ballotscript_type ((a1.toUInt32 % 65536).toInt32) w) fun x => gd (okX [1, 2] x.1) (some (cdW x.1, x.2))
def l_rule (w : Wt) : Option (Int32 × Wt) := Option.bind (f_Ballotscript_rule w) fun x => gd (okX [1, 2] x.1) (some (cdW x.1, x.2))
def l_mend (a1 : Int32) (w : Wt) : Option (Int32 × Wt) := Option.bind (f_Ballotscript_mend a1 w) fun x => gd (okX [0, 1] x.1) (some (cdW x.1, x.2))
def l_commands (a1 : Int32) (w : Wt) : Option Int32 := Option.bind (f_Ballotscript_commands a1 w) fun x => gd (okX [0] x) (some (cdW x))
def l_open (a1 : Int32) (a2 : Int32) (a3 : Int32) (a4 : Int32) (w : Wt) : Option (Int32 × Wt) := Option.bind (f_Ballotscript_open a1 a2 a3 a4 w) fun x => gd (okX [0, 1, 2] x.1) (some (cdW x.1, x.2))
def l_close (a1 : Int32) (w : Wt) : Option (Int32 × Wt) := Option.bind (f_Ballotscript_close a1 w) fun x => gd (okX [0, 2] x.1) (some (cdW x.1, x.2))
def l_mark (a1 : Int32) (w : Wt) : Option (Int32 × Wt) := Option.bind (f_Ballotscript_mark a1 w) fun x => gd (okX [0, 2] x.1) (some (cdW x.1, x.2))
def l_cast (a1 : Int32) (a2 : Int32) (w : Wt) : Option (Int32 × Wt) := Option.bind (f_Ballotscript_cast a1 a2 w) fun x => gd (okX [0, 2] x.1) (some (cdW x.1, x.2))
def l_why (a1 : Int32) (w : Wt) : Option Int32 := Option.bind (f_Ballotscript_why a1 w) fun x => gd (okX [0] x) (some (cdW x))
def l_read (a1 : Int32) (a2 : Int32) (w : Wt) : Option Int32 := Option.bind (f_Ballotscript_read a1 a2 w) fun x => gd (okX [0] x) (some (cdW x))
def l_misread (a1 : Int32) (w : Wt) : Option (Int32 × Wt) := Option.bind (f_Ballotscript_misread a1 w) fun x => gd (okX [0, 2] x.1) (some (cdV x.1, x.2))
def l_sample (a1 : Int32) (a2 : Int32) (a3 : Int32) (w : Wt) : Option (Int32 × Wt) := Option.bind (f_Ballotscript_sample a1 a2 a3 w) fun x => gd (okX [0, 1, 2] x.1) (some (cdW x.1, x.2))
def l_recount (a1 : Int32) (w : Wt) : Option (Int32 × Wt) := Option.bind (f_Ballotscript_recount a1 w) fun x => gd (okX [0] x.1) (some (cdW x.1, x.2))
def l_doubt (a1 : Int32) (w : Wt) : Option Int32 := Option.bind (f_Ballotscript_doubt a1 w) fun x => gd (okX [0] x) (some (cdW x))
def l_winners (a1 : Int32) (w : Wt) : Option (Int32 × Wt) := Option.bind (f_Ballotscript_winners a1 w) fun x => gd (okX [0] x.1) (some (cdW x.1, x.2))
def l_hand (a1 : Int32) (w : Wt) : Option (Int32 × Wt) := Option.bind (f_Ballotscript_winnersByHand a1 w) fun x => gd (okX [0] x.1) (some (cdW x.1, x.2))
def l_tallies (a1 : Int32) (w : Wt) : Option (Int32 × Wt) := Option.bind (f_Ballotscript_tallies a1 w) fun x => gd (okX [0] x.1) (some (cdW x.1, x.2))
def l_votes (a1 : Int32) (a2 : Int32) (a3 : Int32) (w : Wt) : Option (Int32 × Wt) := Option.bind (f_Ballotscript_votes a1 a2 a3 w) fun x => gd (okX [0] x.1) (some (cdW x.1, x.2))
def l_ties (a1 : Int32) (w : Wt) : Option (Int32 × Wt) := Option.bind (f_Ballotscript_ties a1 w) fun x => gd (okX [0] x.1) (some (cdW x.1, x.2))
def l_tied (a1 : Int32) (a2 : Int32) (w : Wt) : Option (Int32 × Wt) := Option.bind (f_Ballotscript_tied a1 a2 w) fun x => gd (okX [0] x.1) (some (cdW x.1, x.2))
def l_certify (a1 : Int32) (w : Wt) : Option (Int32 × Wt) := Option.bind (f_Ballotscript_certify a1 w) fun x => gd (okX [0, 2] x.1) (some (cdW x.1, x.2))
def l_certified (a1 : Int32) (w : Wt) : Option Int32 := Option.bind (f_Ballotscript_certified a1 w) fun x => gd (okX [0] x) (some (cdW x))
set_option maxHeartbeats 4000000 in
set_option maxRecDepth 20000 in
theorem d_L_enter (l : Launch) (hfl : l.stackTraces = false) (D : va_G) (dA : Nat → ClassId) (q : Nat → Nat) (a1 : Int32) (a2 : Int32) (a3 : Int32) (a4 : Int32) (w w' : Wt) (res : Nat ⊕ Int32) (h : f_Ballotscript_enter a1 a2 a3 a4 w = some (res, w')) (hres : ∀ k, res = .inl k → k = 0 ∨ k = 1 ∨ k = 2) : Mw l D dA q yL_enter cL_enter 6 [(0, 9, 10, 15), (0, 9, 15, 17), (0, 9, 20, 19)] [.ref (q 0), .int a1, .int a2, .int a3, .int a4] w (cdW res) w' :=
  mk_w (own := RL) (by decide) rfl (Nat.le_of_ble_eq_true rfl) (fun p e s m args below meth c A Q ls hx hb hml htab C hNC S hl fin => by
    have hl : lv_has ls 6 [(0, .ref (q 0)), (1, .int a1), (2, .int a2), (3, .int a3), (4, .int a4)] := hl
    have hS0 := S
    refine lv_aload_n hx hb dL_enter_0 rfl (lv_at hl 0 rfl) ?_
    refine lv_iload_n hx hb dL_enter_1 rfl (lv_at hl 1 rfl) ?_
    refine lv_iload_n hx hb dL_enter_2 rfl (lv_at hl 2 rfl) ?_
    refine lv_iload_n hx hb dL_enter_3 rfl (lv_at hl 3 rfl) ?_
    refine lv_iload hx hb dL_enter_4 (lv_at hl 4 rfl) ?_
    refine kw_i C S (x_V (rest := []) (As := [.int a1, .int a2, .int a3, .int a4]) lk_RL_9 EVc_ok hx hb hml C S KC_0 rfl (c_f_Ballotscript_enter l hfl D dA q a1 a2 a3 a4 w w' res h _) rfl rfl ⟨(Nat.le_of_ble_eq_true rfl), (Nat.le_of_ble_eq_true rfl)⟩ rfl hl.1 rfl (Nat.le_of_ble_eq_true rfl) dL_enter_6 ⟨(Nat.le_of_ble_eq_true rfl), (Nat.le_of_ble_eq_true rfl)⟩) (fun k er H locs q9 ce S h1 h2 h3 => ?_) (fun r er H locs S => ?_)
    · rcases hres k er with rfl | rfl | rfl
      · refine kl_catch (k := 0) 0 htab C.1 C.2.2.2.2.2.2.1 C.2.1 hNC (h := (0, 9, 10, 15)) rfl (by decide) (by intro z hz; cases hz) (by decide) (by decide) cle_15 cae_0 h1 h2 h3 ?_
        refine lv_astore (lv' := [(5, .ref q9), (0, .ref (q 0)), (1, .int a1), (2, .int a2), (3, .int a3), (4, .int a4)]) hx hb dL_enter_10 hl (Nat.le_of_ble_eq_true rfl) rfl (fun ls hl => ?_)
        refine lv_bipush (v := -101) hx hb dL_enter_12 (by decide) ?_
        exact fin H locs ls (-101) _ _ _ (Nat.le_of_ble_eq_true rfl) (Nat.le_of_ble_eq_true rfl) S (by rw [er]; rfl) dL_enter_14
      · refine kl_catch (k := 1) 1 htab C.1 C.2.2.2.2.2.2.1 C.2.1 hNC (h := (0, 9, 15, 17)) rfl (by decide) (by
        intro z hz
        simp only [List.take, List.mem_cons, List.not_mem_nil, or_false] at hz
        subst hz
        exact ⟨by decide, 0, by decide, by decide, cle_15⟩) (by decide) (by decide) cle_17 cae_1 h1 h2 h3 ?_
        refine lv_astore (lv' := [(5, .ref q9), (0, .ref (q 0)), (1, .int a1), (2, .int a2), (3, .int a3), (4, .int a4)]) hx hb dL_enter_15 hl (Nat.le_of_ble_eq_true rfl) rfl (fun ls hl => ?_)
        refine lv_bipush (v := -102) hx hb dL_enter_17 (by decide) ?_
        exact fin H locs ls (-102) _ _ _ (Nat.le_of_ble_eq_true rfl) (Nat.le_of_ble_eq_true rfl) S (by rw [er]; rfl) dL_enter_19
      · refine kl_catch (k := 2) 2 htab C.1 C.2.2.2.2.2.2.1 C.2.1 hNC (h := (0, 9, 20, 19)) rfl (by decide) (by
        intro z hz
        simp only [List.take, List.mem_cons, List.not_mem_nil, or_false] at hz
        rcases hz with rfl | rfl
        · exact ⟨by decide, 0, by decide, by decide, cle_15⟩
        · exact ⟨by decide, 1, by decide, by decide, cle_17⟩) (by decide) (by decide) cle_19 cae_2 h1 h2 h3 ?_
        refine lv_astore (lv' := [(5, .ref q9), (0, .ref (q 0)), (1, .int a1), (2, .int a2), (3, .int a3), (4, .int a4)]) hx hb dL_enter_20 hl (Nat.le_of_ble_eq_true rfl) rfl (fun ls hl => ?_)
        refine lv_bipush (v := -103) hx hb dL_enter_22 (by decide) ?_
        exact fin H locs ls (-103) _ _ _ (Nat.le_of_ble_eq_true rfl) (Nat.le_of_ble_eq_true rfl) S (by rw [er]; rfl) dL_enter_24
    · subst er
      exact fin H locs ls r _ _ _ (Nat.le_of_ble_eq_true rfl) (Nat.le_of_ble_eq_true rfl) S rfl dL_enter_9)
theorem c_l_enter (l : Launch) (hfl : l.stackTraces = false) (D : va_G) (dA : Nat → ClassId) (q : Nat → Nat) (a1 : Int32) (a2 : Int32) (a3 : Int32) (a4 : Int32) (w w' : Wt) (r : Int32) (h : l_enter a1 a2 a3 a4 w = some (r, w')) : Mw l D dA q yL_enter cL_enter 6 [(0, 9, 10, 15), (0, 9, 15, 17), (0, 9, 20, 19)] [.ref (q 0), .int a1, .int a2, .int a3, .int a4] w r w' := by
  unfold l_enter at h
  obtain ⟨x, ex, h⟩ := h_cs h
  obtain ⟨g, h⟩ := h_gs h
  obtain ⟨x1, x2⟩ := x
  obtain ⟨rfl, rfl⟩ := Prod.mk.inj (Option.some.inj h)
  exact d_L_enter l hfl D dA q a1 a2 a3 a4 w x2 x1 ex (fun k hk => by have g2 := okX_m g k hk; simpa using g2)
set_option maxHeartbeats 4000000 in
set_option maxRecDepth 20000 in
theorem d_L_strike (l : Launch) (hfl : l.stackTraces = false) (D : va_G) (dA : Nat → ClassId) (q : Nat → Nat) (a1 : Int32) (w w' : Wt) (res : Nat ⊕ Int32) (h : f_Ballotscript_strike a1 w = some (res, w')) (hres : ∀ k, res = .inl k → k = 0 ∨ k = 2) : Mw l D dA q yL_strike cL_strike 3 [(0, 5, 6, 15), (0, 5, 10, 19)] [.ref (q 0), .int a1] w (cdW res) w' :=
  mk_w (own := RL) (by decide) rfl (Nat.le_of_ble_eq_true rfl) (fun p e s m args below meth c A Q ls hx hb hml htab C hNC S hl fin => by
    have hl : lv_has ls 3 [(0, .ref (q 0)), (1, .int a1)] := hl
    have hS0 := S
    refine lv_aload_n hx hb dL_strike_0 rfl (lv_at hl 0 rfl) ?_
    refine lv_iload_n hx hb dL_strike_1 rfl (lv_at hl 1 rfl) ?_
    refine kw_i C S (x_V (rest := []) (As := [.int a1]) lk_RL_21 EVc_ok hx hb hml C S KC_0 rfl (c_f_Ballotscript_strike l hfl D dA q a1 w w' res h _) rfl rfl ⟨(Nat.le_of_ble_eq_true rfl), (Nat.le_of_ble_eq_true rfl)⟩ rfl hl.1 rfl (Nat.le_of_ble_eq_true rfl) dL_strike_2 ⟨(Nat.le_of_ble_eq_true rfl), (Nat.le_of_ble_eq_true rfl)⟩) (fun k er H locs q9 ce S h1 h2 h3 => ?_) (fun r er H locs S => ?_)
    · rcases hres k er with rfl | rfl
      · refine kl_catch (k := 0) 0 htab C.1 C.2.2.2.2.2.2.1 C.2.1 hNC (h := (0, 5, 6, 15)) rfl (by decide) (by intro z hz; cases hz) (by decide) (by decide) cle_15 cae_0 h1 h2 h3 ?_
        refine lv_astore_n (lv' := [(2, .ref q9), (0, .ref (q 0)), (1, .int a1)]) hx hb dL_strike_6 rfl hl (Nat.le_of_ble_eq_true rfl) rfl (fun ls hl => ?_)
        refine lv_bipush (v := -101) hx hb dL_strike_7 (by decide) ?_
        exact fin H locs ls (-101) _ _ _ (Nat.le_of_ble_eq_true rfl) (Nat.le_of_ble_eq_true rfl) S (by rw [er]; rfl) dL_strike_9
      · refine kl_catch (k := 2) 1 htab C.1 C.2.2.2.2.2.2.1 C.2.1 hNC (h := (0, 5, 10, 19)) rfl (by decide) (by
        intro z hz
        simp only [List.take, List.mem_cons, List.not_mem_nil, or_false] at hz
        subst hz
        exact ⟨by decide, 0, by decide, by decide, cle_15⟩) (by decide) (by decide) cle_19 cae_2 h1 h2 h3 ?_
        refine lv_astore_n (lv' := [(2, .ref q9), (0, .ref (q 0)), (1, .int a1)]) hx hb dL_strike_10 rfl hl (Nat.le_of_ble_eq_true rfl) rfl (fun ls hl => ?_)
        refine lv_bipush (v := -103) hx hb dL_strike_11 (by decide) ?_
        exact fin H locs ls (-103) _ _ _ (Nat.le_of_ble_eq_true rfl) (Nat.le_of_ble_eq_true rfl) S (by rw [er]; rfl) dL_strike_13
    · subst er
      exact fin H locs ls r _ _ _ (Nat.le_of_ble_eq_true rfl) (Nat.le_of_ble_eq_true rfl) S rfl dL_strike_5)
theorem c_l_strike (l : Launch) (hfl : l.stackTraces = false) (D : va_G) (dA : Nat → ClassId) (q : Nat → Nat) (a1 : Int32) (w w' : Wt) (r : Int32) (h : l_strike a1 w = some (r, w')) : Mw l D dA q yL_strike cL_strike 3 [(0, 5, 6, 15), (0, 5, 10, 19)] [.ref (q 0), .int a1] w r w' := by
  unfold l_strike at h
  obtain ⟨x, ex, h⟩ := h_cs h
  obtain ⟨g, h⟩ := h_gs h
  obtain ⟨x1, x2⟩ := x
  obtain ⟨rfl, rfl⟩ := Prod.mk.inj (Option.some.inj h)
  exact d_L_strike l hfl D dA q a1 w x2 x1 ex (fun k hk => by have g2 := okX_m g k hk; simpa using g2)
set_option maxHeartbeats 4000000 in
set_option maxRecDepth 20000 in
theorem d_L_allowed (l : Launch) (hfl : l.stackTraces = false) (D : va_G) (dA : Nat → ClassId) (q : Nat → Nat) (a1 : Int32) (a2 : Int32) (a3 : Int32) (w : Wt) (res : Nat ⊕ Int32) (h : f_Ballotscript_isAllowed a1 a2 a3 w = some res) (hres : ∀ k, res = .inl k → k = 0 ∨ k = 1) : Mw l D dA q yL_allowed cL_allowed 5 [(0, 15, 16, 15), (0, 15, 21, 17)] [.ref (q 0), .int a1, .int a2, .int a3] w (cdZ res) w :=
  mk_w (own := RL) (by decide) rfl (Nat.le_of_ble_eq_true rfl) (fun p e s m args below meth c A Q ls hx hb hml htab C hNC S hl fin => by
    have hl : lv_has ls 5 [(0, .ref (q 0)), (1, .int a1), (2, .int a2), (3, .int a3)] := hl
    have hS0 := S
    refine lv_aload_n hx hb dL_allowed_0 rfl (lv_at hl 0 rfl) ?_
    refine lv_iload_n hx hb dL_allowed_1 rfl (lv_at hl 1 rfl) ?_
    refine lv_iload_n hx hb dL_allowed_2 rfl (lv_at hl 2 rfl) ?_
    refine lv_iload_n hx hb dL_allowed_3 rfl (lv_at hl 3 rfl) ?_
    refine kw_i C S (x_V (rest := []) (As := [.int a1, .int a2, .int a3]) lk_RL_25 EVc_ok hx hb hml C S KC_0 rfl (c_f_Ballotscript_isAllowed l hfl D dA q a1 a2 a3 w res h _) rfl rfl ⟨(Nat.le_of_ble_eq_true rfl), (Nat.le_of_ble_eq_true rfl)⟩ rfl hl.1 rfl (Nat.le_of_ble_eq_true rfl) dL_allowed_4 ⟨(Nat.le_of_ble_eq_true rfl), (Nat.le_of_ble_eq_true rfl)⟩) (fun k er H locs q9 ce S h1 h2 h3 => ?_) (fun r er H locs S => ?_)
    · rcases hres k er with rfl | rfl
      · refine kl_catch (k := 0) 0 htab C.1 C.2.2.2.2.2.2.1 C.2.1 hNC (h := (0, 15, 16, 15)) rfl (by decide) (by intro z hz; cases hz) (by decide) (by decide) cle_15 cae_0 h1 h2 h3 ?_
        refine lv_astore (lv' := [(4, .ref q9), (0, .ref (q 0)), (1, .int a1), (2, .int a2), (3, .int a3)]) hx hb dL_allowed_16 hl (Nat.le_of_ble_eq_true rfl) rfl (fun ls hl => ?_)
        refine lv_bipush (v := -101) hx hb dL_allowed_18 (by decide) ?_
        exact fin H locs ls (-101) _ _ _ (Nat.le_of_ble_eq_true rfl) (Nat.le_of_ble_eq_true rfl) S (by rw [er]; rfl) dL_allowed_20
      · refine kl_catch (k := 1) 1 htab C.1 C.2.2.2.2.2.2.1 C.2.1 hNC (h := (0, 15, 21, 17)) rfl (by decide) (by
        intro z hz
        simp only [List.take, List.mem_cons, List.not_mem_nil, or_false] at hz
        subst hz
        exact ⟨by decide, 0, by decide, by decide, cle_15⟩) (by decide) (by decide) cle_17 cae_1 h1 h2 h3 ?_
        refine lv_astore (lv' := [(4, .ref q9), (0, .ref (q 0)), (1, .int a1), (2, .int a2), (3, .int a3)]) hx hb dL_allowed_21 hl (Nat.le_of_ble_eq_true rfl) rfl (fun ls hl => ?_)
        refine lv_bipush (v := -102) hx hb dL_allowed_23 (by decide) ?_
        exact fin H locs ls (-102) _ _ _ (Nat.le_of_ble_eq_true rfl) (Nat.le_of_ble_eq_true rfl) S (by rw [er]; rfl) dL_allowed_25
    · subst er
      refine lv_if_eq (tgt := 14) hx hb dL_allowed_7 rfl (fun c1 => ?_) (fun c1 => ?_)
      · refine lv_iconst (v := 0) hx hb dL_allowed_14 (by decide) ?_
        exact fin H locs ls 0 _ _ _ (Nat.le_of_ble_eq_true rfl) (Nat.le_of_ble_eq_true rfl) S (show (0 : Int32) = cdZ (.inr r) from (if_pos c1).symm) dL_allowed_15
      · refine lv_iconst (v := 1) hx hb dL_allowed_10 (by decide) ?_
        refine lv_goto (tgt := 15) hx hb dL_allowed_11 rfl ?_
        exact fin H locs ls 1 _ _ _ (Nat.le_of_ble_eq_true rfl) (Nat.le_of_ble_eq_true rfl) S (show (1 : Int32) = cdZ (.inr r) from (if_neg c1).symm) dL_allowed_15)
theorem c_l_allowed (l : Launch) (hfl : l.stackTraces = false) (D : va_G) (dA : Nat → ClassId) (q : Nat → Nat) (a1 : Int32) (a2 : Int32) (a3 : Int32) (w : Wt) (r : Int32) (h : l_allowed a1 a2 a3 w = some r) : Mw l D dA q yL_allowed cL_allowed 5 [(0, 15, 16, 15), (0, 15, 21, 17)] [.ref (q 0), .int a1, .int a2, .int a3] w r w := by
  unfold l_allowed at h
  obtain ⟨x, ex, h⟩ := h_cs h
  obtain ⟨g, h⟩ := h_gs h
  obtain rfl := Option.some.inj h
  exact d_L_allowed l hfl D dA q a1 a2 a3 w x ex (fun k hk => by have g2 := okX_m g k hk; simpa using g2)
set_option maxHeartbeats 4000000 in
set_option maxRecDepth 20000 in
theorem d_L_pass (l : Launch) (hfl : l.stackTraces = false) (D : va_G) (dA : Nat → ClassId) (q : Nat → Nat) (a1 : Int32) (w w' : Wt) (res : Nat ⊕ Int32) (h : f_Ballotscript_pass a1 w = some (res, w')) (hres : ∀ k, res = .inl k → k = 1 ∨ k = 2) : Mw l D dA q yL_pass cL_pass 3 [(0, 5, 6, 17), (0, 5, 10, 19)] [.ref (q 0), .int a1] w (cdW res) w' :=
  mk_w (own := RL) (by decide) rfl (Nat.le_of_ble_eq_true rfl) (fun p e s m args below meth c A Q ls hx hb hml htab C hNC S hl fin => by
    have hl : lv_has ls 3 [(0, .ref (q 0)), (1, .int a1)] := hl
    have hS0 := S
    refine lv_aload_n hx hb dL_pass_0 rfl (lv_at hl 0 rfl) ?_
    refine lv_iload_n hx hb dL_pass_1 rfl (lv_at hl 1 rfl) ?_
    refine kw_i C S (x_V (rest := []) (As := [.int a1]) lk_RL_29 EVc_ok hx hb hml C S KC_0 rfl (c_f_Ballotscript_pass l hfl D dA q a1 w w' res h _) rfl rfl ⟨(Nat.le_of_ble_eq_true rfl), (Nat.le_of_ble_eq_true rfl)⟩ rfl hl.1 rfl (Nat.le_of_ble_eq_true rfl) dL_pass_2 ⟨(Nat.le_of_ble_eq_true rfl), (Nat.le_of_ble_eq_true rfl)⟩) (fun k er H locs q9 ce S h1 h2 h3 => ?_) (fun r er H locs S => ?_)
    · rcases hres k er with rfl | rfl
      · refine kl_catch (k := 1) 0 htab C.1 C.2.2.2.2.2.2.1 C.2.1 hNC (h := (0, 5, 6, 17)) rfl (by decide) (by intro z hz; cases hz) (by decide) (by decide) cle_17 cae_1 h1 h2 h3 ?_
        refine lv_astore_n (lv' := [(2, .ref q9), (0, .ref (q 0)), (1, .int a1)]) hx hb dL_pass_6 rfl hl (Nat.le_of_ble_eq_true rfl) rfl (fun ls hl => ?_)
        refine lv_bipush (v := -102) hx hb dL_pass_7 (by decide) ?_
        exact fin H locs ls (-102) _ _ _ (Nat.le_of_ble_eq_true rfl) (Nat.le_of_ble_eq_true rfl) S (by rw [er]; rfl) dL_pass_9
      · refine kl_catch (k := 2) 1 htab C.1 C.2.2.2.2.2.2.1 C.2.1 hNC (h := (0, 5, 10, 19)) rfl (by decide) (by
        intro z hz
        simp only [List.take, List.mem_cons, List.not_mem_nil, or_false] at hz
        subst hz
        exact ⟨by decide, 1, by decide, by decide, cle_17⟩) (by decide) (by decide) cle_19 cae_2 h1 h2 h3 ?_
        refine lv_astore_n (lv' := [(2, .ref q9), (0, .ref (q 0)), (1, .int a1)]) hx hb dL_pass_10 rfl hl (Nat.le_of_ble_eq_true rfl) rfl (fun ls hl => ?_)
        refine lv_bipush (v := -103) hx hb dL_pass_11 (by decide) ?_
        exact fin H locs ls (-103) _ _ _ (Nat.le_of_ble_eq_true rfl) (Nat.le_of_ble_eq_true rfl) S (by rw [er]; rfl) dL_pass_13
    · subst er
      exact fin H locs ls r _ _ _ (Nat.le_of_ble_eq_true rfl) (Nat.le_of_ble_eq_true rfl) S rfl dL_pass_5)
theorem c_l_pass (l : Launch) (hfl : l.stackTraces = false) (D : va_G) (dA : Nat → ClassId) (q : Nat → Nat) (a1 : Int32) (w w' : Wt) (r : Int32) (h : l_pass a1 w = some (r, w')) : Mw l D dA q yL_pass cL_pass 3 [(0, 5, 6, 17), (0, 5, 10, 19)] [.ref (q 0), .int a1] w r w' := by
  unfold l_pass at h
  obtain ⟨x, ex, h⟩ := h_cs h
  obtain ⟨g, h⟩ := h_gs h
  obtain ⟨x1, x2⟩ := x
  obtain ⟨rfl, rfl⟩ := Prod.mk.inj (Option.some.inj h)
  exact d_L_pass l hfl D dA q a1 w x2 x1 ex (fun k hk => by have g2 := okX_m g k hk; simpa using g2)
set_option maxHeartbeats 4000000 in
set_option maxRecDepth 20000 in
theorem d_L_type (l : Launch) (hfl : l.stackTraces = false) (D : va_G) (dA : Nat → ClassId) (q : Nat → Nat) (a1 : Int32) (w w' : Wt) (res : Nat ⊕ Int32) (h : f_Ballotscript_type ((a1.toUInt32 % 65536).toInt32) w = some (res, w')) (hres : ∀ k, res = .inl k → k = 1 ∨ k = 2) : Mw l D dA q yL_type cL_type 3 [(0, 6, 7, 17), (0, 6, 11, 19)] [.ref (q 0), .int a1] w (cdW res) w' :=
  mk_w (own := RL) (by decide) rfl (Nat.le_of_ble_eq_true rfl) (fun p e s m args below meth c A Q ls hx hb hml htab C hNC S hl fin => by
    have hl : lv_has ls 3 [(0, .ref (q 0)), (1, .int a1)] := hl
    have hS0 := S
    refine lv_aload_n hx hb dL_type_0 rfl (lv_at hl 0 rfl) ?_
    refine lv_iload_n hx hb dL_type_1 rfl (lv_at hl 1 rfl) ?_
    refine lv_i2c hx hb dL_type_2 rfl ?_
    refine kw_i C S (x_V (rest := []) (As := [.int ((a1.toUInt32 % 65536).toInt32)]) lk_RL_32 EVc_ok hx hb hml C S KC_0 rfl (c_f_Ballotscript_type l hfl D dA q ((a1.toUInt32 % 65536).toInt32) w w' res h _) rfl rfl ⟨(Nat.le_of_ble_eq_true rfl), (Nat.le_of_ble_eq_true rfl)⟩ rfl hl.1 rfl (Nat.le_of_ble_eq_true rfl) dL_type_3 ⟨(Nat.le_of_ble_eq_true rfl), (Nat.le_of_ble_eq_true rfl)⟩) (fun k er H locs q9 ce S h1 h2 h3 => ?_) (fun r er H locs S => ?_)
    · rcases hres k er with rfl | rfl
      · refine kl_catch (k := 1) 0 htab C.1 C.2.2.2.2.2.2.1 C.2.1 hNC (h := (0, 6, 7, 17)) rfl (by decide) (by intro z hz; cases hz) (by decide) (by decide) cle_17 cae_1 h1 h2 h3 ?_
        refine lv_astore_n (lv' := [(2, .ref q9), (0, .ref (q 0)), (1, .int a1)]) hx hb dL_type_7 rfl hl (Nat.le_of_ble_eq_true rfl) rfl (fun ls hl => ?_)
        refine lv_bipush (v := -102) hx hb dL_type_8 (by decide) ?_
        exact fin H locs ls (-102) _ _ _ (Nat.le_of_ble_eq_true rfl) (Nat.le_of_ble_eq_true rfl) S (by rw [er]; rfl) dL_type_10
      · refine kl_catch (k := 2) 1 htab C.1 C.2.2.2.2.2.2.1 C.2.1 hNC (h := (0, 6, 11, 19)) rfl (by decide) (by
        intro z hz
        simp only [List.take, List.mem_cons, List.not_mem_nil, or_false] at hz
        subst hz
        exact ⟨by decide, 1, by decide, by decide, cle_17⟩) (by decide) (by decide) cle_19 cae_2 h1 h2 h3 ?_
        refine lv_astore_n (lv' := [(2, .ref q9), (0, .ref (q 0)), (1, .int a1)]) hx hb dL_type_11 rfl hl (Nat.le_of_ble_eq_true rfl) rfl (fun ls hl => ?_)
        refine lv_bipush (v := -103) hx hb dL_type_12 (by decide) ?_
        exact fin H locs ls (-103) _ _ _ (Nat.le_of_ble_eq_true rfl) (Nat.le_of_ble_eq_true rfl) S (by rw [er]; rfl) dL_type_14
    · subst er
      exact fin H locs ls r _ _ _ (Nat.le_of_ble_eq_true rfl) (Nat.le_of_ble_eq_true rfl) S rfl dL_type_6)
theorem c_l_type (l : Launch) (hfl : l.stackTraces = false) (D : va_G) (dA : Nat → ClassId) (q : Nat → Nat) (a1 : Int32) (w w' : Wt) (r : Int32) (h : l_type a1 w = some (r, w')) : Mw l D dA q yL_type cL_type 3 [(0, 6, 7, 17), (0, 6, 11, 19)] [.ref (q 0), .int a1] w r w' := by
  unfold l_type at h
  obtain ⟨x, ex, h⟩ := h_cs h
  obtain ⟨g, h⟩ := h_gs h
  obtain ⟨x1, x2⟩ := x
  obtain ⟨rfl, rfl⟩ := Prod.mk.inj (Option.some.inj h)
  exact d_L_type l hfl D dA q a1 w x2 x1 ex (fun k hk => by have g2 := okX_m g k hk; simpa using g2)
set_option maxHeartbeats 4000000 in
set_option maxRecDepth 20000 in
theorem d_L_rule (l : Launch) (hfl : l.stackTraces = false) (D : va_G) (dA : Nat → ClassId) (q : Nat → Nat) (w w' : Wt) (res : Nat ⊕ Int32) (h : f_Ballotscript_rule w = some (res, w')) (hres : ∀ k, res = .inl k → k = 1 ∨ k = 2) : Mw l D dA q yL_rule cL_rule 2 [(0, 4, 5, 17), (0, 4, 9, 19)] [.ref (q 0)] w (cdW res) w' :=
  mk_w (own := RL) (by decide) rfl (Nat.le_of_ble_eq_true rfl) (fun p e s m args below meth c A Q ls hx hb hml htab C hNC S hl fin => by
    have hl : lv_has ls 2 [(0, .ref (q 0))] := hl
    have hS0 := S
    refine lv_aload_n hx hb dL_rule_0 rfl (lv_at hl 0 rfl) ?_
    refine kw_i C S (x_V (rest := []) (As := []) lk_RL_36 EVc_ok hx hb hml C S KC_0 rfl (c_f_Ballotscript_rule l hfl D dA q w w' res h _) rfl rfl ⟨(Nat.le_of_ble_eq_true rfl), (Nat.le_of_ble_eq_true rfl)⟩ rfl hl.1 rfl (Nat.le_of_ble_eq_true rfl) dL_rule_1 ⟨(Nat.le_of_ble_eq_true rfl), (Nat.le_of_ble_eq_true rfl)⟩) (fun k er H locs q9 ce S h1 h2 h3 => ?_) (fun r er H locs S => ?_)
    · rcases hres k er with rfl | rfl
      · refine kl_catch (k := 1) 0 htab C.1 C.2.2.2.2.2.2.1 C.2.1 hNC (h := (0, 4, 5, 17)) rfl (by decide) (by intro z hz; cases hz) (by decide) (by decide) cle_17 cae_1 h1 h2 h3 ?_
        refine lv_astore_n (lv' := [(1, .ref q9), (0, .ref (q 0))]) hx hb dL_rule_5 rfl hl (Nat.le_of_ble_eq_true rfl) rfl (fun ls hl => ?_)
        refine lv_bipush (v := -102) hx hb dL_rule_6 (by decide) ?_
        exact fin H locs ls (-102) _ _ _ (Nat.le_of_ble_eq_true rfl) (Nat.le_of_ble_eq_true rfl) S (by rw [er]; rfl) dL_rule_8
      · refine kl_catch (k := 2) 1 htab C.1 C.2.2.2.2.2.2.1 C.2.1 hNC (h := (0, 4, 9, 19)) rfl (by decide) (by
        intro z hz
        simp only [List.take, List.mem_cons, List.not_mem_nil, or_false] at hz
        subst hz
        exact ⟨by decide, 1, by decide, by decide, cle_17⟩) (by decide) (by decide) cle_19 cae_2 h1 h2 h3 ?_
        refine lv_astore_n (lv' := [(1, .ref q9), (0, .ref (q 0))]) hx hb dL_rule_9 rfl hl (Nat.le_of_ble_eq_true rfl) rfl (fun ls hl => ?_)
        refine lv_bipush (v := -103) hx hb dL_rule_10 (by decide) ?_
        exact fin H locs ls (-103) _ _ _ (Nat.le_of_ble_eq_true rfl) (Nat.le_of_ble_eq_true rfl) S (by rw [er]; rfl) dL_rule_12
    · subst er
      exact fin H locs ls r _ _ _ (Nat.le_of_ble_eq_true rfl) (Nat.le_of_ble_eq_true rfl) S rfl dL_rule_4)
theorem c_l_rule (l : Launch) (hfl : l.stackTraces = false) (D : va_G) (dA : Nat → ClassId) (q : Nat → Nat) (w w' : Wt) (r : Int32) (h : l_rule w = some (r, w')) : Mw l D dA q yL_rule cL_rule 2 [(0, 4, 5, 17), (0, 4, 9, 19)] [.ref (q 0)] w r w' := by
  unfold l_rule at h
  obtain ⟨x, ex, h⟩ := h_cs h
  obtain ⟨g, h⟩ := h_gs h
  obtain ⟨x1, x2⟩ := x
  obtain ⟨rfl, rfl⟩ := Prod.mk.inj (Option.some.inj h)
  exact d_L_rule l hfl D dA q w x2 x1 ex (fun k hk => by have g2 := okX_m g k hk; simpa using g2)
set_option maxHeartbeats 4000000 in
set_option maxRecDepth 20000 in
theorem d_L_mend (l : Launch) (hfl : l.stackTraces = false) (D : va_G) (dA : Nat → ClassId) (q : Nat → Nat) (a1 : Int32) (w w' : Wt) (res : Nat ⊕ Int32) (h : f_Ballotscript_mend a1 w = some (res, w')) (hres : ∀ k, res = .inl k → k = 0 ∨ k = 1) : Mw l D dA q yL_mend cL_mend 3 [(0, 5, 6, 15), (0, 5, 10, 17)] [.ref (q 0), .int a1] w (cdW res) w' :=
  mk_w (own := RL) (by decide) rfl (Nat.le_of_ble_eq_true rfl) (fun p e s m args below meth c A Q ls hx hb hml htab C hNC S hl fin => by
    have hl : lv_has ls 3 [(0, .ref (q 0)), (1, .int a1)] := hl
    have hS0 := S
    refine lv_aload_n hx hb dL_mend_0 rfl (lv_at hl 0 rfl) ?_
    refine lv_iload_n hx hb dL_mend_1 rfl (lv_at hl 1 rfl) ?_
    refine kw_i C S (x_V (rest := []) (As := [.int a1]) lk_RL_40 EVc_ok hx hb hml C S KC_0 rfl (c_f_Ballotscript_mend l hfl D dA q a1 w w' res h _) rfl rfl ⟨(Nat.le_of_ble_eq_true rfl), (Nat.le_of_ble_eq_true rfl)⟩ rfl hl.1 rfl (Nat.le_of_ble_eq_true rfl) dL_mend_2 ⟨(Nat.le_of_ble_eq_true rfl), (Nat.le_of_ble_eq_true rfl)⟩) (fun k er H locs q9 ce S h1 h2 h3 => ?_) (fun r er H locs S => ?_)
    · rcases hres k er with rfl | rfl
      · refine kl_catch (k := 0) 0 htab C.1 C.2.2.2.2.2.2.1 C.2.1 hNC (h := (0, 5, 6, 15)) rfl (by decide) (by intro z hz; cases hz) (by decide) (by decide) cle_15 cae_0 h1 h2 h3 ?_
        refine lv_astore_n (lv' := [(2, .ref q9), (0, .ref (q 0)), (1, .int a1)]) hx hb dL_mend_6 rfl hl (Nat.le_of_ble_eq_true rfl) rfl (fun ls hl => ?_)
        refine lv_bipush (v := -101) hx hb dL_mend_7 (by decide) ?_
        exact fin H locs ls (-101) _ _ _ (Nat.le_of_ble_eq_true rfl) (Nat.le_of_ble_eq_true rfl) S (by rw [er]; rfl) dL_mend_9
      · refine kl_catch (k := 1) 1 htab C.1 C.2.2.2.2.2.2.1 C.2.1 hNC (h := (0, 5, 10, 17)) rfl (by decide) (by
        intro z hz
        simp only [List.take, List.mem_cons, List.not_mem_nil, or_false] at hz
        subst hz
        exact ⟨by decide, 0, by decide, by decide, cle_15⟩) (by decide) (by decide) cle_17 cae_1 h1 h2 h3 ?_
        refine lv_astore_n (lv' := [(2, .ref q9), (0, .ref (q 0)), (1, .int a1)]) hx hb dL_mend_10 rfl hl (Nat.le_of_ble_eq_true rfl) rfl (fun ls hl => ?_)
        refine lv_bipush (v := -102) hx hb dL_mend_11 (by decide) ?_
        exact fin H locs ls (-102) _ _ _ (Nat.le_of_ble_eq_true rfl) (Nat.le_of_ble_eq_true rfl) S (by rw [er]; rfl) dL_mend_13
    · subst er
      exact fin H locs ls r _ _ _ (Nat.le_of_ble_eq_true rfl) (Nat.le_of_ble_eq_true rfl) S rfl dL_mend_5)
theorem c_l_mend (l : Launch) (hfl : l.stackTraces = false) (D : va_G) (dA : Nat → ClassId) (q : Nat → Nat) (a1 : Int32) (w w' : Wt) (r : Int32) (h : l_mend a1 w = some (r, w')) : Mw l D dA q yL_mend cL_mend 3 [(0, 5, 6, 15), (0, 5, 10, 17)] [.ref (q 0), .int a1] w r w' := by
  unfold l_mend at h
  obtain ⟨x, ex, h⟩ := h_cs h
  obtain ⟨g, h⟩ := h_gs h
  obtain ⟨x1, x2⟩ := x
  obtain ⟨rfl, rfl⟩ := Prod.mk.inj (Option.some.inj h)
  exact d_L_mend l hfl D dA q a1 w x2 x1 ex (fun k hk => by have g2 := okX_m g k hk; simpa using g2)
set_option maxHeartbeats 4000000 in
set_option maxRecDepth 20000 in
theorem d_L_commands (l : Launch) (hfl : l.stackTraces = false) (D : va_G) (dA : Nat → ClassId) (q : Nat → Nat) (a1 : Int32) (w : Wt) (res : Nat ⊕ Int32) (h : f_Ballotscript_commands a1 w = some res) (hres : ∀ k, res = .inl k → k = 0) : Mw l D dA q yL_commands cL_commands 3 [(0, 5, 6, 15)] [.ref (q 0), .int a1] w (cdW res) w :=
  mk_w (own := RL) (by decide) rfl (Nat.le_of_ble_eq_true rfl) (fun p e s m args below meth c A Q ls hx hb hml htab C hNC S hl fin => by
    have hl : lv_has ls 3 [(0, .ref (q 0)), (1, .int a1)] := hl
    have hS0 := S
    refine lv_aload_n hx hb dL_commands_0 rfl (lv_at hl 0 rfl) ?_
    refine lv_iload_n hx hb dL_commands_1 rfl (lv_at hl 1 rfl) ?_
    refine kw_i C S (x_V (rest := []) (As := [.int a1]) lk_RL_43 EVc_ok hx hb hml C S KC_0 rfl (c_f_Ballotscript_commands l hfl D dA q a1 w res h _) rfl rfl ⟨(Nat.le_of_ble_eq_true rfl), (Nat.le_of_ble_eq_true rfl)⟩ rfl hl.1 rfl (Nat.le_of_ble_eq_true rfl) dL_commands_2 ⟨(Nat.le_of_ble_eq_true rfl), (Nat.le_of_ble_eq_true rfl)⟩) (fun k er H locs q9 ce S h1 h2 h3 => ?_) (fun r er H locs S => ?_)
    · obtain rfl := hres k er
      refine kl_catch (k := 0) 0 htab C.1 C.2.2.2.2.2.2.1 C.2.1 hNC (h := (0, 5, 6, 15)) rfl (by decide) (by intro z hz; cases hz) (by decide) (by decide) cle_15 cae_0 h1 h2 h3 ?_
      refine lv_astore_n (lv' := [(2, .ref q9), (0, .ref (q 0)), (1, .int a1)]) hx hb dL_commands_6 rfl hl (Nat.le_of_ble_eq_true rfl) rfl (fun ls hl => ?_)
      refine lv_bipush (v := -101) hx hb dL_commands_7 (by decide) ?_
      exact fin H locs ls (-101) _ _ _ (Nat.le_of_ble_eq_true rfl) (Nat.le_of_ble_eq_true rfl) S (by rw [er]; rfl) dL_commands_9
    · subst er
      exact fin H locs ls r _ _ _ (Nat.le_of_ble_eq_true rfl) (Nat.le_of_ble_eq_true rfl) S rfl dL_commands_5)
theorem c_l_commands (l : Launch) (hfl : l.stackTraces = false) (D : va_G) (dA : Nat → ClassId) (q : Nat → Nat) (a1 : Int32) (w : Wt) (r : Int32) (h : l_commands a1 w = some r) : Mw l D dA q yL_commands cL_commands 3 [(0, 5, 6, 15)] [.ref (q 0), .int a1] w r w := by
  unfold l_commands at h
  obtain ⟨x, ex, h⟩ := h_cs h
  obtain ⟨g, h⟩ := h_gs h
  obtain rfl := Option.some.inj h
  exact d_L_commands l hfl D dA q a1 w x ex (fun k hk => by have g2 := okX_m g k hk; simpa using g2)
set_option maxHeartbeats 4000000 in
set_option maxRecDepth 20000 in
theorem d_L_open (l : Launch) (hfl : l.stackTraces = false) (D : va_G) (dA : Nat → ClassId) (q : Nat → Nat) (a1 : Int32) (a2 : Int32) (a3 : Int32) (a4 : Int32) (w w' : Wt) (res : Nat ⊕ Int32) (h : f_Ballotscript_open a1 a2 a3 a4 w = some (res, w')) (hres : ∀ k, res = .inl k → k = 0 ∨ k = 1 ∨ k = 2) : Mw l D dA q yL_open cL_open 6 [(0, 9, 10, 15), (0, 9, 15, 17), (0, 9, 20, 19)] [.ref (q 0), .int a1, .int a2, .int a3, .int a4] w (cdW res) w' :=
  mk_w (own := RL) (by decide) rfl (Nat.le_of_ble_eq_true rfl) (fun p e s m args below meth c A Q ls hx hb hml htab C hNC S hl fin => by
    have hl : lv_has ls 6 [(0, .ref (q 0)), (1, .int a1), (2, .int a2), (3, .int a3), (4, .int a4)] := hl
    have hS0 := S
    refine lv_aload_n hx hb dL_open_0 rfl (lv_at hl 0 rfl) ?_
    refine lv_iload_n hx hb dL_open_1 rfl (lv_at hl 1 rfl) ?_
    refine lv_iload_n hx hb dL_open_2 rfl (lv_at hl 2 rfl) ?_
    refine lv_iload_n hx hb dL_open_3 rfl (lv_at hl 3 rfl) ?_
    refine lv_iload hx hb dL_open_4 (lv_at hl 4 rfl) ?_
    refine kw_i C S (x_V (rest := []) (As := [.int a1, .int a2, .int a3, .int a4]) lk_RL_46 EVc_ok hx hb hml C S KC_0 rfl (c_f_Ballotscript_open l hfl D dA q a1 a2 a3 a4 w w' res h _) rfl rfl ⟨(Nat.le_of_ble_eq_true rfl), (Nat.le_of_ble_eq_true rfl)⟩ rfl hl.1 rfl (Nat.le_of_ble_eq_true rfl) dL_open_6 ⟨(Nat.le_of_ble_eq_true rfl), (Nat.le_of_ble_eq_true rfl)⟩) (fun k er H locs q9 ce S h1 h2 h3 => ?_) (fun r er H locs S => ?_)
    · rcases hres k er with rfl | rfl | rfl
      · refine kl_catch (k := 0) 0 htab C.1 C.2.2.2.2.2.2.1 C.2.1 hNC (h := (0, 9, 10, 15)) rfl (by decide) (by intro z hz; cases hz) (by decide) (by decide) cle_15 cae_0 h1 h2 h3 ?_
        refine lv_astore (lv' := [(5, .ref q9), (0, .ref (q 0)), (1, .int a1), (2, .int a2), (3, .int a3), (4, .int a4)]) hx hb dL_open_10 hl (Nat.le_of_ble_eq_true rfl) rfl (fun ls hl => ?_)
        refine lv_bipush (v := -101) hx hb dL_open_12 (by decide) ?_
        exact fin H locs ls (-101) _ _ _ (Nat.le_of_ble_eq_true rfl) (Nat.le_of_ble_eq_true rfl) S (by rw [er]; rfl) dL_open_14
      · refine kl_catch (k := 1) 1 htab C.1 C.2.2.2.2.2.2.1 C.2.1 hNC (h := (0, 9, 15, 17)) rfl (by decide) (by
        intro z hz
        simp only [List.take, List.mem_cons, List.not_mem_nil, or_false] at hz
        subst hz
        exact ⟨by decide, 0, by decide, by decide, cle_15⟩) (by decide) (by decide) cle_17 cae_1 h1 h2 h3 ?_
        refine lv_astore (lv' := [(5, .ref q9), (0, .ref (q 0)), (1, .int a1), (2, .int a2), (3, .int a3), (4, .int a4)]) hx hb dL_open_15 hl (Nat.le_of_ble_eq_true rfl) rfl (fun ls hl => ?_)
        refine lv_bipush (v := -102) hx hb dL_open_17 (by decide) ?_
        exact fin H locs ls (-102) _ _ _ (Nat.le_of_ble_eq_true rfl) (Nat.le_of_ble_eq_true rfl) S (by rw [er]; rfl) dL_open_19
      · refine kl_catch (k := 2) 2 htab C.1 C.2.2.2.2.2.2.1 C.2.1 hNC (h := (0, 9, 20, 19)) rfl (by decide) (by
        intro z hz
        simp only [List.take, List.mem_cons, List.not_mem_nil, or_false] at hz
        rcases hz with rfl | rfl
        · exact ⟨by decide, 0, by decide, by decide, cle_15⟩
        · exact ⟨by decide, 1, by decide, by decide, cle_17⟩) (by decide) (by decide) cle_19 cae_2 h1 h2 h3 ?_
        refine lv_astore (lv' := [(5, .ref q9), (0, .ref (q 0)), (1, .int a1), (2, .int a2), (3, .int a3), (4, .int a4)]) hx hb dL_open_20 hl (Nat.le_of_ble_eq_true rfl) rfl (fun ls hl => ?_)
        refine lv_bipush (v := -103) hx hb dL_open_22 (by decide) ?_
        exact fin H locs ls (-103) _ _ _ (Nat.le_of_ble_eq_true rfl) (Nat.le_of_ble_eq_true rfl) S (by rw [er]; rfl) dL_open_24
    · subst er
      exact fin H locs ls r _ _ _ (Nat.le_of_ble_eq_true rfl) (Nat.le_of_ble_eq_true rfl) S rfl dL_open_9)
theorem c_l_open (l : Launch) (hfl : l.stackTraces = false) (D : va_G) (dA : Nat → ClassId) (q : Nat → Nat) (a1 : Int32) (a2 : Int32) (a3 : Int32) (a4 : Int32) (w w' : Wt) (r : Int32) (h : l_open a1 a2 a3 a4 w = some (r, w')) : Mw l D dA q yL_open cL_open 6 [(0, 9, 10, 15), (0, 9, 15, 17), (0, 9, 20, 19)] [.ref (q 0), .int a1, .int a2, .int a3, .int a4] w r w' := by
  unfold l_open at h
  obtain ⟨x, ex, h⟩ := h_cs h
  obtain ⟨g, h⟩ := h_gs h
  obtain ⟨x1, x2⟩ := x
  obtain ⟨rfl, rfl⟩ := Prod.mk.inj (Option.some.inj h)
  exact d_L_open l hfl D dA q a1 a2 a3 a4 w x2 x1 ex (fun k hk => by have g2 := okX_m g k hk; simpa using g2)
set_option maxHeartbeats 4000000 in
set_option maxRecDepth 20000 in
theorem d_L_close (l : Launch) (hfl : l.stackTraces = false) (D : va_G) (dA : Nat → ClassId) (q : Nat → Nat) (a1 : Int32) (w w' : Wt) (res : Nat ⊕ Int32) (h : f_Ballotscript_close a1 w = some (res, w')) (hres : ∀ k, res = .inl k → k = 0 ∨ k = 2) : Mw l D dA q yL_close cL_close 3 [(0, 5, 6, 15), (0, 5, 10, 19)] [.ref (q 0), .int a1] w (cdW res) w' :=
  mk_w (own := RL) (by decide) rfl (Nat.le_of_ble_eq_true rfl) (fun p e s m args below meth c A Q ls hx hb hml htab C hNC S hl fin => by
    have hl : lv_has ls 3 [(0, .ref (q 0)), (1, .int a1)] := hl
    have hS0 := S
    refine lv_aload_n hx hb dL_close_0 rfl (lv_at hl 0 rfl) ?_
    refine lv_iload_n hx hb dL_close_1 rfl (lv_at hl 1 rfl) ?_
    refine kw_i C S (x_V (rest := []) (As := [.int a1]) lk_RL_49 EVc_ok hx hb hml C S KC_0 rfl (c_f_Ballotscript_close l hfl D dA q a1 w w' res h _) rfl rfl ⟨(Nat.le_of_ble_eq_true rfl), (Nat.le_of_ble_eq_true rfl)⟩ rfl hl.1 rfl (Nat.le_of_ble_eq_true rfl) dL_close_2 ⟨(Nat.le_of_ble_eq_true rfl), (Nat.le_of_ble_eq_true rfl)⟩) (fun k er H locs q9 ce S h1 h2 h3 => ?_) (fun r er H locs S => ?_)
    · rcases hres k er with rfl | rfl
      · refine kl_catch (k := 0) 0 htab C.1 C.2.2.2.2.2.2.1 C.2.1 hNC (h := (0, 5, 6, 15)) rfl (by decide) (by intro z hz; cases hz) (by decide) (by decide) cle_15 cae_0 h1 h2 h3 ?_
        refine lv_astore_n (lv' := [(2, .ref q9), (0, .ref (q 0)), (1, .int a1)]) hx hb dL_close_6 rfl hl (Nat.le_of_ble_eq_true rfl) rfl (fun ls hl => ?_)
        refine lv_bipush (v := -101) hx hb dL_close_7 (by decide) ?_
        exact fin H locs ls (-101) _ _ _ (Nat.le_of_ble_eq_true rfl) (Nat.le_of_ble_eq_true rfl) S (by rw [er]; rfl) dL_close_9
      · refine kl_catch (k := 2) 1 htab C.1 C.2.2.2.2.2.2.1 C.2.1 hNC (h := (0, 5, 10, 19)) rfl (by decide) (by
        intro z hz
        simp only [List.take, List.mem_cons, List.not_mem_nil, or_false] at hz
        subst hz
        exact ⟨by decide, 0, by decide, by decide, cle_15⟩) (by decide) (by decide) cle_19 cae_2 h1 h2 h3 ?_
        refine lv_astore_n (lv' := [(2, .ref q9), (0, .ref (q 0)), (1, .int a1)]) hx hb dL_close_10 rfl hl (Nat.le_of_ble_eq_true rfl) rfl (fun ls hl => ?_)
        refine lv_bipush (v := -103) hx hb dL_close_11 (by decide) ?_
        exact fin H locs ls (-103) _ _ _ (Nat.le_of_ble_eq_true rfl) (Nat.le_of_ble_eq_true rfl) S (by rw [er]; rfl) dL_close_13
    · subst er
      exact fin H locs ls r _ _ _ (Nat.le_of_ble_eq_true rfl) (Nat.le_of_ble_eq_true rfl) S rfl dL_close_5)
theorem c_l_close (l : Launch) (hfl : l.stackTraces = false) (D : va_G) (dA : Nat → ClassId) (q : Nat → Nat) (a1 : Int32) (w w' : Wt) (r : Int32) (h : l_close a1 w = some (r, w')) : Mw l D dA q yL_close cL_close 3 [(0, 5, 6, 15), (0, 5, 10, 19)] [.ref (q 0), .int a1] w r w' := by
  unfold l_close at h
  obtain ⟨x, ex, h⟩ := h_cs h
  obtain ⟨g, h⟩ := h_gs h
  obtain ⟨x1, x2⟩ := x
  obtain ⟨rfl, rfl⟩ := Prod.mk.inj (Option.some.inj h)
  exact d_L_close l hfl D dA q a1 w x2 x1 ex (fun k hk => by have g2 := okX_m g k hk; simpa using g2)
set_option maxHeartbeats 4000000 in
set_option maxRecDepth 20000 in
theorem d_L_mark (l : Launch) (hfl : l.stackTraces = false) (D : va_G) (dA : Nat → ClassId) (q : Nat → Nat) (a1 : Int32) (w w' : Wt) (res : Nat ⊕ Int32) (h : f_Ballotscript_mark a1 w = some (res, w')) (hres : ∀ k, res = .inl k → k = 0 ∨ k = 2) : Mw l D dA q yL_mark cL_mark 3 [(0, 5, 6, 15), (0, 5, 10, 19)] [.ref (q 0), .int a1] w (cdW res) w' :=
  mk_w (own := RL) (by decide) rfl (Nat.le_of_ble_eq_true rfl) (fun p e s m args below meth c A Q ls hx hb hml htab C hNC S hl fin => by
    have hl : lv_has ls 3 [(0, .ref (q 0)), (1, .int a1)] := hl
    have hS0 := S
    refine lv_aload_n hx hb dL_mark_0 rfl (lv_at hl 0 rfl) ?_
    refine lv_iload_n hx hb dL_mark_1 rfl (lv_at hl 1 rfl) ?_
    refine kw_i C S (x_V (rest := []) (As := [.int a1]) lk_RL_52 EVc_ok hx hb hml C S KC_0 rfl (c_f_Ballotscript_mark l hfl D dA q a1 w w' res h _) rfl rfl ⟨(Nat.le_of_ble_eq_true rfl), (Nat.le_of_ble_eq_true rfl)⟩ rfl hl.1 rfl (Nat.le_of_ble_eq_true rfl) dL_mark_2 ⟨(Nat.le_of_ble_eq_true rfl), (Nat.le_of_ble_eq_true rfl)⟩) (fun k er H locs q9 ce S h1 h2 h3 => ?_) (fun r er H locs S => ?_)
    · rcases hres k er with rfl | rfl
      · refine kl_catch (k := 0) 0 htab C.1 C.2.2.2.2.2.2.1 C.2.1 hNC (h := (0, 5, 6, 15)) rfl (by decide) (by intro z hz; cases hz) (by decide) (by decide) cle_15 cae_0 h1 h2 h3 ?_
        refine lv_astore_n (lv' := [(2, .ref q9), (0, .ref (q 0)), (1, .int a1)]) hx hb dL_mark_6 rfl hl (Nat.le_of_ble_eq_true rfl) rfl (fun ls hl => ?_)
        refine lv_bipush (v := -101) hx hb dL_mark_7 (by decide) ?_
        exact fin H locs ls (-101) _ _ _ (Nat.le_of_ble_eq_true rfl) (Nat.le_of_ble_eq_true rfl) S (by rw [er]; rfl) dL_mark_9
      · refine kl_catch (k := 2) 1 htab C.1 C.2.2.2.2.2.2.1 C.2.1 hNC (h := (0, 5, 10, 19)) rfl (by decide) (by
        intro z hz
        simp only [List.take, List.mem_cons, List.not_mem_nil, or_false] at hz
        subst hz
        exact ⟨by decide, 0, by decide, by decide, cle_15⟩) (by decide) (by decide) cle_19 cae_2 h1 h2 h3 ?_
        refine lv_astore_n (lv' := [(2, .ref q9), (0, .ref (q 0)), (1, .int a1)]) hx hb dL_mark_10 rfl hl (Nat.le_of_ble_eq_true rfl) rfl (fun ls hl => ?_)
        refine lv_bipush (v := -103) hx hb dL_mark_11 (by decide) ?_
        exact fin H locs ls (-103) _ _ _ (Nat.le_of_ble_eq_true rfl) (Nat.le_of_ble_eq_true rfl) S (by rw [er]; rfl) dL_mark_13
    · subst er
      exact fin H locs ls r _ _ _ (Nat.le_of_ble_eq_true rfl) (Nat.le_of_ble_eq_true rfl) S rfl dL_mark_5)
theorem c_l_mark (l : Launch) (hfl : l.stackTraces = false) (D : va_G) (dA : Nat → ClassId) (q : Nat → Nat) (a1 : Int32) (w w' : Wt) (r : Int32) (h : l_mark a1 w = some (r, w')) : Mw l D dA q yL_mark cL_mark 3 [(0, 5, 6, 15), (0, 5, 10, 19)] [.ref (q 0), .int a1] w r w' := by
  unfold l_mark at h
  obtain ⟨x, ex, h⟩ := h_cs h
  obtain ⟨g, h⟩ := h_gs h
  obtain ⟨x1, x2⟩ := x
  obtain ⟨rfl, rfl⟩ := Prod.mk.inj (Option.some.inj h)
  exact d_L_mark l hfl D dA q a1 w x2 x1 ex (fun k hk => by have g2 := okX_m g k hk; simpa using g2)
set_option maxHeartbeats 4000000 in
set_option maxRecDepth 20000 in
theorem d_L_cast (l : Launch) (hfl : l.stackTraces = false) (D : va_G) (dA : Nat → ClassId) (q : Nat → Nat) (a1 : Int32) (a2 : Int32) (w w' : Wt) (res : Nat ⊕ Int32) (h : f_Ballotscript_cast a1 a2 w = some (res, w')) (hres : ∀ k, res = .inl k → k = 0 ∨ k = 2) : Mw l D dA q yL_cast cL_cast 4 [(0, 6, 7, 15), (0, 6, 11, 19)] [.ref (q 0), .int a1, .int a2] w (cdW res) w' :=
  mk_w (own := RL) (by decide) rfl (Nat.le_of_ble_eq_true rfl) (fun p e s m args below meth c A Q ls hx hb hml htab C hNC S hl fin => by
    have hl : lv_has ls 4 [(0, .ref (q 0)), (1, .int a1), (2, .int a2)] := hl
    have hS0 := S
    refine lv_aload_n hx hb dL_cast_0 rfl (lv_at hl 0 rfl) ?_
    refine lv_iload_n hx hb dL_cast_1 rfl (lv_at hl 1 rfl) ?_
    refine lv_iload_n hx hb dL_cast_2 rfl (lv_at hl 2 rfl) ?_
    refine kw_i C S (x_V (rest := []) (As := [.int a1, .int a2]) lk_RL_55 EVc_ok hx hb hml C S KC_0 rfl (c_f_Ballotscript_cast l hfl D dA q a1 a2 w w' res h _) rfl rfl ⟨(Nat.le_of_ble_eq_true rfl), (Nat.le_of_ble_eq_true rfl)⟩ rfl hl.1 rfl (Nat.le_of_ble_eq_true rfl) dL_cast_3 ⟨(Nat.le_of_ble_eq_true rfl), (Nat.le_of_ble_eq_true rfl)⟩) (fun k er H locs q9 ce S h1 h2 h3 => ?_) (fun r er H locs S => ?_)
    · rcases hres k er with rfl | rfl
      · refine kl_catch (k := 0) 0 htab C.1 C.2.2.2.2.2.2.1 C.2.1 hNC (h := (0, 6, 7, 15)) rfl (by decide) (by intro z hz; cases hz) (by decide) (by decide) cle_15 cae_0 h1 h2 h3 ?_
        refine lv_astore_n (lv' := [(3, .ref q9), (0, .ref (q 0)), (1, .int a1), (2, .int a2)]) hx hb dL_cast_7 rfl hl (Nat.le_of_ble_eq_true rfl) rfl (fun ls hl => ?_)
        refine lv_bipush (v := -101) hx hb dL_cast_8 (by decide) ?_
        exact fin H locs ls (-101) _ _ _ (Nat.le_of_ble_eq_true rfl) (Nat.le_of_ble_eq_true rfl) S (by rw [er]; rfl) dL_cast_10
      · refine kl_catch (k := 2) 1 htab C.1 C.2.2.2.2.2.2.1 C.2.1 hNC (h := (0, 6, 11, 19)) rfl (by decide) (by
        intro z hz
        simp only [List.take, List.mem_cons, List.not_mem_nil, or_false] at hz
        subst hz
        exact ⟨by decide, 0, by decide, by decide, cle_15⟩) (by decide) (by decide) cle_19 cae_2 h1 h2 h3 ?_
        refine lv_astore_n (lv' := [(3, .ref q9), (0, .ref (q 0)), (1, .int a1), (2, .int a2)]) hx hb dL_cast_11 rfl hl (Nat.le_of_ble_eq_true rfl) rfl (fun ls hl => ?_)
        refine lv_bipush (v := -103) hx hb dL_cast_12 (by decide) ?_
        exact fin H locs ls (-103) _ _ _ (Nat.le_of_ble_eq_true rfl) (Nat.le_of_ble_eq_true rfl) S (by rw [er]; rfl) dL_cast_14
    · subst er
      exact fin H locs ls r _ _ _ (Nat.le_of_ble_eq_true rfl) (Nat.le_of_ble_eq_true rfl) S rfl dL_cast_6)
theorem c_l_cast (l : Launch) (hfl : l.stackTraces = false) (D : va_G) (dA : Nat → ClassId) (q : Nat → Nat) (a1 : Int32) (a2 : Int32) (w w' : Wt) (r : Int32) (h : l_cast a1 a2 w = some (r, w')) : Mw l D dA q yL_cast cL_cast 4 [(0, 6, 7, 15), (0, 6, 11, 19)] [.ref (q 0), .int a1, .int a2] w r w' := by
  unfold l_cast at h
  obtain ⟨x, ex, h⟩ := h_cs h
  obtain ⟨g, h⟩ := h_gs h
  obtain ⟨x1, x2⟩ := x
  obtain ⟨rfl, rfl⟩ := Prod.mk.inj (Option.some.inj h)
  exact d_L_cast l hfl D dA q a1 a2 w x2 x1 ex (fun k hk => by have g2 := okX_m g k hk; simpa using g2)
set_option maxHeartbeats 4000000 in
set_option maxRecDepth 20000 in
theorem d_L_why (l : Launch) (hfl : l.stackTraces = false) (D : va_G) (dA : Nat → ClassId) (q : Nat → Nat) (a1 : Int32) (w : Wt) (res : Nat ⊕ Int32) (h : f_Ballotscript_why a1 w = some res) (hres : ∀ k, res = .inl k → k = 0) : Mw l D dA q yL_why cL_why 3 [(0, 5, 6, 15)] [.ref (q 0), .int a1] w (cdW res) w :=
  mk_w (own := RL) (by decide) rfl (Nat.le_of_ble_eq_true rfl) (fun p e s m args below meth c A Q ls hx hb hml htab C hNC S hl fin => by
    have hl : lv_has ls 3 [(0, .ref (q 0)), (1, .int a1)] := hl
    have hS0 := S
    refine lv_aload_n hx hb dL_why_0 rfl (lv_at hl 0 rfl) ?_
    refine lv_iload_n hx hb dL_why_1 rfl (lv_at hl 1 rfl) ?_
    refine kw_i C S (x_V (rest := []) (As := [.int a1]) lk_RL_59 EVc_ok hx hb hml C S KC_0 rfl (c_f_Ballotscript_why l hfl D dA q a1 w res h _) rfl rfl ⟨(Nat.le_of_ble_eq_true rfl), (Nat.le_of_ble_eq_true rfl)⟩ rfl hl.1 rfl (Nat.le_of_ble_eq_true rfl) dL_why_2 ⟨(Nat.le_of_ble_eq_true rfl), (Nat.le_of_ble_eq_true rfl)⟩) (fun k er H locs q9 ce S h1 h2 h3 => ?_) (fun r er H locs S => ?_)
    · obtain rfl := hres k er
      refine kl_catch (k := 0) 0 htab C.1 C.2.2.2.2.2.2.1 C.2.1 hNC (h := (0, 5, 6, 15)) rfl (by decide) (by intro z hz; cases hz) (by decide) (by decide) cle_15 cae_0 h1 h2 h3 ?_
      refine lv_astore_n (lv' := [(2, .ref q9), (0, .ref (q 0)), (1, .int a1)]) hx hb dL_why_6 rfl hl (Nat.le_of_ble_eq_true rfl) rfl (fun ls hl => ?_)
      refine lv_bipush (v := -101) hx hb dL_why_7 (by decide) ?_
      exact fin H locs ls (-101) _ _ _ (Nat.le_of_ble_eq_true rfl) (Nat.le_of_ble_eq_true rfl) S (by rw [er]; rfl) dL_why_9
    · subst er
      exact fin H locs ls r _ _ _ (Nat.le_of_ble_eq_true rfl) (Nat.le_of_ble_eq_true rfl) S rfl dL_why_5)
theorem c_l_why (l : Launch) (hfl : l.stackTraces = false) (D : va_G) (dA : Nat → ClassId) (q : Nat → Nat) (a1 : Int32) (w : Wt) (r : Int32) (h : l_why a1 w = some r) : Mw l D dA q yL_why cL_why 3 [(0, 5, 6, 15)] [.ref (q 0), .int a1] w r w := by
  unfold l_why at h
  obtain ⟨x, ex, h⟩ := h_cs h
  obtain ⟨g, h⟩ := h_gs h
  obtain rfl := Option.some.inj h
  exact d_L_why l hfl D dA q a1 w x ex (fun k hk => by have g2 := okX_m g k hk; simpa using g2)
set_option maxHeartbeats 4000000 in
set_option maxRecDepth 20000 in
theorem d_L_read (l : Launch) (hfl : l.stackTraces = false) (D : va_G) (dA : Nat → ClassId) (q : Nat → Nat) (a1 : Int32) (a2 : Int32) (w : Wt) (res : Nat ⊕ Int32) (h : f_Ballotscript_read a1 a2 w = some res) (hres : ∀ k, res = .inl k → k = 0) : Mw l D dA q yL_read cL_read 4 [(0, 6, 7, 15)] [.ref (q 0), .int a1, .int a2] w (cdW res) w :=
  mk_w (own := RL) (by decide) rfl (Nat.le_of_ble_eq_true rfl) (fun p e s m args below meth c A Q ls hx hb hml htab C hNC S hl fin => by
    have hl : lv_has ls 4 [(0, .ref (q 0)), (1, .int a1), (2, .int a2)] := hl
    have hS0 := S
    refine lv_aload_n hx hb dL_read_0 rfl (lv_at hl 0 rfl) ?_
    refine lv_iload_n hx hb dL_read_1 rfl (lv_at hl 1 rfl) ?_
    refine lv_iload_n hx hb dL_read_2 rfl (lv_at hl 2 rfl) ?_
    refine kw_i C S (x_V (rest := []) (As := [.int a1, .int a2]) lk_RL_62 EVc_ok hx hb hml C S KC_0 rfl (c_f_Ballotscript_read l hfl D dA q a1 a2 w res h _) rfl rfl ⟨(Nat.le_of_ble_eq_true rfl), (Nat.le_of_ble_eq_true rfl)⟩ rfl hl.1 rfl (Nat.le_of_ble_eq_true rfl) dL_read_3 ⟨(Nat.le_of_ble_eq_true rfl), (Nat.le_of_ble_eq_true rfl)⟩) (fun k er H locs q9 ce S h1 h2 h3 => ?_) (fun r er H locs S => ?_)
    · obtain rfl := hres k er
      refine kl_catch (k := 0) 0 htab C.1 C.2.2.2.2.2.2.1 C.2.1 hNC (h := (0, 6, 7, 15)) rfl (by decide) (by intro z hz; cases hz) (by decide) (by decide) cle_15 cae_0 h1 h2 h3 ?_
      refine lv_astore_n (lv' := [(3, .ref q9), (0, .ref (q 0)), (1, .int a1), (2, .int a2)]) hx hb dL_read_7 rfl hl (Nat.le_of_ble_eq_true rfl) rfl (fun ls hl => ?_)
      refine lv_bipush (v := -101) hx hb dL_read_8 (by decide) ?_
      exact fin H locs ls (-101) _ _ _ (Nat.le_of_ble_eq_true rfl) (Nat.le_of_ble_eq_true rfl) S (by rw [er]; rfl) dL_read_10
    · subst er
      exact fin H locs ls r _ _ _ (Nat.le_of_ble_eq_true rfl) (Nat.le_of_ble_eq_true rfl) S rfl dL_read_6)
theorem c_l_read (l : Launch) (hfl : l.stackTraces = false) (D : va_G) (dA : Nat → ClassId) (q : Nat → Nat) (a1 : Int32) (a2 : Int32) (w : Wt) (r : Int32) (h : l_read a1 a2 w = some r) : Mw l D dA q yL_read cL_read 4 [(0, 6, 7, 15)] [.ref (q 0), .int a1, .int a2] w r w := by
  unfold l_read at h
  obtain ⟨x, ex, h⟩ := h_cs h
  obtain ⟨g, h⟩ := h_gs h
  obtain rfl := Option.some.inj h
  exact d_L_read l hfl D dA q a1 a2 w x ex (fun k hk => by have g2 := okX_m g k hk; simpa using g2)
set_option maxHeartbeats 4000000 in
set_option maxRecDepth 20000 in
theorem d_L_misread (l : Launch) (hfl : l.stackTraces = false) (D : va_G) (dA : Nat → ClassId) (q : Nat → Nat) (a1 : Int32) (w w' : Wt) (res : Nat ⊕ Int32) (h : f_Ballotscript_misread a1 w = some (res, w')) (hres : ∀ k, res = .inl k → k = 0 ∨ k = 2) : Mw l D dA q yL_misread cL_misread 3 [(0, 5, 8, 15), (0, 5, 12, 19)] [.ref (q 0), .int a1] w (cdV res) w' :=
  mk_w (own := RL) (by decide) rfl (Nat.le_of_ble_eq_true rfl) (fun p e s m args below meth c A Q ls hx hb hml htab C hNC S hl fin => by
    have hl : lv_has ls 3 [(0, .ref (q 0)), (1, .int a1)] := hl
    have hS0 := S
    refine lv_aload_n hx hb dL_misread_0 rfl (lv_at hl 0 rfl) ?_
    refine lv_iload_n hx hb dL_misread_1 rfl (lv_at hl 1 rfl) ?_
    refine kw_v C S (x_V (rest := []) (As := [.int a1]) lk_RL_65 EVc_ok hx hb hml C S KC_0 rfl (c_f_Ballotscript_misread l hfl D dA q a1 w w' res h _) rfl rfl ⟨(Nat.le_of_ble_eq_true rfl), (Nat.le_of_ble_eq_true rfl)⟩ rfl hl.1 rfl (Nat.le_of_ble_eq_true rfl) dL_misread_2 ⟨(Nat.le_of_ble_eq_true rfl), (Nat.le_of_ble_eq_true rfl)⟩) (fun k er H locs q9 ce S h1 h2 h3 => ?_) (fun r er H locs S => ?_)
    · rcases hres k er with rfl | rfl
      · refine kl_catch (k := 0) 0 htab C.1 C.2.2.2.2.2.2.1 C.2.1 hNC (h := (0, 5, 8, 15)) rfl (by decide) (by intro z hz; cases hz) (by decide) (by decide) cle_15 cae_0 h1 h2 h3 ?_
        refine lv_astore_n (lv' := [(2, .ref q9), (0, .ref (q 0)), (1, .int a1)]) hx hb dL_misread_8 rfl hl (Nat.le_of_ble_eq_true rfl) rfl (fun ls hl => ?_)
        refine lv_bipush (v := -101) hx hb dL_misread_9 (by decide) ?_
        exact fin H locs ls (-101) _ _ _ (Nat.le_of_ble_eq_true rfl) (Nat.le_of_ble_eq_true rfl) S (by rw [er]; rfl) dL_misread_11
      · refine kl_catch (k := 2) 1 htab C.1 C.2.2.2.2.2.2.1 C.2.1 hNC (h := (0, 5, 12, 19)) rfl (by decide) (by
        intro z hz
        simp only [List.take, List.mem_cons, List.not_mem_nil, or_false] at hz
        subst hz
        exact ⟨by decide, 0, by decide, by decide, cle_15⟩) (by decide) (by decide) cle_19 cae_2 h1 h2 h3 ?_
        refine lv_astore_n (lv' := [(2, .ref q9), (0, .ref (q 0)), (1, .int a1)]) hx hb dL_misread_12 rfl hl (Nat.le_of_ble_eq_true rfl) rfl (fun ls hl => ?_)
        refine lv_bipush (v := -103) hx hb dL_misread_13 (by decide) ?_
        exact fin H locs ls (-103) _ _ _ (Nat.le_of_ble_eq_true rfl) (Nat.le_of_ble_eq_true rfl) S (by rw [er]; rfl) dL_misread_15
    · subst er
      refine lv_goto (tgt := 16) hx hb dL_misread_5 rfl ?_
      refine lv_iconst (v := 0) hx hb dL_misread_16 (by decide) ?_
      exact fin H locs ls 0 _ _ _ (Nat.le_of_ble_eq_true rfl) (Nat.le_of_ble_eq_true rfl) S rfl dL_misread_17)
theorem c_l_misread (l : Launch) (hfl : l.stackTraces = false) (D : va_G) (dA : Nat → ClassId) (q : Nat → Nat) (a1 : Int32) (w w' : Wt) (r : Int32) (h : l_misread a1 w = some (r, w')) : Mw l D dA q yL_misread cL_misread 3 [(0, 5, 8, 15), (0, 5, 12, 19)] [.ref (q 0), .int a1] w r w' := by
  unfold l_misread at h
  obtain ⟨x, ex, h⟩ := h_cs h
  obtain ⟨g, h⟩ := h_gs h
  obtain ⟨x1, x2⟩ := x
  obtain ⟨rfl, rfl⟩ := Prod.mk.inj (Option.some.inj h)
  exact d_L_misread l hfl D dA q a1 w x2 x1 ex (fun k hk => by have g2 := okX_m g k hk; simpa using g2)
set_option maxHeartbeats 4000000 in
set_option maxRecDepth 20000 in
theorem d_L_sample (l : Launch) (hfl : l.stackTraces = false) (D : va_G) (dA : Nat → ClassId) (q : Nat → Nat) (a1 : Int32) (a2 : Int32) (a3 : Int32) (w w' : Wt) (res : Nat ⊕ Int32) (h : f_Ballotscript_sample a1 a2 a3 w = some (res, w')) (hres : ∀ k, res = .inl k → k = 0 ∨ k = 1 ∨ k = 2) : Mw l D dA q yL_sample cL_sample 5 [(0, 7, 8, 15), (0, 7, 13, 17), (0, 7, 18, 19)] [.ref (q 0), .int a1, .int a2, .int a3] w (cdW res) w' :=
  mk_w (own := RL) (by decide) rfl (Nat.le_of_ble_eq_true rfl) (fun p e s m args below meth c A Q ls hx hb hml htab C hNC S hl fin => by
    have hl : lv_has ls 5 [(0, .ref (q 0)), (1, .int a1), (2, .int a2), (3, .int a3)] := hl
    have hS0 := S
    refine lv_aload_n hx hb dL_sample_0 rfl (lv_at hl 0 rfl) ?_
    refine lv_iload_n hx hb dL_sample_1 rfl (lv_at hl 1 rfl) ?_
    refine lv_iload_n hx hb dL_sample_2 rfl (lv_at hl 2 rfl) ?_
    refine lv_iload_n hx hb dL_sample_3 rfl (lv_at hl 3 rfl) ?_
    refine kw_i C S (x_V (rest := []) (As := [.int a1, .int a2, .int a3]) lk_RL_69 EVc_ok hx hb hml C S KC_0 rfl (c_f_Ballotscript_sample l hfl D dA q a1 a2 a3 w w' res h _) rfl rfl ⟨(Nat.le_of_ble_eq_true rfl), (Nat.le_of_ble_eq_true rfl)⟩ rfl hl.1 rfl (Nat.le_of_ble_eq_true rfl) dL_sample_4 ⟨(Nat.le_of_ble_eq_true rfl), (Nat.le_of_ble_eq_true rfl)⟩) (fun k er H locs q9 ce S h1 h2 h3 => ?_) (fun r er H locs S => ?_)
    · rcases hres k er with rfl | rfl | rfl
      · refine kl_catch (k := 0) 0 htab C.1 C.2.2.2.2.2.2.1 C.2.1 hNC (h := (0, 7, 8, 15)) rfl (by decide) (by intro z hz; cases hz) (by decide) (by decide) cle_15 cae_0 h1 h2 h3 ?_
        refine lv_astore (lv' := [(4, .ref q9), (0, .ref (q 0)), (1, .int a1), (2, .int a2), (3, .int a3)]) hx hb dL_sample_8 hl (Nat.le_of_ble_eq_true rfl) rfl (fun ls hl => ?_)
        refine lv_bipush (v := -101) hx hb dL_sample_10 (by decide) ?_
        exact fin H locs ls (-101) _ _ _ (Nat.le_of_ble_eq_true rfl) (Nat.le_of_ble_eq_true rfl) S (by rw [er]; rfl) dL_sample_12
      · refine kl_catch (k := 1) 1 htab C.1 C.2.2.2.2.2.2.1 C.2.1 hNC (h := (0, 7, 13, 17)) rfl (by decide) (by
        intro z hz
        simp only [List.take, List.mem_cons, List.not_mem_nil, or_false] at hz
        subst hz
        exact ⟨by decide, 0, by decide, by decide, cle_15⟩) (by decide) (by decide) cle_17 cae_1 h1 h2 h3 ?_
        refine lv_astore (lv' := [(4, .ref q9), (0, .ref (q 0)), (1, .int a1), (2, .int a2), (3, .int a3)]) hx hb dL_sample_13 hl (Nat.le_of_ble_eq_true rfl) rfl (fun ls hl => ?_)
        refine lv_bipush (v := -102) hx hb dL_sample_15 (by decide) ?_
        exact fin H locs ls (-102) _ _ _ (Nat.le_of_ble_eq_true rfl) (Nat.le_of_ble_eq_true rfl) S (by rw [er]; rfl) dL_sample_17
      · refine kl_catch (k := 2) 2 htab C.1 C.2.2.2.2.2.2.1 C.2.1 hNC (h := (0, 7, 18, 19)) rfl (by decide) (by
        intro z hz
        simp only [List.take, List.mem_cons, List.not_mem_nil, or_false] at hz
        rcases hz with rfl | rfl
        · exact ⟨by decide, 0, by decide, by decide, cle_15⟩
        · exact ⟨by decide, 1, by decide, by decide, cle_17⟩) (by decide) (by decide) cle_19 cae_2 h1 h2 h3 ?_
        refine lv_astore (lv' := [(4, .ref q9), (0, .ref (q 0)), (1, .int a1), (2, .int a2), (3, .int a3)]) hx hb dL_sample_18 hl (Nat.le_of_ble_eq_true rfl) rfl (fun ls hl => ?_)
        refine lv_bipush (v := -103) hx hb dL_sample_20 (by decide) ?_
        exact fin H locs ls (-103) _ _ _ (Nat.le_of_ble_eq_true rfl) (Nat.le_of_ble_eq_true rfl) S (by rw [er]; rfl) dL_sample_22
    · subst er
      exact fin H locs ls r _ _ _ (Nat.le_of_ble_eq_true rfl) (Nat.le_of_ble_eq_true rfl) S rfl dL_sample_7)
theorem c_l_sample (l : Launch) (hfl : l.stackTraces = false) (D : va_G) (dA : Nat → ClassId) (q : Nat → Nat) (a1 : Int32) (a2 : Int32) (a3 : Int32) (w w' : Wt) (r : Int32) (h : l_sample a1 a2 a3 w = some (r, w')) : Mw l D dA q yL_sample cL_sample 5 [(0, 7, 8, 15), (0, 7, 13, 17), (0, 7, 18, 19)] [.ref (q 0), .int a1, .int a2, .int a3] w r w' := by
  unfold l_sample at h
  obtain ⟨x, ex, h⟩ := h_cs h
  obtain ⟨g, h⟩ := h_gs h
  obtain ⟨x1, x2⟩ := x
  obtain ⟨rfl, rfl⟩ := Prod.mk.inj (Option.some.inj h)
  exact d_L_sample l hfl D dA q a1 a2 a3 w x2 x1 ex (fun k hk => by have g2 := okX_m g k hk; simpa using g2)
set_option maxHeartbeats 4000000 in
set_option maxRecDepth 20000 in
theorem d_L_recount (l : Launch) (hfl : l.stackTraces = false) (D : va_G) (dA : Nat → ClassId) (q : Nat → Nat) (a1 : Int32) (w w' : Wt) (res : Nat ⊕ Int32) (h : f_Ballotscript_recount a1 w = some (res, w')) (hres : ∀ k, res = .inl k → k = 0) : Mw l D dA q yL_recount cL_recount 3 [(0, 5, 6, 15)] [.ref (q 0), .int a1] w (cdW res) w' :=
  mk_w (own := RL) (by decide) rfl (Nat.le_of_ble_eq_true rfl) (fun p e s m args below meth c A Q ls hx hb hml htab C hNC S hl fin => by
    have hl : lv_has ls 3 [(0, .ref (q 0)), (1, .int a1)] := hl
    have hS0 := S
    refine lv_aload_n hx hb dL_recount_0 rfl (lv_at hl 0 rfl) ?_
    refine lv_iload_n hx hb dL_recount_1 rfl (lv_at hl 1 rfl) ?_
    refine kw_i C S (x_V (rest := []) (As := [.int a1]) lk_RL_73 EVc_ok hx hb hml C S KC_0 rfl (c_f_Ballotscript_recount l hfl D dA q a1 w w' res h _) rfl rfl ⟨(Nat.le_of_ble_eq_true rfl), (Nat.le_of_ble_eq_true rfl)⟩ rfl hl.1 rfl (Nat.le_of_ble_eq_true rfl) dL_recount_2 ⟨(Nat.le_of_ble_eq_true rfl), (Nat.le_of_ble_eq_true rfl)⟩) (fun k er H locs q9 ce S h1 h2 h3 => ?_) (fun r er H locs S => ?_)
    · obtain rfl := hres k er
      refine kl_catch (k := 0) 0 htab C.1 C.2.2.2.2.2.2.1 C.2.1 hNC (h := (0, 5, 6, 15)) rfl (by decide) (by intro z hz; cases hz) (by decide) (by decide) cle_15 cae_0 h1 h2 h3 ?_
      refine lv_astore_n (lv' := [(2, .ref q9), (0, .ref (q 0)), (1, .int a1)]) hx hb dL_recount_6 rfl hl (Nat.le_of_ble_eq_true rfl) rfl (fun ls hl => ?_)
      refine lv_bipush (v := -101) hx hb dL_recount_7 (by decide) ?_
      exact fin H locs ls (-101) _ _ _ (Nat.le_of_ble_eq_true rfl) (Nat.le_of_ble_eq_true rfl) S (by rw [er]; rfl) dL_recount_9
    · subst er
      exact fin H locs ls r _ _ _ (Nat.le_of_ble_eq_true rfl) (Nat.le_of_ble_eq_true rfl) S rfl dL_recount_5)
theorem c_l_recount (l : Launch) (hfl : l.stackTraces = false) (D : va_G) (dA : Nat → ClassId) (q : Nat → Nat) (a1 : Int32) (w w' : Wt) (r : Int32) (h : l_recount a1 w = some (r, w')) : Mw l D dA q yL_recount cL_recount 3 [(0, 5, 6, 15)] [.ref (q 0), .int a1] w r w' := by
  unfold l_recount at h
  obtain ⟨x, ex, h⟩ := h_cs h
  obtain ⟨g, h⟩ := h_gs h
  obtain ⟨x1, x2⟩ := x
  obtain ⟨rfl, rfl⟩ := Prod.mk.inj (Option.some.inj h)
  exact d_L_recount l hfl D dA q a1 w x2 x1 ex (fun k hk => by have g2 := okX_m g k hk; simpa using g2)
set_option maxHeartbeats 4000000 in
set_option maxRecDepth 20000 in
theorem d_L_doubt (l : Launch) (hfl : l.stackTraces = false) (D : va_G) (dA : Nat → ClassId) (q : Nat → Nat) (a1 : Int32) (w : Wt) (res : Nat ⊕ Int32) (h : f_Ballotscript_doubt a1 w = some res) (hres : ∀ k, res = .inl k → k = 0) : Mw l D dA q yL_doubt cL_doubt 3 [(0, 5, 6, 15)] [.ref (q 0), .int a1] w (cdW res) w :=
  mk_w (own := RL) (by decide) rfl (Nat.le_of_ble_eq_true rfl) (fun p e s m args below meth c A Q ls hx hb hml htab C hNC S hl fin => by
    have hl : lv_has ls 3 [(0, .ref (q 0)), (1, .int a1)] := hl
    have hS0 := S
    refine lv_aload_n hx hb dL_doubt_0 rfl (lv_at hl 0 rfl) ?_
    refine lv_iload_n hx hb dL_doubt_1 rfl (lv_at hl 1 rfl) ?_
    refine kw_i C S (x_V (rest := []) (As := [.int a1]) lk_RL_76 EVc_ok hx hb hml C S KC_0 rfl (c_f_Ballotscript_doubt l hfl D dA q a1 w res h _) rfl rfl ⟨(Nat.le_of_ble_eq_true rfl), (Nat.le_of_ble_eq_true rfl)⟩ rfl hl.1 rfl (Nat.le_of_ble_eq_true rfl) dL_doubt_2 ⟨(Nat.le_of_ble_eq_true rfl), (Nat.le_of_ble_eq_true rfl)⟩) (fun k er H locs q9 ce S h1 h2 h3 => ?_) (fun r er H locs S => ?_)
    · obtain rfl := hres k er
      refine kl_catch (k := 0) 0 htab C.1 C.2.2.2.2.2.2.1 C.2.1 hNC (h := (0, 5, 6, 15)) rfl (by decide) (by intro z hz; cases hz) (by decide) (by decide) cle_15 cae_0 h1 h2 h3 ?_
      refine lv_astore_n (lv' := [(2, .ref q9), (0, .ref (q 0)), (1, .int a1)]) hx hb dL_doubt_6 rfl hl (Nat.le_of_ble_eq_true rfl) rfl (fun ls hl => ?_)
      refine lv_bipush (v := -101) hx hb dL_doubt_7 (by decide) ?_
      exact fin H locs ls (-101) _ _ _ (Nat.le_of_ble_eq_true rfl) (Nat.le_of_ble_eq_true rfl) S (by rw [er]; rfl) dL_doubt_9
    · subst er
      exact fin H locs ls r _ _ _ (Nat.le_of_ble_eq_true rfl) (Nat.le_of_ble_eq_true rfl) S rfl dL_doubt_5)
theorem c_l_doubt (l : Launch) (hfl : l.stackTraces = false) (D : va_G) (dA : Nat → ClassId) (q : Nat → Nat) (a1 : Int32) (w : Wt) (r : Int32) (h : l_doubt a1 w = some r) : Mw l D dA q yL_doubt cL_doubt 3 [(0, 5, 6, 15)] [.ref (q 0), .int a1] w r w := by
  unfold l_doubt at h
  obtain ⟨x, ex, h⟩ := h_cs h
  obtain ⟨g, h⟩ := h_gs h
  obtain rfl := Option.some.inj h
  exact d_L_doubt l hfl D dA q a1 w x ex (fun k hk => by have g2 := okX_m g k hk; simpa using g2)
set_option maxHeartbeats 4000000 in
set_option maxRecDepth 20000 in
theorem d_L_winners (l : Launch) (hfl : l.stackTraces = false) (D : va_G) (dA : Nat → ClassId) (q : Nat → Nat) (a1 : Int32) (w w' : Wt) (res : Nat ⊕ Int32) (h : f_Ballotscript_winners a1 w = some (res, w')) (hres : ∀ k, res = .inl k → k = 0) : Mw l D dA q yL_winners cL_winners 3 [(0, 5, 6, 15)] [.ref (q 0), .int a1] w (cdW res) w' :=
  mk_w (own := RL) (by decide) rfl (Nat.le_of_ble_eq_true rfl) (fun p e s m args below meth c A Q ls hx hb hml htab C hNC S hl fin => by
    have hl : lv_has ls 3 [(0, .ref (q 0)), (1, .int a1)] := hl
    have hS0 := S
    refine lv_aload_n hx hb dL_winners_0 rfl (lv_at hl 0 rfl) ?_
    refine lv_iload_n hx hb dL_winners_1 rfl (lv_at hl 1 rfl) ?_
    refine kw_i C S (x_V (rest := []) (As := [.int a1]) lk_RL_79 EVc_ok hx hb hml C S KC_0 rfl (c_f_Ballotscript_winners l hfl D dA q a1 w w' res h _) rfl rfl ⟨(Nat.le_of_ble_eq_true rfl), (Nat.le_of_ble_eq_true rfl)⟩ rfl hl.1 rfl (Nat.le_of_ble_eq_true rfl) dL_winners_2 ⟨(Nat.le_of_ble_eq_true rfl), (Nat.le_of_ble_eq_true rfl)⟩) (fun k er H locs q9 ce S h1 h2 h3 => ?_) (fun r er H locs S => ?_)
    · obtain rfl := hres k er
      refine kl_catch (k := 0) 0 htab C.1 C.2.2.2.2.2.2.1 C.2.1 hNC (h := (0, 5, 6, 15)) rfl (by decide) (by intro z hz; cases hz) (by decide) (by decide) cle_15 cae_0 h1 h2 h3 ?_
      refine lv_astore_n (lv' := [(2, .ref q9), (0, .ref (q 0)), (1, .int a1)]) hx hb dL_winners_6 rfl hl (Nat.le_of_ble_eq_true rfl) rfl (fun ls hl => ?_)
      refine lv_bipush (v := -101) hx hb dL_winners_7 (by decide) ?_
      exact fin H locs ls (-101) _ _ _ (Nat.le_of_ble_eq_true rfl) (Nat.le_of_ble_eq_true rfl) S (by rw [er]; rfl) dL_winners_9
    · subst er
      exact fin H locs ls r _ _ _ (Nat.le_of_ble_eq_true rfl) (Nat.le_of_ble_eq_true rfl) S rfl dL_winners_5)
theorem c_l_winners (l : Launch) (hfl : l.stackTraces = false) (D : va_G) (dA : Nat → ClassId) (q : Nat → Nat) (a1 : Int32) (w w' : Wt) (r : Int32) (h : l_winners a1 w = some (r, w')) : Mw l D dA q yL_winners cL_winners 3 [(0, 5, 6, 15)] [.ref (q 0), .int a1] w r w' := by
  unfold l_winners at h
  obtain ⟨x, ex, h⟩ := h_cs h
  obtain ⟨g, h⟩ := h_gs h
  obtain ⟨x1, x2⟩ := x
  obtain ⟨rfl, rfl⟩ := Prod.mk.inj (Option.some.inj h)
  exact d_L_winners l hfl D dA q a1 w x2 x1 ex (fun k hk => by have g2 := okX_m g k hk; simpa using g2)
set_option maxHeartbeats 4000000 in
set_option maxRecDepth 20000 in
theorem d_L_hand (l : Launch) (hfl : l.stackTraces = false) (D : va_G) (dA : Nat → ClassId) (q : Nat → Nat) (a1 : Int32) (w w' : Wt) (res : Nat ⊕ Int32) (h : f_Ballotscript_winnersByHand a1 w = some (res, w')) (hres : ∀ k, res = .inl k → k = 0) : Mw l D dA q yL_hand cL_hand 3 [(0, 5, 6, 15)] [.ref (q 0), .int a1] w (cdW res) w' :=
  mk_w (own := RL) (by decide) rfl (Nat.le_of_ble_eq_true rfl) (fun p e s m args below meth c A Q ls hx hb hml htab C hNC S hl fin => by
    have hl : lv_has ls 3 [(0, .ref (q 0)), (1, .int a1)] := hl
    have hS0 := S
    refine lv_aload_n hx hb dL_hand_0 rfl (lv_at hl 0 rfl) ?_
    refine lv_iload_n hx hb dL_hand_1 rfl (lv_at hl 1 rfl) ?_
    refine kw_i C S (x_V (rest := []) (As := [.int a1]) lk_RL_82 EVc_ok hx hb hml C S KC_0 rfl (c_f_Ballotscript_winnersByHand l hfl D dA q a1 w w' res h _) rfl rfl ⟨(Nat.le_of_ble_eq_true rfl), (Nat.le_of_ble_eq_true rfl)⟩ rfl hl.1 rfl (Nat.le_of_ble_eq_true rfl) dL_hand_2 ⟨(Nat.le_of_ble_eq_true rfl), (Nat.le_of_ble_eq_true rfl)⟩) (fun k er H locs q9 ce S h1 h2 h3 => ?_) (fun r er H locs S => ?_)
    · obtain rfl := hres k er
      refine kl_catch (k := 0) 0 htab C.1 C.2.2.2.2.2.2.1 C.2.1 hNC (h := (0, 5, 6, 15)) rfl (by decide) (by intro z hz; cases hz) (by decide) (by decide) cle_15 cae_0 h1 h2 h3 ?_
      refine lv_astore_n (lv' := [(2, .ref q9), (0, .ref (q 0)), (1, .int a1)]) hx hb dL_hand_6 rfl hl (Nat.le_of_ble_eq_true rfl) rfl (fun ls hl => ?_)
      refine lv_bipush (v := -101) hx hb dL_hand_7 (by decide) ?_
      exact fin H locs ls (-101) _ _ _ (Nat.le_of_ble_eq_true rfl) (Nat.le_of_ble_eq_true rfl) S (by rw [er]; rfl) dL_hand_9
    · subst er
      exact fin H locs ls r _ _ _ (Nat.le_of_ble_eq_true rfl) (Nat.le_of_ble_eq_true rfl) S rfl dL_hand_5)
theorem c_l_hand (l : Launch) (hfl : l.stackTraces = false) (D : va_G) (dA : Nat → ClassId) (q : Nat → Nat) (a1 : Int32) (w w' : Wt) (r : Int32) (h : l_hand a1 w = some (r, w')) : Mw l D dA q yL_hand cL_hand 3 [(0, 5, 6, 15)] [.ref (q 0), .int a1] w r w' := by
  unfold l_hand at h
  obtain ⟨x, ex, h⟩ := h_cs h
  obtain ⟨g, h⟩ := h_gs h
  obtain ⟨x1, x2⟩ := x
  obtain ⟨rfl, rfl⟩ := Prod.mk.inj (Option.some.inj h)
  exact d_L_hand l hfl D dA q a1 w x2 x1 ex (fun k hk => by have g2 := okX_m g k hk; simpa using g2)
set_option maxHeartbeats 4000000 in
set_option maxRecDepth 20000 in
theorem d_L_tallies (l : Launch) (hfl : l.stackTraces = false) (D : va_G) (dA : Nat → ClassId) (q : Nat → Nat) (a1 : Int32) (w w' : Wt) (res : Nat ⊕ Int32) (h : f_Ballotscript_tallies a1 w = some (res, w')) (hres : ∀ k, res = .inl k → k = 0) : Mw l D dA q yL_tallies cL_tallies 3 [(0, 5, 6, 15)] [.ref (q 0), .int a1] w (cdW res) w' :=
  mk_w (own := RL) (by decide) rfl (Nat.le_of_ble_eq_true rfl) (fun p e s m args below meth c A Q ls hx hb hml htab C hNC S hl fin => by
    have hl : lv_has ls 3 [(0, .ref (q 0)), (1, .int a1)] := hl
    have hS0 := S
    refine lv_aload_n hx hb dL_tallies_0 rfl (lv_at hl 0 rfl) ?_
    refine lv_iload_n hx hb dL_tallies_1 rfl (lv_at hl 1 rfl) ?_
    refine kw_i C S (x_V (rest := []) (As := [.int a1]) lk_RL_85 EVc_ok hx hb hml C S KC_0 rfl (c_f_Ballotscript_tallies l hfl D dA q a1 w w' res h _) rfl rfl ⟨(Nat.le_of_ble_eq_true rfl), (Nat.le_of_ble_eq_true rfl)⟩ rfl hl.1 rfl (Nat.le_of_ble_eq_true rfl) dL_tallies_2 ⟨(Nat.le_of_ble_eq_true rfl), (Nat.le_of_ble_eq_true rfl)⟩) (fun k er H locs q9 ce S h1 h2 h3 => ?_) (fun r er H locs S => ?_)
    · obtain rfl := hres k er
      refine kl_catch (k := 0) 0 htab C.1 C.2.2.2.2.2.2.1 C.2.1 hNC (h := (0, 5, 6, 15)) rfl (by decide) (by intro z hz; cases hz) (by decide) (by decide) cle_15 cae_0 h1 h2 h3 ?_
      refine lv_astore_n (lv' := [(2, .ref q9), (0, .ref (q 0)), (1, .int a1)]) hx hb dL_tallies_6 rfl hl (Nat.le_of_ble_eq_true rfl) rfl (fun ls hl => ?_)
      refine lv_bipush (v := -101) hx hb dL_tallies_7 (by decide) ?_
      exact fin H locs ls (-101) _ _ _ (Nat.le_of_ble_eq_true rfl) (Nat.le_of_ble_eq_true rfl) S (by rw [er]; rfl) dL_tallies_9
    · subst er
      exact fin H locs ls r _ _ _ (Nat.le_of_ble_eq_true rfl) (Nat.le_of_ble_eq_true rfl) S rfl dL_tallies_5)
theorem c_l_tallies (l : Launch) (hfl : l.stackTraces = false) (D : va_G) (dA : Nat → ClassId) (q : Nat → Nat) (a1 : Int32) (w w' : Wt) (r : Int32) (h : l_tallies a1 w = some (r, w')) : Mw l D dA q yL_tallies cL_tallies 3 [(0, 5, 6, 15)] [.ref (q 0), .int a1] w r w' := by
  unfold l_tallies at h
  obtain ⟨x, ex, h⟩ := h_cs h
  obtain ⟨g, h⟩ := h_gs h
  obtain ⟨x1, x2⟩ := x
  obtain ⟨rfl, rfl⟩ := Prod.mk.inj (Option.some.inj h)
  exact d_L_tallies l hfl D dA q a1 w x2 x1 ex (fun k hk => by have g2 := okX_m g k hk; simpa using g2)
set_option maxHeartbeats 4000000 in
set_option maxRecDepth 20000 in
theorem d_L_votes (l : Launch) (hfl : l.stackTraces = false) (D : va_G) (dA : Nat → ClassId) (q : Nat → Nat) (a1 : Int32) (a2 : Int32) (a3 : Int32) (w w' : Wt) (res : Nat ⊕ Int32) (h : f_Ballotscript_votes a1 a2 a3 w = some (res, w')) (hres : ∀ k, res = .inl k → k = 0) : Mw l D dA q yL_votes cL_votes 5 [(0, 7, 8, 15)] [.ref (q 0), .int a1, .int a2, .int a3] w (cdW res) w' :=
  mk_w (own := RL) (by decide) rfl (Nat.le_of_ble_eq_true rfl) (fun p e s m args below meth c A Q ls hx hb hml htab C hNC S hl fin => by
    have hl : lv_has ls 5 [(0, .ref (q 0)), (1, .int a1), (2, .int a2), (3, .int a3)] := hl
    have hS0 := S
    refine lv_aload_n hx hb dL_votes_0 rfl (lv_at hl 0 rfl) ?_
    refine lv_iload_n hx hb dL_votes_1 rfl (lv_at hl 1 rfl) ?_
    refine lv_iload_n hx hb dL_votes_2 rfl (lv_at hl 2 rfl) ?_
    refine lv_iload_n hx hb dL_votes_3 rfl (lv_at hl 3 rfl) ?_
    refine kw_i C S (x_V (rest := []) (As := [.int a1, .int a2, .int a3]) lk_RL_88 EVc_ok hx hb hml C S KC_0 rfl (c_f_Ballotscript_votes l hfl D dA q a1 a2 a3 w w' res h _) rfl rfl ⟨(Nat.le_of_ble_eq_true rfl), (Nat.le_of_ble_eq_true rfl)⟩ rfl hl.1 rfl (Nat.le_of_ble_eq_true rfl) dL_votes_4 ⟨(Nat.le_of_ble_eq_true rfl), (Nat.le_of_ble_eq_true rfl)⟩) (fun k er H locs q9 ce S h1 h2 h3 => ?_) (fun r er H locs S => ?_)
    · obtain rfl := hres k er
      refine kl_catch (k := 0) 0 htab C.1 C.2.2.2.2.2.2.1 C.2.1 hNC (h := (0, 7, 8, 15)) rfl (by decide) (by intro z hz; cases hz) (by decide) (by decide) cle_15 cae_0 h1 h2 h3 ?_
      refine lv_astore (lv' := [(4, .ref q9), (0, .ref (q 0)), (1, .int a1), (2, .int a2), (3, .int a3)]) hx hb dL_votes_8 hl (Nat.le_of_ble_eq_true rfl) rfl (fun ls hl => ?_)
      refine lv_bipush (v := -101) hx hb dL_votes_10 (by decide) ?_
      exact fin H locs ls (-101) _ _ _ (Nat.le_of_ble_eq_true rfl) (Nat.le_of_ble_eq_true rfl) S (by rw [er]; rfl) dL_votes_12
    · subst er
      exact fin H locs ls r _ _ _ (Nat.le_of_ble_eq_true rfl) (Nat.le_of_ble_eq_true rfl) S rfl dL_votes_7)
theorem c_l_votes (l : Launch) (hfl : l.stackTraces = false) (D : va_G) (dA : Nat → ClassId) (q : Nat → Nat) (a1 : Int32) (a2 : Int32) (a3 : Int32) (w w' : Wt) (r : Int32) (h : l_votes a1 a2 a3 w = some (r, w')) : Mw l D dA q yL_votes cL_votes 5 [(0, 7, 8, 15)] [.ref (q 0), .int a1, .int a2, .int a3] w r w' := by
  unfold l_votes at h
  obtain ⟨x, ex, h⟩ := h_cs h
  obtain ⟨g, h⟩ := h_gs h
  obtain ⟨x1, x2⟩ := x
  obtain ⟨rfl, rfl⟩ := Prod.mk.inj (Option.some.inj h)
  exact d_L_votes l hfl D dA q a1 a2 a3 w x2 x1 ex (fun k hk => by have g2 := okX_m g k hk; simpa using g2)
set_option maxHeartbeats 4000000 in
set_option maxRecDepth 20000 in
theorem d_L_ties (l : Launch) (hfl : l.stackTraces = false) (D : va_G) (dA : Nat → ClassId) (q : Nat → Nat) (a1 : Int32) (w w' : Wt) (res : Nat ⊕ Int32) (h : f_Ballotscript_ties a1 w = some (res, w')) (hres : ∀ k, res = .inl k → k = 0) : Mw l D dA q yL_ties cL_ties 3 [(0, 5, 6, 15)] [.ref (q 0), .int a1] w (cdW res) w' :=
  mk_w (own := RL) (by decide) rfl (Nat.le_of_ble_eq_true rfl) (fun p e s m args below meth c A Q ls hx hb hml htab C hNC S hl fin => by
    have hl : lv_has ls 3 [(0, .ref (q 0)), (1, .int a1)] := hl
    have hS0 := S
    refine lv_aload_n hx hb dL_ties_0 rfl (lv_at hl 0 rfl) ?_
    refine lv_iload_n hx hb dL_ties_1 rfl (lv_at hl 1 rfl) ?_
    refine kw_i C S (x_V (rest := []) (As := [.int a1]) lk_RL_91 EVc_ok hx hb hml C S KC_0 rfl (c_f_Ballotscript_ties l hfl D dA q a1 w w' res h _) rfl rfl ⟨(Nat.le_of_ble_eq_true rfl), (Nat.le_of_ble_eq_true rfl)⟩ rfl hl.1 rfl (Nat.le_of_ble_eq_true rfl) dL_ties_2 ⟨(Nat.le_of_ble_eq_true rfl), (Nat.le_of_ble_eq_true rfl)⟩) (fun k er H locs q9 ce S h1 h2 h3 => ?_) (fun r er H locs S => ?_)
    · obtain rfl := hres k er
      refine kl_catch (k := 0) 0 htab C.1 C.2.2.2.2.2.2.1 C.2.1 hNC (h := (0, 5, 6, 15)) rfl (by decide) (by intro z hz; cases hz) (by decide) (by decide) cle_15 cae_0 h1 h2 h3 ?_
      refine lv_astore_n (lv' := [(2, .ref q9), (0, .ref (q 0)), (1, .int a1)]) hx hb dL_ties_6 rfl hl (Nat.le_of_ble_eq_true rfl) rfl (fun ls hl => ?_)
      refine lv_bipush (v := -101) hx hb dL_ties_7 (by decide) ?_
      exact fin H locs ls (-101) _ _ _ (Nat.le_of_ble_eq_true rfl) (Nat.le_of_ble_eq_true rfl) S (by rw [er]; rfl) dL_ties_9
    · subst er
      exact fin H locs ls r _ _ _ (Nat.le_of_ble_eq_true rfl) (Nat.le_of_ble_eq_true rfl) S rfl dL_ties_5)
theorem c_l_ties (l : Launch) (hfl : l.stackTraces = false) (D : va_G) (dA : Nat → ClassId) (q : Nat → Nat) (a1 : Int32) (w w' : Wt) (r : Int32) (h : l_ties a1 w = some (r, w')) : Mw l D dA q yL_ties cL_ties 3 [(0, 5, 6, 15)] [.ref (q 0), .int a1] w r w' := by
  unfold l_ties at h
  obtain ⟨x, ex, h⟩ := h_cs h
  obtain ⟨g, h⟩ := h_gs h
  obtain ⟨x1, x2⟩ := x
  obtain ⟨rfl, rfl⟩ := Prod.mk.inj (Option.some.inj h)
  exact d_L_ties l hfl D dA q a1 w x2 x1 ex (fun k hk => by have g2 := okX_m g k hk; simpa using g2)
set_option maxHeartbeats 4000000 in
set_option maxRecDepth 20000 in
theorem d_L_tied (l : Launch) (hfl : l.stackTraces = false) (D : va_G) (dA : Nat → ClassId) (q : Nat → Nat) (a1 : Int32) (a2 : Int32) (w w' : Wt) (res : Nat ⊕ Int32) (h : f_Ballotscript_tied a1 a2 w = some (res, w')) (hres : ∀ k, res = .inl k → k = 0) : Mw l D dA q yL_tied cL_tied 4 [(0, 6, 7, 15)] [.ref (q 0), .int a1, .int a2] w (cdW res) w' :=
  mk_w (own := RL) (by decide) rfl (Nat.le_of_ble_eq_true rfl) (fun p e s m args below meth c A Q ls hx hb hml htab C hNC S hl fin => by
    have hl : lv_has ls 4 [(0, .ref (q 0)), (1, .int a1), (2, .int a2)] := hl
    have hS0 := S
    refine lv_aload_n hx hb dL_tied_0 rfl (lv_at hl 0 rfl) ?_
    refine lv_iload_n hx hb dL_tied_1 rfl (lv_at hl 1 rfl) ?_
    refine lv_iload_n hx hb dL_tied_2 rfl (lv_at hl 2 rfl) ?_
    refine kw_i C S (x_V (rest := []) (As := [.int a1, .int a2]) lk_RL_94 EVc_ok hx hb hml C S KC_0 rfl (c_f_Ballotscript_tied l hfl D dA q a1 a2 w w' res h _) rfl rfl ⟨(Nat.le_of_ble_eq_true rfl), (Nat.le_of_ble_eq_true rfl)⟩ rfl hl.1 rfl (Nat.le_of_ble_eq_true rfl) dL_tied_3 ⟨(Nat.le_of_ble_eq_true rfl), (Nat.le_of_ble_eq_true rfl)⟩) (fun k er H locs q9 ce S h1 h2 h3 => ?_) (fun r er H locs S => ?_)
    · obtain rfl := hres k er
      refine kl_catch (k := 0) 0 htab C.1 C.2.2.2.2.2.2.1 C.2.1 hNC (h := (0, 6, 7, 15)) rfl (by decide) (by intro z hz; cases hz) (by decide) (by decide) cle_15 cae_0 h1 h2 h3 ?_
      refine lv_astore_n (lv' := [(3, .ref q9), (0, .ref (q 0)), (1, .int a1), (2, .int a2)]) hx hb dL_tied_7 rfl hl (Nat.le_of_ble_eq_true rfl) rfl (fun ls hl => ?_)
      refine lv_bipush (v := -101) hx hb dL_tied_8 (by decide) ?_
      exact fin H locs ls (-101) _ _ _ (Nat.le_of_ble_eq_true rfl) (Nat.le_of_ble_eq_true rfl) S (by rw [er]; rfl) dL_tied_10
    · subst er
      exact fin H locs ls r _ _ _ (Nat.le_of_ble_eq_true rfl) (Nat.le_of_ble_eq_true rfl) S rfl dL_tied_6)
theorem c_l_tied (l : Launch) (hfl : l.stackTraces = false) (D : va_G) (dA : Nat → ClassId) (q : Nat → Nat) (a1 : Int32) (a2 : Int32) (w w' : Wt) (r : Int32) (h : l_tied a1 a2 w = some (r, w')) : Mw l D dA q yL_tied cL_tied 4 [(0, 6, 7, 15)] [.ref (q 0), .int a1, .int a2] w r w' := by
  unfold l_tied at h
  obtain ⟨x, ex, h⟩ := h_cs h
  obtain ⟨g, h⟩ := h_gs h
  obtain ⟨x1, x2⟩ := x
  obtain ⟨rfl, rfl⟩ := Prod.mk.inj (Option.some.inj h)
  exact d_L_tied l hfl D dA q a1 a2 w x2 x1 ex (fun k hk => by have g2 := okX_m g k hk; simpa using g2)
set_option maxHeartbeats 4000000 in
set_option maxRecDepth 20000 in
theorem d_L_certify (l : Launch) (hfl : l.stackTraces = false) (D : va_G) (dA : Nat → ClassId) (q : Nat → Nat) (a1 : Int32) (w w' : Wt) (res : Nat ⊕ Int32) (h : f_Ballotscript_certify a1 w = some (res, w')) (hres : ∀ k, res = .inl k → k = 0 ∨ k = 2) : Mw l D dA q yL_certify cL_certify 3 [(0, 5, 6, 15), (0, 5, 10, 19)] [.ref (q 0), .int a1] w (cdW res) w' :=
  mk_w (own := RL) (by decide) rfl (Nat.le_of_ble_eq_true rfl) (fun p e s m args below meth c A Q ls hx hb hml htab C hNC S hl fin => by
    have hl : lv_has ls 3 [(0, .ref (q 0)), (1, .int a1)] := hl
    have hS0 := S
    refine lv_aload_n hx hb dL_certify_0 rfl (lv_at hl 0 rfl) ?_
    refine lv_iload_n hx hb dL_certify_1 rfl (lv_at hl 1 rfl) ?_
    refine kw_i C S (x_V (rest := []) (As := [.int a1]) lk_RL_97 EVc_ok hx hb hml C S KC_0 rfl (c_f_Ballotscript_certify l hfl D dA q a1 w w' res h _) rfl rfl ⟨(Nat.le_of_ble_eq_true rfl), (Nat.le_of_ble_eq_true rfl)⟩ rfl hl.1 rfl (Nat.le_of_ble_eq_true rfl) dL_certify_2 ⟨(Nat.le_of_ble_eq_true rfl), (Nat.le_of_ble_eq_true rfl)⟩) (fun k er H locs q9 ce S h1 h2 h3 => ?_) (fun r er H locs S => ?_)
    · rcases hres k er with rfl | rfl
      · refine kl_catch (k := 0) 0 htab C.1 C.2.2.2.2.2.2.1 C.2.1 hNC (h := (0, 5, 6, 15)) rfl (by decide) (by intro z hz; cases hz) (by decide) (by decide) cle_15 cae_0 h1 h2 h3 ?_
        refine lv_astore_n (lv' := [(2, .ref q9), (0, .ref (q 0)), (1, .int a1)]) hx hb dL_certify_6 rfl hl (Nat.le_of_ble_eq_true rfl) rfl (fun ls hl => ?_)
        refine lv_bipush (v := -101) hx hb dL_certify_7 (by decide) ?_
        exact fin H locs ls (-101) _ _ _ (Nat.le_of_ble_eq_true rfl) (Nat.le_of_ble_eq_true rfl) S (by rw [er]; rfl) dL_certify_9
      · refine kl_catch (k := 2) 1 htab C.1 C.2.2.2.2.2.2.1 C.2.1 hNC (h := (0, 5, 10, 19)) rfl (by decide) (by
        intro z hz
        simp only [List.take, List.mem_cons, List.not_mem_nil, or_false] at hz
        subst hz
        exact ⟨by decide, 0, by decide, by decide, cle_15⟩) (by decide) (by decide) cle_19 cae_2 h1 h2 h3 ?_
        refine lv_astore_n (lv' := [(2, .ref q9), (0, .ref (q 0)), (1, .int a1)]) hx hb dL_certify_10 rfl hl (Nat.le_of_ble_eq_true rfl) rfl (fun ls hl => ?_)
        refine lv_bipush (v := -103) hx hb dL_certify_11 (by decide) ?_
        exact fin H locs ls (-103) _ _ _ (Nat.le_of_ble_eq_true rfl) (Nat.le_of_ble_eq_true rfl) S (by rw [er]; rfl) dL_certify_13
    · subst er
      exact fin H locs ls r _ _ _ (Nat.le_of_ble_eq_true rfl) (Nat.le_of_ble_eq_true rfl) S rfl dL_certify_5)
theorem c_l_certify (l : Launch) (hfl : l.stackTraces = false) (D : va_G) (dA : Nat → ClassId) (q : Nat → Nat) (a1 : Int32) (w w' : Wt) (r : Int32) (h : l_certify a1 w = some (r, w')) : Mw l D dA q yL_certify cL_certify 3 [(0, 5, 6, 15), (0, 5, 10, 19)] [.ref (q 0), .int a1] w r w' := by
  unfold l_certify at h
  obtain ⟨x, ex, h⟩ := h_cs h
  obtain ⟨g, h⟩ := h_gs h
  obtain ⟨x1, x2⟩ := x
  obtain ⟨rfl, rfl⟩ := Prod.mk.inj (Option.some.inj h)
  exact d_L_certify l hfl D dA q a1 w x2 x1 ex (fun k hk => by have g2 := okX_m g k hk; simpa using g2)
set_option maxHeartbeats 4000000 in
set_option maxRecDepth 20000 in
theorem d_L_certified (l : Launch) (hfl : l.stackTraces = false) (D : va_G) (dA : Nat → ClassId) (q : Nat → Nat) (a1 : Int32) (w : Wt) (res : Nat ⊕ Int32) (h : f_Ballotscript_certified a1 w = some res) (hres : ∀ k, res = .inl k → k = 0) : Mw l D dA q yL_certified cL_certified 3 [(0, 5, 6, 15)] [.ref (q 0), .int a1] w (cdW res) w :=
  mk_w (own := RL) (by decide) rfl (Nat.le_of_ble_eq_true rfl) (fun p e s m args below meth c A Q ls hx hb hml htab C hNC S hl fin => by
    have hl : lv_has ls 3 [(0, .ref (q 0)), (1, .int a1)] := hl
    have hS0 := S
    refine lv_aload_n hx hb dL_certified_0 rfl (lv_at hl 0 rfl) ?_
    refine lv_iload_n hx hb dL_certified_1 rfl (lv_at hl 1 rfl) ?_
    refine kw_i C S (x_V (rest := []) (As := [.int a1]) lk_RL_100 EVc_ok hx hb hml C S KC_0 rfl (c_f_Ballotscript_certified l hfl D dA q a1 w res h _) rfl rfl ⟨(Nat.le_of_ble_eq_true rfl), (Nat.le_of_ble_eq_true rfl)⟩ rfl hl.1 rfl (Nat.le_of_ble_eq_true rfl) dL_certified_2 ⟨(Nat.le_of_ble_eq_true rfl), (Nat.le_of_ble_eq_true rfl)⟩) (fun k er H locs q9 ce S h1 h2 h3 => ?_) (fun r er H locs S => ?_)
    · obtain rfl := hres k er
      refine kl_catch (k := 0) 0 htab C.1 C.2.2.2.2.2.2.1 C.2.1 hNC (h := (0, 5, 6, 15)) rfl (by decide) (by intro z hz; cases hz) (by decide) (by decide) cle_15 cae_0 h1 h2 h3 ?_
      refine lv_astore_n (lv' := [(2, .ref q9), (0, .ref (q 0)), (1, .int a1)]) hx hb dL_certified_6 rfl hl (Nat.le_of_ble_eq_true rfl) rfl (fun ls hl => ?_)
      refine lv_bipush (v := -101) hx hb dL_certified_7 (by decide) ?_
      exact fin H locs ls (-101) _ _ _ (Nat.le_of_ble_eq_true rfl) (Nat.le_of_ble_eq_true rfl) S (by rw [er]; rfl) dL_certified_9
    · subst er
      exact fin H locs ls r _ _ _ (Nat.le_of_ble_eq_true rfl) (Nat.le_of_ble_eq_true rfl) S rfl dL_certified_5)
theorem c_l_certified (l : Launch) (hfl : l.stackTraces = false) (D : va_G) (dA : Nat → ClassId) (q : Nat → Nat) (a1 : Int32) (w : Wt) (r : Int32) (h : l_certified a1 w = some r) : Mw l D dA q yL_certified cL_certified 3 [(0, 5, 6, 15)] [.ref (q 0), .int a1] w r w := by
  unfold l_certified at h
  obtain ⟨x, ex, h⟩ := h_cs h
  obtain ⟨g, h⟩ := h_gs h
  obtain rfl := Option.some.inj h
  exact d_L_certified l hfl D dA q a1 w x ex (fun k hk => by have g2 := okX_m g k hk; simpa using g2)

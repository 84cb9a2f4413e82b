/-! THE LAW'S WORLD: the class's cells, and five arrays of its own -/
theorem wall_goodW {w0 : Cond} (h : w0 ∈ wall) : GoodIn wall (w0 :: wall) := by
  have h1 : ∀ w ∈ wall, w ∈ wall ∧ ((w.onTables && w.keeps) = true ∨ ∃ ty, w = .arrayClass ty) := fun w hw => ⟨hw, good_of_word (List.mem_filter.mp hw).2⟩
  intro w hw
  rcases List.mem_cons.mp hw with e | e
  · rw [e]; exact h1 _ h
  · exact h1 w e
def lkW (index : Nat) (y : MethodName) (b : ByteArray) (n : Nat) (hh : List (Nat × Nat × Nat × Nat)) (na : Nat) : Prop :=
  Cond.methodLink RL index y ∈ wall ∧ Cond.static y ∈ wall ∧ Cond.initialized y.cls ∈ wall ∧ Cond.codeWith y b n (some .int) hh ∈ wall ∧ plainM y ∧ nArgs y na
def KL : List Kd := KC ++ [.inl (0, 24), .inl (0, 8), .inl (0, 8), .inl (0, 8), .inl (0, 48)]
theorem KL_len : KL.length = 77 := rfl
theorem KL_lt {i : Nat} {k : Kd} (h : KC[i]? = some k) : KL[i]? = some k := by
  unfold KL
  rw [List.getElem?_append_left (List.getElem?_eq_some_iff.mp h).1]
  exact h
theorem KL_72 : KL[72]? = some (.inl (0, 24)) := rfl
theorem KL_73 : KL[73]? = some (.inl (0, 8)) := rfl
theorem KL_74 : KL[74]? = some (.inl (0, 8)) := rfl
theorem KL_75 : KL[75]? = some (.inl (0, 8)) := rfl
theorem KL_76 : KL[76]? = some (.inl (0, 48)) := rfl
/-- the class's cells from w', the law's own from w -/
def jn (w' w : Wt) : Wt := fun i => if i < 72 then w' i else w i
theorem jn_l {w' w : Wt} {i : Nat} (h : i < 72) : jn w' w i = w' i := if_pos h
theorem jn_r {w' w : Wt} {i : Nat} (h : ¬ i < 72) : jn w' w i = w i := if_neg h
theorem jn_self {w : Wt} : jn w w = w := by
  funext i
  by_cases h : i < 72
  · rw [jn_l h]
  · rw [jn_r h]
/-- what the law's cell answers -/
def l_cell (xs : Nat → Int32) (L : Nat) (k : Int32) : Option Int32 := if Int32.ofNat L ≤ k then some (((61027 : Int32) * (k - k / 6211 * 6211) + 3109) &&& 2147483647) else gd (inb k L) (some (xs k.toNatClampNeg &&& 2147483647))
def EVs (bb L : Nat) (xs : Nat → Int32) : Ev := fun A U H => va_X bb L xs U H ∧ bb < H.size ∧ ¬ A bb
theorem EVs_ok {bb L : Nat} {xs : Nat → Int32} : evOk (EVs bb L xs) := by
  refine ⟨fun A s U H hW h => ⟨va_X.moved hW.alike h.1, h.2⟩, fun A U H H1 h hq => ?_, fun A B U H h hAB => ⟨h.1, h.2.1, fun hb => h.2.2 (hAB _ hb)⟩⟩
  have e := hq bb h.2.1 h.2.2
  obtain ⟨scr, h1, -⟩ := h.1
  have e2 : H1[bb]? = some scr := by rw [e]; exact h1
  exact ⟨va_X.kept h.1 e, (Array.getElem?_eq_some_iff.mp e2).1, h.2.2⟩
/-- a contract over the law's world, with what it makes -/
def Mb (l : Launch) (D : va_G) (dA : Nat → ClassId) (q : Nat → Nat) (y : MethodName) (b : ByteArray) (n : Nat) (ret : Option FieldType) (rm : Room) (mc ms : Nat) (av : List Value) (w : Wt) (r : Int32) (w' : Wt) : Prop :=
  ∀ sz : Nat, Met l y (.code y b n ret :: wall) rm (va_Pc av (Pr EVl KL D dA q sz w)) (va_Qi (fun (r' : Int32) (_ : Unit) => r' = r) (fun _ t => va_P D vwCl (wld KL dA q w') t.heap) (Aq KL q sz)) mc ms (Aq KL q sz)
section LROWS
variable {p : Program} {l : Launch} {e : Env} {R : Room} {s : State} {m : MethodId} {args : Array Value} {below : List Frame} {meth : Method} {c : Code} {H : Heap} {locs : List Loc} {cells slots mc ms : Nat} {Q : State → Prop}
variable {D : va_G} {dA : Nat → ClassId} {q : Nat → Nat} {A : Nat → Prop} {own : String} {w w' : Wt} {r : Int32} {a : Array Value}
variable {cc : ByteArray} {pc nL : Nat} {ls : Array Slot} {rest st : List Value} {index : Nat} {y : MethodName} {b : ByteArray} {n na : Nat}
theorem kCl (C : Cx EVl KL D dA q A s m args own) : Cx EVl KC D dA q A s m args own :=
  ⟨C.1, C.2.1, C.2.2.1, fun i j hi hj e => C.2.2.2.1 i j (by rw [KL_len]; rw [KC_len] at hi; omega) (by rw [KL_len]; rw [KC_len] at hj; omega) e, fun i hi => C.2.2.2.2.1 i (by rw [KL_len]; rw [KC_len] at hi; omega), C.2.2.2.2.2.1, C.2.2.2.2.2.2⟩
theorem kC (C : Cx EVl KL D dA q A s m args own) : Cx EVc KC D dA q A s m args own :=
  ⟨C.1, C.2.1, C.2.2.1, fun i j hi hj e => C.2.2.2.1 i j (by rw [KL_len]; rw [KC_len] at hi; omega) (by rw [KL_len]; rw [KC_len] at hj; omega) e, fun i hi => C.2.2.2.2.1 i (by rw [KL_len]; rw [KC_len] at hi; omega), C.2.2.2.2.2.1, C.2.2.2.2.2.2.1⟩
theorem wld_jl {k : Nat} {z : Nat × va_E} (h : k < 72) : (wld KL dA q (jn w' w))[k]? = some z ↔ (wld KC dA q w')[k]? = some z := by
  have h3 : KC[k]? = some (KC[k]'h) := List.getElem?_eq_getElem h
  rw [wld_at h3, wld_at (KL_lt h3), jn_l h]
theorem wld_jr {k : Nat} {z : Nat × va_E} (h : ¬ k < 72) : (wld KL dA q (jn w' w))[k]? = some z → (wld KL dA q w)[k]? = some z := by
  intro hz
  obtain ⟨h1, -⟩ := wld_in hz
  have h3 : KL[k]? = some (KL[k]'h1) := List.getElem?_eq_getElem h1
  rw [wld_at h3, jn_r h] at hz
  rw [wld_at h3]
  exact hz
theorem kS {H0 : Heap} (S : Sta KL D dA q A H0 w H locs) : Sta KC D dA q A H0 w H locs := ⟨fun k z hz => by
  obtain ⟨h1, -⟩ := wld_in hz
  have h := S.1
  rw [← jn_self (w := w)] at h
  exact h k z ((wld_jl h1).mpr hz), S.2⟩
theorem jn_sta (hq : injK KL q) (S : Sta KL D dA q A s.heap w H locs) {H1 : Heap} {locs1 : List Loc} (hP : va_P D vwCl (wld KC dA q w') H1) (hk : ∀ a : Nat, a < H.size → ¬ Aq KC q H.size a → H1[a]? = H[a]?) (hS : va_S A s.heap H1 locs1) : Sta KL D dA q A s.heap (jn w' w) H1 locs1 := by
  refine ⟨fun k z hz => ?_, hS⟩
  obtain ⟨h1, h2⟩ := wld_in hz
  by_cases h : k < 72
  · exact hP k z ((wld_jl h).mp hz)
  · have h4 := S.1 k z (wld_jr h hz)
    refine h4.kept (hk z.1 h4.lt ?_)
    intro hA
    rcases hA with ⟨i, hi, e⟩ | e
    · rw [h2] at e
      have h5 : i < 72 := hi
      have := hq k i h1 (by rw [KL_len]; omega) e
      omega
    · have := h4.lt; omega
/-- a call over the class's cells -/
theorem kl_i (C : Cx EVl KL D dA q A s m args own) (S : Sta KL D dA q A s.heap w H locs) (hr : va_Run p l e R s m args below meth c H locs cells slots mc ms (F0 m pc ls st) rest (va_Qi (fun (r' : Int32) (_ : Unit) => r' = r) (fun _ t => va_P D vwCl (wld KC dA q w') t.heap) (Aq KC q H.size) a) (Aq KC q H.size))
    (kk : ∀ w1 : Wt, w1 = jn w' w → ∀ (H1 : Heap) (locs1 : List Loc), Sta KL D dA q A s.heap w1 H1 locs1 → W p l e R s m args below meth c H1 locs1 (cells + mc) (slots + ms) Q (F0 m (pc + 3) ls (.int r :: rest))) : W p l e R s m args below meth c H locs cells slots Q (F0 m pc ls st) :=
  va_calli hr S.2 (fun x _ h => (kC C).sub (kS S) x h) ((kC C).sub (kS S)) (fun r' _ t H1 locs1 ht _ hr' hP _ hk hS => by subst hr'; rw [ht] at hP; exact kk _ rfl H1 locs1 (jn_sta C.2.2.2.1 S hP hk hS))
theorem kl_i0 (C : Cx EVl KL D dA q A s m args own) (S : Sta KL D dA q A s.heap w H locs) (hr : va_Run p l e R s m args below meth c H locs cells slots mc ms (F0 m pc ls st) rest (va_Qi (fun (r' : Int32) (_ : Unit) => r' = r) (fun _ t => va_P D vwCl (wld KC dA q w) t.heap) (Aq KC q H.size) a) (Aq KC q H.size))
    (kk : ∀ (H1 : Heap) (locs1 : List Loc), Sta KL D dA q A s.heap w H1 locs1 → W p l e R s m args below meth c H1 locs1 (cells + mc) (slots + ms) Q (F0 m (pc + 3) ls (.int r :: rest))) : W p l e R s m args below meth c H locs cells slots Q (F0 m pc ls st) :=
  kl_i C S hr (fun w1 e H1 locs1 S1 => kk H1 locs1 (by rw [e, jn_self] at S1; exact S1))
/-- a call over the law's cells -/
theorem kb_i0 (C : Cx EVl KL D dA q A s m args own) (S : Sta KL D dA q A s.heap w H locs) (hr : va_Run p l e R s m args below meth c H locs cells slots mc ms (F0 m pc ls st) rest (va_Qi (fun (r' : Int32) (_ : Unit) => r' = r) (fun _ t => va_P D vwCl (wld KL dA q w') t.heap) (Aq KL q H.size) a) (Aq KL q H.size))
    (kk : ∀ (H1 : Heap) (locs1 : List Loc), Sta KL D dA q A s.heap w' H1 locs1 → W p l e R s m args below meth c H1 locs1 (cells + mc) (slots + ms) Q (F0 m (pc + 3) ls (.int r :: rest))) : W p l e R s m args below meth c H locs cells slots Q (F0 m pc ls st) :=
  va_calli hr S.2 (fun x _ h => C.sub S x h) (C.sub S) (fun r' _ t H1 locs1 ht _ hr' hP _ _ hS => by subst hr'; exact kk H1 locs1 (q_sta ht hP hS))
theorem kb_i (C : Cx EVl KL D dA q A s m args own) (S : Sta KL D dA q A s.heap w H locs) (hr : va_Run p l e R s m args below meth c H locs cells slots mc ms (F0 m pc ls st) rest (va_Qi (fun (r' : Int32) (_ : Unit) => r' = r) (fun _ t => va_P D vwCl (wld KL dA q w') t.heap) (Aq KL q H.size) a) (Aq KL q H.size))
    (kk : ∀ w1 : Wt, w1 = w' → ∀ (H1 : Heap) (locs1 : List Loc), Sta KL D dA q A s.heap w1 H1 locs1 → W p l e R s m args below meth c H1 locs1 (cells + mc) (slots + ms) Q (F0 m (pc + 3) ls (.int r :: rest))) : W p l e R s m args below meth c H locs cells slots Q (F0 m pc ls st) :=
  kb_i0 C S hr (kk _ rfl)
/-- a helper's call -/
theorem w_S {hh : List (Nat × Nat × Nat × Nat)} {As : List Value} (link : lkW index y b n hh na) (hx : p.tables.exec = Jvm.exec) (hb : c.code = cc) (hml : c.maxLocals = nL) (C : Cx EVl KL D dA q A s m args RL) (S : Sta KL D dA q A s.heap w H locs) (hM : Mw l D dA q y b n hh As w r w') (hR : 60 + 1 ≤ R.frames ∧ 8 + (n + 11) + 1500 ≤ R.locals) (hn : As.length = na) (hsz : ls.size = nL) (hst : st = As.reverse ++ rest) (hW : (rest.map fun v => v.category).sum ≤ 8) (hdg : decode cc pc = .ok (.invokestatic index, 3)) (hf : cells + 4 ≤ R.cells ∧ slots + 24 ≤ R.slots) :
    va_Run p l e R s m args below meth c H locs cells slots 4 24 (F0 m pc ls st) rest (va_Qi (fun (r' : Int32) (_ : Unit) => r' = r) (fun _ t => va_P D vwCl (wld KC dA q w') t.heap) (Aq KC q H.size) As.toArray) (Aq KC q H.size) := by
  obtain ⟨h1, h2, h4, h5, h6, h7⟩ := link
  have cw : vx_CSW R s args RL index y b n (some .int) hh (Cond.codeWith y b n (some .int) hh :: wall) RMw 4 24 na := ⟨⟨rfl, rfl, hR.1, hR.2, pay_in C.2.1 (wall_goodW h5), List.mem_cons_self⟩, C.2.1 _ h5, C.2.1 _ h4, h6, r_len h7, C.2.1 _ h1, C.2.1 _ h2⟩
  exact vx_runSW (Ts := wall) ⟨hx, hb, hml, C.1, C.2.1⟩ (hM H.size) cw ⟨Pr.blind EVl_ok, fun U hU hW => Cx.pre EVl_ok (kCl C) (kS S) hU hW⟩ rfl hn hsz hst (lv_room hW) hdg hf
end LROWS
section LMK
variable {l : Launch} {D : va_G} {dA : Nat → ClassId} {q : Nat → Nat} {y : MethodName} {b : ByteArray} {n mc ms : Nat} {rm : Room} {av : List Value} {w w' : Wt} {r : Int32} {own : String}
theorem mb_z {ty : FieldType} (hy : plainName y.cls = true) (ho : y.cls = own) (hn : (lg_sl av).length ≤ n)
    (walk : ∀ (p : Program) (e : Env) (s : State) (m : MethodId) (args : Array Value) (below : List Frame) (meth : Method) (c : Code) (A : Nat → Prop) (Q : State → Prop) (ls : Array Slot), p.tables.exec = Jvm.exec → c.code = b → c.maxLocals = n → Cx EVl KL D dA q A s m args own → Sta KL D dA q A s.heap w s.heap [] → lv_has ls n (lv_args 0 av) →
      (∀ (H : Heap) (locs : List Loc) (ls : Array Slot) (r' : Int32) (w2 : Wt) (pc cl sl : Nat), cl ≤ mc → sl ≤ ms → narrow ty (.int r') = .int r' → Sta KL D dA q A s.heap w2 H locs → some (r', w2) = some (r, w') → decode b pc = .ok (.ireturn, 1) → W p l e rm s m args below meth c H locs cl sl Q (F0 m pc ls [.int r'])) →
      W p l e rm s m args below meth c s.heap [] 0 0 Q (F0 m 0 ls [])) : Mb l D dA q y b n (some ty) rm mc ms av w r w' := by
  intro sz
  refine Met.ofW (cc := b) (maxL := n) (ret := some ty) hy rfl ?_
  intro p e s m args below meth c s₁ B hml hv
  obtain ⟨rfl, hPr⟩ := hv
  have hts := atoms_spec (ws := Cond.code y b n (some ty) :: wall) B.pre
  obtain ⟨C, S⟩ := Cx.start (args := av.toArray) (ho ▸ findClass_of_methodNamed B.named) (fun x hx => hts x (List.mem_cons_of_mem _ hx)) hPr
  obtain ⟨rfl, -⟩ := hPr
  obtain ⟨ls, e1, hl⟩ := lv_start (m := m) hn
  rw [e1]
  exact walk p e s m _ below meth c _ _ ls B.exec B.bytes hml C S hl (fun H locs ls r' w2 pc cl sl hc hs hn S h d => W.widen hc hs (e_z B.exec B.bytes B.returns B.notSynchronized C S hn h d))
theorem mb_i (hy : plainName y.cls = true) (ho : y.cls = own) (hn : (lg_sl av).length ≤ n)
    (walk : ∀ (p : Program) (e : Env) (s : State) (m : MethodId) (args : Array Value) (below : List Frame) (meth : Method) (c : Code) (A : Nat → Prop) (Q : State → Prop) (ls : Array Slot), p.tables.exec = Jvm.exec → c.code = b → c.maxLocals = n → Cx EVl KL D dA q A s m args own → Sta KL D dA q A s.heap w s.heap [] → lv_has ls n (lv_args 0 av) →
      (∀ (H : Heap) (locs : List Loc) (ls : Array Slot) (r' : Int32) (w2 : Wt) (pc cl sl : Nat), cl ≤ mc → sl ≤ ms → Sta KL D dA q A s.heap w2 H locs → some (r', w2) = some (r, w') → decode b pc = .ok (.ireturn, 1) → W p l e rm s m args below meth c H locs cl sl Q (F0 m pc ls [.int r'])) →
      W p l e rm s m args below meth c s.heap [] 0 0 Q (F0 m 0 ls [])) : Mb l D dA q y b n (some .int) rm mc ms av w r w' :=
  mb_z hy ho hn (fun p e s m args below meth c A Q ls hx hb hml C S hl fin => walk p e s m args below meth c A Q ls hx hb hml C S hl (fun H locs ls r' w2 pc cl sl hc hs S h d => fin H locs ls r' w2 pc cl sl hc hs rfl S h d))
end LMK

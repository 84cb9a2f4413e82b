/-! SUPPORT of the walks: String.indexOf over the constants, an inherited static method, fuel of the recursion -/
def ixF (c : Int32) : List Int32 → Nat → Int32
  | [], _ => -1
  | b :: l, k => if b = c then nI k else ixF c l (k + 1)
/-- indexOf of a letter in the String constant j -/
def sIx (j : Nat) (c : Int32) : Int32 := ixF c (bytS.getD j []) 0
/-- fuel of a recursion -/
def FD : Nat := 30
/-- the words of a call of an inherited static method: x as the call names it -/
def lkSU (own : String) (index : Nat) (owner : String) (x y : MethodName) (b : ByteArray) (n : Nat) (ret : Option FieldType) (na : Nat) : Prop :=
  Cond.methodLink own index x ∈ wall ∧ Cond.sameMethod x.cls owner x.name x.desc ∈ wall ∧ Cond.static y ∈ wall ∧ Cond.initialized y.cls ∈ wall ∧ Cond.code y b n ret ∈ wall ∧ plainM y ∧ nArgs y na ∧ y = ⟨owner, x.name, x.desc⟩
section SUP
variable {p : Program} {l : Launch} {e : Env} {R : Room} {s : State} {m : MethodId} {args : Array Value} {below : List Frame} {meth : Method} {c : Code} {H : Heap} {locs : List Loc} {cells slots : Nat} {Q : State → Prop}
variable {EV : Ev} {K : List Kd} {D : va_G} {dA : Nat → ClassId} {q : Nat → Nat} {A : Nat → Prop} {own : String} {w w' : Wt}
variable {cc : ByteArray} {pc nL : Nat} {ls : Array Slot} {rest st : List Value}
variable {index : Nat} {y : MethodName} {b : ByteArray} {n : Nat} {ret : Option FieldType} {na : Nat} {rm : Room} {As : List Value} {mc ms : Nat}
theorem q_SU {owner : String} {x : MethodName} {Qc : Array Value → State → Outcome → State → Prop} (link : lkSU own index owner x y b n ret na) (ev : evOk EV) (hx : p.tables.exec = Jvm.exec) (hb : c.code = cc) (hml : c.maxLocals = nL) (C : Cx EV K D dA q A s m args own) (S : Sta K D dA q A s.heap w H locs)
    (hM : Met l y (.code y b n ret :: wall) rm (va_Pc As (Pr EV K D dA q H.size w)) Qc mc ms (Aq K q H.size)) (hrc : rm.cells = mc) (hrs : rm.slots = ms) (hR : rm.frames + 1 ≤ R.frames ∧ 8 + (n + 11) + rm.locals ≤ R.locals) (hn : As.length = na) (hsz : ls.size = nL) (hst : st = As.reverse ++ rest) (hW : (rest.map fun v => v.category).sum ≤ 8) (hdg : decode cc pc = .ok (.invokestatic index, 3)) (hf : cells + mc ≤ R.cells ∧ slots + ms ≤ R.slots) :
    va_Run p l e R s m args below meth c H locs cells slots mc ms (F0 m pc ls st) rest (Qc As.toArray) (Aq K q H.size) := by
  sorry
theorem k_ix {j : Nat} {x : Int32} (L : Cond.methodLink own index yJ0_indexOf_0f7a4 ∈ wall) (hx : p.tables.exec = Jvm.exec) (hb : c.code = cc) (hml : c.maxLocals = nL) (C : Cx EVc K D dA q A s m args own) (S : Sta K D dA q A s.heap w H locs) (hj : j < 3) (hf : 8 ≤ R.frames) (hlo : 200 ≤ R.locals) (hsz : ls.size = nL) (hW : (rest.map fun v => v.category).sum ≤ 8) (hdg : decode cc pc = .ok (.invokevirtual index, 3))
    (kk : ∀ (H1 : Heap) (locs1 : List Loc), Sta K D dA q A s.heap w H1 locs1 → W p l e R s m args below meth c H1 locs1 cells slots Q (F0 m (pc + 3) ls (.int (sIx j x) :: rest))) : W p l e R s m args below meth c H locs cells slots Q (F0 m pc ls (.int x :: .ref (sA s j) :: rest)) := by
  sorry
theorem sk_0 (C : Cx EVc K D dA q A s m args own) : vk_R "Ballotscript$Text" 27 "tbamxrlhq" (sA s 0) s := C.str 0 (by decide) rfl
theorem sk_1 (C : Cx EVc K D dA q A s m args own) : vk_R "Ballotscript$Count" 39 "tba" (sA s 1) s := C.str 1 (by decide) rfl
theorem sk_2 (C : Cx EVc K D dA q A s m args own) : vk_R "Ballotscript$Count" 51 "lhq" (sA s 2) s := C.str 2 (by decide) rfl
end SUP

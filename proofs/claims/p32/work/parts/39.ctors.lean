/-! CONSTRUCTORS: worlds that grow -/
section NEW
variable {p : Program} {l : Launch} {e : Env} {R : Room} {s : State} {m : MethodId} {args : Array Value} {below : List Frame} {meth : Method} {c : Code} {H : Heap} {locs : List Loc} {cells slots : Nat} {Q : State → Prop}
variable {D : va_G} {dA : Nat → ClassId} {A : Nat → Prop} {H0 : Heap} {ws : va_W} {cc : ByteArray} {pc : Nat} {ls : Array Slot} {rest : List Value}
theorem n_prim {cA : ClassId} {ty : FieldType} (hp : ty = .int ∨ ty = .boolean ∨ ty = .char) (h : va_RA s cA ty) : s.vm.findClass ("[" ++ ty.toString) = some cA := by
  rcases hp with rfl | rfl | rfl <;> exact h
theorem n_newa {atype : ArrayType} {ty : FieldType} {t N' : Nat} (hx : p.tables.exec = Jvm.exec) (hb : c.code = cc) (hty : newarray.typeOf atype = ty) (hp : ty = .int ∨ ty = .boolean ∨ ty = .char) (harr : (Cond.arrayClass ty).before args s = true) (K : va_K D vwCl (tysW dA) s) (ht : (tysW dA)[t]? = some (dA t, ty)) (hP : va_P D vwCl ws H) (hD : va_D A ws) (hS : va_S A H0 H locs) (hA : ∀ q, H0.size ≤ q → A q) {n : Int32} (hn : ¬ n < 0) (hN : n.toNatClampNeg = N') (hN2 : N' ≤ 10000) (hcells : cells + 1 ≤ R.cells) (hslots : slots + N' ≤ R.slots) (hdg : decode cc pc = .ok (.newarray atype, 2))
    (kk : ∀ (q : Nat) (H1 : Heap), va_P D vwCl (ws ++ [(q, .inl (dA t, N', .inl (fun _ => 0)))]) H1 → va_D A (ws ++ [(q, .inl (dA t, N', .inl (fun _ => 0)))]) → va_S A H0 H1 locs → W p l e R s m args below meth c H1 locs (cells + 1) (slots + N') Q (F0 m (pc + 2) ls (.ref q :: rest))) : W p l e R s m args below meth c H locs cells slots Q (F0 m pc ls (.int n :: rest)) := by
  have hdef : defaultValue ty = .int 0 := by rcases hp with rfl | rfl | rfl <;> rfl
  have hcb : componentBytes ty ≤ 4 := by rcases hp with rfl | rfl | rfl <;> decide
  have h1 := n_prim hp (K.2 t _ ht).2
  refine va_newa (a0 := (N', .inl (fun _ => 0))) hx hb (by rw [hty]; exact harr) hty K hP hD hS hA (fun cA => by rw [hdef]; rfl) hn hN (Nat.le_trans (Nat.mul_le_mul hN2 hcb) (Nat.le_of_ble_eq_true rfl)) hcells hslots hdg (fun q cA H1 K1 hP1 hD1 hS1 => ?_)
  have h2 := n_prim hp (K1.2 5 (cA, ty) rfl).2
  have e1 : cA = dA t := Option.some.inj (h2.symm.trans h1)
  subst e1
  exact kk q H1 hP1 hD1 hS1
end NEW
def n_Pre (D : va_G) (dA : Nat → ClassId) (sz : Nat) (ws : va_W) : State → Prop := fun U => U.heap.size = sz ∧ va_P D vwCl ws U.heap ∧ va_K D vwCl (tysW dA) U
theorem n_blind {D : va_G} {dA : Nat → ClassId} {sz : Nat} {ws : va_W} {av : List Value} : FrameBlind (va_Pc av (n_Pre D dA sz ws)) := by
  intro a U g mk h
  obtain ⟨h0, h1, h2, h3⟩ := h
  exact ⟨h0, h1, h2, va_K.moved (u := U) (U := U.calling g mk a) (Vm.Alike.refl U.vm) h3⟩
theorem n_self {D : va_G} {cl : List vw_C} {a sz : Nat} {e : va_E} {H : Heap} (_ : va_P D cl [(a, e)] H) : va_D (va_A [(a, e)] sz) [(a, e)] := by
  refine ⟨fun i j p r hi hj _ => ?_, fun k r hk => va_A.in hk⟩
  have h1 : i < 1 := (List.getElem?_eq_some_iff.mp hi).1
  have h2 : j < 1 := (List.getElem?_eq_some_iff.mp hj).1
  omega
theorem n_cwI {R : Room} {s : State} {args : Array Value} {own : String} {index : Nat} {y : MethodName} {bytes : ByteArray} {maxL mc ms : Nat} {rm : Room} (n : Nat) (hts : ∀ w ∈ wall, w.before args s = true) (ci : Cond.instanceMethod y ∈ wall ∧ Cond.initialized y.cls ∈ wall ∧ Cond.code y bytes maxL none ∈ wall) (hl : Cond.methodLink own index y ∈ wall) (hrc : rm.cells = mc) (hrs : rm.slots = ms) (hy1 : y.name = "<init>")
    (hd : y.cls ≠ "java/lang/invoke/MethodHandle" ∧ y.cls ≠ "java/lang/invoke/VarHandle" ∧ (parseMethodDescriptor y.desc).map (fun d => d.parameters.length) = some n) (hR : rm.frames + 1 ≤ R.frames ∧ 8 + (maxL + 11) + rm.locals ≤ R.locals) :
    CallB R s args own index y bytes maxL none (Cond.code y bytes maxL none :: wall) rm mc ms n ∧ y.name = "<init>" ∧ (Cond.instanceMethod y).before args s = true :=
  cwI n hts (wall_good (fun _ h => h) ci.2.2) rfl hrc hrs (hts _ ci.2.1) (hts _ hl) (hts _ ci.1) hy1 hd hR
theorem n_cwN {R : Room} {s : State} {args : Array Value} {own host : String} {index : Nat} {y : MethodName} {bytes : ByteArray} {maxL mc ms : Nat} {rm : Room} (n : Nat) (hts : ∀ w ∈ wall, w.before args s = true) (ci : Cond.instanceMethod y ∈ wall ∧ Cond.initialized y.cls ∈ wall ∧ Cond.code y bytes maxL none ∈ wall) (hl : va_Nw (.methodLinkNest own index y host) s) (hrc : rm.cells = mc) (hrs : rm.slots = ms) (hy1 : y.name = "<init>")
    (hd : y.cls ≠ "java/lang/invoke/MethodHandle" ∧ y.cls ≠ "java/lang/invoke/VarHandle" ∧ (parseMethodDescriptor y.desc).map (fun d => d.parameters.length) = some n) (hR : rm.frames + 1 ≤ R.frames ∧ 8 + (maxL + 11) + rm.locals ≤ R.locals) :
    va_CN R s args own index y host bytes maxL none (Cond.code y bytes maxL none :: wall) rm mc ms n ∧ y.name = "<init>" ∧ (Cond.instanceMethod y).before args s = true :=
  ⟨va_cnB n hts (wall_good (fun _ h => h) ci.2.2) rfl hrc hrs hl (hts _ ci.2.1) hd hR, hy1, hts _ ci.1⟩
set_option maxHeartbeats 4000000 in
set_option maxRecDepth 20000 in
theorem c_init_X4_init_X4 (l : Launch) (D : va_G) (dA : Nat → ClassId) (h0 : Nat) (sz : Nat) : Met l yX4_init (.code yX4_init cX4_init 1 none :: wall) ({ frames := 1, cells := 5, slots := 300, locals := 12 }) (va_Pc [.ref h0] (n_Pre D dA sz [(h0, .inr (3, [.null, .null, .null, .null, .null, .int 0]))])) (va_Qv (fun (_ : Unit) => True) (fun _ t => ∃ q1 q2 q3 q4 q5 : Nat, va_P D vwCl [(h0, .inr (3, [.ref q1, .ref q2, .ref q3, .ref q4, .ref q5, .int 0])), (q1, .inl (dA 0, 60, .inl (fun _ => 0))), (q2, .inl (dA 0, 60, .inl (fun _ => 0))), (q3, .inl (dA 0, 60, .inl (fun _ => 0))), (q4, .inl (dA 0, 60, .inl (fun _ => 0))), (q5, .inl (dA 1, 60, .inl (fun _ => 0)))] t.heap ∧ va_D (va_A [(h0, .inr (3, [.null, .null, .null, .null, .null, .int 0]))] sz) [(h0, .inr (3, [.ref q1, .ref q2, .ref q3, .ref q4, .ref q5, .int 0])), (q1, .inl (dA 0, 60, .inl (fun _ => 0))), (q2, .inl (dA 0, 60, .inl (fun _ => 0))), (q3, .inl (dA 0, 60, .inl (fun _ => 0))), (q4, .inl (dA 0, 60, .inl (fun _ => 0))), (q5, .inl (dA 1, 60, .inl (fun _ => 0)))]) (va_A [(h0, .inr (3, [.null, .null, .null, .null, .null, .int 0]))] sz)) 5 300 (va_A [(h0, .inr (3, [.null, .null, .null, .null, .null, .int 0]))] sz) := by
  refine Met.ofW (cc := cX4_init) (maxL := 1) (ret := none) (by decide) rfl ?_
  intro p e s m args below meth c s₁ B hml hv
  obtain ⟨rfl, hsz, hP, hK⟩ := hv
  have hx := B.exec
  have hb := B.bytes
  have hr := B.returns
  have hts0 := atoms_spec (ws := Cond.code yX4_init cX4_init 1 none :: wall) B.pre
  have hts : ∀ w ∈ wall, w.before _ s = true := fun w hw => hts0 w (List.mem_cons_of_mem _ hw)
  have hown : s.vm.findClass RX4 = some m.cls := findClass_of_methodNamed B.named
  have hlocks := B.notSynchronized
  have hin : meth.name = "<init>" := (name_of_methodNamed B.named B.method).1
  subst hsz
  have hD := n_self (sz := s.heap.size) hP
  generalize hAe : va_A [(h0, .inr (3, [.null, .null, .null, .null, .null, .int 0]))] s.heap.size = A at hD ⊢
  have hA : ∀ q : Nat, s.heap.size ≤ q → A q := fun q h => by rw [← hAe]; exact Or.inr h
  have hS : va_S A s.heap s.heap [] := va_S.rf
  have hl := lv_entry [.ref h0] (n := 1) (Nat.le_of_ble_eq_true rfl)
  rw [lg_entry_eq]
  generalize (lg_sl [.ref h0] ++ List.replicate (1 - (lg_sl [.ref h0]).length) Slot.unset).toArray = ls at hl ⊢
  have hl : lv_has ls 1 [(0, .ref h0)] := hl
  refine lv_aload_n hx hb dX4_init_0 rfl (lv_at hl 0 rfl) ?_
  refine W.objInit hx hb hown (hts _ oi_RX4) (hts _ oi_inst) (hts _ oi_code) rfl (by rw [hml]; exact hl.1) rfl dX4_init_1 (Nat.le_of_ble_eq_true rfl) (Nat.le_of_ble_eq_true rfl) ?_
  refine W.eq (g2 := F0 m 4 ls []) rfl ?_
  refine lv_aload_n hx hb dX4_init_4 rfl (lv_at hl 0 rfl) ?_
  refine lv_bipush (v := 60) hx hb dX4_init_5 (by decide) ?_
  refine n_newa (atype := .int) (ty := .int) (t := 0) (N' := 60) hx hb rfl (Or.inl rfl) (hts _ ac_int) hK rfl hP hD hS hA (by decide) (by decide) (by decide) (Nat.le_of_ble_eq_true rfl) (Nat.le_of_ble_eq_true rfl) dX4_init_7 (fun q1 H hP hD hS => ?_)
  have hP : va_P D vwCl [(h0, .inr (3, [.null, .null, .null, .null, .null, .int 0])), (q1, .inl (dA 0, 60, .inl (fun _ => 0)))] H := hP
  have hD : va_D A [(h0, .inr (3, [.null, .null, .null, .null, .null, .int 0])), (q1, .inl (dA 0, 60, .inl (fun _ => 0)))] := hD
  refine W.widen (k := 1) (n := 60) (Nat.le_of_ble_eq_true rfl) (Nat.le_of_ble_eq_true rfl) ?_
  refine va_putF (D := D) (ci := 3) (v := .ref q1) (ty := (tyX4 0)) (C := RX4) (T := TX4) (N := 6) (ref := "Ballotscript$Rolls") hx hb hts in_X4 tyX4 tyX4_ok nmX4 hown hK hP hD hS 0 rfl rfl 0 (Nat.le_of_ble_eq_true rfl) (hts _ pf_X4_init_9_X4) (fun _ h9 => h9) rfl hin rfl (tyX4_ok 0 (Nat.le_of_ble_eq_true rfl)) rfl rfl (Nat.le_of_ble_eq_true rfl) dX4_init_9 (fun H locs hP hD hS => ?_)
  have hP : va_P D vwCl [(h0, .inr (3, [.ref q1, .null, .null, .null, .null, .int 0])), (q1, .inl (dA 0, 60, .inl (fun _ => 0)))] H := hP
  have hD : va_D A [(h0, .inr (3, [.ref q1, .null, .null, .null, .null, .int 0])), (q1, .inl (dA 0, 60, .inl (fun _ => 0)))] := hD
  refine lv_aload_n hx hb dX4_init_12 rfl (lv_at hl 0 rfl) ?_
  refine lv_bipush (v := 60) hx hb dX4_init_13 (by decide) ?_
  refine n_newa (atype := .int) (ty := .int) (t := 0) (N' := 60) hx hb rfl (Or.inl rfl) (hts _ ac_int) hK rfl hP hD hS hA (by decide) (by decide) (by decide) (Nat.le_of_ble_eq_true rfl) (Nat.le_of_ble_eq_true rfl) dX4_init_15 (fun q2 H hP hD hS => ?_)
  have hP : va_P D vwCl [(h0, .inr (3, [.ref q1, .null, .null, .null, .null, .int 0])), (q1, .inl (dA 0, 60, .inl (fun _ => 0))), (q2, .inl (dA 0, 60, .inl (fun _ => 0)))] H := hP
  have hD : va_D A [(h0, .inr (3, [.ref q1, .null, .null, .null, .null, .int 0])), (q1, .inl (dA 0, 60, .inl (fun _ => 0))), (q2, .inl (dA 0, 60, .inl (fun _ => 0)))] := hD
  refine W.widen (k := 2) (n := 120) (Nat.le_of_ble_eq_true rfl) (Nat.le_of_ble_eq_true rfl) ?_
  refine va_putF (D := D) (ci := 3) (v := .ref q2) (ty := (tyX4 1)) (C := RX4) (T := TX4) (N := 6) (ref := "Ballotscript$Rolls") hx hb hts in_X4 tyX4 tyX4_ok nmX4 hown hK hP hD hS 0 rfl rfl 1 (Nat.le_of_ble_eq_true rfl) (hts _ pf_X4_init_17_X4) (fun _ h9 => h9) rfl hin rfl (tyX4_ok 1 (Nat.le_of_ble_eq_true rfl)) rfl rfl (Nat.le_of_ble_eq_true rfl) dX4_init_17 (fun H locs hP hD hS => ?_)
  have hP : va_P D vwCl [(h0, .inr (3, [.ref q1, .ref q2, .null, .null, .null, .int 0])), (q1, .inl (dA 0, 60, .inl (fun _ => 0))), (q2, .inl (dA 0, 60, .inl (fun _ => 0)))] H := hP
  have hD : va_D A [(h0, .inr (3, [.ref q1, .ref q2, .null, .null, .null, .int 0])), (q1, .inl (dA 0, 60, .inl (fun _ => 0))), (q2, .inl (dA 0, 60, .inl (fun _ => 0)))] := hD
  refine lv_aload_n hx hb dX4_init_20 rfl (lv_at hl 0 rfl) ?_
  refine lv_bipush (v := 60) hx hb dX4_init_21 (by decide) ?_
  refine n_newa (atype := .int) (ty := .int) (t := 0) (N' := 60) hx hb rfl (Or.inl rfl) (hts _ ac_int) hK rfl hP hD hS hA (by decide) (by decide) (by decide) (Nat.le_of_ble_eq_true rfl) (Nat.le_of_ble_eq_true rfl) dX4_init_23 (fun q3 H hP hD hS => ?_)
  have hP : va_P D vwCl [(h0, .inr (3, [.ref q1, .ref q2, .null, .null, .null, .int 0])), (q1, .inl (dA 0, 60, .inl (fun _ => 0))), (q2, .inl (dA 0, 60, .inl (fun _ => 0))), (q3, .inl (dA 0, 60, .inl (fun _ => 0)))] H := hP
  have hD : va_D A [(h0, .inr (3, [.ref q1, .ref q2, .null, .null, .null, .int 0])), (q1, .inl (dA 0, 60, .inl (fun _ => 0))), (q2, .inl (dA 0, 60, .inl (fun _ => 0))), (q3, .inl (dA 0, 60, .inl (fun _ => 0)))] := hD
  refine W.widen (k := 3) (n := 180) (Nat.le_of_ble_eq_true rfl) (Nat.le_of_ble_eq_true rfl) ?_
  refine va_putF (D := D) (ci := 3) (v := .ref q3) (ty := (tyX4 2)) (C := RX4) (T := TX4) (N := 6) (ref := "Ballotscript$Rolls") hx hb hts in_X4 tyX4 tyX4_ok nmX4 hown hK hP hD hS 0 rfl rfl 2 (Nat.le_of_ble_eq_true rfl) (hts _ pf_X4_init_25_X4) (fun _ h9 => h9) rfl hin rfl (tyX4_ok 2 (Nat.le_of_ble_eq_true rfl)) rfl rfl (Nat.le_of_ble_eq_true rfl) dX4_init_25 (fun H locs hP hD hS => ?_)
  have hP : va_P D vwCl [(h0, .inr (3, [.ref q1, .ref q2, .ref q3, .null, .null, .int 0])), (q1, .inl (dA 0, 60, .inl (fun _ => 0))), (q2, .inl (dA 0, 60, .inl (fun _ => 0))), (q3, .inl (dA 0, 60, .inl (fun _ => 0)))] H := hP
  have hD : va_D A [(h0, .inr (3, [.ref q1, .ref q2, .ref q3, .null, .null, .int 0])), (q1, .inl (dA 0, 60, .inl (fun _ => 0))), (q2, .inl (dA 0, 60, .inl (fun _ => 0))), (q3, .inl (dA 0, 60, .inl (fun _ => 0)))] := hD
  refine lv_aload_n hx hb dX4_init_28 rfl (lv_at hl 0 rfl) ?_
  refine lv_bipush (v := 60) hx hb dX4_init_29 (by decide) ?_
  refine n_newa (atype := .int) (ty := .int) (t := 0) (N' := 60) hx hb rfl (Or.inl rfl) (hts _ ac_int) hK rfl hP hD hS hA (by decide) (by decide) (by decide) (Nat.le_of_ble_eq_true rfl) (Nat.le_of_ble_eq_true rfl) dX4_init_31 (fun q4 H hP hD hS => ?_)
  have hP : va_P D vwCl [(h0, .inr (3, [.ref q1, .ref q2, .ref q3, .null, .null, .int 0])), (q1, .inl (dA 0, 60, .inl (fun _ => 0))), (q2, .inl (dA 0, 60, .inl (fun _ => 0))), (q3, .inl (dA 0, 60, .inl (fun _ => 0))), (q4, .inl (dA 0, 60, .inl (fun _ => 0)))] H := hP
  have hD : va_D A [(h0, .inr (3, [.ref q1, .ref q2, .ref q3, .null, .null, .int 0])), (q1, .inl (dA 0, 60, .inl (fun _ => 0))), (q2, .inl (dA 0, 60, .inl (fun _ => 0))), (q3, .inl (dA 0, 60, .inl (fun _ => 0))), (q4, .inl (dA 0, 60, .inl (fun _ => 0)))] := hD
  refine W.widen (k := 4) (n := 240) (Nat.le_of_ble_eq_true rfl) (Nat.le_of_ble_eq_true rfl) ?_
  refine va_putF (D := D) (ci := 3) (v := .ref q4) (ty := (tyX4 3)) (C := RX4) (T := TX4) (N := 6) (ref := "Ballotscript$Rolls") hx hb hts in_X4 tyX4 tyX4_ok nmX4 hown hK hP hD hS 0 rfl rfl 3 (Nat.le_of_ble_eq_true rfl) (hts _ pf_X4_init_33_X4) (fun _ h9 => h9) rfl hin rfl (tyX4_ok 3 (Nat.le_of_ble_eq_true rfl)) rfl rfl (Nat.le_of_ble_eq_true rfl) dX4_init_33 (fun H locs hP hD hS => ?_)
  have hP : va_P D vwCl [(h0, .inr (3, [.ref q1, .ref q2, .ref q3, .ref q4, .null, .int 0])), (q1, .inl (dA 0, 60, .inl (fun _ => 0))), (q2, .inl (dA 0, 60, .inl (fun _ => 0))), (q3, .inl (dA 0, 60, .inl (fun _ => 0))), (q4, .inl (dA 0, 60, .inl (fun _ => 0)))] H := hP
  have hD : va_D A [(h0, .inr (3, [.ref q1, .ref q2, .ref q3, .ref q4, .null, .int 0])), (q1, .inl (dA 0, 60, .inl (fun _ => 0))), (q2, .inl (dA 0, 60, .inl (fun _ => 0))), (q3, .inl (dA 0, 60, .inl (fun _ => 0))), (q4, .inl (dA 0, 60, .inl (fun _ => 0)))] := hD
  refine lv_aload_n hx hb dX4_init_36 rfl (lv_at hl 0 rfl) ?_
  refine lv_bipush (v := 60) hx hb dX4_init_37 (by decide) ?_
  refine n_newa (atype := .boolean) (ty := .boolean) (t := 1) (N' := 60) hx hb rfl (Or.inr (Or.inl rfl)) (hts _ ac_boolean) hK rfl hP hD hS hA (by decide) (by decide) (by decide) (Nat.le_of_ble_eq_true rfl) (Nat.le_of_ble_eq_true rfl) dX4_init_39 (fun q5 H hP hD hS => ?_)
  have hP : va_P D vwCl [(h0, .inr (3, [.ref q1, .ref q2, .ref q3, .ref q4, .null, .int 0])), (q1, .inl (dA 0, 60, .inl (fun _ => 0))), (q2, .inl (dA 0, 60, .inl (fun _ => 0))), (q3, .inl (dA 0, 60, .inl (fun _ => 0))), (q4, .inl (dA 0, 60, .inl (fun _ => 0))), (q5, .inl (dA 1, 60, .inl (fun _ => 0)))] H := hP
  have hD : va_D A [(h0, .inr (3, [.ref q1, .ref q2, .ref q3, .ref q4, .null, .int 0])), (q1, .inl (dA 0, 60, .inl (fun _ => 0))), (q2, .inl (dA 0, 60, .inl (fun _ => 0))), (q3, .inl (dA 0, 60, .inl (fun _ => 0))), (q4, .inl (dA 0, 60, .inl (fun _ => 0))), (q5, .inl (dA 1, 60, .inl (fun _ => 0)))] := hD
  refine W.widen (k := 5) (n := 300) (Nat.le_of_ble_eq_true rfl) (Nat.le_of_ble_eq_true rfl) ?_
  refine va_putF (D := D) (ci := 3) (v := .ref q5) (ty := (tyX4 4)) (C := RX4) (T := TX4) (N := 6) (ref := "Ballotscript$Rolls") hx hb hts in_X4 tyX4 tyX4_ok nmX4 hown hK hP hD hS 0 rfl rfl 4 (Nat.le_of_ble_eq_true rfl) (hts _ pf_X4_init_41_X4) (fun _ h9 => h9) rfl hin rfl (tyX4_ok 4 (Nat.le_of_ble_eq_true rfl)) rfl rfl (Nat.le_of_ble_eq_true rfl) dX4_init_41 (fun H locs hP hD hS => ?_)
  have hP : va_P D vwCl [(h0, .inr (3, [.ref q1, .ref q2, .ref q3, .ref q4, .ref q5, .int 0])), (q1, .inl (dA 0, 60, .inl (fun _ => 0))), (q2, .inl (dA 0, 60, .inl (fun _ => 0))), (q3, .inl (dA 0, 60, .inl (fun _ => 0))), (q4, .inl (dA 0, 60, .inl (fun _ => 0))), (q5, .inl (dA 1, 60, .inl (fun _ => 0)))] H := hP
  have hD : va_D A [(h0, .inr (3, [.ref q1, .ref q2, .ref q3, .ref q4, .ref q5, .int 0])), (q1, .inl (dA 0, 60, .inl (fun _ => 0))), (q2, .inl (dA 0, 60, .inl (fun _ => 0))), (q3, .inl (dA 0, 60, .inl (fun _ => 0))), (q4, .inl (dA 0, 60, .inl (fun _ => 0))), (q5, .inl (dA 1, 60, .inl (fun _ => 0)))] := hD
  exact W.vret hx hb hr (fun t ht hW => ⟨⟨(), rfl, trivial, q1, q2, q3, q4, q5, by rw [ht]; exact hP, hD⟩, hS.F ht⟩) hS.2.2 dX4_init_44

set_option maxHeartbeats 4000000 in
set_option maxRecDepth 20000 in
theorem c_init_X7_init_X7 (l : Launch) (D : va_G) (dA : Nat → ClassId) (h0 : Nat) (sz : Nat) : Met l yX7_init (.code yX7_init cX7_init 1 none :: wall) ({ frames := 1, cells := 1, slots := 24, locals := 12 }) (va_Pc [.ref h0] (n_Pre D dA sz [(h0, .inr (6, [.null, .int 0]))])) (va_Qv (fun (_ : Unit) => True) (fun _ t => ∃ q1 : Nat, va_P D vwCl [(h0, .inr (6, [.ref q1, .int 0])), (q1, .inl (dA 2, 24, .inl (fun _ => 0)))] t.heap ∧ va_D (va_A [(h0, .inr (6, [.null, .int 0]))] sz) [(h0, .inr (6, [.ref q1, .int 0])), (q1, .inl (dA 2, 24, .inl (fun _ => 0)))]) (va_A [(h0, .inr (6, [.null, .int 0]))] sz)) 1 24 (va_A [(h0, .inr (6, [.null, .int 0]))] sz) := by
  refine Met.ofW (cc := cX7_init) (maxL := 1) (ret := none) (by decide) rfl ?_
  intro p e s m args below meth c s₁ B hml hv
  obtain ⟨rfl, hsz, hP, hK⟩ := hv
  have hx := B.exec
  have hb := B.bytes
  have hr := B.returns
  have hts0 := atoms_spec (ws := Cond.code yX7_init cX7_init 1 none :: wall) B.pre
  have hts : ∀ w ∈ wall, w.before _ s = true := fun w hw => hts0 w (List.mem_cons_of_mem _ hw)
  have hown : s.vm.findClass RX7 = some m.cls := findClass_of_methodNamed B.named
  have hlocks := B.notSynchronized
  have hin : meth.name = "<init>" := (name_of_methodNamed B.named B.method).1
  subst hsz
  have hD := n_self (sz := s.heap.size) hP
  generalize hAe : va_A [(h0, .inr (6, [.null, .int 0]))] s.heap.size = A at hD ⊢
  have hA : ∀ q : Nat, s.heap.size ≤ q → A q := fun q h => by rw [← hAe]; exact Or.inr h
  have hS : va_S A s.heap s.heap [] := va_S.rf
  have hl := lv_entry [.ref h0] (n := 1) (Nat.le_of_ble_eq_true rfl)
  rw [lg_entry_eq]
  generalize (lg_sl [.ref h0] ++ List.replicate (1 - (lg_sl [.ref h0]).length) Slot.unset).toArray = ls at hl ⊢
  have hl : lv_has ls 1 [(0, .ref h0)] := hl
  refine lv_aload_n hx hb dX7_init_0 rfl (lv_at hl 0 rfl) ?_
  refine W.objInit hx hb hown (hts _ oi_RX7) (hts _ oi_inst) (hts _ oi_code) rfl (by rw [hml]; exact hl.1) rfl dX7_init_1 (Nat.le_of_ble_eq_true rfl) (Nat.le_of_ble_eq_true rfl) ?_
  refine W.eq (g2 := F0 m 4 ls []) rfl ?_
  refine lv_aload_n hx hb dX7_init_4 rfl (lv_at hl 0 rfl) ?_
  refine lv_bipush (v := 24) hx hb dX7_init_5 (by decide) ?_
  refine n_newa (atype := .char) (ty := .char) (t := 2) (N' := 24) hx hb rfl (Or.inr (Or.inr rfl)) (hts _ ac_char) hK rfl hP hD hS hA (by decide) (by decide) (by decide) (Nat.le_of_ble_eq_true rfl) (Nat.le_of_ble_eq_true rfl) dX7_init_7 (fun q1 H hP hD hS => ?_)
  have hP : va_P D vwCl [(h0, .inr (6, [.null, .int 0])), (q1, .inl (dA 2, 24, .inl (fun _ => 0)))] H := hP
  have hD : va_D A [(h0, .inr (6, [.null, .int 0])), (q1, .inl (dA 2, 24, .inl (fun _ => 0)))] := hD
  refine W.widen (k := 1) (n := 24) (Nat.le_of_ble_eq_true rfl) (Nat.le_of_ble_eq_true rfl) ?_
  refine va_putF (D := D) (ci := 6) (v := .ref q1) (ty := (tyX7 0)) (C := RX7) (T := TX7) (N := 2) (ref := "Ballotscript$Text") hx hb hts in_X7 tyX7 tyX7_ok nmX7 hown hK hP hD hS 0 rfl rfl 0 (Nat.le_of_ble_eq_true rfl) (hts _ pf_X7_init_9_X7) (fun _ h9 => h9) rfl hin rfl (tyX7_ok 0 (Nat.le_of_ble_eq_true rfl)) rfl rfl (Nat.le_of_ble_eq_true rfl) dX7_init_9 (fun H locs hP hD hS => ?_)
  have hP : va_P D vwCl [(h0, .inr (6, [.ref q1, .int 0])), (q1, .inl (dA 2, 24, .inl (fun _ => 0)))] H := hP
  have hD : va_D A [(h0, .inr (6, [.ref q1, .int 0])), (q1, .inl (dA 2, 24, .inl (fun _ => 0)))] := hD
  exact W.vret hx hb hr (fun t ht hW => ⟨⟨(), rfl, trivial, q1, by rw [ht]; exact hP, hD⟩, hS.F ht⟩) hS.2.2 dX7_init_12

set_option maxHeartbeats 4000000 in
set_option maxRecDepth 20000 in
theorem c_init_X6_init_X6 (l : Launch) (D : va_G) (dA : Nat → ClassId) (h0 : Nat) (sz : Nat) : Met l yX6_init (.code yX6_init cX6_init 1 none :: wall) ({ frames := 1, cells := 1, slots := 6, locals := 12 }) (va_Pc [.ref h0] (n_Pre D dA sz [(h0, .inr (5, [.null, .int 0]))])) (va_Qv (fun (_ : Unit) => True) (fun _ t => ∃ q1 : Nat, va_P D vwCl [(h0, .inr (5, [.ref q1, .int 0])), (q1, .inl (dA 0, 6, .inl (fun _ => 0)))] t.heap ∧ va_D (va_A [(h0, .inr (5, [.null, .int 0]))] sz) [(h0, .inr (5, [.ref q1, .int 0])), (q1, .inl (dA 0, 6, .inl (fun _ => 0)))]) (va_A [(h0, .inr (5, [.null, .int 0]))] sz)) 1 6 (va_A [(h0, .inr (5, [.null, .int 0]))] sz) := by
  refine Met.ofW (cc := cX6_init) (maxL := 1) (ret := none) (by decide) rfl ?_
  intro p e s m args below meth c s₁ B hml hv
  obtain ⟨rfl, hsz, hP, hK⟩ := hv
  have hx := B.exec
  have hb := B.bytes
  have hr := B.returns
  have hts0 := atoms_spec (ws := Cond.code yX6_init cX6_init 1 none :: wall) B.pre
  have hts : ∀ w ∈ wall, w.before _ s = true := fun w hw => hts0 w (List.mem_cons_of_mem _ hw)
  have hown : s.vm.findClass RX6 = some m.cls := findClass_of_methodNamed B.named
  have hlocks := B.notSynchronized
  have hin : meth.name = "<init>" := (name_of_methodNamed B.named B.method).1
  subst hsz
  have hD := n_self (sz := s.heap.size) hP
  generalize hAe : va_A [(h0, .inr (5, [.null, .int 0]))] s.heap.size = A at hD ⊢
  have hA : ∀ q : Nat, s.heap.size ≤ q → A q := fun q h => by rw [← hAe]; exact Or.inr h
  have hS : va_S A s.heap s.heap [] := va_S.rf
  have hl := lv_entry [.ref h0] (n := 1) (Nat.le_of_ble_eq_true rfl)
  rw [lg_entry_eq]
  generalize (lg_sl [.ref h0] ++ List.replicate (1 - (lg_sl [.ref h0]).length) Slot.unset).toArray = ls at hl ⊢
  have hl : lv_has ls 1 [(0, .ref h0)] := hl
  refine lv_aload_n hx hb dX6_init_0 rfl (lv_at hl 0 rfl) ?_
  refine W.objInit hx hb hown (hts _ oi_RX6) (hts _ oi_inst) (hts _ oi_code) rfl (by rw [hml]; exact hl.1) rfl dX6_init_1 (Nat.le_of_ble_eq_true rfl) (Nat.le_of_ble_eq_true rfl) ?_
  refine W.eq (g2 := F0 m 4 ls []) rfl ?_
  refine lv_aload_n hx hb dX6_init_4 rfl (lv_at hl 0 rfl) ?_
  refine lv_bipush (v := 6) hx hb dX6_init_5 (by decide) ?_
  refine n_newa (atype := .int) (ty := .int) (t := 0) (N' := 6) hx hb rfl (Or.inl rfl) (hts _ ac_int) hK rfl hP hD hS hA (by decide) (by decide) (by decide) (Nat.le_of_ble_eq_true rfl) (Nat.le_of_ble_eq_true rfl) dX6_init_7 (fun q1 H hP hD hS => ?_)
  have hP : va_P D vwCl [(h0, .inr (5, [.null, .int 0])), (q1, .inl (dA 0, 6, .inl (fun _ => 0)))] H := hP
  have hD : va_D A [(h0, .inr (5, [.null, .int 0])), (q1, .inl (dA 0, 6, .inl (fun _ => 0)))] := hD
  refine W.widen (k := 1) (n := 6) (Nat.le_of_ble_eq_true rfl) (Nat.le_of_ble_eq_true rfl) ?_
  refine va_putF (D := D) (ci := 5) (v := .ref q1) (ty := (tyX6 0)) (C := RX6) (T := TX6) (N := 2) (ref := "Ballotscript$Slip") hx hb hts in_X6 tyX6 tyX6_ok nmX6 hown hK hP hD hS 0 rfl rfl 0 (Nat.le_of_ble_eq_true rfl) (hts _ pf_X6_init_9_X6) (fun _ h9 => h9) rfl hin rfl (tyX6_ok 0 (Nat.le_of_ble_eq_true rfl)) rfl rfl (Nat.le_of_ble_eq_true rfl) dX6_init_9 (fun H locs hP hD hS => ?_)
  have hP : va_P D vwCl [(h0, .inr (5, [.ref q1, .int 0])), (q1, .inl (dA 0, 6, .inl (fun _ => 0)))] H := hP
  have hD : va_D A [(h0, .inr (5, [.ref q1, .int 0])), (q1, .inl (dA 0, 6, .inl (fun _ => 0)))] := hD
  exact W.vret hx hb hr (fun t ht hW => ⟨⟨(), rfl, trivial, q1, by rw [ht]; exact hP, hD⟩, hS.F ht⟩) hS.2.2 dX6_init_12

set_option maxHeartbeats 4000000 in
set_option maxRecDepth 20000 in
theorem c_init_X5_init_X5 (l : Launch) (D : va_G) (dA : Nat → ClassId) (h0 : Nat) (sz : Nat) : Met l yX5_init (.code yX5_init cX5_init 1 none :: wall) ({ frames := 1, cells := 3, slots := 72, locals := 12 }) (va_Pc [.ref h0] (n_Pre D dA sz [(h0, .inr (4, [.null, .null, .null, .int 0, .int 0, .int 0]))])) (va_Qv (fun (_ : Unit) => True) (fun _ t => ∃ q1 q2 q3 : Nat, va_P D vwCl [(h0, .inr (4, [.ref q1, .ref q2, .ref q3, .int 0, .int 0, .int 0])), (q1, .inl (dA 2, 24, .inl (fun _ => 0))), (q2, .inl (dA 2, 24, .inl (fun _ => 0))), (q3, .inl (dA 0, 24, .inl (fun _ => 0)))] t.heap ∧ va_D (va_A [(h0, .inr (4, [.null, .null, .null, .int 0, .int 0, .int 0]))] sz) [(h0, .inr (4, [.ref q1, .ref q2, .ref q3, .int 0, .int 0, .int 0])), (q1, .inl (dA 2, 24, .inl (fun _ => 0))), (q2, .inl (dA 2, 24, .inl (fun _ => 0))), (q3, .inl (dA 0, 24, .inl (fun _ => 0)))]) (va_A [(h0, .inr (4, [.null, .null, .null, .int 0, .int 0, .int 0]))] sz)) 3 72 (va_A [(h0, .inr (4, [.null, .null, .null, .int 0, .int 0, .int 0]))] sz) := by
  refine Met.ofW (cc := cX5_init) (maxL := 1) (ret := none) (by decide) rfl ?_
  intro p e s m args below meth c s₁ B hml hv
  obtain ⟨rfl, hsz, hP, hK⟩ := hv
  have hx := B.exec
  have hb := B.bytes
  have hr := B.returns
  have hts0 := atoms_spec (ws := Cond.code yX5_init cX5_init 1 none :: wall) B.pre
  have hts : ∀ w ∈ wall, w.before _ s = true := fun w hw => hts0 w (List.mem_cons_of_mem _ hw)
  have hown : s.vm.findClass RX5 = some m.cls := findClass_of_methodNamed B.named
  have hlocks := B.notSynchronized
  have hin : meth.name = "<init>" := (name_of_methodNamed B.named B.method).1
  subst hsz
  have hD := n_self (sz := s.heap.size) hP
  generalize hAe : va_A [(h0, .inr (4, [.null, .null, .null, .int 0, .int 0, .int 0]))] s.heap.size = A at hD ⊢
  have hA : ∀ q : Nat, s.heap.size ≤ q → A q := fun q h => by rw [← hAe]; exact Or.inr h
  have hS : va_S A s.heap s.heap [] := va_S.rf
  have hl := lv_entry [.ref h0] (n := 1) (Nat.le_of_ble_eq_true rfl)
  rw [lg_entry_eq]
  generalize (lg_sl [.ref h0] ++ List.replicate (1 - (lg_sl [.ref h0]).length) Slot.unset).toArray = ls at hl ⊢
  have hl : lv_has ls 1 [(0, .ref h0)] := hl
  refine lv_aload_n hx hb dX5_init_0 rfl (lv_at hl 0 rfl) ?_
  refine W.objInit hx hb hown (hts _ oi_RX5) (hts _ oi_inst) (hts _ oi_code) rfl (by rw [hml]; exact hl.1) rfl dX5_init_1 (Nat.le_of_ble_eq_true rfl) (Nat.le_of_ble_eq_true rfl) ?_
  refine W.eq (g2 := F0 m 4 ls []) rfl ?_
  refine lv_aload_n hx hb dX5_init_4 rfl (lv_at hl 0 rfl) ?_
  refine lv_bipush (v := 24) hx hb dX5_init_5 (by decide) ?_
  refine n_newa (atype := .char) (ty := .char) (t := 2) (N' := 24) hx hb rfl (Or.inr (Or.inr rfl)) (hts _ ac_char) hK rfl hP hD hS hA (by decide) (by decide) (by decide) (Nat.le_of_ble_eq_true rfl) (Nat.le_of_ble_eq_true rfl) dX5_init_7 (fun q1 H hP hD hS => ?_)
  have hP : va_P D vwCl [(h0, .inr (4, [.null, .null, .null, .int 0, .int 0, .int 0])), (q1, .inl (dA 2, 24, .inl (fun _ => 0)))] H := hP
  have hD : va_D A [(h0, .inr (4, [.null, .null, .null, .int 0, .int 0, .int 0])), (q1, .inl (dA 2, 24, .inl (fun _ => 0)))] := hD
  refine W.widen (k := 1) (n := 24) (Nat.le_of_ble_eq_true rfl) (Nat.le_of_ble_eq_true rfl) ?_
  refine va_putF (D := D) (ci := 4) (v := .ref q1) (ty := (tyX5 0)) (C := RX5) (T := TX5) (N := 6) (ref := "Ballotscript$Rule") hx hb hts in_X5 tyX5 tyX5_ok nmX5 hown hK hP hD hS 0 rfl rfl 0 (Nat.le_of_ble_eq_true rfl) (hts _ pf_X5_init_9_X5) (fun _ h9 => h9) rfl hin rfl (tyX5_ok 0 (Nat.le_of_ble_eq_true rfl)) rfl rfl (Nat.le_of_ble_eq_true rfl) dX5_init_9 (fun H locs hP hD hS => ?_)
  have hP : va_P D vwCl [(h0, .inr (4, [.ref q1, .null, .null, .int 0, .int 0, .int 0])), (q1, .inl (dA 2, 24, .inl (fun _ => 0)))] H := hP
  have hD : va_D A [(h0, .inr (4, [.ref q1, .null, .null, .int 0, .int 0, .int 0])), (q1, .inl (dA 2, 24, .inl (fun _ => 0)))] := hD
  refine lv_aload_n hx hb dX5_init_12 rfl (lv_at hl 0 rfl) ?_
  refine lv_bipush (v := 24) hx hb dX5_init_13 (by decide) ?_
  refine n_newa (atype := .char) (ty := .char) (t := 2) (N' := 24) hx hb rfl (Or.inr (Or.inr rfl)) (hts _ ac_char) hK rfl hP hD hS hA (by decide) (by decide) (by decide) (Nat.le_of_ble_eq_true rfl) (Nat.le_of_ble_eq_true rfl) dX5_init_15 (fun q2 H hP hD hS => ?_)
  have hP : va_P D vwCl [(h0, .inr (4, [.ref q1, .null, .null, .int 0, .int 0, .int 0])), (q1, .inl (dA 2, 24, .inl (fun _ => 0))), (q2, .inl (dA 2, 24, .inl (fun _ => 0)))] H := hP
  have hD : va_D A [(h0, .inr (4, [.ref q1, .null, .null, .int 0, .int 0, .int 0])), (q1, .inl (dA 2, 24, .inl (fun _ => 0))), (q2, .inl (dA 2, 24, .inl (fun _ => 0)))] := hD
  refine W.widen (k := 2) (n := 48) (Nat.le_of_ble_eq_true rfl) (Nat.le_of_ble_eq_true rfl) ?_
  refine va_putF (D := D) (ci := 4) (v := .ref q2) (ty := (tyX5 1)) (C := RX5) (T := TX5) (N := 6) (ref := "Ballotscript$Rule") hx hb hts in_X5 tyX5 tyX5_ok nmX5 hown hK hP hD hS 0 rfl rfl 1 (Nat.le_of_ble_eq_true rfl) (hts _ pf_X5_init_17_X5) (fun _ h9 => h9) rfl hin rfl (tyX5_ok 1 (Nat.le_of_ble_eq_true rfl)) rfl rfl (Nat.le_of_ble_eq_true rfl) dX5_init_17 (fun H locs hP hD hS => ?_)
  have hP : va_P D vwCl [(h0, .inr (4, [.ref q1, .ref q2, .null, .int 0, .int 0, .int 0])), (q1, .inl (dA 2, 24, .inl (fun _ => 0))), (q2, .inl (dA 2, 24, .inl (fun _ => 0)))] H := hP
  have hD : va_D A [(h0, .inr (4, [.ref q1, .ref q2, .null, .int 0, .int 0, .int 0])), (q1, .inl (dA 2, 24, .inl (fun _ => 0))), (q2, .inl (dA 2, 24, .inl (fun _ => 0)))] := hD
  refine lv_aload_n hx hb dX5_init_20 rfl (lv_at hl 0 rfl) ?_
  refine lv_bipush (v := 24) hx hb dX5_init_21 (by decide) ?_
  refine n_newa (atype := .int) (ty := .int) (t := 0) (N' := 24) hx hb rfl (Or.inl rfl) (hts _ ac_int) hK rfl hP hD hS hA (by decide) (by decide) (by decide) (Nat.le_of_ble_eq_true rfl) (Nat.le_of_ble_eq_true rfl) dX5_init_23 (fun q3 H hP hD hS => ?_)
  have hP : va_P D vwCl [(h0, .inr (4, [.ref q1, .ref q2, .null, .int 0, .int 0, .int 0])), (q1, .inl (dA 2, 24, .inl (fun _ => 0))), (q2, .inl (dA 2, 24, .inl (fun _ => 0))), (q3, .inl (dA 0, 24, .inl (fun _ => 0)))] H := hP
  have hD : va_D A [(h0, .inr (4, [.ref q1, .ref q2, .null, .int 0, .int 0, .int 0])), (q1, .inl (dA 2, 24, .inl (fun _ => 0))), (q2, .inl (dA 2, 24, .inl (fun _ => 0))), (q3, .inl (dA 0, 24, .inl (fun _ => 0)))] := hD
  refine W.widen (k := 3) (n := 72) (Nat.le_of_ble_eq_true rfl) (Nat.le_of_ble_eq_true rfl) ?_
  refine va_putF (D := D) (ci := 4) (v := .ref q3) (ty := (tyX5 2)) (C := RX5) (T := TX5) (N := 6) (ref := "Ballotscript$Rule") hx hb hts in_X5 tyX5 tyX5_ok nmX5 hown hK hP hD hS 0 rfl rfl 2 (Nat.le_of_ble_eq_true rfl) (hts _ pf_X5_init_25_X5) (fun _ h9 => h9) rfl hin rfl (tyX5_ok 2 (Nat.le_of_ble_eq_true rfl)) rfl rfl (Nat.le_of_ble_eq_true rfl) dX5_init_25 (fun H locs hP hD hS => ?_)
  have hP : va_P D vwCl [(h0, .inr (4, [.ref q1, .ref q2, .ref q3, .int 0, .int 0, .int 0])), (q1, .inl (dA 2, 24, .inl (fun _ => 0))), (q2, .inl (dA 2, 24, .inl (fun _ => 0))), (q3, .inl (dA 0, 24, .inl (fun _ => 0)))] H := hP
  have hD : va_D A [(h0, .inr (4, [.ref q1, .ref q2, .ref q3, .int 0, .int 0, .int 0])), (q1, .inl (dA 2, 24, .inl (fun _ => 0))), (q2, .inl (dA 2, 24, .inl (fun _ => 0))), (q3, .inl (dA 0, 24, .inl (fun _ => 0)))] := hD
  exact W.vret hx hb hr (fun t ht hW => ⟨⟨(), rfl, trivial, q1, q2, q3, by rw [ht]; exact hP, hD⟩, hS.F ht⟩) hS.2.2 dX5_init_28

set_option maxHeartbeats 4000000 in
set_option maxRecDepth 20000 in
theorem c_init_X8_init_X8 (l : Launch) (D : va_G) (dA : Nat → ClassId) (h0 : Nat) (sz : Nat) : Met l yX8_init (.code yX8_init cX8_init 1 none :: wall) ({ frames := 1, cells := 0, slots := 0, locals := 12 }) (va_Pc [.ref h0] (n_Pre D dA sz [(h0, .inr (7, [.int 0, .int 0, .int 0, .int 0, .int 0, .int 0, .int 0, .int 0, .int 0]))])) (va_Qv (fun (_ : Unit) => True) (fun _ t => va_P D vwCl [(h0, .inr (7, [.int 0, .int 0, .int 0, .int 0, .int 0, .int 0, .int 0, .int (-1), .int 0]))] t.heap ∧ va_D (va_A [(h0, .inr (7, [.int 0, .int 0, .int 0, .int 0, .int 0, .int 0, .int 0, .int 0, .int 0]))] sz) [(h0, .inr (7, [.int 0, .int 0, .int 0, .int 0, .int 0, .int 0, .int 0, .int (-1), .int 0]))]) (va_A [(h0, .inr (7, [.int 0, .int 0, .int 0, .int 0, .int 0, .int 0, .int 0, .int 0, .int 0]))] sz)) 0 0 (va_A [(h0, .inr (7, [.int 0, .int 0, .int 0, .int 0, .int 0, .int 0, .int 0, .int 0, .int 0]))] sz) := by
  refine Met.ofW (cc := cX8_init) (maxL := 1) (ret := none) (by decide) rfl ?_
  intro p e s m args below meth c s₁ B hml hv
  obtain ⟨rfl, hsz, hP, hK⟩ := hv
  have hx := B.exec
  have hb := B.bytes
  have hr := B.returns
  have hts0 := atoms_spec (ws := Cond.code yX8_init cX8_init 1 none :: wall) B.pre
  have hts : ∀ w ∈ wall, w.before _ s = true := fun w hw => hts0 w (List.mem_cons_of_mem _ hw)
  have hown : s.vm.findClass RX8 = some m.cls := findClass_of_methodNamed B.named
  have hlocks := B.notSynchronized
  have hin : meth.name = "<init>" := (name_of_methodNamed B.named B.method).1
  subst hsz
  have hD := n_self (sz := s.heap.size) hP
  generalize hAe : va_A [(h0, .inr (7, [.int 0, .int 0, .int 0, .int 0, .int 0, .int 0, .int 0, .int 0, .int 0]))] s.heap.size = A at hD ⊢
  have hA : ∀ q : Nat, s.heap.size ≤ q → A q := fun q h => by rw [← hAe]; exact Or.inr h
  have hS : va_S A s.heap s.heap [] := va_S.rf
  have hl := lv_entry [.ref h0] (n := 1) (Nat.le_of_ble_eq_true rfl)
  rw [lg_entry_eq]
  generalize (lg_sl [.ref h0] ++ List.replicate (1 - (lg_sl [.ref h0]).length) Slot.unset).toArray = ls at hl ⊢
  have hl : lv_has ls 1 [(0, .ref h0)] := hl
  refine lv_aload_n hx hb dX8_init_0 rfl (lv_at hl 0 rfl) ?_
  refine W.objInit hx hb hown (hts _ oi_RX8) (hts _ oi_inst) (hts _ oi_code) rfl (by rw [hml]; exact hl.1) rfl dX8_init_1 (Nat.le_of_ble_eq_true rfl) (Nat.le_of_ble_eq_true rfl) ?_
  refine W.eq (g2 := F0 m 4 ls []) rfl ?_
  refine lv_aload_n hx hb dX8_init_4 rfl (lv_at hl 0 rfl) ?_
  refine lv_iconst (v := -1) hx hb dX8_init_5 (by decide) ?_
  refine va_put (D := D) (ci := 7) (v := .int (-1)) (ty := .int) (C := RX8) (T := TX8) (N := 9) (ref := "Ballotscript$Vote") hx hb hts in_X8 tyX8 tyX8_ok nmX8 hown hK hP hD hS 0 rfl rfl 7 (Nat.le_of_ble_eq_true rfl) (hts _ pf_X8_init_6_X8) (fun _ h9 => h9) rfl (tyX8_ok 7 (Nat.le_of_ble_eq_true rfl)) rfl rfl (Nat.le_of_ble_eq_true rfl) dX8_init_6 (fun H locs hP hD hS => ?_)
  have hP : va_P D vwCl [(h0, .inr (7, [.int 0, .int 0, .int 0, .int 0, .int 0, .int 0, .int 0, .int (-1), .int 0]))] H := hP
  have hD : va_D A [(h0, .inr (7, [.int 0, .int 0, .int 0, .int 0, .int 0, .int 0, .int 0, .int (-1), .int 0]))] := hD
  exact W.vret hx hb hr (fun t ht hW => ⟨⟨(), rfl, trivial, by rw [ht]; exact hP, hD⟩, hS.F ht⟩) hS.2.2 dX8_init_9

set_option maxHeartbeats 4000000 in
set_option maxRecDepth 20000 in
theorem c_init_X0_init_X0 (l : Launch) (D : va_G) (dA : Nat → ClassId) (h0 r1 : Nat) (sz : Nat) : Met l yX0_init (.code yX0_init cX0_init 2 none :: wall) ({ frames := 1, cells := 8, slots := 1300, locals := 12 }) (va_Pc [.ref h0, .ref r1] (n_Pre D dA sz [(h0, .inr (0, [.null, .null, .null, .null, .null, .null, .null, .null, .int 0, .null, .int 0]))])) (va_Qv (fun (_ : Unit) => True) (fun _ t => ∃ q1 q2 q3 q4 q5 q6 q7 q8 : Nat, va_P D vwCl [(h0, .inr (0, [.ref r1, .ref q1, .ref q2, .ref q3, .ref q4, .ref q5, .ref q6, .ref q7, .int 0, .ref q8, .int 0])), (q1, .inl (dA 0, 100, .inl (fun _ => 0))), (q2, .inl (dA 0, 100, .inl (fun _ => 0))), (q3, .inl (dA 0, 100, .inl (fun _ => 0))), (q4, .inl (dA 0, 100, .inl (fun _ => 0))), (q5, .inl (dA 0, 100, .inl (fun _ => 0))), (q6, .inl (dA 0, 600, .inl (fun _ => 0))), (q7, .inl (dA 1, 100, .inl (fun _ => 0))), (q8, .inl (dA 0, 100, .inl (fun _ => 0)))] t.heap ∧ va_D (va_A [(h0, .inr (0, [.null, .null, .null, .null, .null, .null, .null, .null, .int 0, .null, .int 0]))] sz) [(h0, .inr (0, [.ref r1, .ref q1, .ref q2, .ref q3, .ref q4, .ref q5, .ref q6, .ref q7, .int 0, .ref q8, .int 0])), (q1, .inl (dA 0, 100, .inl (fun _ => 0))), (q2, .inl (dA 0, 100, .inl (fun _ => 0))), (q3, .inl (dA 0, 100, .inl (fun _ => 0))), (q4, .inl (dA 0, 100, .inl (fun _ => 0))), (q5, .inl (dA 0, 100, .inl (fun _ => 0))), (q6, .inl (dA 0, 600, .inl (fun _ => 0))), (q7, .inl (dA 1, 100, .inl (fun _ => 0))), (q8, .inl (dA 0, 100, .inl (fun _ => 0)))]) (va_A [(h0, .inr (0, [.null, .null, .null, .null, .null, .null, .null, .null, .int 0, .null, .int 0]))] sz)) 8 1300 (va_A [(h0, .inr (0, [.null, .null, .null, .null, .null, .null, .null, .null, .int 0, .null, .int 0]))] sz) := by
  refine Met.ofW (cc := cX0_init) (maxL := 2) (ret := none) (by decide) rfl ?_
  intro p e s m args below meth c s₁ B hml hv
  obtain ⟨rfl, hsz, hP, hK⟩ := hv
  have hx := B.exec
  have hb := B.bytes
  have hr := B.returns
  have hts0 := atoms_spec (ws := Cond.code yX0_init cX0_init 2 none :: wall) B.pre
  have hts : ∀ w ∈ wall, w.before _ s = true := fun w hw => hts0 w (List.mem_cons_of_mem _ hw)
  have hown : s.vm.findClass RX0 = some m.cls := findClass_of_methodNamed B.named
  have hlocks := B.notSynchronized
  have hin : meth.name = "<init>" := (name_of_methodNamed B.named B.method).1
  subst hsz
  have hD := n_self (sz := s.heap.size) hP
  generalize hAe : va_A [(h0, .inr (0, [.null, .null, .null, .null, .null, .null, .null, .null, .int 0, .null, .int 0]))] s.heap.size = A at hD ⊢
  have hA : ∀ q : Nat, s.heap.size ≤ q → A q := fun q h => by rw [← hAe]; exact Or.inr h
  have hS : va_S A s.heap s.heap [] := va_S.rf
  have hl := lv_entry [.ref h0, .ref r1] (n := 2) (Nat.le_of_ble_eq_true rfl)
  rw [lg_entry_eq]
  generalize (lg_sl [.ref h0, .ref r1] ++ List.replicate (2 - (lg_sl [.ref h0, .ref r1]).length) Slot.unset).toArray = ls at hl ⊢
  have hl : lv_has ls 2 [(0, .ref h0), (1, .ref r1)] := hl
  refine lv_aload_n hx hb dX0_init_0 rfl (lv_at hl 0 rfl) ?_
  refine W.objInit hx hb hown (hts _ oi_RX0) (hts _ oi_inst) (hts _ oi_code) rfl (by rw [hml]; exact hl.1) rfl dX0_init_1 (Nat.le_of_ble_eq_true rfl) (Nat.le_of_ble_eq_true rfl) ?_
  refine W.eq (g2 := F0 m 4 ls []) rfl ?_
  refine lv_aload_n hx hb dX0_init_4 rfl (lv_at hl 0 rfl) ?_
  refine lv_bipush (v := 100) hx hb dX0_init_5 (by decide) ?_
  refine n_newa (atype := .int) (ty := .int) (t := 0) (N' := 100) hx hb rfl (Or.inl rfl) (hts _ ac_int) hK rfl hP hD hS hA (by decide) (by decide) (by decide) (Nat.le_of_ble_eq_true rfl) (Nat.le_of_ble_eq_true rfl) dX0_init_7 (fun q1 H hP hD hS => ?_)
  have hP : va_P D vwCl [(h0, .inr (0, [.null, .null, .null, .null, .null, .null, .null, .null, .int 0, .null, .int 0])), (q1, .inl (dA 0, 100, .inl (fun _ => 0)))] H := hP
  have hD : va_D A [(h0, .inr (0, [.null, .null, .null, .null, .null, .null, .null, .null, .int 0, .null, .int 0])), (q1, .inl (dA 0, 100, .inl (fun _ => 0)))] := hD
  refine W.widen (k := 1) (n := 100) (Nat.le_of_ble_eq_true rfl) (Nat.le_of_ble_eq_true rfl) ?_
  refine va_putF (D := D) (ci := 0) (v := .ref q1) (ty := (tyX0 1)) (C := RX0) (T := TX0) (N := 11) (ref := "Ballotscript$Box") hx hb hts in_X0 tyX0 tyX0_ok nmX0 hown hK hP hD hS 0 rfl rfl 1 (Nat.le_of_ble_eq_true rfl) (hts _ pf_X0_init_9_X0) (fun _ h9 => h9) rfl hin rfl (tyX0_ok 1 (Nat.le_of_ble_eq_true rfl)) rfl rfl (Nat.le_of_ble_eq_true rfl) dX0_init_9 (fun H locs hP hD hS => ?_)
  have hP : va_P D vwCl [(h0, .inr (0, [.null, .ref q1, .null, .null, .null, .null, .null, .null, .int 0, .null, .int 0])), (q1, .inl (dA 0, 100, .inl (fun _ => 0)))] H := hP
  have hD : va_D A [(h0, .inr (0, [.null, .ref q1, .null, .null, .null, .null, .null, .null, .int 0, .null, .int 0])), (q1, .inl (dA 0, 100, .inl (fun _ => 0)))] := hD
  refine lv_aload_n hx hb dX0_init_12 rfl (lv_at hl 0 rfl) ?_
  refine lv_bipush (v := 100) hx hb dX0_init_13 (by decide) ?_
  refine n_newa (atype := .int) (ty := .int) (t := 0) (N' := 100) hx hb rfl (Or.inl rfl) (hts _ ac_int) hK rfl hP hD hS hA (by decide) (by decide) (by decide) (Nat.le_of_ble_eq_true rfl) (Nat.le_of_ble_eq_true rfl) dX0_init_15 (fun q2 H hP hD hS => ?_)
  have hP : va_P D vwCl [(h0, .inr (0, [.null, .ref q1, .null, .null, .null, .null, .null, .null, .int 0, .null, .int 0])), (q1, .inl (dA 0, 100, .inl (fun _ => 0))), (q2, .inl (dA 0, 100, .inl (fun _ => 0)))] H := hP
  have hD : va_D A [(h0, .inr (0, [.null, .ref q1, .null, .null, .null, .null, .null, .null, .int 0, .null, .int 0])), (q1, .inl (dA 0, 100, .inl (fun _ => 0))), (q2, .inl (dA 0, 100, .inl (fun _ => 0)))] := hD
  refine W.widen (k := 2) (n := 200) (Nat.le_of_ble_eq_true rfl) (Nat.le_of_ble_eq_true rfl) ?_
  refine va_putF (D := D) (ci := 0) (v := .ref q2) (ty := (tyX0 2)) (C := RX0) (T := TX0) (N := 11) (ref := "Ballotscript$Box") hx hb hts in_X0 tyX0 tyX0_ok nmX0 hown hK hP hD hS 0 rfl rfl 2 (Nat.le_of_ble_eq_true rfl) (hts _ pf_X0_init_17_X0) (fun _ h9 => h9) rfl hin rfl (tyX0_ok 2 (Nat.le_of_ble_eq_true rfl)) rfl rfl (Nat.le_of_ble_eq_true rfl) dX0_init_17 (fun H locs hP hD hS => ?_)
  have hP : va_P D vwCl [(h0, .inr (0, [.null, .ref q1, .ref q2, .null, .null, .null, .null, .null, .int 0, .null, .int 0])), (q1, .inl (dA 0, 100, .inl (fun _ => 0))), (q2, .inl (dA 0, 100, .inl (fun _ => 0)))] H := hP
  have hD : va_D A [(h0, .inr (0, [.null, .ref q1, .ref q2, .null, .null, .null, .null, .null, .int 0, .null, .int 0])), (q1, .inl (dA 0, 100, .inl (fun _ => 0))), (q2, .inl (dA 0, 100, .inl (fun _ => 0)))] := hD
  refine lv_aload_n hx hb dX0_init_20 rfl (lv_at hl 0 rfl) ?_
  refine lv_bipush (v := 100) hx hb dX0_init_21 (by decide) ?_
  refine n_newa (atype := .int) (ty := .int) (t := 0) (N' := 100) hx hb rfl (Or.inl rfl) (hts _ ac_int) hK rfl hP hD hS hA (by decide) (by decide) (by decide) (Nat.le_of_ble_eq_true rfl) (Nat.le_of_ble_eq_true rfl) dX0_init_23 (fun q3 H hP hD hS => ?_)
  have hP : va_P D vwCl [(h0, .inr (0, [.null, .ref q1, .ref q2, .null, .null, .null, .null, .null, .int 0, .null, .int 0])), (q1, .inl (dA 0, 100, .inl (fun _ => 0))), (q2, .inl (dA 0, 100, .inl (fun _ => 0))), (q3, .inl (dA 0, 100, .inl (fun _ => 0)))] H := hP
  have hD : va_D A [(h0, .inr (0, [.null, .ref q1, .ref q2, .null, .null, .null, .null, .null, .int 0, .null, .int 0])), (q1, .inl (dA 0, 100, .inl (fun _ => 0))), (q2, .inl (dA 0, 100, .inl (fun _ => 0))), (q3, .inl (dA 0, 100, .inl (fun _ => 0)))] := hD
  refine W.widen (k := 3) (n := 300) (Nat.le_of_ble_eq_true rfl) (Nat.le_of_ble_eq_true rfl) ?_
  refine va_putF (D := D) (ci := 0) (v := .ref q3) (ty := (tyX0 3)) (C := RX0) (T := TX0) (N := 11) (ref := "Ballotscript$Box") hx hb hts in_X0 tyX0 tyX0_ok nmX0 hown hK hP hD hS 0 rfl rfl 3 (Nat.le_of_ble_eq_true rfl) (hts _ pf_X0_init_25_X0) (fun _ h9 => h9) rfl hin rfl (tyX0_ok 3 (Nat.le_of_ble_eq_true rfl)) rfl rfl (Nat.le_of_ble_eq_true rfl) dX0_init_25 (fun H locs hP hD hS => ?_)
  have hP : va_P D vwCl [(h0, .inr (0, [.null, .ref q1, .ref q2, .ref q3, .null, .null, .null, .null, .int 0, .null, .int 0])), (q1, .inl (dA 0, 100, .inl (fun _ => 0))), (q2, .inl (dA 0, 100, .inl (fun _ => 0))), (q3, .inl (dA 0, 100, .inl (fun _ => 0)))] H := hP
  have hD : va_D A [(h0, .inr (0, [.null, .ref q1, .ref q2, .ref q3, .null, .null, .null, .null, .int 0, .null, .int 0])), (q1, .inl (dA 0, 100, .inl (fun _ => 0))), (q2, .inl (dA 0, 100, .inl (fun _ => 0))), (q3, .inl (dA 0, 100, .inl (fun _ => 0)))] := hD
  refine lv_aload_n hx hb dX0_init_28 rfl (lv_at hl 0 rfl) ?_
  refine lv_bipush (v := 100) hx hb dX0_init_29 (by decide) ?_
  refine n_newa (atype := .int) (ty := .int) (t := 0) (N' := 100) hx hb rfl (Or.inl rfl) (hts _ ac_int) hK rfl hP hD hS hA (by decide) (by decide) (by decide) (Nat.le_of_ble_eq_true rfl) (Nat.le_of_ble_eq_true rfl) dX0_init_31 (fun q4 H hP hD hS => ?_)
  have hP : va_P D vwCl [(h0, .inr (0, [.null, .ref q1, .ref q2, .ref q3, .null, .null, .null, .null, .int 0, .null, .int 0])), (q1, .inl (dA 0, 100, .inl (fun _ => 0))), (q2, .inl (dA 0, 100, .inl (fun _ => 0))), (q3, .inl (dA 0, 100, .inl (fun _ => 0))), (q4, .inl (dA 0, 100, .inl (fun _ => 0)))] H := hP
  have hD : va_D A [(h0, .inr (0, [.null, .ref q1, .ref q2, .ref q3, .null, .null, .null, .null, .int 0, .null, .int 0])), (q1, .inl (dA 0, 100, .inl (fun _ => 0))), (q2, .inl (dA 0, 100, .inl (fun _ => 0))), (q3, .inl (dA 0, 100, .inl (fun _ => 0))), (q4, .inl (dA 0, 100, .inl (fun _ => 0)))] := hD
  refine W.widen (k := 4) (n := 400) (Nat.le_of_ble_eq_true rfl) (Nat.le_of_ble_eq_true rfl) ?_
  refine va_putF (D := D) (ci := 0) (v := .ref q4) (ty := (tyX0 4)) (C := RX0) (T := TX0) (N := 11) (ref := "Ballotscript$Box") hx hb hts in_X0 tyX0 tyX0_ok nmX0 hown hK hP hD hS 0 rfl rfl 4 (Nat.le_of_ble_eq_true rfl) (hts _ pf_X0_init_33_X0) (fun _ h9 => h9) rfl hin rfl (tyX0_ok 4 (Nat.le_of_ble_eq_true rfl)) rfl rfl (Nat.le_of_ble_eq_true rfl) dX0_init_33 (fun H locs hP hD hS => ?_)
  have hP : va_P D vwCl [(h0, .inr (0, [.null, .ref q1, .ref q2, .ref q3, .ref q4, .null, .null, .null, .int 0, .null, .int 0])), (q1, .inl (dA 0, 100, .inl (fun _ => 0))), (q2, .inl (dA 0, 100, .inl (fun _ => 0))), (q3, .inl (dA 0, 100, .inl (fun _ => 0))), (q4, .inl (dA 0, 100, .inl (fun _ => 0)))] H := hP
  have hD : va_D A [(h0, .inr (0, [.null, .ref q1, .ref q2, .ref q3, .ref q4, .null, .null, .null, .int 0, .null, .int 0])), (q1, .inl (dA 0, 100, .inl (fun _ => 0))), (q2, .inl (dA 0, 100, .inl (fun _ => 0))), (q3, .inl (dA 0, 100, .inl (fun _ => 0))), (q4, .inl (dA 0, 100, .inl (fun _ => 0)))] := hD
  refine lv_aload_n hx hb dX0_init_36 rfl (lv_at hl 0 rfl) ?_
  refine lv_bipush (v := 100) hx hb dX0_init_37 (by decide) ?_
  refine n_newa (atype := .int) (ty := .int) (t := 0) (N' := 100) hx hb rfl (Or.inl rfl) (hts _ ac_int) hK rfl hP hD hS hA (by decide) (by decide) (by decide) (Nat.le_of_ble_eq_true rfl) (Nat.le_of_ble_eq_true rfl) dX0_init_39 (fun q5 H hP hD hS => ?_)
  have hP : va_P D vwCl [(h0, .inr (0, [.null, .ref q1, .ref q2, .ref q3, .ref q4, .null, .null, .null, .int 0, .null, .int 0])), (q1, .inl (dA 0, 100, .inl (fun _ => 0))), (q2, .inl (dA 0, 100, .inl (fun _ => 0))), (q3, .inl (dA 0, 100, .inl (fun _ => 0))), (q4, .inl (dA 0, 100, .inl (fun _ => 0))), (q5, .inl (dA 0, 100, .inl (fun _ => 0)))] H := hP
  have hD : va_D A [(h0, .inr (0, [.null, .ref q1, .ref q2, .ref q3, .ref q4, .null, .null, .null, .int 0, .null, .int 0])), (q1, .inl (dA 0, 100, .inl (fun _ => 0))), (q2, .inl (dA 0, 100, .inl (fun _ => 0))), (q3, .inl (dA 0, 100, .inl (fun _ => 0))), (q4, .inl (dA 0, 100, .inl (fun _ => 0))), (q5, .inl (dA 0, 100, .inl (fun _ => 0)))] := hD
  refine W.widen (k := 5) (n := 500) (Nat.le_of_ble_eq_true rfl) (Nat.le_of_ble_eq_true rfl) ?_
  refine va_putF (D := D) (ci := 0) (v := .ref q5) (ty := (tyX0 5)) (C := RX0) (T := TX0) (N := 11) (ref := "Ballotscript$Box") hx hb hts in_X0 tyX0 tyX0_ok nmX0 hown hK hP hD hS 0 rfl rfl 5 (Nat.le_of_ble_eq_true rfl) (hts _ pf_X0_init_41_X0) (fun _ h9 => h9) rfl hin rfl (tyX0_ok 5 (Nat.le_of_ble_eq_true rfl)) rfl rfl (Nat.le_of_ble_eq_true rfl) dX0_init_41 (fun H locs hP hD hS => ?_)
  have hP : va_P D vwCl [(h0, .inr (0, [.null, .ref q1, .ref q2, .ref q3, .ref q4, .ref q5, .null, .null, .int 0, .null, .int 0])), (q1, .inl (dA 0, 100, .inl (fun _ => 0))), (q2, .inl (dA 0, 100, .inl (fun _ => 0))), (q3, .inl (dA 0, 100, .inl (fun _ => 0))), (q4, .inl (dA 0, 100, .inl (fun _ => 0))), (q5, .inl (dA 0, 100, .inl (fun _ => 0)))] H := hP
  have hD : va_D A [(h0, .inr (0, [.null, .ref q1, .ref q2, .ref q3, .ref q4, .ref q5, .null, .null, .int 0, .null, .int 0])), (q1, .inl (dA 0, 100, .inl (fun _ => 0))), (q2, .inl (dA 0, 100, .inl (fun _ => 0))), (q3, .inl (dA 0, 100, .inl (fun _ => 0))), (q4, .inl (dA 0, 100, .inl (fun _ => 0))), (q5, .inl (dA 0, 100, .inl (fun _ => 0)))] := hD
  refine lv_aload_n hx hb dX0_init_44 rfl (lv_at hl 0 rfl) ?_
  refine lv_sipush (v := 600) hx hb dX0_init_45 (by decide) ?_
  refine n_newa (atype := .int) (ty := .int) (t := 0) (N' := 600) hx hb rfl (Or.inl rfl) (hts _ ac_int) hK rfl hP hD hS hA (by decide) (by decide) (by decide) (Nat.le_of_ble_eq_true rfl) (Nat.le_of_ble_eq_true rfl) dX0_init_48 (fun q6 H hP hD hS => ?_)
  have hP : va_P D vwCl [(h0, .inr (0, [.null, .ref q1, .ref q2, .ref q3, .ref q4, .ref q5, .null, .null, .int 0, .null, .int 0])), (q1, .inl (dA 0, 100, .inl (fun _ => 0))), (q2, .inl (dA 0, 100, .inl (fun _ => 0))), (q3, .inl (dA 0, 100, .inl (fun _ => 0))), (q4, .inl (dA 0, 100, .inl (fun _ => 0))), (q5, .inl (dA 0, 100, .inl (fun _ => 0))), (q6, .inl (dA 0, 600, .inl (fun _ => 0)))] H := hP
  have hD : va_D A [(h0, .inr (0, [.null, .ref q1, .ref q2, .ref q3, .ref q4, .ref q5, .null, .null, .int 0, .null, .int 0])), (q1, .inl (dA 0, 100, .inl (fun _ => 0))), (q2, .inl (dA 0, 100, .inl (fun _ => 0))), (q3, .inl (dA 0, 100, .inl (fun _ => 0))), (q4, .inl (dA 0, 100, .inl (fun _ => 0))), (q5, .inl (dA 0, 100, .inl (fun _ => 0))), (q6, .inl (dA 0, 600, .inl (fun _ => 0)))] := hD
  refine W.widen (k := 6) (n := 1100) (Nat.le_of_ble_eq_true rfl) (Nat.le_of_ble_eq_true rfl) ?_
  refine va_putF (D := D) (ci := 0) (v := .ref q6) (ty := (tyX0 6)) (C := RX0) (T := TX0) (N := 11) (ref := "Ballotscript$Box") hx hb hts in_X0 tyX0 tyX0_ok nmX0 hown hK hP hD hS 0 rfl rfl 6 (Nat.le_of_ble_eq_true rfl) (hts _ pf_X0_init_50_X0) (fun _ h9 => h9) rfl hin rfl (tyX0_ok 6 (Nat.le_of_ble_eq_true rfl)) rfl rfl (Nat.le_of_ble_eq_true rfl) dX0_init_50 (fun H locs hP hD hS => ?_)
  have hP : va_P D vwCl [(h0, .inr (0, [.null, .ref q1, .ref q2, .ref q3, .ref q4, .ref q5, .ref q6, .null, .int 0, .null, .int 0])), (q1, .inl (dA 0, 100, .inl (fun _ => 0))), (q2, .inl (dA 0, 100, .inl (fun _ => 0))), (q3, .inl (dA 0, 100, .inl (fun _ => 0))), (q4, .inl (dA 0, 100, .inl (fun _ => 0))), (q5, .inl (dA 0, 100, .inl (fun _ => 0))), (q6, .inl (dA 0, 600, .inl (fun _ => 0)))] H := hP
  have hD : va_D A [(h0, .inr (0, [.null, .ref q1, .ref q2, .ref q3, .ref q4, .ref q5, .ref q6, .null, .int 0, .null, .int 0])), (q1, .inl (dA 0, 100, .inl (fun _ => 0))), (q2, .inl (dA 0, 100, .inl (fun _ => 0))), (q3, .inl (dA 0, 100, .inl (fun _ => 0))), (q4, .inl (dA 0, 100, .inl (fun _ => 0))), (q5, .inl (dA 0, 100, .inl (fun _ => 0))), (q6, .inl (dA 0, 600, .inl (fun _ => 0)))] := hD
  refine lv_aload_n hx hb dX0_init_53 rfl (lv_at hl 0 rfl) ?_
  refine lv_bipush (v := 100) hx hb dX0_init_54 (by decide) ?_
  refine n_newa (atype := .boolean) (ty := .boolean) (t := 1) (N' := 100) hx hb rfl (Or.inr (Or.inl rfl)) (hts _ ac_boolean) hK rfl hP hD hS hA (by decide) (by decide) (by decide) (Nat.le_of_ble_eq_true rfl) (Nat.le_of_ble_eq_true rfl) dX0_init_56 (fun q7 H hP hD hS => ?_)
  have hP : va_P D vwCl [(h0, .inr (0, [.null, .ref q1, .ref q2, .ref q3, .ref q4, .ref q5, .ref q6, .null, .int 0, .null, .int 0])), (q1, .inl (dA 0, 100, .inl (fun _ => 0))), (q2, .inl (dA 0, 100, .inl (fun _ => 0))), (q3, .inl (dA 0, 100, .inl (fun _ => 0))), (q4, .inl (dA 0, 100, .inl (fun _ => 0))), (q5, .inl (dA 0, 100, .inl (fun _ => 0))), (q6, .inl (dA 0, 600, .inl (fun _ => 0))), (q7, .inl (dA 1, 100, .inl (fun _ => 0)))] H := hP
  have hD : va_D A [(h0, .inr (0, [.null, .ref q1, .ref q2, .ref q3, .ref q4, .ref q5, .ref q6, .null, .int 0, .null, .int 0])), (q1, .inl (dA 0, 100, .inl (fun _ => 0))), (q2, .inl (dA 0, 100, .inl (fun _ => 0))), (q3, .inl (dA 0, 100, .inl (fun _ => 0))), (q4, .inl (dA 0, 100, .inl (fun _ => 0))), (q5, .inl (dA 0, 100, .inl (fun _ => 0))), (q6, .inl (dA 0, 600, .inl (fun _ => 0))), (q7, .inl (dA 1, 100, .inl (fun _ => 0)))] := hD
  refine W.widen (k := 7) (n := 1200) (Nat.le_of_ble_eq_true rfl) (Nat.le_of_ble_eq_true rfl) ?_
  refine va_putF (D := D) (ci := 0) (v := .ref q7) (ty := (tyX0 7)) (C := RX0) (T := TX0) (N := 11) (ref := "Ballotscript$Box") hx hb hts in_X0 tyX0 tyX0_ok nmX0 hown hK hP hD hS 0 rfl rfl 7 (Nat.le_of_ble_eq_true rfl) (hts _ pf_X0_init_58_X0) (fun _ h9 => h9) rfl hin rfl (tyX0_ok 7 (Nat.le_of_ble_eq_true rfl)) rfl rfl (Nat.le_of_ble_eq_true rfl) dX0_init_58 (fun H locs hP hD hS => ?_)
  have hP : va_P D vwCl [(h0, .inr (0, [.null, .ref q1, .ref q2, .ref q3, .ref q4, .ref q5, .ref q6, .ref q7, .int 0, .null, .int 0])), (q1, .inl (dA 0, 100, .inl (fun _ => 0))), (q2, .inl (dA 0, 100, .inl (fun _ => 0))), (q3, .inl (dA 0, 100, .inl (fun _ => 0))), (q4, .inl (dA 0, 100, .inl (fun _ => 0))), (q5, .inl (dA 0, 100, .inl (fun _ => 0))), (q6, .inl (dA 0, 600, .inl (fun _ => 0))), (q7, .inl (dA 1, 100, .inl (fun _ => 0)))] H := hP
  have hD : va_D A [(h0, .inr (0, [.null, .ref q1, .ref q2, .ref q3, .ref q4, .ref q5, .ref q6, .ref q7, .int 0, .null, .int 0])), (q1, .inl (dA 0, 100, .inl (fun _ => 0))), (q2, .inl (dA 0, 100, .inl (fun _ => 0))), (q3, .inl (dA 0, 100, .inl (fun _ => 0))), (q4, .inl (dA 0, 100, .inl (fun _ => 0))), (q5, .inl (dA 0, 100, .inl (fun _ => 0))), (q6, .inl (dA 0, 600, .inl (fun _ => 0))), (q7, .inl (dA 1, 100, .inl (fun _ => 0)))] := hD
  refine lv_aload_n hx hb dX0_init_61 rfl (lv_at hl 0 rfl) ?_
  refine lv_bipush (v := 100) hx hb dX0_init_62 (by decide) ?_
  refine n_newa (atype := .int) (ty := .int) (t := 0) (N' := 100) hx hb rfl (Or.inl rfl) (hts _ ac_int) hK rfl hP hD hS hA (by decide) (by decide) (by decide) (Nat.le_of_ble_eq_true rfl) (Nat.le_of_ble_eq_true rfl) dX0_init_64 (fun q8 H hP hD hS => ?_)
  have hP : va_P D vwCl [(h0, .inr (0, [.null, .ref q1, .ref q2, .ref q3, .ref q4, .ref q5, .ref q6, .ref q7, .int 0, .null, .int 0])), (q1, .inl (dA 0, 100, .inl (fun _ => 0))), (q2, .inl (dA 0, 100, .inl (fun _ => 0))), (q3, .inl (dA 0, 100, .inl (fun _ => 0))), (q4, .inl (dA 0, 100, .inl (fun _ => 0))), (q5, .inl (dA 0, 100, .inl (fun _ => 0))), (q6, .inl (dA 0, 600, .inl (fun _ => 0))), (q7, .inl (dA 1, 100, .inl (fun _ => 0))), (q8, .inl (dA 0, 100, .inl (fun _ => 0)))] H := hP
  have hD : va_D A [(h0, .inr (0, [.null, .ref q1, .ref q2, .ref q3, .ref q4, .ref q5, .ref q6, .ref q7, .int 0, .null, .int 0])), (q1, .inl (dA 0, 100, .inl (fun _ => 0))), (q2, .inl (dA 0, 100, .inl (fun _ => 0))), (q3, .inl (dA 0, 100, .inl (fun _ => 0))), (q4, .inl (dA 0, 100, .inl (fun _ => 0))), (q5, .inl (dA 0, 100, .inl (fun _ => 0))), (q6, .inl (dA 0, 600, .inl (fun _ => 0))), (q7, .inl (dA 1, 100, .inl (fun _ => 0))), (q8, .inl (dA 0, 100, .inl (fun _ => 0)))] := hD
  refine W.widen (k := 8) (n := 1300) (Nat.le_of_ble_eq_true rfl) (Nat.le_of_ble_eq_true rfl) ?_
  refine va_putF (D := D) (ci := 0) (v := .ref q8) (ty := (tyX0 9)) (C := RX0) (T := TX0) (N := 11) (ref := "Ballotscript$Box") hx hb hts in_X0 tyX0 tyX0_ok nmX0 hown hK hP hD hS 0 rfl rfl 9 (Nat.le_of_ble_eq_true rfl) (hts _ pf_X0_init_66_X0) (fun _ h9 => h9) rfl hin rfl (tyX0_ok 9 (Nat.le_of_ble_eq_true rfl)) rfl rfl (Nat.le_of_ble_eq_true rfl) dX0_init_66 (fun H locs hP hD hS => ?_)
  have hP : va_P D vwCl [(h0, .inr (0, [.null, .ref q1, .ref q2, .ref q3, .ref q4, .ref q5, .ref q6, .ref q7, .int 0, .ref q8, .int 0])), (q1, .inl (dA 0, 100, .inl (fun _ => 0))), (q2, .inl (dA 0, 100, .inl (fun _ => 0))), (q3, .inl (dA 0, 100, .inl (fun _ => 0))), (q4, .inl (dA 0, 100, .inl (fun _ => 0))), (q5, .inl (dA 0, 100, .inl (fun _ => 0))), (q6, .inl (dA 0, 600, .inl (fun _ => 0))), (q7, .inl (dA 1, 100, .inl (fun _ => 0))), (q8, .inl (dA 0, 100, .inl (fun _ => 0)))] H := hP
  have hD : va_D A [(h0, .inr (0, [.null, .ref q1, .ref q2, .ref q3, .ref q4, .ref q5, .ref q6, .ref q7, .int 0, .ref q8, .int 0])), (q1, .inl (dA 0, 100, .inl (fun _ => 0))), (q2, .inl (dA 0, 100, .inl (fun _ => 0))), (q3, .inl (dA 0, 100, .inl (fun _ => 0))), (q4, .inl (dA 0, 100, .inl (fun _ => 0))), (q5, .inl (dA 0, 100, .inl (fun _ => 0))), (q6, .inl (dA 0, 600, .inl (fun _ => 0))), (q7, .inl (dA 1, 100, .inl (fun _ => 0))), (q8, .inl (dA 0, 100, .inl (fun _ => 0)))] := hD
  refine lv_aload_n hx hb dX0_init_69 rfl (lv_at hl 0 rfl) ?_
  refine lv_aload_n hx hb dX0_init_70 rfl (lv_at hl 1 rfl) ?_
  refine va_putF (D := D) (ci := 0) (v := .ref r1) (ty := (tyX0 0)) (C := RX0) (T := TX0) (N := 11) (ref := "Ballotscript$Box") hx hb hts in_X0 tyX0 tyX0_ok nmX0 hown hK hP hD hS 0 rfl rfl 0 (Nat.le_of_ble_eq_true rfl) (hts _ pf_X0_init_71_X0) (fun _ h9 => h9) rfl hin rfl (tyX0_ok 0 (Nat.le_of_ble_eq_true rfl)) rfl rfl (Nat.le_of_ble_eq_true rfl) dX0_init_71 (fun H locs hP hD hS => ?_)
  have hP : va_P D vwCl [(h0, .inr (0, [.ref r1, .ref q1, .ref q2, .ref q3, .ref q4, .ref q5, .ref q6, .ref q7, .int 0, .ref q8, .int 0])), (q1, .inl (dA 0, 100, .inl (fun _ => 0))), (q2, .inl (dA 0, 100, .inl (fun _ => 0))), (q3, .inl (dA 0, 100, .inl (fun _ => 0))), (q4, .inl (dA 0, 100, .inl (fun _ => 0))), (q5, .inl (dA 0, 100, .inl (fun _ => 0))), (q6, .inl (dA 0, 600, .inl (fun _ => 0))), (q7, .inl (dA 1, 100, .inl (fun _ => 0))), (q8, .inl (dA 0, 100, .inl (fun _ => 0)))] H := hP
  have hD : va_D A [(h0, .inr (0, [.ref r1, .ref q1, .ref q2, .ref q3, .ref q4, .ref q5, .ref q6, .ref q7, .int 0, .ref q8, .int 0])), (q1, .inl (dA 0, 100, .inl (fun _ => 0))), (q2, .inl (dA 0, 100, .inl (fun _ => 0))), (q3, .inl (dA 0, 100, .inl (fun _ => 0))), (q4, .inl (dA 0, 100, .inl (fun _ => 0))), (q5, .inl (dA 0, 100, .inl (fun _ => 0))), (q6, .inl (dA 0, 600, .inl (fun _ => 0))), (q7, .inl (dA 1, 100, .inl (fun _ => 0))), (q8, .inl (dA 0, 100, .inl (fun _ => 0)))] := hD
  exact W.vret hx hb hr (fun t ht hW => ⟨⟨(), rfl, trivial, q1, q2, q3, q4, q5, q6, q7, q8, by rw [ht]; exact hP, hD⟩, hS.F ht⟩) hS.2.2 dX0_init_74

set_option maxHeartbeats 4000000 in
set_option maxRecDepth 20000 in
theorem c_init_X1_init_X3 (l : Launch) (D : va_G) (dA : Nat → ClassId) (h0 r1 : Nat) (sz : Nat) : Met l yX1_init (.code yX1_init cX1_init 2 none :: wall) ({ frames := 1, cells := 1, slots := 6, locals := 12 }) (va_Pc [.ref h0, .ref r1] (n_Pre D dA sz [(h0, .inr (2, [.null, .null, .int 0, .int 0, .int 0, .int 0, .int 0, .int 0, .null, .null, .null, .null]))])) (va_Qv (fun (_ : Unit) => True) (fun _ t => ∃ q1 : Nat, va_P D vwCl [(h0, .inr (2, [.ref r1, .ref q1, .int 0, .int 0, .int 0, .int 0, .int 0, .int 0, .null, .null, .null, .null])), (q1, .inl (dA 0, 6, .inl (fun _ => 0)))] t.heap ∧ va_D (va_A [(h0, .inr (2, [.null, .null, .int 0, .int 0, .int 0, .int 0, .int 0, .int 0, .null, .null, .null, .null]))] sz) [(h0, .inr (2, [.ref r1, .ref q1, .int 0, .int 0, .int 0, .int 0, .int 0, .int 0, .null, .null, .null, .null])), (q1, .inl (dA 0, 6, .inl (fun _ => 0)))]) (va_A [(h0, .inr (2, [.null, .null, .int 0, .int 0, .int 0, .int 0, .int 0, .int 0, .null, .null, .null, .null]))] sz)) 1 6 (va_A [(h0, .inr (2, [.null, .null, .int 0, .int 0, .int 0, .int 0, .int 0, .int 0, .null, .null, .null, .null]))] sz) := by
  refine Met.ofW (cc := cX1_init) (maxL := 2) (ret := none) (by decide) rfl ?_
  intro p e s m args below meth c s₁ B hml hv
  obtain ⟨rfl, hsz, hP, hK⟩ := hv
  have hx := B.exec
  have hb := B.bytes
  have hr := B.returns
  have hts0 := atoms_spec (ws := Cond.code yX1_init cX1_init 2 none :: wall) B.pre
  have hts : ∀ w ∈ wall, w.before _ s = true := fun w hw => hts0 w (List.mem_cons_of_mem _ hw)
  have hown : s.vm.findClass RX1 = some m.cls := findClass_of_methodNamed B.named
  have hlocks := B.notSynchronized
  have hin : meth.name = "<init>" := (name_of_methodNamed B.named B.method).1
  subst hsz
  have hD := n_self (sz := s.heap.size) hP
  generalize hAe : va_A [(h0, .inr (2, [.null, .null, .int 0, .int 0, .int 0, .int 0, .int 0, .int 0, .null, .null, .null, .null]))] s.heap.size = A at hD ⊢
  have hA : ∀ q : Nat, s.heap.size ≤ q → A q := fun q h => by rw [← hAe]; exact Or.inr h
  have hS : va_S A s.heap s.heap [] := va_S.rf
  have hl := lv_entry [.ref h0, .ref r1] (n := 2) (Nat.le_of_ble_eq_true rfl)
  rw [lg_entry_eq]
  generalize (lg_sl [.ref h0, .ref r1] ++ List.replicate (2 - (lg_sl [.ref h0, .ref r1]).length) Slot.unset).toArray = ls at hl ⊢
  have hl : lv_has ls 2 [(0, .ref h0), (1, .ref r1)] := hl
  refine lv_aload_n hx hb dX1_init_0 rfl (lv_at hl 0 rfl) ?_
  refine W.objInit hx hb hown (hts _ oi_RX1) (hts _ oi_inst) (hts _ oi_code) rfl (by rw [hml]; exact hl.1) rfl dX1_init_1 (Nat.le_of_ble_eq_true rfl) (Nat.le_of_ble_eq_true rfl) ?_
  refine W.eq (g2 := F0 m 4 ls []) rfl ?_
  refine lv_aload_n hx hb dX1_init_4 rfl (lv_at hl 0 rfl) ?_
  refine lv_bipush (v := 6) hx hb dX1_init_5 (by decide) ?_
  refine n_newa (atype := .int) (ty := .int) (t := 0) (N' := 6) hx hb rfl (Or.inl rfl) (hts _ ac_int) hK rfl hP hD hS hA (by decide) (by decide) (by decide) (Nat.le_of_ble_eq_true rfl) (Nat.le_of_ble_eq_true rfl) dX1_init_7 (fun q1 H hP hD hS => ?_)
  have hP : va_P D vwCl [(h0, .inr (2, [.null, .null, .int 0, .int 0, .int 0, .int 0, .int 0, .int 0, .null, .null, .null, .null])), (q1, .inl (dA 0, 6, .inl (fun _ => 0)))] H := hP
  have hD : va_D A [(h0, .inr (2, [.null, .null, .int 0, .int 0, .int 0, .int 0, .int 0, .int 0, .null, .null, .null, .null])), (q1, .inl (dA 0, 6, .inl (fun _ => 0)))] := hD
  refine W.widen (k := 1) (n := 6) (Nat.le_of_ble_eq_true rfl) (Nat.le_of_ble_eq_true rfl) ?_
  refine va_putF (D := D) (ci := 2) (v := .ref q1) (ty := (tyX3 1)) (C := RX3) (T := TX3) (N := 12) (ref := "Ballotscript$Count") hx hb hts in_X3 tyX3 tyX3_ok nmX3 hown hK hP hD hS 0 rfl rfl 1 (Nat.le_of_ble_eq_true rfl) (hts _ pf_X1_init_9_X3) (fun _ h9 => h9) rfl hin rfl (tyX3_ok 1 (Nat.le_of_ble_eq_true rfl)) rfl rfl (Nat.le_of_ble_eq_true rfl) dX1_init_9 (fun H locs hP hD hS => ?_)
  have hP : va_P D vwCl [(h0, .inr (2, [.null, .ref q1, .int 0, .int 0, .int 0, .int 0, .int 0, .int 0, .null, .null, .null, .null])), (q1, .inl (dA 0, 6, .inl (fun _ => 0)))] H := hP
  have hD : va_D A [(h0, .inr (2, [.null, .ref q1, .int 0, .int 0, .int 0, .int 0, .int 0, .int 0, .null, .null, .null, .null])), (q1, .inl (dA 0, 6, .inl (fun _ => 0)))] := hD
  refine lv_aload_n hx hb dX1_init_12 rfl (lv_at hl 0 rfl) ?_
  refine lv_aload_n hx hb dX1_init_13 rfl (lv_at hl 1 rfl) ?_
  refine va_putF (D := D) (ci := 2) (v := .ref r1) (ty := (tyX3 0)) (C := RX3) (T := TX3) (N := 12) (ref := "Ballotscript$Count") hx hb hts in_X3 tyX3 tyX3_ok nmX3 hown hK hP hD hS 0 rfl rfl 0 (Nat.le_of_ble_eq_true rfl) (hts _ pf_X1_init_14_X3) (fun _ h9 => h9) rfl hin rfl (tyX3_ok 0 (Nat.le_of_ble_eq_true rfl)) rfl rfl (Nat.le_of_ble_eq_true rfl) dX1_init_14 (fun H locs hP hD hS => ?_)
  have hP : va_P D vwCl [(h0, .inr (2, [.ref r1, .ref q1, .int 0, .int 0, .int 0, .int 0, .int 0, .int 0, .null, .null, .null, .null])), (q1, .inl (dA 0, 6, .inl (fun _ => 0)))] H := hP
  have hD : va_D A [(h0, .inr (2, [.ref r1, .ref q1, .int 0, .int 0, .int 0, .int 0, .int 0, .int 0, .null, .null, .null, .null])), (q1, .inl (dA 0, 6, .inl (fun _ => 0)))] := hD
  exact W.vret hx hb hr (fun t ht hW => ⟨⟨(), rfl, trivial, q1, by rw [ht]; exact hP, hD⟩, hS.F ht⟩) hS.2.2 dX1_init_17

set_option maxHeartbeats 4000000 in
set_option maxRecDepth 20000 in
theorem c_init_X3_init_X3 (l : Launch) (D : va_G) (dA : Nat → ClassId) (h0 r1 : Nat) (sz : Nat) : Met l yX3_init (.code yX3_init cX3_init 2 none :: wall) ({ frames := 2, cells := 5, slots := 1278, locals := 33 }) (va_Pc [.ref h0, .ref r1] (n_Pre D dA sz [(h0, .inr (2, [.null, .null, .int 0, .int 0, .int 0, .int 0, .int 0, .int 0, .null, .null, .null, .null]))])) (va_Qv (fun (_ : Unit) => True) (fun _ t => ∃ q1 q2 q3 q4 q5 : Nat, va_P D vwCl [(h0, .inr (2, [.ref r1, .ref q1, .int 0, .int 0, .int 0, .int 0, .int 0, .int 0, .ref q2, .ref q3, .ref q4, .ref q5])), (q1, .inl (dA 0, 6, .inl (fun _ => 0))), (q2, .inl (dA 0, 936, .inl (fun _ => 0))), (q3, .inl (dA 0, 156, .inl (fun _ => 0))), (q4, .inl (dA 0, 156, .inl (fun _ => 0))), (q5, .inl (dA 0, 24, .inl (fun _ => 0)))] t.heap ∧ va_D (va_A [(h0, .inr (2, [.null, .null, .int 0, .int 0, .int 0, .int 0, .int 0, .int 0, .null, .null, .null, .null]))] sz) [(h0, .inr (2, [.ref r1, .ref q1, .int 0, .int 0, .int 0, .int 0, .int 0, .int 0, .ref q2, .ref q3, .ref q4, .ref q5])), (q1, .inl (dA 0, 6, .inl (fun _ => 0))), (q2, .inl (dA 0, 936, .inl (fun _ => 0))), (q3, .inl (dA 0, 156, .inl (fun _ => 0))), (q4, .inl (dA 0, 156, .inl (fun _ => 0))), (q5, .inl (dA 0, 24, .inl (fun _ => 0)))]) (va_A [(h0, .inr (2, [.null, .null, .int 0, .int 0, .int 0, .int 0, .int 0, .int 0, .null, .null, .null, .null]))] sz)) 5 1278 (va_A [(h0, .inr (2, [.null, .null, .int 0, .int 0, .int 0, .int 0, .int 0, .int 0, .null, .null, .null, .null]))] sz) := by
  refine Met.ofW (cc := cX3_init) (maxL := 2) (ret := none) (by decide) rfl ?_
  intro p e s m args below meth c s₁ B hml hv
  obtain ⟨rfl, hsz, hP, hK⟩ := hv
  have hx := B.exec
  have hb := B.bytes
  have hr := B.returns
  have hts0 := atoms_spec (ws := Cond.code yX3_init cX3_init 2 none :: wall) B.pre
  have hts : ∀ w ∈ wall, w.before _ s = true := fun w hw => hts0 w (List.mem_cons_of_mem _ hw)
  have hown : s.vm.findClass RX3 = some m.cls := findClass_of_methodNamed B.named
  have hlocks := B.notSynchronized
  have hin : meth.name = "<init>" := (name_of_methodNamed B.named B.method).1
  subst hsz
  have hD := n_self (sz := s.heap.size) hP
  generalize hAe : va_A [(h0, .inr (2, [.null, .null, .int 0, .int 0, .int 0, .int 0, .int 0, .int 0, .null, .null, .null, .null]))] s.heap.size = A at hD ⊢
  have hA : ∀ q : Nat, s.heap.size ≤ q → A q := fun q h => by rw [← hAe]; exact Or.inr h
  have hS : va_S A s.heap s.heap [] := va_S.rf
  have hl := lv_entry [.ref h0, .ref r1] (n := 2) (Nat.le_of_ble_eq_true rfl)
  rw [lg_entry_eq]
  generalize (lg_sl [.ref h0, .ref r1] ++ List.replicate (2 - (lg_sl [.ref h0, .ref r1]).length) Slot.unset).toArray = ls at hl ⊢
  have hl : lv_has ls 2 [(0, .ref h0), (1, .ref r1)] := hl
  refine lv_aload_n hx hb dX3_init_0 rfl (lv_at hl 0 rfl) ?_
  refine lv_aload_n hx hb dX3_init_1 rfl (lv_at hl 1 rfl) ?_
  have hPc := hP.sub (ws' := [(h0, .inr (2, [.null, .null, .int 0, .int 0, .int 0, .int 0, .int 0, .int 0, .null, .null, .null, .null]))]) [0] rfl
  have hFc := va_free (wc := [(h0, .inr (2, [.null, .null, .int 0, .int 0, .int 0, .int 0, .int 0, .int 0, .null, .null, .null, .null]))]) hD hS hA [0] rfl
  refine va_callv (va_runI (As := [.ref r1]) (rest := []) ⟨hx, hb, hml, hown, hts⟩ (c_init_X1_init_X3 l D dA h0 r1 _) (n_cwI 1 hts ci_X1_init ls_RX3_3 rfl rfl rfl ⟨by decide, by decide, by decide +kernel⟩ ⟨(Nat.le_of_ble_eq_true rfl), (Nat.le_of_ble_eq_true rfl)⟩) ⟨n_blind, fun U hU hW => ⟨rfl, by rw [hU], by rw [hU]; exact hPc, va_K.moved hW.alike hK⟩⟩ rfl rfl hl.1 rfl (lv_room (Nat.le_of_ble_eq_true rfl)) dX3_init_2 ⟨(Nat.le_of_ble_eq_true rfl), (Nat.le_of_ble_eq_true rfl)⟩) hS (fun q _ h => hFc q h) hFc (fun u t H1 locs ht hvm hw hB hz1 hk1 hS => ?_)
  obtain ⟨q1, hP1, hD1⟩ := hB
  rw [ht] at hP1
  obtain ⟨hP, hD⟩ := va_join (wr := []) (w1 := [(h0, .inr (2, [.ref r1, .ref q1, .int 0, .int 0, .int 0, .int 0, .int 0, .int 0, .null, .null, .null, .null])), (q1, .inl (dA 0, 6, .inl (fun _ => 0)))]) hP hD [0] [] rfl rfl (by decide) (by decide) hk1 hFc hP1 hD1
  generalize H1 = H at hP hS ⊢
  have hP : va_P D vwCl [(h0, .inr (2, [.ref r1, .ref q1, .int 0, .int 0, .int 0, .int 0, .int 0, .int 0, .null, .null, .null, .null])), (q1, .inl (dA 0, 6, .inl (fun _ => 0)))] H := hP
  have hD : va_D A [(h0, .inr (2, [.ref r1, .ref q1, .int 0, .int 0, .int 0, .int 0, .int 0, .int 0, .null, .null, .null, .null])), (q1, .inl (dA 0, 6, .inl (fun _ => 0)))] := hD
  refine W.widen (k := 1) (n := 6) (Nat.le_of_ble_eq_true rfl) (Nat.le_of_ble_eq_true rfl) ?_
  refine lv_aload_n hx hb dX3_init_5 rfl (lv_at hl 0 rfl) ?_
  refine lv_sipush (v := 936) hx hb dX3_init_6 (by decide) ?_
  refine n_newa (atype := .int) (ty := .int) (t := 0) (N' := 936) hx hb rfl (Or.inl rfl) (hts _ ac_int) hK rfl hP hD hS hA (by decide) (by decide) (by decide) (Nat.le_of_ble_eq_true rfl) (Nat.le_of_ble_eq_true rfl) dX3_init_9 (fun q2 H hP hD hS => ?_)
  have hP : va_P D vwCl [(h0, .inr (2, [.ref r1, .ref q1, .int 0, .int 0, .int 0, .int 0, .int 0, .int 0, .null, .null, .null, .null])), (q1, .inl (dA 0, 6, .inl (fun _ => 0))), (q2, .inl (dA 0, 936, .inl (fun _ => 0)))] H := hP
  have hD : va_D A [(h0, .inr (2, [.ref r1, .ref q1, .int 0, .int 0, .int 0, .int 0, .int 0, .int 0, .null, .null, .null, .null])), (q1, .inl (dA 0, 6, .inl (fun _ => 0))), (q2, .inl (dA 0, 936, .inl (fun _ => 0)))] := hD
  refine W.widen (k := 2) (n := 942) (Nat.le_of_ble_eq_true rfl) (Nat.le_of_ble_eq_true rfl) ?_
  refine va_putF (D := D) (ci := 2) (v := .ref q2) (ty := (tyX3 8)) (C := RX3) (T := TX3) (N := 12) (ref := "Ballotscript$MachineCount") hx hb hts in_X3 tyX3 tyX3_ok nmX3 hown hK hP hD hS 0 rfl rfl 8 (Nat.le_of_ble_eq_true rfl) (hts _ pf_X3_init_11_X3) (fun _ h9 => h9) rfl hin rfl (tyX3_ok 8 (Nat.le_of_ble_eq_true rfl)) rfl rfl (Nat.le_of_ble_eq_true rfl) dX3_init_11 (fun H locs hP hD hS => ?_)
  have hP : va_P D vwCl [(h0, .inr (2, [.ref r1, .ref q1, .int 0, .int 0, .int 0, .int 0, .int 0, .int 0, .ref q2, .null, .null, .null])), (q1, .inl (dA 0, 6, .inl (fun _ => 0))), (q2, .inl (dA 0, 936, .inl (fun _ => 0)))] H := hP
  have hD : va_D A [(h0, .inr (2, [.ref r1, .ref q1, .int 0, .int 0, .int 0, .int 0, .int 0, .int 0, .ref q2, .null, .null, .null])), (q1, .inl (dA 0, 6, .inl (fun _ => 0))), (q2, .inl (dA 0, 936, .inl (fun _ => 0)))] := hD
  refine lv_aload_n hx hb dX3_init_14 rfl (lv_at hl 0 rfl) ?_
  refine lv_sipush (v := 156) hx hb dX3_init_15 (by decide) ?_
  refine n_newa (atype := .int) (ty := .int) (t := 0) (N' := 156) hx hb rfl (Or.inl rfl) (hts _ ac_int) hK rfl hP hD hS hA (by decide) (by decide) (by decide) (Nat.le_of_ble_eq_true rfl) (Nat.le_of_ble_eq_true rfl) dX3_init_18 (fun q3 H hP hD hS => ?_)
  have hP : va_P D vwCl [(h0, .inr (2, [.ref r1, .ref q1, .int 0, .int 0, .int 0, .int 0, .int 0, .int 0, .ref q2, .null, .null, .null])), (q1, .inl (dA 0, 6, .inl (fun _ => 0))), (q2, .inl (dA 0, 936, .inl (fun _ => 0))), (q3, .inl (dA 0, 156, .inl (fun _ => 0)))] H := hP
  have hD : va_D A [(h0, .inr (2, [.ref r1, .ref q1, .int 0, .int 0, .int 0, .int 0, .int 0, .int 0, .ref q2, .null, .null, .null])), (q1, .inl (dA 0, 6, .inl (fun _ => 0))), (q2, .inl (dA 0, 936, .inl (fun _ => 0))), (q3, .inl (dA 0, 156, .inl (fun _ => 0)))] := hD
  refine W.widen (k := 3) (n := 1098) (Nat.le_of_ble_eq_true rfl) (Nat.le_of_ble_eq_true rfl) ?_
  refine va_putF (D := D) (ci := 2) (v := .ref q3) (ty := (tyX3 9)) (C := RX3) (T := TX3) (N := 12) (ref := "Ballotscript$MachineCount") hx hb hts in_X3 tyX3 tyX3_ok nmX3 hown hK hP hD hS 0 rfl rfl 9 (Nat.le_of_ble_eq_true rfl) (hts _ pf_X3_init_20_X3) (fun _ h9 => h9) rfl hin rfl (tyX3_ok 9 (Nat.le_of_ble_eq_true rfl)) rfl rfl (Nat.le_of_ble_eq_true rfl) dX3_init_20 (fun H locs hP hD hS => ?_)
  have hP : va_P D vwCl [(h0, .inr (2, [.ref r1, .ref q1, .int 0, .int 0, .int 0, .int 0, .int 0, .int 0, .ref q2, .ref q3, .null, .null])), (q1, .inl (dA 0, 6, .inl (fun _ => 0))), (q2, .inl (dA 0, 936, .inl (fun _ => 0))), (q3, .inl (dA 0, 156, .inl (fun _ => 0)))] H := hP
  have hD : va_D A [(h0, .inr (2, [.ref r1, .ref q1, .int 0, .int 0, .int 0, .int 0, .int 0, .int 0, .ref q2, .ref q3, .null, .null])), (q1, .inl (dA 0, 6, .inl (fun _ => 0))), (q2, .inl (dA 0, 936, .inl (fun _ => 0))), (q3, .inl (dA 0, 156, .inl (fun _ => 0)))] := hD
  refine lv_aload_n hx hb dX3_init_23 rfl (lv_at hl 0 rfl) ?_
  refine lv_sipush (v := 156) hx hb dX3_init_24 (by decide) ?_
  refine n_newa (atype := .int) (ty := .int) (t := 0) (N' := 156) hx hb rfl (Or.inl rfl) (hts _ ac_int) hK rfl hP hD hS hA (by decide) (by decide) (by decide) (Nat.le_of_ble_eq_true rfl) (Nat.le_of_ble_eq_true rfl) dX3_init_27 (fun q4 H hP hD hS => ?_)
  have hP : va_P D vwCl [(h0, .inr (2, [.ref r1, .ref q1, .int 0, .int 0, .int 0, .int 0, .int 0, .int 0, .ref q2, .ref q3, .null, .null])), (q1, .inl (dA 0, 6, .inl (fun _ => 0))), (q2, .inl (dA 0, 936, .inl (fun _ => 0))), (q3, .inl (dA 0, 156, .inl (fun _ => 0))), (q4, .inl (dA 0, 156, .inl (fun _ => 0)))] H := hP
  have hD : va_D A [(h0, .inr (2, [.ref r1, .ref q1, .int 0, .int 0, .int 0, .int 0, .int 0, .int 0, .ref q2, .ref q3, .null, .null])), (q1, .inl (dA 0, 6, .inl (fun _ => 0))), (q2, .inl (dA 0, 936, .inl (fun _ => 0))), (q3, .inl (dA 0, 156, .inl (fun _ => 0))), (q4, .inl (dA 0, 156, .inl (fun _ => 0)))] := hD
  refine W.widen (k := 4) (n := 1254) (Nat.le_of_ble_eq_true rfl) (Nat.le_of_ble_eq_true rfl) ?_
  refine va_putF (D := D) (ci := 2) (v := .ref q4) (ty := (tyX3 10)) (C := RX3) (T := TX3) (N := 12) (ref := "Ballotscript$MachineCount") hx hb hts in_X3 tyX3 tyX3_ok nmX3 hown hK hP hD hS 0 rfl rfl 10 (Nat.le_of_ble_eq_true rfl) (hts _ pf_X3_init_29_X3) (fun _ h9 => h9) rfl hin rfl (tyX3_ok 10 (Nat.le_of_ble_eq_true rfl)) rfl rfl (Nat.le_of_ble_eq_true rfl) dX3_init_29 (fun H locs hP hD hS => ?_)
  have hP : va_P D vwCl [(h0, .inr (2, [.ref r1, .ref q1, .int 0, .int 0, .int 0, .int 0, .int 0, .int 0, .ref q2, .ref q3, .ref q4, .null])), (q1, .inl (dA 0, 6, .inl (fun _ => 0))), (q2, .inl (dA 0, 936, .inl (fun _ => 0))), (q3, .inl (dA 0, 156, .inl (fun _ => 0))), (q4, .inl (dA 0, 156, .inl (fun _ => 0)))] H := hP
  have hD : va_D A [(h0, .inr (2, [.ref r1, .ref q1, .int 0, .int 0, .int 0, .int 0, .int 0, .int 0, .ref q2, .ref q3, .ref q4, .null])), (q1, .inl (dA 0, 6, .inl (fun _ => 0))), (q2, .inl (dA 0, 936, .inl (fun _ => 0))), (q3, .inl (dA 0, 156, .inl (fun _ => 0))), (q4, .inl (dA 0, 156, .inl (fun _ => 0)))] := hD
  refine lv_aload_n hx hb dX3_init_32 rfl (lv_at hl 0 rfl) ?_
  refine lv_bipush (v := 24) hx hb dX3_init_33 (by decide) ?_
  refine n_newa (atype := .int) (ty := .int) (t := 0) (N' := 24) hx hb rfl (Or.inl rfl) (hts _ ac_int) hK rfl hP hD hS hA (by decide) (by decide) (by decide) (Nat.le_of_ble_eq_true rfl) (Nat.le_of_ble_eq_true rfl) dX3_init_35 (fun q5 H hP hD hS => ?_)
  have hP : va_P D vwCl [(h0, .inr (2, [.ref r1, .ref q1, .int 0, .int 0, .int 0, .int 0, .int 0, .int 0, .ref q2, .ref q3, .ref q4, .null])), (q1, .inl (dA 0, 6, .inl (fun _ => 0))), (q2, .inl (dA 0, 936, .inl (fun _ => 0))), (q3, .inl (dA 0, 156, .inl (fun _ => 0))), (q4, .inl (dA 0, 156, .inl (fun _ => 0))), (q5, .inl (dA 0, 24, .inl (fun _ => 0)))] H := hP
  have hD : va_D A [(h0, .inr (2, [.ref r1, .ref q1, .int 0, .int 0, .int 0, .int 0, .int 0, .int 0, .ref q2, .ref q3, .ref q4, .null])), (q1, .inl (dA 0, 6, .inl (fun _ => 0))), (q2, .inl (dA 0, 936, .inl (fun _ => 0))), (q3, .inl (dA 0, 156, .inl (fun _ => 0))), (q4, .inl (dA 0, 156, .inl (fun _ => 0))), (q5, .inl (dA 0, 24, .inl (fun _ => 0)))] := hD
  refine W.widen (k := 5) (n := 1278) (Nat.le_of_ble_eq_true rfl) (Nat.le_of_ble_eq_true rfl) ?_
  refine va_putF (D := D) (ci := 2) (v := .ref q5) (ty := (tyX3 11)) (C := RX3) (T := TX3) (N := 12) (ref := "Ballotscript$MachineCount") hx hb hts in_X3 tyX3 tyX3_ok nmX3 hown hK hP hD hS 0 rfl rfl 11 (Nat.le_of_ble_eq_true rfl) (hts _ pf_X3_init_37_X3) (fun _ h9 => h9) rfl hin rfl (tyX3_ok 11 (Nat.le_of_ble_eq_true rfl)) rfl rfl (Nat.le_of_ble_eq_true rfl) dX3_init_37 (fun H locs hP hD hS => ?_)
  have hP : va_P D vwCl [(h0, .inr (2, [.ref r1, .ref q1, .int 0, .int 0, .int 0, .int 0, .int 0, .int 0, .ref q2, .ref q3, .ref q4, .ref q5])), (q1, .inl (dA 0, 6, .inl (fun _ => 0))), (q2, .inl (dA 0, 936, .inl (fun _ => 0))), (q3, .inl (dA 0, 156, .inl (fun _ => 0))), (q4, .inl (dA 0, 156, .inl (fun _ => 0))), (q5, .inl (dA 0, 24, .inl (fun _ => 0)))] H := hP
  have hD : va_D A [(h0, .inr (2, [.ref r1, .ref q1, .int 0, .int 0, .int 0, .int 0, .int 0, .int 0, .ref q2, .ref q3, .ref q4, .ref q5])), (q1, .inl (dA 0, 6, .inl (fun _ => 0))), (q2, .inl (dA 0, 936, .inl (fun _ => 0))), (q3, .inl (dA 0, 156, .inl (fun _ => 0))), (q4, .inl (dA 0, 156, .inl (fun _ => 0))), (q5, .inl (dA 0, 24, .inl (fun _ => 0)))] := hD
  exact W.vret hx hb hr (fun t ht hW => ⟨⟨(), rfl, trivial, q1, q2, q3, q4, q5, by rw [ht]; exact hP, hD⟩, hS.F ht⟩) hS.2.2 dX3_init_40

set_option maxHeartbeats 4000000 in
set_option maxRecDepth 20000 in
theorem c_init_X1_init_X2 (l : Launch) (D : va_G) (dA : Nat → ClassId) (h0 r1 : Nat) (sz : Nat) : Met l yX1_init (.code yX1_init cX1_init 2 none :: wall) ({ frames := 1, cells := 1, slots := 6, locals := 12 }) (va_Pc [.ref h0, .ref r1] (n_Pre D dA sz [(h0, .inr (1, [.null, .null, .int 0, .int 0, .int 0, .int 0, .int 0, .int 0, .null, .null]))])) (va_Qv (fun (_ : Unit) => True) (fun _ t => ∃ q1 : Nat, va_P D vwCl [(h0, .inr (1, [.ref r1, .ref q1, .int 0, .int 0, .int 0, .int 0, .int 0, .int 0, .null, .null])), (q1, .inl (dA 0, 6, .inl (fun _ => 0)))] t.heap ∧ va_D (va_A [(h0, .inr (1, [.null, .null, .int 0, .int 0, .int 0, .int 0, .int 0, .int 0, .null, .null]))] sz) [(h0, .inr (1, [.ref r1, .ref q1, .int 0, .int 0, .int 0, .int 0, .int 0, .int 0, .null, .null])), (q1, .inl (dA 0, 6, .inl (fun _ => 0)))]) (va_A [(h0, .inr (1, [.null, .null, .int 0, .int 0, .int 0, .int 0, .int 0, .int 0, .null, .null]))] sz)) 1 6 (va_A [(h0, .inr (1, [.null, .null, .int 0, .int 0, .int 0, .int 0, .int 0, .int 0, .null, .null]))] sz) := by
  refine Met.ofW (cc := cX1_init) (maxL := 2) (ret := none) (by decide) rfl ?_
  intro p e s m args below meth c s₁ B hml hv
  obtain ⟨rfl, hsz, hP, hK⟩ := hv
  have hx := B.exec
  have hb := B.bytes
  have hr := B.returns
  have hts0 := atoms_spec (ws := Cond.code yX1_init cX1_init 2 none :: wall) B.pre
  have hts : ∀ w ∈ wall, w.before _ s = true := fun w hw => hts0 w (List.mem_cons_of_mem _ hw)
  have hown : s.vm.findClass RX1 = some m.cls := findClass_of_methodNamed B.named
  have hlocks := B.notSynchronized
  have hin : meth.name = "<init>" := (name_of_methodNamed B.named B.method).1
  subst hsz
  have hD := n_self (sz := s.heap.size) hP
  generalize hAe : va_A [(h0, .inr (1, [.null, .null, .int 0, .int 0, .int 0, .int 0, .int 0, .int 0, .null, .null]))] s.heap.size = A at hD ⊢
  have hA : ∀ q : Nat, s.heap.size ≤ q → A q := fun q h => by rw [← hAe]; exact Or.inr h
  have hS : va_S A s.heap s.heap [] := va_S.rf
  have hl := lv_entry [.ref h0, .ref r1] (n := 2) (Nat.le_of_ble_eq_true rfl)
  rw [lg_entry_eq]
  generalize (lg_sl [.ref h0, .ref r1] ++ List.replicate (2 - (lg_sl [.ref h0, .ref r1]).length) Slot.unset).toArray = ls at hl ⊢
  have hl : lv_has ls 2 [(0, .ref h0), (1, .ref r1)] := hl
  refine lv_aload_n hx hb dX1_init_0 rfl (lv_at hl 0 rfl) ?_
  refine W.objInit hx hb hown (hts _ oi_RX1) (hts _ oi_inst) (hts _ oi_code) rfl (by rw [hml]; exact hl.1) rfl dX1_init_1 (Nat.le_of_ble_eq_true rfl) (Nat.le_of_ble_eq_true rfl) ?_
  refine W.eq (g2 := F0 m 4 ls []) rfl ?_
  refine lv_aload_n hx hb dX1_init_4 rfl (lv_at hl 0 rfl) ?_
  refine lv_bipush (v := 6) hx hb dX1_init_5 (by decide) ?_
  refine n_newa (atype := .int) (ty := .int) (t := 0) (N' := 6) hx hb rfl (Or.inl rfl) (hts _ ac_int) hK rfl hP hD hS hA (by decide) (by decide) (by decide) (Nat.le_of_ble_eq_true rfl) (Nat.le_of_ble_eq_true rfl) dX1_init_7 (fun q1 H hP hD hS => ?_)
  have hP : va_P D vwCl [(h0, .inr (1, [.null, .null, .int 0, .int 0, .int 0, .int 0, .int 0, .int 0, .null, .null])), (q1, .inl (dA 0, 6, .inl (fun _ => 0)))] H := hP
  have hD : va_D A [(h0, .inr (1, [.null, .null, .int 0, .int 0, .int 0, .int 0, .int 0, .int 0, .null, .null])), (q1, .inl (dA 0, 6, .inl (fun _ => 0)))] := hD
  refine W.widen (k := 1) (n := 6) (Nat.le_of_ble_eq_true rfl) (Nat.le_of_ble_eq_true rfl) ?_
  refine va_putF (D := D) (ci := 1) (v := .ref q1) (ty := (tyX2 1)) (C := RX2) (T := TX2) (N := 10) (ref := "Ballotscript$Count") hx hb hts in_X2 tyX2 tyX2_ok nmX2 hown hK hP hD hS 0 rfl rfl 1 (Nat.le_of_ble_eq_true rfl) (hts _ pf_X1_init_9_X2) (fun _ h9 => h9) rfl hin rfl (tyX2_ok 1 (Nat.le_of_ble_eq_true rfl)) rfl rfl (Nat.le_of_ble_eq_true rfl) dX1_init_9 (fun H locs hP hD hS => ?_)
  have hP : va_P D vwCl [(h0, .inr (1, [.null, .ref q1, .int 0, .int 0, .int 0, .int 0, .int 0, .int 0, .null, .null])), (q1, .inl (dA 0, 6, .inl (fun _ => 0)))] H := hP
  have hD : va_D A [(h0, .inr (1, [.null, .ref q1, .int 0, .int 0, .int 0, .int 0, .int 0, .int 0, .null, .null])), (q1, .inl (dA 0, 6, .inl (fun _ => 0)))] := hD
  refine lv_aload_n hx hb dX1_init_12 rfl (lv_at hl 0 rfl) ?_
  refine lv_aload_n hx hb dX1_init_13 rfl (lv_at hl 1 rfl) ?_
  refine va_putF (D := D) (ci := 1) (v := .ref r1) (ty := (tyX2 0)) (C := RX2) (T := TX2) (N := 10) (ref := "Ballotscript$Count") hx hb hts in_X2 tyX2 tyX2_ok nmX2 hown hK hP hD hS 0 rfl rfl 0 (Nat.le_of_ble_eq_true rfl) (hts _ pf_X1_init_14_X2) (fun _ h9 => h9) rfl hin rfl (tyX2_ok 0 (Nat.le_of_ble_eq_true rfl)) rfl rfl (Nat.le_of_ble_eq_true rfl) dX1_init_14 (fun H locs hP hD hS => ?_)
  have hP : va_P D vwCl [(h0, .inr (1, [.ref r1, .ref q1, .int 0, .int 0, .int 0, .int 0, .int 0, .int 0, .null, .null])), (q1, .inl (dA 0, 6, .inl (fun _ => 0)))] H := hP
  have hD : va_D A [(h0, .inr (1, [.ref r1, .ref q1, .int 0, .int 0, .int 0, .int 0, .int 0, .int 0, .null, .null])), (q1, .inl (dA 0, 6, .inl (fun _ => 0)))] := hD
  exact W.vret hx hb hr (fun t ht hW => ⟨⟨(), rfl, trivial, q1, by rw [ht]; exact hP, hD⟩, hS.F ht⟩) hS.2.2 dX1_init_17

set_option maxHeartbeats 4000000 in
set_option maxRecDepth 20000 in
theorem c_init_X2_init_X2 (l : Launch) (D : va_G) (dA : Nat → ClassId) (h0 r1 : Nat) (sz : Nat) : Met l yX2_init (.code yX2_init cX2_init 2 none :: wall) ({ frames := 2, cells := 3, slots := 318, locals := 33 }) (va_Pc [.ref h0, .ref r1] (n_Pre D dA sz [(h0, .inr (1, [.null, .null, .int 0, .int 0, .int 0, .int 0, .int 0, .int 0, .null, .null]))])) (va_Qv (fun (_ : Unit) => True) (fun _ t => ∃ q1 q2 q3 : Nat, va_P D vwCl [(h0, .inr (1, [.ref r1, .ref q1, .int 0, .int 0, .int 0, .int 0, .int 0, .int 0, .ref q2, .ref q3])), (q1, .inl (dA 0, 6, .inl (fun _ => 0))), (q2, .inl (dA 2, 156, .inl (fun _ => 0))), (q3, .inl (dA 0, 156, .inl (fun _ => 0)))] t.heap ∧ va_D (va_A [(h0, .inr (1, [.null, .null, .int 0, .int 0, .int 0, .int 0, .int 0, .int 0, .null, .null]))] sz) [(h0, .inr (1, [.ref r1, .ref q1, .int 0, .int 0, .int 0, .int 0, .int 0, .int 0, .ref q2, .ref q3])), (q1, .inl (dA 0, 6, .inl (fun _ => 0))), (q2, .inl (dA 2, 156, .inl (fun _ => 0))), (q3, .inl (dA 0, 156, .inl (fun _ => 0)))]) (va_A [(h0, .inr (1, [.null, .null, .int 0, .int 0, .int 0, .int 0, .int 0, .int 0, .null, .null]))] sz)) 3 318 (va_A [(h0, .inr (1, [.null, .null, .int 0, .int 0, .int 0, .int 0, .int 0, .int 0, .null, .null]))] sz) := by
  refine Met.ofW (cc := cX2_init) (maxL := 2) (ret := none) (by decide) rfl ?_
  intro p e s m args below meth c s₁ B hml hv
  obtain ⟨rfl, hsz, hP, hK⟩ := hv
  have hx := B.exec
  have hb := B.bytes
  have hr := B.returns
  have hts0 := atoms_spec (ws := Cond.code yX2_init cX2_init 2 none :: wall) B.pre
  have hts : ∀ w ∈ wall, w.before _ s = true := fun w hw => hts0 w (List.mem_cons_of_mem _ hw)
  have hown : s.vm.findClass RX2 = some m.cls := findClass_of_methodNamed B.named
  have hlocks := B.notSynchronized
  have hin : meth.name = "<init>" := (name_of_methodNamed B.named B.method).1
  subst hsz
  have hD := n_self (sz := s.heap.size) hP
  generalize hAe : va_A [(h0, .inr (1, [.null, .null, .int 0, .int 0, .int 0, .int 0, .int 0, .int 0, .null, .null]))] s.heap.size = A at hD ⊢
  have hA : ∀ q : Nat, s.heap.size ≤ q → A q := fun q h => by rw [← hAe]; exact Or.inr h
  have hS : va_S A s.heap s.heap [] := va_S.rf
  have hl := lv_entry [.ref h0, .ref r1] (n := 2) (Nat.le_of_ble_eq_true rfl)
  rw [lg_entry_eq]
  generalize (lg_sl [.ref h0, .ref r1] ++ List.replicate (2 - (lg_sl [.ref h0, .ref r1]).length) Slot.unset).toArray = ls at hl ⊢
  have hl : lv_has ls 2 [(0, .ref h0), (1, .ref r1)] := hl
  refine lv_aload_n hx hb dX2_init_0 rfl (lv_at hl 0 rfl) ?_
  refine lv_aload_n hx hb dX2_init_1 rfl (lv_at hl 1 rfl) ?_
  have hPc := hP.sub (ws' := [(h0, .inr (1, [.null, .null, .int 0, .int 0, .int 0, .int 0, .int 0, .int 0, .null, .null]))]) [0] rfl
  have hFc := va_free (wc := [(h0, .inr (1, [.null, .null, .int 0, .int 0, .int 0, .int 0, .int 0, .int 0, .null, .null]))]) hD hS hA [0] rfl
  refine va_callv (va_runI (As := [.ref r1]) (rest := []) ⟨hx, hb, hml, hown, hts⟩ (c_init_X1_init_X2 l D dA h0 r1 _) (n_cwI 1 hts ci_X1_init ls_RX2_3 rfl rfl rfl ⟨by decide, by decide, by decide +kernel⟩ ⟨(Nat.le_of_ble_eq_true rfl), (Nat.le_of_ble_eq_true rfl)⟩) ⟨n_blind, fun U hU hW => ⟨rfl, by rw [hU], by rw [hU]; exact hPc, va_K.moved hW.alike hK⟩⟩ rfl rfl hl.1 rfl (lv_room (Nat.le_of_ble_eq_true rfl)) dX2_init_2 ⟨(Nat.le_of_ble_eq_true rfl), (Nat.le_of_ble_eq_true rfl)⟩) hS (fun q _ h => hFc q h) hFc (fun u t H1 locs ht hvm hw hB hz1 hk1 hS => ?_)
  obtain ⟨q1, hP1, hD1⟩ := hB
  rw [ht] at hP1
  obtain ⟨hP, hD⟩ := va_join (wr := []) (w1 := [(h0, .inr (1, [.ref r1, .ref q1, .int 0, .int 0, .int 0, .int 0, .int 0, .int 0, .null, .null])), (q1, .inl (dA 0, 6, .inl (fun _ => 0)))]) hP hD [0] [] rfl rfl (by decide) (by decide) hk1 hFc hP1 hD1
  generalize H1 = H at hP hS ⊢
  have hP : va_P D vwCl [(h0, .inr (1, [.ref r1, .ref q1, .int 0, .int 0, .int 0, .int 0, .int 0, .int 0, .null, .null])), (q1, .inl (dA 0, 6, .inl (fun _ => 0)))] H := hP
  have hD : va_D A [(h0, .inr (1, [.ref r1, .ref q1, .int 0, .int 0, .int 0, .int 0, .int 0, .int 0, .null, .null])), (q1, .inl (dA 0, 6, .inl (fun _ => 0)))] := hD
  refine W.widen (k := 1) (n := 6) (Nat.le_of_ble_eq_true rfl) (Nat.le_of_ble_eq_true rfl) ?_
  refine lv_aload_n hx hb dX2_init_5 rfl (lv_at hl 0 rfl) ?_
  refine lv_sipush (v := 156) hx hb dX2_init_6 (by decide) ?_
  refine n_newa (atype := .char) (ty := .char) (t := 2) (N' := 156) hx hb rfl (Or.inr (Or.inr rfl)) (hts _ ac_char) hK rfl hP hD hS hA (by decide) (by decide) (by decide) (Nat.le_of_ble_eq_true rfl) (Nat.le_of_ble_eq_true rfl) dX2_init_9 (fun q2 H hP hD hS => ?_)
  have hP : va_P D vwCl [(h0, .inr (1, [.ref r1, .ref q1, .int 0, .int 0, .int 0, .int 0, .int 0, .int 0, .null, .null])), (q1, .inl (dA 0, 6, .inl (fun _ => 0))), (q2, .inl (dA 2, 156, .inl (fun _ => 0)))] H := hP
  have hD : va_D A [(h0, .inr (1, [.ref r1, .ref q1, .int 0, .int 0, .int 0, .int 0, .int 0, .int 0, .null, .null])), (q1, .inl (dA 0, 6, .inl (fun _ => 0))), (q2, .inl (dA 2, 156, .inl (fun _ => 0)))] := hD
  refine W.widen (k := 2) (n := 162) (Nat.le_of_ble_eq_true rfl) (Nat.le_of_ble_eq_true rfl) ?_
  refine va_putF (D := D) (ci := 1) (v := .ref q2) (ty := (tyX2 8)) (C := RX2) (T := TX2) (N := 10) (ref := "Ballotscript$HandCount") hx hb hts in_X2 tyX2 tyX2_ok nmX2 hown hK hP hD hS 0 rfl rfl 8 (Nat.le_of_ble_eq_true rfl) (hts _ pf_X2_init_11_X2) (fun _ h9 => h9) rfl hin rfl (tyX2_ok 8 (Nat.le_of_ble_eq_true rfl)) rfl rfl (Nat.le_of_ble_eq_true rfl) dX2_init_11 (fun H locs hP hD hS => ?_)
  have hP : va_P D vwCl [(h0, .inr (1, [.ref r1, .ref q1, .int 0, .int 0, .int 0, .int 0, .int 0, .int 0, .ref q2, .null])), (q1, .inl (dA 0, 6, .inl (fun _ => 0))), (q2, .inl (dA 2, 156, .inl (fun _ => 0)))] H := hP
  have hD : va_D A [(h0, .inr (1, [.ref r1, .ref q1, .int 0, .int 0, .int 0, .int 0, .int 0, .int 0, .ref q2, .null])), (q1, .inl (dA 0, 6, .inl (fun _ => 0))), (q2, .inl (dA 2, 156, .inl (fun _ => 0)))] := hD
  refine lv_aload_n hx hb dX2_init_14 rfl (lv_at hl 0 rfl) ?_
  refine lv_sipush (v := 156) hx hb dX2_init_15 (by decide) ?_
  refine n_newa (atype := .int) (ty := .int) (t := 0) (N' := 156) hx hb rfl (Or.inl rfl) (hts _ ac_int) hK rfl hP hD hS hA (by decide) (by decide) (by decide) (Nat.le_of_ble_eq_true rfl) (Nat.le_of_ble_eq_true rfl) dX2_init_18 (fun q3 H hP hD hS => ?_)
  have hP : va_P D vwCl [(h0, .inr (1, [.ref r1, .ref q1, .int 0, .int 0, .int 0, .int 0, .int 0, .int 0, .ref q2, .null])), (q1, .inl (dA 0, 6, .inl (fun _ => 0))), (q2, .inl (dA 2, 156, .inl (fun _ => 0))), (q3, .inl (dA 0, 156, .inl (fun _ => 0)))] H := hP
  have hD : va_D A [(h0, .inr (1, [.ref r1, .ref q1, .int 0, .int 0, .int 0, .int 0, .int 0, .int 0, .ref q2, .null])), (q1, .inl (dA 0, 6, .inl (fun _ => 0))), (q2, .inl (dA 2, 156, .inl (fun _ => 0))), (q3, .inl (dA 0, 156, .inl (fun _ => 0)))] := hD
  refine W.widen (k := 3) (n := 318) (Nat.le_of_ble_eq_true rfl) (Nat.le_of_ble_eq_true rfl) ?_
  refine va_putF (D := D) (ci := 1) (v := .ref q3) (ty := (tyX2 9)) (C := RX2) (T := TX2) (N := 10) (ref := "Ballotscript$HandCount") hx hb hts in_X2 tyX2 tyX2_ok nmX2 hown hK hP hD hS 0 rfl rfl 9 (Nat.le_of_ble_eq_true rfl) (hts _ pf_X2_init_20_X2) (fun _ h9 => h9) rfl hin rfl (tyX2_ok 9 (Nat.le_of_ble_eq_true rfl)) rfl rfl (Nat.le_of_ble_eq_true rfl) dX2_init_20 (fun H locs hP hD hS => ?_)
  have hP : va_P D vwCl [(h0, .inr (1, [.ref r1, .ref q1, .int 0, .int 0, .int 0, .int 0, .int 0, .int 0, .ref q2, .ref q3])), (q1, .inl (dA 0, 6, .inl (fun _ => 0))), (q2, .inl (dA 2, 156, .inl (fun _ => 0))), (q3, .inl (dA 0, 156, .inl (fun _ => 0)))] H := hP
  have hD : va_D A [(h0, .inr (1, [.ref r1, .ref q1, .int 0, .int 0, .int 0, .int 0, .int 0, .int 0, .ref q2, .ref q3])), (q1, .inl (dA 0, 6, .inl (fun _ => 0))), (q2, .inl (dA 2, 156, .inl (fun _ => 0))), (q3, .inl (dA 0, 156, .inl (fun _ => 0)))] := hD
  exact W.vret hx hb hr (fun t ht hW => ⟨⟨(), rfl, trivial, q1, q2, q3, by rw [ht]; exact hP, hD⟩, hS.F ht⟩) hS.2.2 dX2_init_23

/-! THE LAW'S START: what the tables and the given words say -/
theorem lt_of {w : Cond} (i : Nat) (h : tables_1[i]? = some w) : w ∈ lw_tbl := List.mem_append_right _ (List.mem_of_getElem? h)
theorem lt_wall {w : Cond} (h : w ∈ wall) : w ∈ lw_tbl := (List.mem_filter.mp h).1
abbrev gvC : List Cond := flatC (Jvm.Cond.and given_1 narrow_1)
theorem gv_of {w : Cond} (i : Nat) (h : gvC[i]? = some w) : w ∈ gvC := List.mem_of_getElem? h
theorem xw1_in : ∀ w ∈ xw1, w ∈ lw_tbl := List.forall_mem_cons.mpr ⟨lt_of 34 (by decide +kernel), List.forall_mem_cons.mpr ⟨lt_of 63 (by decide +kernel), List.forall_mem_cons.mpr ⟨lt_of 84 (by decide +kernel), List.forall_mem_cons.mpr ⟨lt_of 243 (by decide +kernel), List.forall_mem_cons.mpr ⟨lt_of 273 (by decide +kernel), List.forall_mem_cons.mpr ⟨lt_of 355 (by decide +kernel), List.forall_mem_cons.mpr ⟨lt_of 466 (by decide +kernel), List.forall_mem_cons.mpr ⟨lt_of 471 (by decide +kernel), List.forall_mem_cons.mpr ⟨lt_of 483 (by decide +kernel), List.forall_mem_cons.mpr ⟨lt_of 486 (by decide +kernel), List.forall_mem_cons.mpr ⟨lt_of 493 (by decide +kernel), List.forall_mem_cons.mpr ⟨lt_of 530 (by decide +kernel), List.forall_mem_cons.mpr ⟨lt_of 555 (by decide +kernel), List.forall_mem_cons.mpr ⟨lt_of 596 (by decide +kernel), List.forall_mem_cons.mpr ⟨lt_of 597 (by decide +kernel), List.forall_mem_cons.mpr ⟨lt_of 598 (by decide +kernel), List.forall_mem_cons.mpr ⟨lt_of 599 (by decide +kernel), List.forall_mem_cons.mpr ⟨lt_of 600 (by decide +kernel), List.forall_mem_cons.mpr ⟨lt_of 601 (by decide +kernel), List.forall_mem_cons.mpr ⟨lt_of 602 (by decide +kernel), List.forall_mem_cons.mpr ⟨lt_of 663 (by decide +kernel), List.forall_mem_cons.mpr ⟨lt_of 679 (by decide +kernel), List.forall_mem_cons.mpr ⟨lt_of 741 (by decide +kernel), List.forall_mem_cons.mpr ⟨lt_of 956 (by decide +kernel), List.forall_mem_cons.mpr ⟨lt_of 959 (by decide +kernel), fun _ h => absurd h List.not_mem_nil⟩⟩⟩⟩⟩⟩⟩⟩⟩⟩⟩⟩⟩⟩⟩⟩⟩⟩⟩⟩⟩⟩⟩⟩⟩
theorem str_in : ∀ x ∈ strC, Cond.stringRef x.1 x.2.1 x.2.2 ∈ lw_tbl ∧ Cond.exactly (Term.string x.1 x.2.1) "java/lang/String" ∈ gvC := List.forall_mem_cons.mpr ⟨⟨lt_of 358 (by decide +kernel), gv_of 44 (by decide +kernel)⟩, List.forall_mem_cons.mpr ⟨⟨lt_of 490 (by decide +kernel), gv_of 57 (by decide +kernel)⟩, List.forall_mem_cons.mpr ⟨⟨lt_of 519 (by decide +kernel), gv_of 64 (by decide +kernel)⟩, List.forall_mem_cons.mpr ⟨⟨lt_of 635 (by decide +kernel), gv_of 71 (by decide +kernel)⟩, List.forall_mem_cons.mpr ⟨⟨lt_of 670 (by decide +kernel), gv_of 97 (by decide +kernel)⟩, List.forall_mem_cons.mpr ⟨⟨lt_of 686 (by decide +kernel), gv_of 127 (by decide +kernel)⟩, List.forall_mem_cons.mpr ⟨⟨lt_of 704 (by decide +kernel), gv_of 151 (by decide +kernel)⟩, List.forall_mem_cons.mpr ⟨⟨lt_of 705 (by decide +kernel), gv_of 168 (by decide +kernel)⟩, List.forall_mem_cons.mpr ⟨⟨lt_of 717 (by decide +kernel), gv_of 191 (by decide +kernel)⟩, List.forall_mem_cons.mpr ⟨⟨lt_of 726 (by decide +kernel), gv_of 214 (by decide +kernel)⟩, List.forall_mem_cons.mpr ⟨⟨lt_of 727 (by decide +kernel), gv_of 238 (by decide +kernel)⟩, List.forall_mem_cons.mpr ⟨⟨lt_of 735 (by decide +kernel), gv_of 268 (by decide +kernel)⟩, List.forall_mem_cons.mpr ⟨⟨lt_of 736 (by decide +kernel), gv_of 291 (by decide +kernel)⟩, List.forall_mem_cons.mpr ⟨⟨lt_of 753 (by decide +kernel), gv_of 312 (by decide +kernel)⟩, List.forall_mem_cons.mpr ⟨⟨lt_of 768 (by decide +kernel), gv_of 328 (by decide +kernel)⟩, List.forall_mem_cons.mpr ⟨⟨lt_of 769 (by decide +kernel), gv_of 352 (by decide +kernel)⟩, List.forall_mem_cons.mpr ⟨⟨lt_of 770 (by decide +kernel), gv_of 391 (by decide +kernel)⟩, List.forall_mem_cons.mpr ⟨⟨lt_of 786 (by decide +kernel), gv_of 412 (by decide +kernel)⟩, List.forall_mem_cons.mpr ⟨⟨lt_of 787 (by decide +kernel), gv_of 428 (by decide +kernel)⟩, List.forall_mem_cons.mpr ⟨⟨lt_of 795 (by decide +kernel), gv_of 450 (by decide +kernel)⟩, List.forall_mem_cons.mpr ⟨⟨lt_of 800 (by decide +kernel), gv_of 471 (by decide +kernel)⟩, List.forall_mem_cons.mpr ⟨⟨lt_of 812 (by decide +kernel), gv_of 498 (by decide +kernel)⟩, List.forall_mem_cons.mpr ⟨⟨lt_of 818 (by decide +kernel), gv_of 516 (by decide +kernel)⟩, List.forall_mem_cons.mpr ⟨⟨lt_of 834 (by decide +kernel), gv_of 546 (by decide +kernel)⟩, List.forall_mem_cons.mpr ⟨⟨lt_of 843 (by decide +kernel), gv_of 564 (by decide +kernel)⟩, List.forall_mem_cons.mpr ⟨⟨lt_of 852 (by decide +kernel), gv_of 581 (by decide +kernel)⟩, List.forall_mem_cons.mpr ⟨⟨lt_of 860 (by decide +kernel), gv_of 633 (by decide +kernel)⟩, List.forall_mem_cons.mpr ⟨⟨lt_of 861 (by decide +kernel), gv_of 665 (by decide +kernel)⟩, List.forall_mem_cons.mpr ⟨⟨lt_of 888 (by decide +kernel), gv_of 697 (by decide +kernel)⟩, List.forall_mem_cons.mpr ⟨⟨lt_of 917 (by decide +kernel), gv_of 717 (by decide +kernel)⟩, List.forall_mem_cons.mpr ⟨⟨lt_of 918 (by decide +kernel), gv_of 735 (by decide +kernel)⟩, List.forall_mem_cons.mpr ⟨⟨lt_of 974 (by decide +kernel), gv_of 762 (by decide +kernel)⟩, List.forall_mem_cons.mpr ⟨⟨lt_of 987 (by decide +kernel), gv_of 792 (by decide +kernel)⟩, fun _ h => absurd h List.not_mem_nil⟩⟩⟩⟩⟩⟩⟩⟩⟩⟩⟩⟩⟩⟩⟩⟩⟩⟩⟩⟩⟩⟩⟩⟩⟩⟩⟩⟩⟩⟩⟩⟩⟩
theorem stl_0 : Cond.exactly (Term.string "Ballotscript$Text" 27) "java/lang/String" ∈ gvC ∧ Cond.eq (.field (.string "Ballotscript$Text" 27) "java/lang/String" "coder" "B") (.int 0) ∈ gvC ∧ Cond.arrayOf (.field (.string "Ballotscript$Text" 27) "java/lang/String" "value" "[B") .byte ∈ gvC ∧ Cond.eq (.length (.field (.string "Ballotscript$Text" 27) "java/lang/String" "value" "[B")) (.int (Int32.ofNat 9)) ∈ gvC ∧ ∀ j : Nat, j < 9 → Cond.eq (.elem (.field (.string "Ballotscript$Text" 27) "java/lang/String" "value" "[B") (.int (Int32.ofNat j))) (.int ((bytS.getD 0 []).getD j 0)) ∈ gvC := ⟨gv_of 44 (by decide +kernel), gv_of 45 (by decide +kernel), gv_of 46 (by decide +kernel), gv_of 47 (by decide +kernel), fun j hj => gv_of (48 + j) ((by decide +kernel : ∀ j : Nat, j < 9 → gvC[48 + j]? = some (Cond.eq (.elem (.field (.string "Ballotscript$Text" 27) "java/lang/String" "value" "[B") (.int (Int32.ofNat j))) (.int ((bytS.getD 0 []).getD j 0)))) j hj)⟩
theorem stl_1 : Cond.exactly (Term.string "Ballotscript$Count" 39) "java/lang/String" ∈ gvC ∧ Cond.eq (.field (.string "Ballotscript$Count" 39) "java/lang/String" "coder" "B") (.int 0) ∈ gvC ∧ Cond.arrayOf (.field (.string "Ballotscript$Count" 39) "java/lang/String" "value" "[B") .byte ∈ gvC ∧ Cond.eq (.length (.field (.string "Ballotscript$Count" 39) "java/lang/String" "value" "[B")) (.int (Int32.ofNat 3)) ∈ gvC ∧ ∀ j : Nat, j < 3 → Cond.eq (.elem (.field (.string "Ballotscript$Count" 39) "java/lang/String" "value" "[B") (.int (Int32.ofNat j))) (.int ((bytS.getD 1 []).getD j 0)) ∈ gvC := ⟨gv_of 57 (by decide +kernel), gv_of 58 (by decide +kernel), gv_of 59 (by decide +kernel), gv_of 60 (by decide +kernel), fun j hj => gv_of (61 + j) ((by decide +kernel : ∀ j : Nat, j < 3 → gvC[61 + j]? = some (Cond.eq (.elem (.field (.string "Ballotscript$Count" 39) "java/lang/String" "value" "[B") (.int (Int32.ofNat j))) (.int ((bytS.getD 1 []).getD j 0)))) j hj)⟩
theorem stl_2 : Cond.exactly (Term.string "Ballotscript$Count" 51) "java/lang/String" ∈ gvC ∧ Cond.eq (.field (.string "Ballotscript$Count" 51) "java/lang/String" "coder" "B") (.int 0) ∈ gvC ∧ Cond.arrayOf (.field (.string "Ballotscript$Count" 51) "java/lang/String" "value" "[B") .byte ∈ gvC ∧ Cond.eq (.length (.field (.string "Ballotscript$Count" 51) "java/lang/String" "value" "[B")) (.int (Int32.ofNat 3)) ∈ gvC ∧ ∀ j : Nat, j < 3 → Cond.eq (.elem (.field (.string "Ballotscript$Count" 51) "java/lang/String" "value" "[B") (.int (Int32.ofNat j))) (.int ((bytS.getD 2 []).getD j 0)) ∈ gvC := ⟨gv_of 64 (by decide +kernel), gv_of 65 (by decide +kernel), gv_of 66 (by decide +kernel), gv_of 67 (by decide +kernel), fun j hj => gv_of (68 + j) ((by decide +kernel : ∀ j : Nat, j < 3 → gvC[68 + j]? = some (Cond.eq (.elem (.field (.string "Ballotscript$Count" 51) "java/lang/String" "value" "[B") (.int (Int32.ofNat j))) (.int ((bytS.getD 2 []).getD j 0)))) j hj)⟩
section LSTART
variable {s : State} {args : Array Value}
theorem str_of {own tx : String} {k : Nat} (h1 : (Cond.stringRef own k tx).before args s = true) (h2 : (Cond.exactly (Term.string own k) "java/lang/String").before args s = true) : ∃ a, vk_R own k tx a s := by
  obtain ⟨a, c, cA, kA, q1, -⟩ := Cond.exactly_spec (args := args) (first := s) (o := none) (s := s) (idx := []) (t := Term.string own k) (cls := "java/lang/String") h2
  exact ⟨a, vk_R.of h1 q1⟩
theorem str_j {j : Nat} {x : String × Nat × String} (e : strC.getD j ("", 0, "") = x) (h : ∃ a, vk_R x.1 x.2.1 x.2.2 a s) : vk_R (strC.getD j ("", 0, "")).1 (strC.getD j ("", 0, "")).2.1 (strC.getD j ("", 0, "")).2.2 (sA s j) s := by
  obtain ⟨a, h⟩ := h
  rw [sA_of e h, e]
  exact h
theorem str_ok (hts : ∀ w ∈ lw_tbl, w.before args s = true) (hgv : ∀ w ∈ gvC, w.before args s = true) : strOk s := by
  intro j hj
  have hm : strC.getD j ("", 0, "") ∈ strC := by
    rw [List.getD_eq_getElem?_getD, List.getElem?_eq_getElem hj]
    exact List.getElem_mem hj
  obtain ⟨h1, h2⟩ := str_in _ hm
  exact str_j rfl (str_of (hts _ h1) (hgv _ h2))
/-- two Strings whose arrays differ are two -/
theorem of_fun {o n d : String} {u v : Value} {a : Nat} {A : Nat → Prop} {H : Heap} (h1 : va_OF o n d u a A s H) (h2 : va_OF o n d v a A s H) : u = v := by
  obtain ⟨cf, k, i, f, cell, g1, g2, g3, g4, g5, g6⟩ := h1
  obtain ⟨cf', k', i', f', cell', e1, e2, e3, e4, e5, e6⟩ := h2
  cases g1.symm.trans e1
  cases g3.symm.trans e3
  exact Option.some.inj (g5.symm.trans e5)
theorem tb_fun {ty : FieldType} {t N1 N2 : Nat} {f1 f2 : Nat → Value} {A : Nat → Prop} {H : Heap} (h1 : va_T ty t N1 f1 A s H) (h2 : va_T ty t N2 f2 A s H) : Int32.ofNat N1 = Int32.ofNat N2 ∧ ∀ j, j < N1 → j < N2 → f1 j = f2 j := by
  obtain ⟨cell, g1, g2, g3, g4, g5, g6, g7⟩ := h1
  obtain ⟨cell', e1, e2, e3, e4, e5, e6, e7⟩ := h2
  cases g1.symm.trans e1
  exact ⟨g5.symm.trans e5, fun j a b => Option.some.inj ((g6 j a).symm.trans (e6 j b))⟩
theorem str_S (hts : ∀ w ∈ lw_tbl, w.before args s = true) (hgv : ∀ w ∈ gvC, w.before args s = true) {A : Nat → Prop} (hA : ∀ a : Nat, a < s.heap.size → ¬ A a) : ∃ adV : Nat → Nat, vk_S 3 lenS bytS (sA s) adV A s s.heap := by
  have one : ∀ (own : String) (k n j : Nat), n < 2 ^ 31 → (Cond.exactly (Term.string own k) "java/lang/String" ∈ gvC ∧ Cond.eq (.field (.string own k) "java/lang/String" "coder" "B") (.int 0) ∈ gvC ∧ Cond.arrayOf (.field (.string own k) "java/lang/String" "value" "[B") .byte ∈ gvC ∧ Cond.eq (.length (.field (.string own k) "java/lang/String" "value" "[B")) (.int (Int32.ofNat n)) ∈ gvC ∧ ∀ j' : Nat, j' < n → Cond.eq (.elem (.field (.string own k) "java/lang/String" "value" "[B") (.int (Int32.ofNat j'))) (.int ((bytS.getD j []).getD j' 0)) ∈ gvC) → ∃ a v : Nat, (Term.string own k).eval args s none [] s = some (.ref a) ∧ va_O "java/lang/String" a A s s.heap ∧ va_OF "java/lang/String" "coder" "B" (.int 0) a A s s.heap ∧ va_OF "java/lang/String" "value" "[B" (.ref v) a A s s.heap ∧ va_T .byte v n (fun i => .int ((bytS.getD j []).getD i 0)) A s s.heap := by
    intro own k n j hn ⟨w1, w2, w3, w4, w5⟩
    obtain ⟨adK, adV, h, he⟩ := vk_Sof (args := args) (s := s) (N := 1) (tm := fun _ => Term.string own k) (len := [n]) (byt := [bytS.getD j []]) (A := A) (fun i hi => by
      have : i = 0 := by omega
      subst this; exact hn) (fun i hi => hgv _ w1) (fun i hi => hgv _ w2) (fun i hi => hgv _ w3) (fun i hi => by
      have : i = 0 := by omega
      subst this; exact hgv _ w4) (fun i hi j' hj' => by
      have : i = 0 := by omega
      subst this; exact hgv _ (w5 j' hj')) (fun i j' hi hj' hne => absurd (show i = j' by omega) hne) hA
    obtain ⟨q1, q2, q3, q4⟩ := h.1 0 (by omega)
    exact ⟨adK 0, adV 0, he 0 (by omega), q1, q2, q3, q4⟩
  obtain ⟨a0, v0, e0, o0, c0, f0, t0⟩ := one "Ballotscript$Text" 27 9 0 (by decide) stl_0
  obtain ⟨a1, v1, e1, o1, c1, f1, t1⟩ := one "Ballotscript$Count" 39 3 1 (by decide) stl_1
  obtain ⟨a2, v2, e2, o2, c2, f2, t2⟩ := one "Ballotscript$Count" 51 3 2 (by decide) stl_2
  have s0 : sA s 0 = a0 := sA_of (x := ("Ballotscript$Text", 27, "tbamxrlhq")) rfl (vk_R.of (hts _ (str_in ("Ballotscript$Text", 27, "tbamxrlhq") (List.mem_of_getElem? (i := 0) rfl)).1) e0)
  have s1 : sA s 1 = a1 := sA_of (x := ("Ballotscript$Count", 39, "tba")) rfl (vk_R.of (hts _ (str_in ("Ballotscript$Count", 39, "tba") (List.mem_of_getElem? (i := 1) rfl)).1) e1)
  have s2 : sA s 2 = a2 := sA_of (x := ("Ballotscript$Count", 51, "lhq")) rfl (vk_R.of (hts _ (str_in ("Ballotscript$Count", 51, "lhq") (List.mem_of_getElem? (i := 2) rfl)).1) e2)
  refine ⟨fun i => if i = 0 then v0 else if i = 1 then v1 else v2, fun i hi => ?_, fun i j hi hj e => ?_⟩
  · match i, hi with
    | 0, _ => rw [s0]; exact ⟨o0, c0, f0, t0⟩
    | 1, _ => rw [s1]; exact ⟨o1, c1, f1, t1⟩
    | 2, _ => rw [s2]; exact ⟨o2, c2, f2, t2⟩
  · have d01 : a0 ≠ a1 := fun e => by
      subst e
      cases of_fun f0 f1
      exact absurd (tb_fun t0 t1).1 (by decide)
    have d02 : a0 ≠ a2 := fun e => by
      subst e
      cases of_fun f0 f2
      exact absurd (tb_fun t0 t2).1 (by decide)
    have d12 : a1 ≠ a2 := fun e => by
      subst e
      cases of_fun f1 f2
      have := (tb_fun t1 t2).2 0 (by omega) (by omega)
      exact absurd (Value.int.inj this) (by decide)
    match i, j, hi, hj with
    | 0, 0, _, _ => rfl
    | 1, 1, _, _ => rfl
    | 2, 2, _, _ => rfl
    | 0, 1, _, _ => rw [s0, s1] at e; exact absurd e d01
    | 0, 2, _, _ => rw [s0, s2] at e; exact absurd e d02
    | 1, 2, _, _ => rw [s1, s2] at e; exact absurd e d12
    | 1, 0, _, _ => rw [s1, s0] at e; exact absurd e.symm d01
    | 2, 0, _, _ => rw [s2, s0] at e; exact absurd e.symm d02
    | 2, 1, _, _ => rw [s2, s1] at e; exact absurd e.symm d12
/-- a private method of a class above goes to itself -/
theorem sel_up {y yb xb : MethodName} {Cn Cm : String} {n : Nat} (hy : y.cls ≠ "java/lang/invoke/MethodHandle" ∧ y.cls ≠ "java/lang/invoke/VarHandle") (hfc : (Cond.instantiable Cn n).before args s = true) (hpriv : (Cond.privateMethod y).before args s = true) (hinst : (Cond.instanceMethod y).before args s = true) (hb : (Cond.selects Cm xb yb).before args s = true) (hcls : yb.cls = y.cls) : (Cond.selects Cn y y).before args s = true := by
  obtain ⟨c, k, hc, hk, -, -⟩ := Cond.instantiable_spec hfc
  obtain ⟨mk, methM, hnamed, hmethM, -, -⟩ := Cond.instanceMethod_spec hinst
  have hfound : s.methodFound? y.cls y.name y.desc = some mk := State.methodFound?_of_named hnamed hy
  have hsel : selectMethod {} s.vm c mk = .method mk := selectMethod_private hmethM (Cond.privateMethod_at hpriv mk methM hnamed hmethM)
  obtain ⟨c2, r2, m2, q1, q2, q3, q4, kP, hkP, hkPi⟩ := Cond.selects_spec hb
  have e1 : s.vm.findClass yb.cls = some m2.cls := findClass_of_methodNamed q3
  have e2 : s.vm.findClass y.cls = some mk.cls := findClass_of_methodNamed hnamed
  have e3 : m2.cls = mk.cls := by rw [hcls] at e1; exact Option.some.inj (e1.symm.trans e2)
  rw [e3] at hkP
  simp only [Cond.before, Cond.holds, Cond.value, hc, hfound, hnamed, hsel, hkP]
  simp; exact hkPi
theorem xw2_ok (hts : ∀ w ∈ lw_tbl, w.before args s = true) : ∀ w ∈ xw2, va_Nw w s := List.forall_mem_cons.mpr ⟨va_Nw.of (A := args) rfl (sel_up (yb := ⟨"Ballotscript$Count", "begin", "(II)V"⟩) (xb := ⟨"Ballotscript$MachineCount", "begin", "(II)V"⟩) (Cm := "Ballotscript$MachineCount") (n := 10) ⟨by decide, by decide⟩ (hts _ (lt_of 222 (by decide +kernel))) (hts _ (lt_of 521 (by decide +kernel))) (hts _ (lt_of 522 (by decide +kernel))) (hts _ (lt_of 472 (by decide +kernel))) rfl), List.forall_mem_cons.mpr ⟨va_Nw.of (A := args) rfl (sel_up (yb := ⟨"Ballotscript$Count", "begin", "(II)V"⟩) (xb := ⟨"Ballotscript$MachineCount", "begin", "(II)V"⟩) (Cm := "Ballotscript$MachineCount") (n := 10) ⟨by decide, by decide⟩ (hts _ (lt_of 222 (by decide +kernel))) (hts _ (lt_of 525 (by decide +kernel))) (hts _ (lt_of 526 (by decide +kernel))) (hts _ (lt_of 472 (by decide +kernel))) rfl), List.forall_mem_cons.mpr ⟨va_Nw.of (A := args) rfl (sel_up (yb := ⟨"Ballotscript$Count", "begin", "(II)V"⟩) (xb := ⟨"Ballotscript$MachineCount", "begin", "(II)V"⟩) (Cm := "Ballotscript$MachineCount") (n := 10) ⟨by decide, by decide⟩ (hts _ (lt_of 222 (by decide +kernel))) (hts _ (lt_of 547 (by decide +kernel))) (hts _ (lt_of 548 (by decide +kernel))) (hts _ (lt_of 472 (by decide +kernel))) rfl), List.forall_mem_cons.mpr ⟨va_Nw.of (A := args) rfl (sel_up (yb := ⟨"Ballotscript$Count", "begin", "(II)V"⟩) (xb := ⟨"Ballotscript$MachineCount", "begin", "(II)V"⟩) (Cm := "Ballotscript$MachineCount") (n := 10) ⟨by decide, by decide⟩ (hts _ (lt_of 222 (by decide +kernel))) (hts _ (lt_of 568 (by decide +kernel))) (hts _ (lt_of 569 (by decide +kernel))) (hts _ (lt_of 472 (by decide +kernel))) rfl), List.forall_mem_cons.mpr ⟨va_Nw.of (A := args) rfl (sel_up (yb := ⟨"Ballotscript$Count", "begin", "(II)V"⟩) (xb := ⟨"Ballotscript$MachineCount", "begin", "(II)V"⟩) (Cm := "Ballotscript$MachineCount") (n := 10) ⟨by decide, by decide⟩ (hts _ (lt_of 222 (by decide +kernel))) (hts _ (lt_of 575 (by decide +kernel))) (hts _ (lt_of 576 (by decide +kernel))) (hts _ (lt_of 472 (by decide +kernel))) rfl), List.forall_mem_cons.mpr ⟨va_Nw.of (A := args) rfl (sel_up (yb := ⟨"Ballotscript$Count", "begin", "(II)V"⟩) (xb := ⟨"Ballotscript$MachineCount", "begin", "(II)V"⟩) (Cm := "Ballotscript$MachineCount") (n := 12) ⟨by decide, by decide⟩ (hts _ (lt_of 151 (by decide +kernel))) (hts _ (lt_of 521 (by decide +kernel))) (hts _ (lt_of 522 (by decide +kernel))) (hts _ (lt_of 472 (by decide +kernel))) rfl), List.forall_mem_cons.mpr ⟨va_Nw.of (A := args) rfl (sel_up (yb := ⟨"Ballotscript$Count", "begin", "(II)V"⟩) (xb := ⟨"Ballotscript$MachineCount", "begin", "(II)V"⟩) (Cm := "Ballotscript$MachineCount") (n := 12) ⟨by decide, by decide⟩ (hts _ (lt_of 151 (by decide +kernel))) (hts _ (lt_of 525 (by decide +kernel))) (hts _ (lt_of 526 (by decide +kernel))) (hts _ (lt_of 472 (by decide +kernel))) rfl), List.forall_mem_cons.mpr ⟨va_Nw.of (A := args) rfl (sel_up (yb := ⟨"Ballotscript$Count", "begin", "(II)V"⟩) (xb := ⟨"Ballotscript$MachineCount", "begin", "(II)V"⟩) (Cm := "Ballotscript$MachineCount") (n := 12) ⟨by decide, by decide⟩ (hts _ (lt_of 151 (by decide +kernel))) (hts _ (lt_of 547 (by decide +kernel))) (hts _ (lt_of 548 (by decide +kernel))) (hts _ (lt_of 472 (by decide +kernel))) rfl), List.forall_mem_cons.mpr ⟨va_Nw.of (A := args) rfl (sel_up (yb := ⟨"Ballotscript$Count", "begin", "(II)V"⟩) (xb := ⟨"Ballotscript$MachineCount", "begin", "(II)V"⟩) (Cm := "Ballotscript$MachineCount") (n := 12) ⟨by decide, by decide⟩ (hts _ (lt_of 151 (by decide +kernel))) (hts _ (lt_of 568 (by decide +kernel))) (hts _ (lt_of 569 (by decide +kernel))) (hts _ (lt_of 472 (by decide +kernel))) rfl), List.forall_mem_cons.mpr ⟨va_Nw.of (A := args) rfl (sel_up (yb := ⟨"Ballotscript$Count", "begin", "(II)V"⟩) (xb := ⟨"Ballotscript$MachineCount", "begin", "(II)V"⟩) (Cm := "Ballotscript$MachineCount") (n := 12) ⟨by decide, by decide⟩ (hts _ (lt_of 151 (by decide +kernel))) (hts _ (lt_of 575 (by decide +kernel))) (hts _ (lt_of 576 (by decide +kernel))) (hts _ (lt_of 472 (by decide +kernel))) rfl), fun _ h => absurd h List.not_mem_nil⟩⟩⟩⟩⟩⟩⟩⟩⟩⟩
theorem ev_ok (hts : ∀ w ∈ lw_tbl, w.before args s = true) (hgv : ∀ w ∈ gvC, w.before args s = true) {A : Nat → Prop} (hA : ∀ a : Nat, a < s.heap.size → ¬ A a) : EVl A s s.heap := by
  refine ⟨⟨fun w hw => va_Nw.of (xw1_tab w hw) (hts w (xw1_in w hw)), xw2_ok hts, str_ok hts hgv, str_S hts hgv hA, vx_Zqof (hts _ (lt_of 621 (by decide +kernel))) (hts _ (lt_of 18 (by decide +kernel))) (hgv _ (gv_of 9 (by decide +kernel))) hA, vx_Zqof (hts _ (lt_of 623 (by decide +kernel))) (hts _ (lt_of 18 (by decide +kernel))) (hgv _ (gv_of 10 (by decide +kernel))) hA, va_Zof (hts _ (lt_of 372 (by decide +kernel))) (hts _ (lt_of 11 (by decide +kernel))) (va_eqt (hgv _ (gv_of 4 (by decide +kernel)))) hA⟩, fun i j hi hj hij => ?_⟩
  match i, j, hi, hj with
  | 0, 0, _, _ => exact absurd rfl hij
  | 1, 1, _, _ => exact absurd rfl hij
  | 2, 2, _, _ => exact absurd rfl hij
  | 0, 1, _, _ => exact va_Nc.of (hgv _ (gv_of 32 (by decide +kernel)))
  | 0, 2, _, _ => exact va_Nc.of (hgv _ (gv_of 43 (by decide +kernel)))
  | 1, 0, _, _ => exact va_Nc.of (hgv _ (gv_of 20 (by decide +kernel)))
  | 1, 2, _, _ => exact va_Nc.of (hgv _ (gv_of 42 (by decide +kernel)))
  | 2, 0, _, _ => exact va_Nc.of (hgv _ (gv_of 21 (by decide +kernel)))
  | 2, 1, _, _ => exact va_Nc.of (hgv _ (gv_of 31 (by decide +kernel)))
theorem arr_p {ty : FieldType} (h : (Cond.arrayClass ty).before args s = true) (hp : ∀ C, ty ≠ .object C) : ∃ cA : ClassId, ArrOfT s cA ty ∧ va_RA s cA ty := by
  obtain ⟨c, k, comp, h1, h2, h3⟩ := Cond.arrayClass_spec h
  refine ⟨c, fun n z => ⟨fun k h => (by cases h), k, h2, comp, h3⟩, ?_⟩
  cases ty with
  | object C => exact absurd rfl (hp C)
  | _ => exact h1
theorem arr_q {C : String} (h : (Cond.arrayOver (.object C)).before args s = true) : ∃ cA : ClassId, ArrOfT s cA (.object C) ∧ va_RA s cA (.object C) := by
  obtain ⟨comp, c, k, h1, h2, h3, h4, h5⟩ := Cond.arrayOver_spec h
  exact ⟨c, fun n z => ⟨fun k h => (by cases h), k, h3, comp, h4⟩, k, comp, h3, h4, h1, h5⟩
theorem k_start (hts : ∀ w ∈ lw_tbl, w.before args s = true) : ∃ (D : va_G) (dA : Nat → ClassId), va_K D vwCl (tysW dA) s := by
  obtain ⟨c0, i0, k0⟩ := u_known (C := RX0) (T := TX0) (N := 11) (n := 11) hts (fun w hw => lt_wall (in_X0 w hw)) (hts _ (lt_of 99 (by decide +kernel)))
  obtain ⟨c1, i1, k1⟩ := u_known (C := RX2) (T := TX2) (N := 10) (n := 10) hts (fun w hw => lt_wall (in_X2 w hw)) (hts _ (lt_of 222 (by decide +kernel)))
  obtain ⟨c2, i2, k2⟩ := u_known (C := RX3) (T := TX3) (N := 12) (n := 12) hts (fun w hw => lt_wall (in_X3 w hw)) (hts _ (lt_of 151 (by decide +kernel)))
  obtain ⟨c3, i3, k3⟩ := u_known (C := RX4) (T := TX4) (N := 6) (n := 6) hts (fun w hw => lt_wall (in_X4 w hw)) (hts _ (lt_of 33 (by decide +kernel)))
  obtain ⟨c4, i4, k4⟩ := u_known (C := RX5) (T := TX5) (N := 6) (n := 6) hts (fun w hw => lt_wall (in_X5 w hw)) (hts _ (lt_of 242 (by decide +kernel)))
  obtain ⟨c5, i5, k5⟩ := u_known (C := RX6) (T := TX6) (N := 2) (n := 2) hts (fun w hw => lt_wall (in_X6 w hw)) (hts _ (lt_of 83 (by decide +kernel)))
  obtain ⟨c6, i6, k6⟩ := u_known (C := RX7) (T := TX7) (N := 2) (n := 2) hts (fun w hw => lt_wall (in_X7 w hw)) (hts _ (lt_of 62 (by decide +kernel)))
  obtain ⟨c7, i7, k7⟩ := u_known (C := RX8) (T := TX8) (N := 9) (n := 9) hts (fun w hw => lt_wall (in_X8 w hw)) (hts _ (lt_of 272 (by decide +kernel)))
  obtain ⟨c8, i8, k8⟩ := u_known (C := RX9) (T := TX9) (N := 11) (n := 11) hts (fun w hw => lt_wall (in_X9 w hw)) (hts _ (lt_of 25 (by decide +kernel)))
  obtain ⟨d0, a0⟩ := arr_p (s := s) (args := args) (ty := .int) (hts _ (lt_of 59 (by decide +kernel))) (fun C h => by cases h)
  obtain ⟨d1, a1⟩ := arr_p (s := s) (args := args) (ty := .boolean) (hts _ (lt_of 60 (by decide +kernel))) (fun C h => by cases h)
  obtain ⟨d2, a2⟩ := arr_p (s := s) (args := args) (ty := .char) (hts _ (lt_of 77 (by decide +kernel))) (fun C h => by cases h)
  obtain ⟨d3, a3⟩ := arr_q (s := s) (args := args) (C := RX5) (hts _ (lt_of 79 (by decide +kernel)))
  obtain ⟨d4, a4⟩ := arr_q (s := s) (args := args) (C := RX8) (hts _ (lt_of 81 (by decide +kernel)))
  refine ⟨(fun k => if k = 0 then c0 else if k = 1 then c1 else if k = 2 then c2 else if k = 3 then c3 else if k = 4 then c4 else if k = 5 then c5 else if k = 6 then c6 else if k = 7 then c7 else c8, fun k => if k = 0 then i0 else if k = 1 then i1 else if k = 2 then i2 else if k = 3 then i3 else if k = 4 then i4 else if k = 5 then i5 else if k = 6 then i6 else if k = 7 then i7 else i8), fun k => if k = 0 then d0 else if k = 1 then d1 else if k = 2 then d2 else if k = 3 then d3 else d4, fun k q hq => ?_, fun k q hq => ?_⟩
  · match k, hq with
    | 0, hq => cases hq; exact k0
    | 1, hq => cases hq; exact k1
    | 2, hq => cases hq; exact k2
    | 3, hq => cases hq; exact k3
    | 4, hq => cases hq; exact k4
    | 5, hq => cases hq; exact k5
    | 6, hq => cases hq; exact k6
    | 7, hq => cases hq; exact k7
    | 8, hq => cases hq; exact k8
    | k + 9, hq => simp [vwCl] at hq
  · match k, hq with
    | 0, hq => cases hq; exact a0
    | 1, hq => cases hq; exact a1
    | 2, hq => cases hq; exact a2
    | 3, hq => cases hq; exact a3
    | 4, hq => cases hq; exact a4
    | k + 5, hq => simp [tysW] at hq
theorem ao_5 (hts : ∀ w ∈ lw_tbl, w.before args s = true) : va_AO RX5 s := va_AO.of (hts _ (lt_of 79 (by decide +kernel)))
theorem ao_8 (hts : ∀ w ∈ lw_tbl, w.before args s = true) : va_AO RX8 s := va_AO.of (hts _ (lt_of 81 (by decide +kernel)))
end LSTART

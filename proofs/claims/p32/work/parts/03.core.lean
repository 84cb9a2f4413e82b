/-! CORE: a world is a list of kinds of cells; what the cells hold is a function. All ints (booleans, chars) of the cells are w i k: cell i, place k. -/
abbrev Wt : Type := Nat → Nat → Int32
/-- a cell's kind: an array (its type's place, its length); an object (its class's place, its fields: none an int, some j a reference to the cell j); an array of references (its type's place, its length, the first cell) -/
abbrev Kd : Type := (Nat × Nat) ⊕ ((Nat × List (Option Nat)) ⊕ (Nat × Nat × Nat))
def kfs (q : Nat → Nat) (f : Nat → Int32) (l : List (Option Nat)) : List Value := l.mapIdx (fun j r => match r with | none => Value.int (f j) | some i => Value.ref (q i))
def kc (dA : Nat → ClassId) (q : Nat → Nat) (f : Nat → Int32) (k : Kd) : va_E := match k with
  | .inl a => .inl (dA a.1, a.2, .inl f)
  | .inr (.inl o) => .inr (o.1, kfs q f o.2)
  | .inr (.inr a) => .inl (dA a.1, a.2.1, .inr (.inr (.inr (.inr (fun j => some (q (a.2.2 + j)))))))
def wld (K : List Kd) (dA : Nat → ClassId) (q : Nat → Nat) (w : Wt) : va_W := K.mapIdx (fun i k => (q i, kc dA q (w i) k))
def upd2 (w : Wt) (i k : Nat) (v : Int32) : Wt := fun a => if a = i then upd (w i) k v else w a
theorem upd2_s {w : Wt} {i k : Nat} {v : Int32} : upd2 w i k v i = upd (w i) k v := if_pos rfl
theorem upd2_n {w : Wt} {i k a : Nat} {v : Int32} (h : a ≠ i) : upd2 w i k v a = w a := if_neg h
theorem wld_at {K : List Kd} {dA : Nat → ClassId} {q : Nat → Nat} {w : Wt} {i : Nat} {k : Kd} (h : K[i]? = some k) : (wld K dA q w)[i]? = some (q i, kc dA q (w i) k) := by
  unfold wld
  rw [List.getElem?_mapIdx, h]
  rfl
theorem wld_len {K : List Kd} {dA : Nat → ClassId} {q : Nat → Nat} {w : Wt} : (wld K dA q w).length = K.length := by unfold wld; exact List.length_mapIdx
theorem wld_in {K : List Kd} {dA : Nat → ClassId} {q : Nat → Nat} {w : Wt} {i : Nat} {z : Nat × va_E} (h : (wld K dA q w)[i]? = some z) : i < K.length ∧ z.1 = q i := by
  have hl : i < (wld K dA q w).length := (List.getElem?_eq_some_iff.mp h).1
  rw [wld_len] at hl
  have h2 := wld_at (dA := dA) (q := q) (w := w) (List.getElem?_eq_getElem hl)
  rw [h2] at h
  exact ⟨hl, by rw [← Option.some.inj h]⟩
theorem wld_set {K : List Kd} {dA : Nat → ClassId} {q : Nat → Nat} {w : Wt} {i k : Nat} {v : Int32} {z : Kd} {y : va_E} (h : K[i]? = some z) (hy : y = kc dA q (upd (w i) k v) z) : (wld K dA q w).set i (q i, y) = wld K dA q (upd2 w i k v) := by
  subst hy
  apply List.ext_getElem?
  intro j
  by_cases e : j = i
  · subst e
    have hl : j < (wld K dA q w).length := by rw [wld_len]; exact (List.getElem?_eq_some_iff.mp h).1
    rw [List.getElem?_set_self hl, wld_at h, upd2_s]
  · rw [List.getElem?_set_ne (fun z => e z.symm)]
    unfold wld
    rw [List.getElem?_mapIdx, List.getElem?_mapIdx, upd2_n e]
theorem kfs_at {q : Nat → Nat} {f : Nat → Int32} {l : List (Option Nat)} {k : Nat} (h : l[k]? = some none) : (kfs q f l)[k]? = some (.int (f k)) := by
  unfold kfs
  rw [List.getElem?_mapIdx, h]
  rfl
theorem kfs_ref {q : Nat → Nat} {f : Nat → Int32} {l : List (Option Nat)} {k j : Nat} (h : l[k]? = some (some j)) : (kfs q f l)[k]? = some (.ref (q j)) := by
  unfold kfs
  rw [List.getElem?_mapIdx, h]
  rfl
theorem kfs_set {q : Nat → Nat} {f : Nat → Int32} {l : List (Option Nat)} {k : Nat} {v : Int32} (h : l[k]? = some none) : (kfs q f l).set k (.int v) = kfs q (upd f k v) l := by
  apply List.ext_getElem?
  intro j
  have hl : k < l.length := (List.getElem?_eq_some_iff.mp h).1
  by_cases e : j = k
  · subst e
    rw [List.getElem?_set_self (by unfold kfs; rw [List.length_mapIdx]; exact hl), kfs_at h, pk_us]
  · rw [List.getElem?_set_ne (fun z => e z.symm)]
    unfold kfs
    rw [List.getElem?_mapIdx, List.getElem?_mapIdx]
    cases l[j]? with
    | none => rfl
    | some r =>
      cases r with
      | none => show some (Value.int (f j)) = some (Value.int (upd f k v j)); rw [pk_un e]
      | some i => rfl
/-- the array classes -/
def tysW (dA : Nat → ClassId) : List (ClassId × FieldType) := [(dA 0, .int), (dA 1, .boolean), (dA 2, .char), (dA 3, .object RX5), (dA 4, .object RX8)]
abbrev injK (K : List Kd) (q : Nat → Nat) : Prop := ∀ i j, i < K.length → j < K.length → q i = q j → i = j
def Aq (K : List Kd) (q : Nat → Nat) (sz : Nat) : Nat → Prop := fun a => (∃ i, i < K.length ∧ a = q i) ∨ sz ≤ a
theorem wld_D {K : List Kd} {dA : Nat → ClassId} {q : Nat → Nat} {w : Wt} {A : Nat → Prop} (hq : injK K q) (hA : ∀ i, i < K.length → A (q i)) : va_D A (wld K dA q w) := by
  refine ⟨fun i j p r hi hj e => ?_, fun k r hk => ?_⟩
  · obtain ⟨a1, b1⟩ := wld_in hi
    obtain ⟨a2, b2⟩ := wld_in hj
    exact hq i j a1 a2 (by rw [← b1, ← b2]; exact e)
  · obtain ⟨a1, b1⟩ := wld_in hk
    rw [b1]
    exact hA k a1
/-- what a method takes of the heap beside its world: kept by what doesn't write there -/
abbrev Ev : Type := (Nat → Prop) → State → Heap → Prop
def evOk (EV : Ev) : Prop := (∀ (A : Nat → Prop) (s U : State) (H : Heap), s.WarmedH U.vm → EV A s H → EV A U H) ∧ (∀ (A : Nat → Prop) (U : State) (H H1 : Heap), EV A U H → (∀ a : Nat, a < H.size → ¬ A a → H1[a]? = H[a]?) → EV A U H1) ∧ ∀ (A B : Nat → Prop) (U : State) (H : Heap), EV A U H → (∀ a, B a → A a) → EV B U H
/-- the walk's state: the world in the heap, and nothing else changed -/
def Sta (K : List Kd) (D : va_G) (dA : Nat → ClassId) (q : Nat → Nat) (A : Nat → Prop) (H0 : Heap) (w : Wt) (H : Heap) (locs : List Loc) : Prop := va_P D vwCl (wld K dA q w) H ∧ va_S A H0 H locs
/-- what holds all through a method -/
def Cx (EV : Ev) (K : List Kd) (D : va_G) (dA : Nat → ClassId) (q : Nat → Nat) (A : Nat → Prop) (s : State) (m : MethodId) (args : Array Value) (own : String) : Prop :=
  s.vm.findClass own = some m.cls ∧ (∀ w ∈ wall, w.before args s = true) ∧ va_K D vwCl (tysW dA) s ∧ injK K q ∧ (∀ i, i < K.length → A (q i)) ∧ (∀ a, s.heap.size ≤ a → A a) ∧ EV A s s.heap
/-- a method's start -/
def Pr (EV : Ev) (K : List Kd) (D : va_G) (dA : Nat → ClassId) (q : Nat → Nat) (sz : Nat) (w : Wt) : State → Prop := fun U => U.heap.size = sz ∧ va_P D vwCl (wld K dA q w) U.heap ∧ va_K D vwCl (tysW dA) U ∧ injK K q ∧ EV (Aq K q sz) U U.heap
theorem Pr.blind {EV : Ev} {K : List Kd} {D : va_G} {dA : Nat → ClassId} {q : Nat → Nat} {sz : Nat} {w : Wt} {av : List Value} (ev : evOk EV) : FrameBlind (va_Pc av (Pr EV K D dA q sz w)) := by
  intro a U g mk h
  obtain ⟨h0, h1, h2, h3, h4, h5⟩ := h
  exact ⟨h0, h1, h2, va_K.moved (u := U) (U := U.calling g mk a) (Vm.Alike.refl U.vm) h3, h4, ev.1 _ U (U.calling g mk a) _ (State.WarmedH.refl U) h5⟩
section CORE
variable {p : Program} {l : Launch} {e : Env} {R : Room} {s : State} {m : MethodId} {args : Array Value} {below : List Frame} {meth : Method} {c : Code} {H : Heap} {locs : List Loc} {cells slots : Nat} {Q : State → Prop}
variable {EV : Ev} {K : List Kd} {D : va_G} {dA : Nat → ClassId} {q : Nat → Nat} {A : Nat → Prop} {own : String} {w : Wt}
variable {cc : ByteArray} {pc : Nat} {ls : Array Slot} {rest : List Value}
theorem Cx.start {sz : Nat} (hown : s.vm.findClass own = some m.cls) (hts : ∀ x ∈ wall, x.before args s = true) (h : Pr EV K D dA q sz w s) : Cx EV K D dA q (Aq K q s.heap.size) s m args own ∧ Sta K D dA q (Aq K q s.heap.size) s.heap w s.heap [] := by
  obtain ⟨rfl, h2, h3, h4, h5⟩ := h
  exact ⟨⟨hown, hts, h3, h4, fun i hi => Or.inl ⟨i, hi, rfl⟩, fun a ha => Or.inr ha, h5⟩, h2, va_S.rf⟩
theorem Cx.pre {av : List Value} (ev : evOk EV) (C : Cx EV K D dA q A s m args own) (S : Sta K D dA q A s.heap w H locs) {U : State} (hU : U.heap = H) (hW : s.WarmedH U.vm) : va_Pc av (Pr EV K D dA q H.size w) av.toArray U := by
  obtain ⟨-, -, hK, hq, hA, hB, hE⟩ := C
  have h1 : EV A s H := ev.2.1 A s s.heap H hE S.2.2.1
  have h2 : ∀ a, Aq K q H.size a → A a := fun a h => h.elim (fun ⟨i, hi, e⟩ => by rw [e]; exact hA i hi) (fun h => hB a (Nat.le_trans S.2.1 h))
  exact ⟨rfl, by rw [hU], by rw [hU]; exact S.1, va_K.moved hW.alike hK, hq, by rw [hU]; exact ev.1 _ s U H hW (ev.2.2 A _ s H h1 h2)⟩
theorem Cx.sub (C : Cx EV K D dA q A s m args own) (S : Sta K D dA q A s.heap w H locs) : ∀ a, Aq K q H.size a → A a :=
  fun a h => h.elim (fun ⟨i, hi, e⟩ => by rw [e]; exact C.2.2.2.2.1 i hi) (fun h => C.2.2.2.2.2.1 a (Nat.le_trans S.2.1 h))
/-- getfield of an int -/
theorem r_get {ci k index : Nat} {fs : List (Option Nat)} {Cn ref : String} {T : u_T} {N : Nat} (hc : vwCl[ci]? = some (Cn, T, N)) (hk : k < N) (hin : ∀ x ∈ u_ws Cn T N, x ∈ wall) (hlink : Cond.fieldLink own index ref (T k).2.1 (T k).2.2.1 ∈ wall) (hsame : ref = (T k).1 ∨ Cond.sameField ref (T k).1 (T k).2.1 (T k).2.2.1 ∈ wall)
    (hx : p.tables.exec = Jvm.exec) (hb : c.code = cc) (C : Cx EV K D dA q A s m args own) (S : Sta K D dA q A s.heap w H locs) {i : Nat} (hi : K[i]? = some (.inr (.inl (ci, fs)))) (hf : fs[k]? = some none) (hdg : decode cc pc = .ok (.getfield index, 3))
    (kk : W p l e R s m args below meth c H locs cells slots Q (F0 m (pc + 3) ls (.int (w i k) :: rest))) : W p l e R s m args below meth c H locs cells slots Q (F0 m pc ls (.ref (q i) :: rest)) :=
  va_get (ref := ref) hx hb C.2.1 hin C.1 C.2.2.1 S.1 i (wld_at hi) hc k hk (C.2.1 _ hlink) (fun x h => hsame.elim (fun e => by rw [e]; exact h) (fun h2 => u_same (C.2.1 _ h2) x h)) (kfs_at hf) hdg kk
/-- getfield of a reference -/
theorem r_getR {ci k index j : Nat} {fs : List (Option Nat)} {Cn ref : String} {T : u_T} {N : Nat} (hc : vwCl[ci]? = some (Cn, T, N)) (hk : k < N) (hin : ∀ x ∈ u_ws Cn T N, x ∈ wall) (hlink : Cond.fieldLink own index ref (T k).2.1 (T k).2.2.1 ∈ wall) (hsame : ref = (T k).1 ∨ Cond.sameField ref (T k).1 (T k).2.1 (T k).2.2.1 ∈ wall)
    (hx : p.tables.exec = Jvm.exec) (hb : c.code = cc) (C : Cx EV K D dA q A s m args own) (S : Sta K D dA q A s.heap w H locs) {i : Nat} (hi : K[i]? = some (.inr (.inl (ci, fs)))) (hf : fs[k]? = some (some j)) (hdg : decode cc pc = .ok (.getfield index, 3))
    (kk : W p l e R s m args below meth c H locs cells slots Q (F0 m (pc + 3) ls (.ref (q j) :: rest))) : W p l e R s m args below meth c H locs cells slots Q (F0 m pc ls (.ref (q i) :: rest)) :=
  va_get (ref := ref) hx hb C.2.1 hin C.1 C.2.2.1 S.1 i (wld_at hi) hc k hk (C.2.1 _ hlink) (fun x h => hsame.elim (fun e => by rw [e]; exact h) (fun h2 => u_same (C.2.1 _ h2) x h)) (kfs_ref hf) hdg kk
/-- putfield of an int -/
theorem r_put {ci k index : Nat} {fs : List (Option Nat)} {Cn ref : String} {T : u_T} {N : Nat} (hc : vwCl[ci]? = some (Cn, T, N)) (hk : k < N) (hin : ∀ x ∈ u_ws Cn T N, x ∈ wall) (ty0 : Nat → FieldType) (hty : ∀ k, k < N → parseFieldDescriptor (T k).2.2.1 = some (ty0 k)) (hnm : ∀ a, a < N → ∀ b, b < N → a ≠ b → (T a).2.1 ≠ (T b).2.1) (hlink : Cond.fieldLink own index ref (T k).2.1 (T k).2.2.1 ∈ wall) (hsame : ref = (T k).1 ∨ Cond.sameField ref (T k).1 (T k).2.1 (T k).2.2.1 ∈ wall) (hfin : (T k).2.2.2 = false) {ty : FieldType} (hd : parseFieldDescriptor (T k).2.2.1 = some ty)
    (hx : p.tables.exec = Jvm.exec) (hb : c.code = cc) (C : Cx EV K D dA q A s m args own) (S : Sta K D dA q A s.heap w H locs) {i : Nat} (hi : K[i]? = some (.inr (.inl (ci, fs)))) (hf : fs[k]? = some none) {v : Int32} (hn : narrow ty (.int v) = .int v ∧ fits ty (.int v) = true) (hdg : decode cc pc = .ok (.putfield index, 3))
    (kk : ∀ w1 : Wt, w1 = upd2 w i k v → ∀ (H1 : Heap) (locs1 : List Loc), Sta K D dA q A s.heap w1 H1 locs1 → W p l e R s m args below meth c H1 locs1 cells slots Q (F0 m (pc + 3) ls rest)) : W p l e R s m args below meth c H locs cells slots Q (F0 m pc ls (.int v :: .ref (q i) :: rest)) := by
  have hlf : k < fs.length := (List.getElem?_eq_some_iff.mp hf).1
  refine va_put (ref := ref) hx hb C.2.1 hin ty0 hty hnm C.1 C.2.2.1 S.1 (wld_D C.2.2.2.1 C.2.2.2.2.1) S.2 i (wld_at hi) hc k hk (C.2.1 _ hlink) (fun x h => hsame.elim (fun e => by rw [e]; exact h) (fun h2 => u_same (C.2.1 _ h2) x h)) hfin hd hn.1 hn.2 (by unfold kfs; rw [List.length_mapIdx]; exact hlf) hdg (fun H1 locs1 hP _ hS => ?_)
  refine kk _ rfl H1 locs1 ⟨?_, hS⟩
  rw [wld_set hi (show _ = kc dA q (upd (w i) k v) (.inr (.inl (ci, fs))) from by show Sum.inr (ci, (kfs q (w i) fs).set k (.int v)) = _; rw [kfs_set hf]; rfl)] at hP
  exact hP
theorem r_iald {n : Nat} (hx : p.tables.exec = Jvm.exec) (hb : c.code = cc) (C : Cx EV K D dA q A s m args own) (S : Sta K D dA q A s.heap w H locs) {i : Nat} (hi : K[i]? = some (.inl (0, n))) {x : Int32} (hin : vp_in x n) (hdg : decode cc pc = .ok (.iaload, 1))
    (kk : W p l e R s m args below meth c H locs cells slots Q (F0 m (pc + 1) ls (.int (w i x.toNatClampNeg) :: rest))) : W p l e R s m args below meth c H locs cells slots Q (F0 m pc ls (.int x :: .ref (q i) :: rest)) :=
  va_iald hx hb C.2.2.1 S.1 i 0 (wld_at hi) rfl hin hdg kk
theorem r_zald {n : Nat} (hx : p.tables.exec = Jvm.exec) (hb : c.code = cc) (C : Cx EV K D dA q A s m args own) (S : Sta K D dA q A s.heap w H locs) {i : Nat} (hi : K[i]? = some (.inl (1, n))) {x : Int32} (hin : vp_in x n) (hdg : decode cc pc = .ok (.baload, 1))
    (kk : W p l e R s m args below meth c H locs cells slots Q (F0 m (pc + 1) ls (.int (w i x.toNatClampNeg) :: rest))) : W p l e R s m args below meth c H locs cells slots Q (F0 m pc ls (.int x :: .ref (q i) :: rest)) :=
  va_zald hx hb C.2.2.1 S.1 i 1 (wld_at hi) rfl hin hdg kk
theorem r_cald {n : Nat} (hx : p.tables.exec = Jvm.exec) (hb : c.code = cc) (C : Cx EV K D dA q A s m args own) (S : Sta K D dA q A s.heap w H locs) {i : Nat} (hi : K[i]? = some (.inl (2, n))) {x : Int32} (hin : vp_in x n) (hdg : decode cc pc = .ok (.caload, 1))
    (kk : W p l e R s m args below meth c H locs cells slots Q (F0 m (pc + 1) ls (.int (w i x.toNatClampNeg) :: rest))) : W p l e R s m args below meth c H locs cells slots Q (F0 m pc ls (.int x :: .ref (q i) :: rest)) :=
  va_cald hx hb C.2.2.1 S.1 i 2 (wld_at hi) rfl hin hdg kk
theorem r_aald {n b t : Nat} {Cn : String} (ht : (tysW dA)[t]? = some (dA t, .object Cn)) (hx : p.tables.exec = Jvm.exec) (hb : c.code = cc) (C : Cx EV K D dA q A s m args own) (S : Sta K D dA q A s.heap w H locs) {i : Nat} (hi : K[i]? = some (.inr (.inr (t, n, b)))) {x : Int32} (hin : vp_in x n) (hdg : decode cc pc = .ok (.aaload, 1))
    (kk : W p l e R s m args below meth c H locs cells slots Q (F0 m (pc + 1) ls (.ref (q (b + x.toNatClampNeg)) :: rest))) : W p l e R s m args below meth c H locs cells slots Q (F0 m pc ls (.int x :: .ref (q i) :: rest)) :=
  va_aldq hx hb C.2.2.1 S.1 i t (wld_at hi) ht hin hdg kk
theorem r_iast {n : Nat} (hx : p.tables.exec = Jvm.exec) (hb : c.code = cc) (C : Cx EV K D dA q A s m args own) (S : Sta K D dA q A s.heap w H locs) {i : Nat} (hi : K[i]? = some (.inl (0, n))) {x v : Int32} (hin : vp_in x n) (hdg : decode cc pc = .ok (.iastore, 1))
    (kk : ∀ w1 : Wt, w1 = upd2 w i x.toNatClampNeg v → ∀ (H1 : Heap) (locs1 : List Loc), Sta K D dA q A s.heap w1 H1 locs1 → W p l e R s m args below meth c H1 locs1 cells slots Q (F0 m (pc + 1) ls rest)) : W p l e R s m args below meth c H locs cells slots Q (F0 m pc ls (.int v :: .int x :: .ref (q i) :: rest)) := by
  refine va_iast hx hb C.2.2.1 S.1 (wld_D C.2.2.2.1 C.2.2.2.2.1) S.2 i 0 (wld_at hi) rfl hin hdg (fun H1 locs1 hP _ hS => ?_)
  have e9 := wld_set (dA := dA) (q := q) (w := w) (k := x.toNatClampNeg) (v := v) (y := .inl (dA 0, n, .inl (upd (w i) x.toNatClampNeg v))) hi rfl
  exact kk _ rfl H1 locs1 ⟨by rw [← e9]; exact hP, hS⟩
theorem r_zast {n : Nat} (hx : p.tables.exec = Jvm.exec) (hb : c.code = cc) (C : Cx EV K D dA q A s m args own) (S : Sta K D dA q A s.heap w H locs) {i : Nat} (hi : K[i]? = some (.inl (1, n))) {x v : Int32} (hin : vp_in x n) (hdg : decode cc pc = .ok (.bastore, 1))
    (kk : ∀ w1 : Wt, w1 = upd2 w i x.toNatClampNeg (vp_nar .boolean v) → ∀ (H1 : Heap) (locs1 : List Loc), Sta K D dA q A s.heap w1 H1 locs1 → W p l e R s m args below meth c H1 locs1 cells slots Q (F0 m (pc + 1) ls rest)) : W p l e R s m args below meth c H locs cells slots Q (F0 m pc ls (.int v :: .int x :: .ref (q i) :: rest)) := by
  refine va_zast hx hb C.2.2.1 S.1 (wld_D C.2.2.2.1 C.2.2.2.2.1) S.2 i 1 (wld_at hi) rfl hin hdg (fun H1 locs1 hP _ hS => ?_)
  have e9 := wld_set (dA := dA) (q := q) (w := w) (k := x.toNatClampNeg) (v := (vp_nar .boolean v)) (y := .inl (dA 1, n, .inl (upd (w i) x.toNatClampNeg (vp_nar .boolean v)))) hi rfl
  exact kk _ rfl H1 locs1 ⟨by rw [← e9]; exact hP, hS⟩
theorem r_cast {n : Nat} (hx : p.tables.exec = Jvm.exec) (hb : c.code = cc) (C : Cx EV K D dA q A s m args own) (S : Sta K D dA q A s.heap w H locs) {i : Nat} (hi : K[i]? = some (.inl (2, n))) {x v : Int32} (hin : vp_in x n) (hdg : decode cc pc = .ok (.castore, 1))
    (kk : ∀ w1 : Wt, w1 = upd2 w i x.toNatClampNeg (vp_nar .char v) → ∀ (H1 : Heap) (locs1 : List Loc), Sta K D dA q A s.heap w1 H1 locs1 → W p l e R s m args below meth c H1 locs1 cells slots Q (F0 m (pc + 1) ls rest)) : W p l e R s m args below meth c H locs cells slots Q (F0 m pc ls (.int v :: .int x :: .ref (q i) :: rest)) := by
  refine va_cast hx hb C.2.2.1 S.1 (wld_D C.2.2.2.1 C.2.2.2.2.1) S.2 i 2 (wld_at hi) rfl hin hdg (fun H1 locs1 hP _ hS => ?_)
  have e9 := wld_set (dA := dA) (q := q) (w := w) (k := x.toNatClampNeg) (v := (vp_nar .char v)) (y := .inl (dA 2, n, .inl (upd (w i) x.toNatClampNeg (vp_nar .char v)))) hi rfl
  exact kk _ rfl H1 locs1 ⟨by rw [← e9]; exact hP, hS⟩
end CORE

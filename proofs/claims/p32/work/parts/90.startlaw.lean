/-! THE LAW, from its entry -/
theorem nl_9 : Cond.classLink RL 10 RX9 ∈ wall ∧ Cond.instantiable RX9 11 ∈ wall ∧ Cond.initialized RX9 ∈ wall := ⟨wall_of 24 (by decide +kernel) rfl, wall_of 25 (by decide +kernel) rfl, wall_of 1 (by decide +kernel) rfl⟩
theorem ciL_9 : Cond.instanceMethod yX9_init ∈ wall ∧ Cond.initialized yX9_init.cls ∈ wall ∧ Cond.code yX9_init cX9_init 2 none ∈ wall := ⟨wall_of 27 (by decide +kernel) rfl, wall_of 1 (by decide +kernel) rfl, wall_of 28 (by decide +kernel) rfl⟩
theorem lsL_9 : Cond.methodLink RL 143 yX9_init ∈ wall := wall_of 26 (by decide +kernel) rfl
theorem n_blindB {D : va_G} {dA : Nat → ClassId} {sz : Nat} {ws : va_W} {av : List Value} : FrameBlind (va_Pc av (n_PreB D dA sz ws)) := by
  intro a U g mk h
  obtain ⟨h0, h1, h2, h3, h4, h5, h6⟩ := h
  exact ⟨h0, h1, h2, va_K.moved (u := U) (U := U.calling g mk a) (Vm.Alike.refl U.vm) h3, fun w hw => xw1_warm w hw U (U.calling g mk a) (State.WarmedH.refl U) (h4 w hw), va_AO.moved (u := U) (U := U.calling g mk a) (Vm.Alike.refl U.vm) h5, va_AO.moved (u := U) (U := U.calling g mk a) (Vm.Alike.refl U.vm) h6⟩
def okK (k : Kd) : Bool := match k with
  | .inl _ => true
  | .inr (.inl o) => o.2.all (fun r => match r with | none => true | some j => decide (j < 72))
  | .inr (.inr a) => decide (a.2.2 + a.2.1 ≤ 72)
theorem okK_C : KC.all okK = true := by decide +kernel
theorem kfs_q {q q' : Nat → Nat} {f : Nat → Int32} (h : ∀ i, i < 72 → q' i = q i) {l : List (Option Nat)} (hl : l.all (fun r => match r with | none => true | some j => decide (j < 72)) = true) : kfs q' f l = kfs q f l := by
  apply List.ext_getElem?
  intro j
  unfold kfs
  rw [List.getElem?_mapIdx, List.getElem?_mapIdx]
  cases e : l[j]? with
  | none => rfl
  | some r =>
    have h1 := List.all_eq_true.mp hl r (List.mem_of_getElem? e)
    cases r with
    | none => rfl
    | some i =>
      have h2 : i < 72 := of_decide_eq_true h1
      show some (Value.ref (q' i)) = some (Value.ref (q i))
      rw [h i h2]
theorem wld_q {D : va_G} {dA : Nat → ClassId} {q q' : Nat → Nat} {w : Wt} {H : Heap} (h : ∀ i, i < 72 → q' i = q i) (hP : va_P D vwCl (wld KC dA q w) H) : va_P D vwCl (wld KC dA q' w) H := by
  intro k z hz
  obtain ⟨h1, -⟩ := wld_in hz
  have h72 : k < 72 := h1
  have e := List.getElem?_eq_getElem h1
  rw [wld_at e] at hz
  obtain rfl := Option.some.inj hz
  have h2 := hP k _ (wld_at e)
  have h3 := List.all_eq_true.mp okK_C _ (List.getElem_mem h1)
  rw [h k h72]
  generalize KC[k] = kk at h2 h3 ⊢
  match kk, h2, h3 with
  | .inl a, h2, _ => exact h2
  | .inr (.inl o), h2, h3 =>
    show va_at D vwCl (q k, .inr (o.1, kfs q' (w k) o.2)) H
    rw [kfs_q h h3]
    exact h2
  | .inr (.inr a), h2, h3 =>
    have h4 : a.2.2 + a.2.1 ≤ 72 := of_decide_eq_true h3
    exact n_rarr h2 (fun j hj => by rw [h (a.2.2 + j) (by omega)])
section PARTS
variable {D : va_G} {cl : List vw_C} {w1 w2 : va_W} {H : Heap} {A : Nat → Prop}
theorem ga_l {k : Nat} {z : Nat × va_E} (hz : w1[k]? = some z) : (w1 ++ w2)[k]? = some z := by rw [List.getElem?_append_left (List.getElem?_eq_some_iff.mp hz).1]; exact hz
theorem ga_r {k : Nat} {z : Nat × va_E} (hz : w2[k]? = some z) : (w1 ++ w2)[w1.length + k]? = some z := by rw [List.getElem?_append_right (Nat.le_add_right _ _), Nat.add_sub_cancel_left]; exact hz
theorem va_Pl (h : va_P D cl (w1 ++ w2) H) : va_P D cl w1 H := fun k z hz => h k z (ga_l hz)
theorem va_Pr (h : va_P D cl (w1 ++ w2) H) : va_P D cl w2 H := fun k z hz => h (w1.length + k) z (ga_r hz)
end PARTS
theorem room_c : room_1.cells = 600104 ∧ room_1.slots = 7301314 ∧ room_1.frames = 2048 ∧ room_1.locals = 84000 := ⟨rfl, rfl, rfl, rfl⟩
/-- an int array of the law's -/
theorem n_int {p : Program} {l : Launch} {e : Env} {R : Room} {s : State} {m : MethodId} {args : Array Value} {below : List Frame} {meth : Method} {c : Code} {H : Heap} {locs : List Loc} {cells slots : Nat} {Q : State → Prop} {D : va_G} {dA : Nat → ClassId} {A : Nat → Prop} {H0 : Heap} {ws : va_W} {cc : ByteArray} {pc : Nat} {ls : Array Slot} {rest : List Value} {N' : Nat} {n : Int32} (hx : p.tables.exec = Jvm.exec) (hb : c.code = cc) (harr : (Cond.arrayClass .int).before args s = true) (K : va_K D vwCl (tysW dA) s) (hP : va_P D vwCl ws H) (hD : va_D A ws) (hS : va_S A H0 H locs) (hA : ∀ q, H0.size ≤ q → A q) (hn : ¬ n < 0) (hN : n.toNatClampNeg = N') (hN2 : N' ≤ 10000) (hcells : cells + 1 ≤ R.cells) (hslots : slots + N' ≤ R.slots) (hdg : decode cc pc = .ok (.newarray .int, 2))
    (kk : ∀ (q : Nat) (H1 : Heap), va_P D vwCl (ws ++ [(q, .inl (dA 0, N', .inl (fun _ => 0)))]) H1 → va_D A (ws ++ [(q, .inl (dA 0, N', .inl (fun _ => 0)))]) → va_S A H0 H1 locs → W p l e R s m args below meth c H1 locs (cells + 1) (slots + N') Q (F0 m (pc + 2) ls (.ref q :: rest))) : W p l e R s m args below meth c H locs cells slots Q (F0 m pc ls (.int n :: rest)) := by
  refine va_newa (atype := .int) (ty := .int) (N' := N') (a0 := (N', .inl (fun _ => 0))) hx hb harr rfl K hP hD hS hA (fun cA => rfl) hn hN (Nat.le_trans (Nat.mul_le_mul hN2 (Nat.le_refl _)) (Nat.le_of_ble_eq_true rfl)) hcells hslots hdg (fun q cA H1 K1 hP1 hD1 hS1 => ?_)
  have h1 := (K.2 0 (dA 0, .int) rfl).2
  have h2 := (K1.2 5 (cA, .int) rfl).2
  have e1 : cA = dA 0 := Option.some.inj (h2.symm.trans h1)
  subst e1
  exact kk q H1 hP1 hD1 hS1
def arl : List Nat := [24, 8, 8, 8, 48]
/-- the law's world, out of the class's and the five arrays -/
theorem conv_L {D : va_G} {dA : Nat → ClassId} {A : Nat → Prop} {H : Heap} {q : Nat → Nat} (r1 r2 r3 r4 r5 : Nat) (hP : va_P D vwCl (wld KC dA q w0C ++ [(r1, .inl (dA 0, 24, .inl (fun _ => 0)))] ++ [(r2, .inl (dA 0, 8, .inl (fun _ => 0)))] ++ [(r3, .inl (dA 0, 8, .inl (fun _ => 0)))] ++ [(r4, .inl (dA 0, 8, .inl (fun _ => 0)))] ++ [(r5, .inl (dA 0, 48, .inl (fun _ => 0)))]) H) (hD : va_D A (wld KC dA q w0C ++ [(r1, .inl (dA 0, 24, .inl (fun _ => 0)))] ++ [(r2, .inl (dA 0, 8, .inl (fun _ => 0)))] ++ [(r3, .inl (dA 0, 8, .inl (fun _ => 0)))] ++ [(r4, .inl (dA 0, 8, .inl (fun _ => 0)))] ++ [(r5, .inl (dA 0, 48, .inl (fun _ => 0)))])) :
    ∃ q' : Nat → Nat, (q' 0 = q 0 ∧ q' 72 = r1 ∧ q' 73 = r2 ∧ q' 74 = r3 ∧ q' 75 = r4 ∧ q' 76 = r5) ∧ injK KL q' ∧ (∀ i, i < KL.length → A (q' i)) ∧ va_P D vwCl (wld KL dA q' (jn w0C (fun _ _ => 0))) H := by
  have hPC : va_P D vwCl (wld KC dA q w0C) H := va_Pl (va_Pl (va_Pl (va_Pl (va_Pl hP))))
  have hl : (wld KC dA q w0C).length = 72 := wld_len
  generalize hws : wld KC dA q w0C ++ [(r1, .inl (dA 0, 24, .inl (fun _ => 0)))] ++ [(r2, .inl (dA 0, 8, .inl (fun _ => 0)))] ++ [(r3, .inl (dA 0, 8, .inl (fun _ => 0)))] ++ [(r4, .inl (dA 0, 8, .inl (fun _ => 0)))] ++ [(r5, .inl (dA 0, 48, .inl (fun _ => 0)))] = ws at hP hD
  have at5 : ∀ k, k < 5 → ws[72 + k]? = some (([r1, r2, r3, r4, r5] : List Nat).getD k 0, .inl (dA 0, arl.getD k 0, .inl (fun _ => 0))) := by
    intro k hk
    have e2 : ws = wld KC dA q w0C ++ [(r1, .inl (dA 0, 24, .inl (fun _ => 0))), (r2, .inl (dA 0, 8, .inl (fun _ => 0))), (r3, .inl (dA 0, 8, .inl (fun _ => 0))), (r4, .inl (dA 0, 8, .inl (fun _ => 0))), (r5, .inl (dA 0, 48, .inl (fun _ => 0)))] := by
      rw [← hws, List.append_assoc, List.append_assoc, List.append_assoc, List.append_assoc]; rfl
    rw [e2, List.getElem?_append_right (by rw [hl]; omega), hl, Nat.add_sub_cancel_left]
    match k, hk with
    | 0, _ => rfl
    | 1, _ => rfl
    | 2, _ => rfl
    | 3, _ => rfl
    | 4, _ => rfl
    | n + 5, h => exact absurd h (by omega)
  have atC : ∀ k, k < 72 → ∃ x, ws[k]? = some (q k, x) := by
    intro k hk
    have ha : (wld KC dA q w0C)[k]? = some (q k, kc dA q (w0C k) (KC[k]'hk)) := wld_at (List.getElem?_eq_getElem (l := KC) (i := k) hk)
    refine ⟨kc dA q (w0C k) (KC[k]'hk), ?_⟩
    rw [← hws]
    exact ga_l (ga_l (ga_l (ga_l (ga_l ha))))
  have at7 : ∀ k, k < 77 → ∃ x, ws[k]? = some ((if k < 72 then q k else ([r1, r2, r3, r4, r5] : List Nat).getD (k - 72) 0), x) := by
    intro k hk
    by_cases h : k < 72
    · rw [if_pos h]; exact atC k h
    · rw [if_neg h]
      have := at5 (k - 72) (by omega)
      rw [show 72 + (k - 72) = k by omega] at this
      exact ⟨_, this⟩
  refine ⟨fun k => if k < 72 then q k else ([r1, r2, r3, r4, r5] : List Nat).getD (k - 72) 0, ⟨rfl, rfl, rfl, rfl, rfl, rfl⟩, fun i j hi hj e => ?_, fun i hi => ?_, fun k z hz => ?_⟩
  · obtain ⟨x, hx⟩ := at7 i hi
    obtain ⟨y, hy⟩ := at7 j hj
    exact hD.1 _ _ _ _ hx hy e
  · obtain ⟨x, hx⟩ := at7 i hi
    exact hD.2 _ _ hx
  · obtain ⟨h1, -⟩ := wld_in hz
    have h77 : k < 77 := h1
    by_cases h : k < 72
    · exact wld_q (q := q) (fun i hi => if_pos hi) hPC k z ((wld_jl h).mp hz)
    · have h5 := at5 (k - 72) (by omega)
      rw [show 72 + (k - 72) = k by omega] at h5
      have h6 := hP k _ h5
      have e := List.getElem?_eq_getElem h1
      rw [wld_at e] at hz
      obtain rfl := Option.some.inj hz
      rw [jn_r h]
      clear at5 atC at7 hws hD hP hPC e h5 hz
      match k, h, h77, h1, h6 with
      | 72, _, _, _, h6 => exact h6
      | 73, _, _, _, h6 => exact h6
      | 74, _, _, _, h6 => exact h6
      | 75, _, _, _, h6 => exact h6
      | 76, _, _, _, h6 => exact h6
      | n + 77, _, hh, _, _ => exact absurd hh (by omega)
set_option maxHeartbeats 16000000 in
set_option maxRecDepth 20000 in
/-- YOUR PART: from the entry, for every script of at most 260 ints, the law comes to its end with true -/
theorem whole_start {p : Program} {e : Env} {s : State} {m : MethodId} {below : List Frame} {meth : Method} {c : Code} (l : Launch) (hflags : l.flags = flags0) {b L : Nat} {xs : Nat → Int32} (hL : L ≤ 260) (C0 : lw_At p s m meth c b L xs) : W p l e room_1 s m #[Value.ref b] below meth c s.heap [] 0 0 (lw_Z below #[Value.ref b] s) (entryFrame m ([Value.ref b] : List Value).toArray 22) := by
  obtain ⟨hx, hb, hr, hml, hown0, hts0, hX, hbl, hlocks, hgv⟩ := id C0
  have hown : s.vm.findClass RL = some m.cls := hown0
  have hts : ∀ w ∈ wall, w.before #[Value.ref b] s = true := fun w hw => hts0 w (lt_wall hw)
  have hg : ∀ w ∈ gvC, w.before #[Value.ref b] s = true := flat_of_before _ hgv
  have hfl : l.stackTraces = false := by
    unfold Launch.stackTraces
    rw [hflags]
    decide +kernel
  obtain ⟨D, dA, hK⟩ := k_start hts0
  have hEV : EVl (fun a : Nat => s.heap.size ≤ a) s s.heap := ev_ok hts0 hg (fun a h1 h2 => by omega)
  have hA : ∀ a : Nat, s.heap.size ≤ a → (fun a : Nat => s.heap.size ≤ a) a := fun _ h => h
  have hS : va_S (fun a : Nat => s.heap.size ≤ a) s.heap s.heap [] := va_S.rf
  have hP : va_P D vwCl [] s.heap := fun k x h => by simp at h
  have hD : va_D (fun a : Nat => s.heap.size ≤ a) [] := ⟨fun i j p q h => by simp at h, fun k q h => by simp at h⟩
  have harr : (Cond.arrayClass .int).before #[Value.ref b] s = true := hts _ ac_int
  have hl := lv_entry ([.ref b]) (n := 22) (Nat.le_of_ble_eq_true rfl)
  rw [lg_entry_eq]
  generalize (lg_sl ([.ref b]) ++ List.replicate (22 - (lg_sl ([.ref b])).length) Slot.unset).toArray = ls at hl ⊢
  have hl : lv_has ls 22 [(0, .ref b)] := hl
  refine va_new (ci := 8) (fs := [.null, .null, .null, .null, .null, .null, .null, .null, .int 0, .int 0, .int 0]) (C := RX9) (T := TX9) (N := 11) hx hb hts in_X9 tyX9 tyX9_ok hown (hts _ nl_9.1) (hts _ nl_9.2.1) (hts _ nl_9.2.2) hK hP hD hS hA rfl (by decide +kernel) (Nat.le_of_ble_eq_true rfl) (Nat.le_of_ble_eq_true rfl) dL_law_0 (fun h0 H hP hD hS => ?_)
  have hP : va_P D vwCl [(h0, .inr (8, [.null, .null, .null, .null, .null, .null, .null, .null, .int 0, .int 0, .int 0]))] H := hP
  have hD : va_D (fun a : Nat => s.heap.size ≤ a) [(h0, .inr (8, [.null, .null, .null, .null, .null, .null, .null, .null, .int 0, .int 0, .int 0]))] := hD
  refine lv_dup hx hb dL_law_3 rfl ?_
  have hFc := va_free (wc := [(h0, .inr (8, [.null, .null, .null, .null, .null, .null, .null, .null, .int 0, .int 0, .int 0]))]) hD hS hA [0] rfl
  refine va_callv (va_runI (As := []) (rest := [.ref h0]) ⟨hx, hb, hml, hown, hts⟩ (c_init_X9 l D dA h0 _) (n_cwI 0 hts ciL_9 lsL_9 rfl rfl rfl ⟨by decide, by decide, by decide +kernel⟩ ⟨(Nat.le_of_ble_eq_true rfl), (Nat.le_of_ble_eq_true rfl)⟩) ⟨n_blindB, fun U hU hW => ⟨rfl, by rw [hU], by rw [hU]; exact hP, va_K.moved hW.alike hK, fun w hw => xw1_warm w hw s U hW (hEV.1.1 w hw), va_AO.moved hW.alike (ao_5 hts0), va_AO.moved hW.alike (ao_8 hts0)⟩⟩ rfl rfl hl.1 rfl (lv_room (Nat.le_of_ble_eq_true rfl)) dL_law_4 ⟨(Nat.le_of_ble_eq_true rfl), (Nat.le_of_ble_eq_true rfl)⟩) hS (fun q _ h => hFc q h) hFc (fun _ t H1 locs ht hvm hw hB hz1 hk1 hS => ?_)
  obtain ⟨q1, q2, q3, q4, q5, q6, q7, q8, q9, q10, q11, q12, q13, q14, q15, q16, q17, q18, q19, q20, q21, q22, q23, q24, q25, q26, q27, q28, q29, q30, q31, q32, q33, q34, q35, q36, q37, q38, q39, q40, q41, q42, q43, q44, q45, q46, q47, q48, q49, q50, q51, q52, q53, q54, q55, q56, q57, q58, q59, q60, q61, q62, q63, q64, q65, q66, q67, q68, q69, q70, q71, hP1, hD1⟩ := hB
  rw [ht] at hP1
  obtain ⟨q, hq0, hqi, hqA, hPC⟩ := conv_C h0 q1 q2 q3 q4 q5 q6 q7 q8 q9 q10 q11 q12 q13 q14 q15 q16 q17 q18 q19 q20 q21 q22 q23 q24 q25 q26 q27 q28 q29 q30 q31 q32 q33 q34 q35 q36 q37 q38 q39 q40 q41 q42 q43 q44 q45 q46 q47 q48 q49 q50 q51 q52 q53 q54 q55 q56 q57 q58 q59 q60 q61 q62 q63 q64 q65 q66 q67 q68 q69 q70 q71 hP1 hD1
  have hqge : ∀ i, i < KC.length → s.heap.size ≤ q i := fun i hi => hFc _ (hqA i hi)
  clear hP1 hD1 hP hD hqA hFc hk1 hw hvm ht hz1
  subst hq0
  refine lv_astore_n (lv' := [(1, .ref (q 0)), (0, .ref b)]) hx hb dL_law_7 rfl hl (by decide) rfl (fun ls hl => ?_)
  have hDC : va_D (fun a : Nat => s.heap.size ≤ a) (wld KC dA q w0C) := wld_D hqi hqge
  refine lv_bipush (v := 24) hx hb dL_law_8 (by decide) ?_
  refine n_int (N' := 24) hx hb harr hK hPC hDC hS hA (by decide) (by decide) (by decide) (Nat.le_of_ble_eq_true rfl) (Nat.le_of_ble_eq_true rfl) dL_law_10 (fun r1 H hP hD hS => ?_)
  refine lv_astore_n (lv' := [(2, .ref r1), (1, .ref (q 0)), (0, .ref b)]) hx hb dL_law_12 rfl hl (by decide) rfl (fun ls hl => ?_)
  refine lv_bipush (v := 8) hx hb dL_law_13 (by decide) ?_
  refine n_int (N' := 8) hx hb harr hK hP hD hS hA (by decide) (by decide) (by decide) (Nat.le_of_ble_eq_true rfl) (Nat.le_of_ble_eq_true rfl) dL_law_15 (fun r2 H hP hD hS => ?_)
  refine lv_astore_n (lv' := [(3, .ref r2), (2, .ref r1), (1, .ref (q 0)), (0, .ref b)]) hx hb dL_law_17 rfl hl (by decide) rfl (fun ls hl => ?_)
  refine lv_bipush (v := 8) hx hb dL_law_18 (by decide) ?_
  refine n_int (N' := 8) hx hb harr hK hP hD hS hA (by decide) (by decide) (by decide) (Nat.le_of_ble_eq_true rfl) (Nat.le_of_ble_eq_true rfl) dL_law_20 (fun r3 H hP hD hS => ?_)
  refine lv_astore (lv' := [(4, .ref r3), (3, .ref r2), (2, .ref r1), (1, .ref (q 0)), (0, .ref b)]) hx hb dL_law_22 hl (by decide) rfl (fun ls hl => ?_)
  refine lv_bipush (v := 8) hx hb dL_law_24 (by decide) ?_
  refine n_int (N' := 8) hx hb harr hK hP hD hS hA (by decide) (by decide) (by decide) (Nat.le_of_ble_eq_true rfl) (Nat.le_of_ble_eq_true rfl) dL_law_26 (fun r4 H hP hD hS => ?_)
  refine lv_astore (lv' := [(5, .ref r4), (4, .ref r3), (3, .ref r2), (2, .ref r1), (1, .ref (q 0)), (0, .ref b)]) hx hb dL_law_28 hl (by decide) rfl (fun ls hl => ?_)
  refine lv_bipush (v := 48) hx hb dL_law_30 (by decide) ?_
  refine n_int (N' := 48) hx hb harr hK hP hD hS hA (by decide) (by decide) (by decide) (Nat.le_of_ble_eq_true rfl) (Nat.le_of_ble_eq_true rfl) dL_law_32 (fun r5 H hP hD hS => ?_)
  refine lv_astore (lv' := [(6, .ref r5), (5, .ref r4), (4, .ref r3), (3, .ref r2), (2, .ref r1), (1, .ref (q 0)), (0, .ref b)]) hx hb dL_law_34 hl (by decide) rfl (fun ls hl => ?_)
  obtain ⟨q', ⟨z0, z1, z2, z3, z4, z5⟩, hqi', hqA', hPL⟩ := conv_L r1 r2 r3 r4 r5 hP hD
  rw [← z0, ← z1, ← z2, ← z3, ← z4, ← z5] at hl
  obtain ⟨w', hlaw⟩ := law_pure (xs := xs) hL
  have hC : Cx EVl KL D dA q' (fun a : Nat => s.heap.size ≤ a) s m #[Value.ref b] RL := ⟨hown, hts, hK, hqi', hqA', fun a ha => ha, hEV⟩
  refine W.widen (k := 77) (n := 4088) (Nat.le_of_ble_eq_true rfl) (Nat.le_of_ble_eq_true rfl) ?_
  refine k_l_law (R := room_1) xs L b (jn w0C (fun _ _ => 0)) ((1 : Int32), w') hfl hx hb hml hC hX hbl (Nat.not_le.mpr hbl) (Nat.le_of_ble_eq_true rfl) (Nat.le_of_ble_eq_true rfl) (Nat.le_of_ble_eq_true rfl) (Nat.le_of_ble_eq_true rfl) (fun H locs ls r' w2 pc cl sl hcl hsl _ S h d => ?_) _ _ _ (lv_sub hl [6, 5, 4, 3, 2, 1, 0] rfl) ⟨hPL, hS⟩ hlaw
  obtain ⟨rfl, -⟩ := Prod.mk.inj (Option.some.inj h)
  refine va_forget (fun a ha => S.2.2.2 a ha) ?_
  refine W.widen (k := 600104) (n := 7301314) (Nat.le_trans hcl (Nat.le_of_ble_eq_true rfl)) (Nat.le_trans hsl (Nat.le_of_ble_eq_true rfl)) ?_
  exact lw_ret hx hb hr hlocks d

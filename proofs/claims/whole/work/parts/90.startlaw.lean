/-! THE LAW, from its entry -/
theorem dw_0 : decode code 0 = .ok (.new 8, 3) := by decide +kernel
theorem dw_3 : decode code 3 = .ok (.dup, 1) := by decide +kernel
theorem dw_4 : decode code 4 = .ok (.invokespecial 101, 3) := by decide +kernel
theorem dw_7 : decode code 7 = .ok (.astore_n 1, 1) := by decide +kernel
theorem dw_8 : decode code 8 = .ok (.new 102, 3) := by decide +kernel
theorem dw_11 : decode code 11 = .ok (.dup, 1) := by decide +kernel
theorem dw_12 : decode code 12 = .ok (.invokespecial 104, 3) := by decide +kernel
theorem dw_15 : decode code 15 = .ok (.astore_n 2, 1) := by decide +kernel
theorem dw_16 : decode code 16 = .ok (.iconst 1, 1) := by decide +kernel
theorem dw_17 : decode code 17 = .ok (.newarray .long, 2) := by decide +kernel
theorem dw_19 : decode code 19 = .ok (.astore_n 3, 1) := by decide +kernel
theorem dw_20 : decode code 20 = .ok (.iconst 0, 1) := by decide +kernel
theorem dw_21 : decode code 21 = .ok (.istore 4, 2) := by decide +kernel
theorem nl_9 : Cond.classLink RL 8 RX9 ∈ wall ∧ Cond.instantiable RX9 11 ∈ wall ∧ Cond.initialized RX9 ∈ wall := ⟨wall_of 25 (by decide +kernel) rfl, wall_of 26 (by decide +kernel) rfl, wall_of 1 (by decide +kernel) rfl⟩
theorem ciL_9 : Cond.instanceMethod yX9_init ∈ wall ∧ Cond.initialized yX9_init.cls ∈ wall ∧ Cond.code yX9_init cX9_init 2 none ∈ wall := ⟨wall_of 28 (by decide +kernel) rfl, wall_of 1 (by decide +kernel) rfl, wall_of 29 (by decide +kernel) rfl⟩
theorem lsL_9 : Cond.methodLink RL 101 yX9_init ∈ wall := wall_of 27 (by decide +kernel) rfl
theorem nl_10 : Cond.classLink RL 102 RX10 ∈ wall ∧ Cond.instantiable RX10 46 ∈ wall ∧ Cond.initialized RX10 ∈ wall := ⟨wall_of 973 (by decide +kernel) rfl, wall_of 974 (by decide +kernel) rfl, wall_of 11 (by decide +kernel) rfl⟩
theorem ciL_10 : Cond.instanceMethod yX10_init ∈ wall ∧ Cond.initialized yX10_init.cls ∈ wall ∧ Cond.code yX10_init cX10_init 1 none ∈ wall := ⟨wall_of 976 (by decide +kernel) rfl, wall_of 11 (by decide +kernel) rfl, wall_of 977 (by decide +kernel) rfl⟩
theorem lsL_10 : Cond.methodLink RL 104 yX10_init ∈ wall := wall_of 975 (by decide +kernel) rfl
theorem n_blindB {D : va_G} {dA : Nat → ClassId} {sz : Nat} {ws : va_W} {av : List Value} : FrameBlind (va_Pc av (n_PreB D dA sz ws)) := by
  intro a U g mk h
  obtain ⟨h0, h1, h2, h3, h4, h5, h6⟩ := h
  exact ⟨h0, h1, h2, va_K.moved (u := U) (U := U.calling g mk a) (Vm.Alike.refl U.vm) h3, fun w hw => xw1_warm w hw U (U.calling g mk a) (State.WarmedH.refl U) (h4 w hw), va_AO.moved (u := U) (U := U.calling g mk a) (Vm.Alike.refl U.vm) h5, va_AO.moved (u := U) (U := U.calling g mk a) (Vm.Alike.refl U.vm) h6⟩
section PARTS
variable {D : va_G} {cl : List vw_C} {w1 w2 : va_W} {H : Heap} {A : Nat → Prop}
theorem ga_l {k : Nat} {z : Nat × va_E} (hz : w1[k]? = some z) : (w1 ++ w2)[k]? = some z := by rw [List.getElem?_append_left (List.getElem?_eq_some_iff.mp hz).1]; exact hz
theorem ga_r {k : Nat} {z : Nat × va_E} (hz : w2[k]? = some z) : (w1 ++ w2)[w1.length + k]? = some z := by rw [List.getElem?_append_right (Nat.le_add_right _ _), Nat.add_sub_cancel_left]; exact hz
theorem va_Pl (h : va_P D cl (w1 ++ w2) H) : va_P D cl w1 H := fun k z hz => h k z (ga_l hz)
theorem va_Pr (h : va_P D cl (w1 ++ w2) H) : va_P D cl w2 H := fun k z hz => h (w1.length + k) z (ga_r hz)
theorem va_Dr (h : va_D A (w1 ++ w2)) : va_D A w2 := ⟨fun i j p r hi hj e => by
  have := h.1 _ _ p r (ga_r (w1 := w1) hi) (ga_r (w1 := w1) hj) e
  omega, fun k r hk => h.2 _ r (ga_r (w1 := w1) hk)⟩
theorem va_Dx (h : va_D A (w1 ++ w2)) {i j : Nat} {p r : Nat × va_E} (hi : w1[i]? = some p) (hj : w2[j]? = some r) : p.1 ≠ r.1 := fun e => by
  have h1 := (List.getElem?_eq_some_iff.mp hi).1
  have := h.1 _ _ p r (ga_l (w2 := w2) hi) (ga_r (w1 := w1) hj) e
  omega
end PARTS
set_option maxHeartbeats 16000000 in
set_option maxRecDepth 20000 in
/-- YOUR PART: from the entry, for every script of at most 2560 ints, the law comes to its end with true -/
theorem whole_start {p : Program} {e : Env} {s : State} {m : MethodId} {below : List Frame} {meth : Method} {c : Code} (l : Launch) (hflags : l.flags = flags0) {b L : Nat} {xs : Nat → Int32} (hL : L ≤ 2560) (C0 : lw_At p s m meth c b L xs) : W p l e room_1 s m #[Value.ref b] below meth c s.heap [] 0 0 (lw_Z below #[Value.ref b] s) (entryFrame m ([Value.ref b] : List Value).toArray 7) := by
  obtain ⟨hx, hb, hr, hml, hown0, hts0, hX, hbl, hlocks, hgv⟩ := id C0
  have hown : s.vm.findClass RL = some m.cls := hown0
  have hts : ∀ w ∈ wall, w.before #[Value.ref b] s = true := fun w hw => hts0 w (lt_wall hw)
  have hg : ∀ w ∈ gvC, w.before #[Value.ref b] s = true := flat_of_before _ hgv
  have hfl : l.stackTraces = false := by
    unfold Launch.stackTraces
    rw [hflags]
    decide +kernel
  obtain ⟨D, dA, hKL⟩ := k_start hts0
  have hK := tysL_W hKL
  have hEV : EVl (fun a : Nat => s.heap.size ≤ a) s s.heap := ev_ok hts0 hg (fun a h1 h2 => by omega)
  have hA : ∀ a : Nat, s.heap.size ≤ a → (fun a : Nat => s.heap.size ≤ a) a := fun _ h => h
  have hS : va_S (fun a : Nat => s.heap.size ≤ a) s.heap s.heap [] := va_S.rf
  have hP : va_P D vwCl [] s.heap := fun k x h => by simp at h
  have hD : va_D (fun a : Nat => s.heap.size ≤ a) [] := ⟨fun i j p q h => by simp at h, fun k q h => by simp at h⟩
  have hl := lv_entry ([.ref b]) (n := 7) (Nat.le_of_ble_eq_true rfl)
  rw [lg_entry_eq]
  generalize (lg_sl ([.ref b]) ++ List.replicate (7 - (lg_sl ([.ref b])).length) Slot.unset).toArray = ls at hl ⊢
  have hl : lv_has ls 7 [(0, .ref b)] := hl
  refine va_new (ci := 8) (fs := [.null, .null, .null, .null, .null, .null, .null, .null, .int 0, .int 0, .int 0]) (C := RX9) (T := TX9) (N := 11) hx hb hts in_X9 tyX9 tyX9_ok hown (hts _ nl_9.1) (hts _ nl_9.2.1) (hts _ nl_9.2.2) hKL hP hD hS hA rfl (by decide +kernel) (Nat.le_of_ble_eq_true rfl) (Nat.le_of_ble_eq_true rfl) dw_0 (fun h0 H hP hD hS => ?_)
  have hP : va_P D vwCl [(h0, .inr (8, [.null, .null, .null, .null, .null, .null, .null, .null, .int 0, .int 0, .int 0]))] H := hP
  have hD : va_D (fun a : Nat => s.heap.size ≤ a) [(h0, .inr (8, [.null, .null, .null, .null, .null, .null, .null, .null, .int 0, .int 0, .int 0]))] := hD
  refine lv_dup hx hb dw_3 rfl ?_
  have hFc := va_free (wc := [(h0, .inr (8, [.null, .null, .null, .null, .null, .null, .null, .null, .int 0, .int 0, .int 0]))]) hD hS hA [0] rfl
  refine va_callv (va_runI (As := []) (rest := [.ref h0]) ⟨hx, hb, hml, hown, hts⟩ (c_init_X9 l D dA h0 _) (n_cwI 0 hts ciL_9 lsL_9 rfl rfl rfl ⟨by decide, by decide, by decide +kernel⟩ ⟨(Nat.le_of_ble_eq_true rfl), (Nat.le_of_ble_eq_true rfl)⟩) ⟨n_blindB, fun U hU hW => ⟨rfl, by rw [hU], by rw [hU]; exact hP, va_K.moved hW.alike hK, fun w hw => xw1_warm w hw s U hW (hEV.1.1 w hw), va_AO.moved hW.alike (ao_5 hts0), va_AO.moved hW.alike (ao_8 hts0)⟩⟩ rfl rfl hl.1 rfl (lv_room (Nat.le_of_ble_eq_true rfl)) dw_4 ⟨(Nat.le_of_ble_eq_true rfl), (Nat.le_of_ble_eq_true rfl)⟩) hS (fun q _ h => hFc q h) hFc (fun _ t H1 locs ht hvm hw hB hz1 hk1 hS => ?_)
  obtain ⟨q1, q2, q3, q4, q5, q6, q7, q8, q9, q10, q11, q12, q13, q14, q15, q16, q17, q18, q19, q20, q21, q22, q23, q24, q25, q26, q27, q28, q29, q30, q31, q32, q33, q34, q35, q36, q37, q38, q39, q40, q41, q42, q43, q44, q45, q46, q47, q48, q49, q50, q51, q52, q53, q54, q55, q56, q57, q58, q59, q60, q61, q62, q63, q64, q65, q66, q67, q68, q69, q70, q71, hP1, hD1⟩ := hB
  rw [ht] at hP1
  obtain ⟨q, hq0, hqi, hqA, hPC⟩ := conv_C h0 q1 q2 q3 q4 q5 q6 q7 q8 q9 q10 q11 q12 q13 q14 q15 q16 q17 q18 q19 q20 q21 q22 q23 q24 q25 q26 q27 q28 q29 q30 q31 q32 q33 q34 q35 q36 q37 q38 q39 q40 q41 q42 q43 q44 q45 q46 q47 q48 q49 q50 q51 q52 q53 q54 q55 q56 q57 q58 q59 q60 q61 q62 q63 q64 q65 q66 q67 q68 q69 q70 q71 hP1 hD1
  have hqge : ∀ i, i < KC.length → s.heap.size ≤ q i := fun i hi => hFc _ (hqA i hi)
  clear hP1 hD1 hP hD hqA hFc hk1 hw hvm ht hz1
  subst hq0
  refine lv_astore_n (lv' := [(1, .ref (q 0)), (0, .ref b)]) hx hb dw_7 rfl hl (by decide) rfl (fun ls hl => ?_)
  have hDC : va_D (fun a : Nat => s.heap.size ≤ a) (wld KC dA q w0C) := wld_D hqi hqge
  refine va_new (ci := 9) (fs := [.int 0, .null, .null, .null, .null, .null, .int 0, .null, .int 0, .null, .null, .int 0, .null, .null, .null, .null, .null, .null, .null, .null, .int 0, .null, .null, .null, .null, .null, .null, .int 0, .null, .int 0, .null, .null, .int 0, .int 0, .null, .int 0, .int 0, .int 0, .int 0, .int 0, .int 0, .null, .null, .int 0, .null, .int 0]) (C := RX10) (T := TX10) (N := 46) hx hb hts in_X10 tyX10 tyX10_ok hown (hts _ nl_10.1) (hts _ nl_10.2.1) (hts _ nl_10.2.2) hKL hPC hDC hS hA rfl (by decide +kernel) (Nat.le_of_ble_eq_true rfl) (Nat.le_of_ble_eq_true rfl) dw_8 (fun g0 H2 hP hD hS => ?_)
  have hPn : va_P D vwCl [(g0, .inr (9, [.int 0, .null, .null, .null, .null, .null, .int 0, .null, .int 0, .null, .null, .int 0, .null, .null, .null, .null, .null, .null, .null, .null, .int 0, .null, .null, .null, .null, .null, .null, .int 0, .null, .int 0, .null, .null, .int 0, .int 0, .null, .int 0, .int 0, .int 0, .int 0, .int 0, .int 0, .null, .null, .int 0, .null, .int 0]))] H2 := va_Pr hP
  have hPC : va_P D vwCl (wld KC dA q w0C) H2 := va_Pl hP
  have hDn : va_D (fun a : Nat => s.heap.size ≤ a) [(g0, .inr (9, [.int 0, .null, .null, .null, .null, .null, .int 0, .null, .int 0, .null, .null, .int 0, .null, .null, .null, .null, .null, .null, .null, .null, .int 0, .null, .null, .null, .null, .null, .null, .int 0, .null, .int 0, .null, .null, .int 0, .int 0, .null, .int 0, .int 0, .int 0, .int 0, .int 0, .int 0, .null, .null, .int 0, .null, .int 0]))] := va_Dr hD
  have hqg : ∀ i, i < KC.length → q i ≠ g0 := fun i hi => va_Dx hD (wld_at (List.getElem?_eq_getElem hi)) (j := 0) rfl
  refine lv_dup hx hb dw_11 rfl ?_
  have hFm := va_free (wc := [(g0, .inr (9, [.int 0, .null, .null, .null, .null, .null, .int 0, .null, .int 0, .null, .null, .int 0, .null, .null, .null, .null, .null, .null, .null, .null, .int 0, .null, .null, .null, .null, .null, .null, .int 0, .null, .int 0, .null, .null, .int 0, .int 0, .null, .int 0, .int 0, .int 0, .int 0, .int 0, .int 0, .null, .null, .int 0, .null, .int 0]))]) hDn hS hA [0] rfl
  refine va_callv (va_runI (As := []) (rest := [.ref g0]) ⟨hx, hb, hml, hown, hts⟩ (c_init_X10_init_X10 l D dA g0 _) (n_cwI 0 hts ciL_10 lsL_10 rfl rfl rfl ⟨by decide, by decide, by decide +kernel⟩ ⟨(Nat.le_of_ble_eq_true rfl), (Nat.le_of_ble_eq_true rfl)⟩) ⟨n_blind, fun U hU hW => ⟨rfl, by rw [hU], by rw [hU]; exact hPn, va_K.moved hW.alike hK⟩⟩ rfl rfl hl.1 rfl (lv_room (Nat.le_of_ble_eq_true rfl)) dw_12 ⟨(Nat.le_of_ble_eq_true rfl), (Nat.le_of_ble_eq_true rfl)⟩) hS (fun q _ h => hFm q h) hFm (fun _ t H3 locs ht hvm hw hB hz1 hk1 hS => ?_)
  obtain ⟨p1, p2, p3, p4, p5, p6, p7, p8, p9, p10, p11, p12, p13, p14, p15, p16, p17, p18, p19, p20, p21, p22, p23, p24, p25, p26, p27, p28, p29, hP1, hD1⟩ := hB
  rw [ht] at hP1
  obtain ⟨qm, hm0, hmi, hmA, hPM⟩ := conv_M g0 p1 p2 p3 p4 p5 p6 p7 p8 p9 p10 p11 p12 p13 p14 p15 p16 p17 p18 p19 p20 p21 p22 p23 p24 p25 p26 p27 p28 p29 hP1 hD1
  have hmge : ∀ i, i < KM.length → s.heap.size ≤ qm i := fun i hi => hFm _ (hmA i hi)
  have hPC1 : va_P D vwCl (wld KC dA q w0C) H3 := wk hPC hk1 (fun i hi hlt h => by
    rcases h with ⟨k, e9, h⟩ | h
    · have hz : k < 1 := (List.getElem?_eq_some_iff.mp h).1
      rw [show k = 0 by omega] at h
      exact hqg i hi (congrArg Prod.fst (Option.some.inj h)).symm
    · omega)
  have hdis : ∀ i j, i < KC.length → j < KM.length → q i ≠ qm j := fun i j hi hj e9 => by
    have hlt : q i < H2.size := (hPC i _ (wld_at (List.getElem?_eq_getElem hi))).lt
    rcases hmA j hj with ⟨k, e8, h⟩ | h
    · have hz : k < 1 := (List.getElem?_eq_some_iff.mp h).1
      rw [show k = 0 by omega] at h
      exact hqg i hi (e9.trans (congrArg Prod.fst (Option.some.inj h)).symm)
    · omega
  clear hP1 hD1 hP hD hmA hFm hk1 hw hvm ht hz1 hPn hDn hqg
  subst hm0
  refine lv_astore_n (lv' := [(2, .ref (qm 0)), (1, .ref (q 0)), (0, .ref b)]) hx hb dw_15 rfl hl (by decide) rfl (fun ls hl => ?_)
  refine lv_iconst (v := 1) hx hb dw_16 (by decide) ?_
  have hPW := va_P.app hPC1 hPM
  have hDW : va_D (fun a : Nat => s.heap.size ≤ a) (wld KC dA q w0C ++ wld KM dA qm (fun _ _ => 0)) := va_D.app hDC (wld_D hmi hmge) (fun i j x y hx hy => by
    obtain ⟨h1, h2⟩ := wld_in hx
    obtain ⟨h3, h4⟩ := wld_in hy
    rw [h2, h4]
    exact hdis i j h1 h3)
  refine va_newa (atype := .long) (ty := .long) (N' := 1) (a0 := (1, .inr (.inl (fun _ => 0)))) hx hb (hts0 _ (lt_of 1330 (by decide +kernel))) rfl hKL hPW hDW hS hA (fun cA => rfl) (by decide) (by decide) (by decide) (Nat.le_of_ble_eq_true rfl) (Nat.le_of_ble_eq_true rfl) dw_17 (fun qo cA H4 K1 hP2 hD2 hS => ?_)
  have h1 := (hKL.2 5 (dA 5, .long) rfl).2
  have h2 := (K1.2 6 (cA, .long) rfl).2
  have e1 : cA = dA 5 := Option.some.inj (h2.symm.trans h1)
  subst e1
  have hO : va_P D vwCl [(qo, ocell dA 0)] H4 := va_Pr hP2
  have hPC2 : va_P D vwCl (wld KC dA q w0C) H4 := va_Pl (va_Pl hP2)
  have hPM2 : va_P D vwCl (wld KM dA qm (fun _ _ => 0)) H4 := va_Pr (va_Pl hP2)
  have hqo : s.heap.size ≤ qo := (va_Dr hD2).2 0 _ rfl
  have hqqo : ∀ i, i < KC.length → q i ≠ qo := fun i hi => va_Dx hD2 (ga_l (wld_at (List.getElem?_eq_getElem hi))) (j := 0) rfl
  have hmqo : ∀ i, i < KM.length → qm i ≠ qo := fun i hi => va_Dx hD2 (ga_r (wld_at (List.getElem?_eq_getElem hi))) (j := 0) rfl
  refine lv_astore_n (lv' := [(3, .ref qo), (2, .ref (qm 0)), (1, .ref (q 0)), (0, .ref b)]) hx hb dw_19 rfl hl (by decide) rfl (fun ls hl => ?_)
  refine lv_iconst (v := nI (5 * 0)) hx hb dw_20 (by decide) ?_
  refine lv_istore (lv' := [(4, .int (nI (5 * 0))), (3, .ref qo), (2, .ref (qm 0)), (1, .ref (q 0)), (0, .ref b)]) hx hb dw_21 hl (by decide) rfl (fun ls hl => ?_)
  exact law_loop ⟨C0, hfl, hL, hown, hts, hKL, ⟨hqi, hmi⟩, ⟨hqge, hmge, hqo⟩, ⟨hdis, hqqo, hmqo⟩, hEV⟩ L 0 w0C (fun _ _ => 0) 0 H4 _ _ _ ls (by omega) (by omega) inv_0 ⟨hPC2, hPM2, hO, hS⟩ (lv_sub hl [4, 3, 2, 1, 0] rfl) (Nat.le_of_ble_eq_true rfl) (Nat.le_of_ble_eq_true rfl)

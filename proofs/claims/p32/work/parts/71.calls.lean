/-! THE CALLS, the fifth part: the recount desk; a vote's count on both sides -/
section CALLS5
variable {t : Nat} {w m : Wt}
theorem Inv.sw {w' m' : Wt} (h : Inv t w m) (hw : ∀ i, i ≠ 20 → w' i = w i) (hm : ∀ i, i ≠ 22 → m' i = m i) (he : w' 20 = m' 22) (h22 : ∀ b, m' 22 b = 0 ∨ m' 22 b = m 22 b) : Inv t w' m' := by
  obtain ⟨hA, hC, hG, nE, bn, rn, vn, hK, h5, hD, hE, hF⟩ := h
  refine ⟨hA.cg (by rw [hw 0 (by omega)]) (by rw [hm 0 (by omega)]), hC.cg (by rw [hw 7 (by omega)]) (hw 8 (by omega)) (by rw [hm 0 (by omega)]) (hm 6 (by omega)), hG.cg (by rw [hw 11 (by omega)]) (hw 12 (by omega)) (by rw [hm 0 (by omega)]) (hm 23 (by omega)), nE, bn, rn, vn, hK.cg (by rw [hw 1 (by omega)]) (by rw [hw 13 (by omega)]) (fun i hi => hw i (by omega)) (by rw [hm 0 (by omega)]) (by rw [hm 0 (by omega)]) (fun i hi => hm i (by omega)), fun k hk => by rw [hm 5 (by omega)]; exact h5 k hk, hD.cg (by rw [hw 0 (by omega)]) (fun i h1 h2 => hw i (by omega)) (by rw [hm 0 (by omega)]) (hm 8 (by omega)) (hm 7 (by omega)), hE.cg (by rw [hw 0 (by omega)]) (fun i h1 => hw i (by omega)) (by rw [hm 0 (by omega)]) (fun i h1 h2 => hm i (by omega)), ⟨⟨by rw [hw 18 (by omega), hm 18 (by omega)]; exact hF.1.1, by rw [hw 19 (by omega), hm 17 (by omega)]; exact hF.1.2.1, he⟩, fun b hb => ?_, fun b hb => ?_⟩⟩
  · obtain ⟨v, n, q1, q2, q3, q4, q5⟩ := hF.2.1 b hb
    unfold InB
    rw [hm 19 (by omega), hm 18 (by omega), hm 17 (by omega)]
    refine ⟨v, n, q1, q2, q3, q4, ?_⟩
    rcases h22 b with g | g
    · exact Or.inl g
    · rw [g]; exact q5
  · rcases h22 b with g | g
    · exact g
    · rw [g]; exact hF.2.2 b hb
def rcU (m : Wt) (v : Int32) (k : Nat) : Nat → Int32 := fun j => if j < k ∧ m 19 j = v then 0 else m 22 j
def rcB (m : Wt) (v : Int32) (k : Nat) : Bool := decide (m 19 k = v) && decide (¬ m 22 k = 0)
theorem rcU_s {m : Wt} {v : Int32} {k : Nat} : rcU m v (k + 1) = if m 19 k = v then upd (rcU m v k) k 0 else rcU m v k := by
  funext j
  by_cases c : m 19 k = v
  · rw [if_pos c]
    by_cases g : j = k
    · subst g
      rw [pk_us]
      unfold rcU
      rw [if_pos ⟨by omega, c⟩]
    · rw [pk_un g]
      unfold rcU
      by_cases g2 : j < k ∧ m 19 j = v
      · rw [if_pos g2, if_pos ⟨by omega, g2.2⟩]
      · rw [if_neg g2, if_neg (fun e => g2 ⟨by omega, e.2⟩)]
  · rw [if_neg c]
    unfold rcU
    by_cases g2 : j < k ∧ m 19 j = v
    · rw [if_pos g2, if_pos ⟨by omega, g2.2⟩]
    · rw [if_neg g2, if_neg (fun e => g2 ⟨by
        by_cases g : j = k
        · subst g; exact absurd e.2 c
        · omega, e.2⟩)]
theorem q_recount (h : Inv t w m) (a1 : Int32) : ∃ res w' z m', f_Ballotscript_recount a1 w = some (res, w') ∧ m_recount a1 m = some (z, m') ∧ Inv (t + 1) w' m' ∧ Agr [0] res z (m' 0 45) := by
  have hth := fun v => h.thr v
  have h1 := h.up (Nat.le_succ t)
  have h0 := h1
  obtain ⟨hA, hC, hG, nE, bn, rn, vn, hK, h5, hD, ⟨⟨v1, v2, v3⟩, hE2, hE3, hE4⟩, hF⟩ := h1
  obtain ⟨b1, b2, b3⟩ := hK.2.1
  unfold f_Ballotscript_recount m_recount
  rw [need_V v2 v1, bnd_eq, v3, m_below, bnd_eq, goes_1, bnd_eq]
  cases c1 : blw a1 (nI vn) with
  | false =>
    refine ⟨.inl 0, _, _, _, rfl, rfl, hth _, Agr.l (by decide) ?_⟩
    exact thr_e (m := m) rfl
  | true =>
    obtain ⟨v, hv, rfl⟩ := blw_n (by omega) c1
    rw [if_pos rfl]
    have hfa : ∀ (F : Option ((Nat ⊕ Int32) × Wt)), (onX (.inr 0 : Nat ⊕ Int32) (fun k2 => some (.inl k2, w)) (fun _ => F)) = F := fun F => rfl
    rw [hfa]
    have key1 : lp (f_Ballotscript_recount_L9 (nI v)) FU ((0 : Int32), (0 : Int32), w) = some (nI (cntS (rcB m (nI v)) bn), fun i => if i = 20 then rcU m (nI v) bn else w i) := by
      refine Ok.eqn (Ok.count bn (fun k s => s = (nI (cntS (rcB m (nI v)) k), nI k, fun i => if i = 20 then rcU m (nI v) k else w i)) (fun k s hk e => ?_) (fun s e => ?_) bn FU 0 _ (by omega) (by show _ < 100000; omega) ?_)
      · subst e
        have e1 : ¬ w 13 8 ≤ nI k := by rw [b2, nl_le (by omega) (by omega)]; omega
        have e2 : inb (nI k) 100 = true := nl_in (by omega) (by omega)
        have e3 : (nI k).toNatClampNeg = k := nl_cl (by omega)
        have h14 : w 14 k = m 19 k := by rw [hK.2.2.2.1.1]
        have hk22 : rcU m (nI v) k k = m 22 k := by unfold rcU; rw [if_neg (by omega)]
        refine Ok.eq (a := .inl (nI (cntS (rcB m (nI v)) (k + 1)), nI (k + 1), fun i => if i = 20 then rcU m (nI v) (k + 1) else w i)) ?_ rfl
        have hcs : cntS (rcB m (nI v)) (k + 1) = cntS (rcB m (nI v)) k + (if rcB m (nI v) k = true then 1 else 0) := rfl
        rw [hcs, rcU_s, show rcB m (nI v) k = (decide (m 19 k = nI v) && decide (¬ m 22 k = 0)) from rfl]
        by_cases c : m 19 k = nI v
        · have hbo : bob (m 22 k) = true := by
            unfold bob
            obtain ⟨_, _, -, -, -, -, q5⟩ := hF.2.1 k hk
            rcases q5 with g | ⟨g, -⟩
            · exact decide_eq_true (Or.inl g)
            · exact decide_eq_true (Or.inr g)
          have hU : upd2 (fun i => if i = 20 then rcU m (nI v) k else w i) 20 k 0 = fun i => if i = 20 then upd (rcU m (nI v) k) k 0 else w i := by
            funext i
            by_cases g : i = 20
            · subst g; rw [upd2_s, if_pos rfl, if_pos rfl]
            · rw [upd2_n g, if_neg g, if_neg g]
          have hput : f_Box_putRight (nI k) (fun i => if i = 20 then rcU m (nI v) k else w i) = some (m 22 k, fun i => if i = 20 then upd (rcU m (nI v) k) k 0 else w i) := by
            unfold f_Box_putRight
            simp only [e2, e3, gd_t, nmd_eq, ↓reduceIte, hk22, nar_b0, hU, hbo]
          rw [if_pos c, decide_eq_true c, Bool.true_and]
          by_cases g : m 22 k = 0
          · rw [decide_eq_false (show ¬ ¬ m 22 k = 0 from fun q => q g), if_neg (by decide), Nat.add_zero]
            simp only [f_Ballotscript_recount_L9, show ¬ (13 : Nat) = 20 from by decide, show ¬ (14 : Nat) = 20 from by decide, ↓reduceIte, e1, e2, e3, gd_t, h14, c, hput, bnd_eq, g, nI_1]
          · rw [decide_eq_true (show ¬ m 22 k = 0 from g), if_pos rfl]
            simp only [f_Ballotscript_recount_L9, show ¬ (13 : Nat) = 20 from by decide, show ¬ (14 : Nat) = 20 from by decide, ↓reduceIte, e1, e2, e3, gd_t, h14, c, hput, bnd_eq, g, nI_1]
        · rw [if_neg c, decide_eq_false c, Bool.false_and, if_neg (by decide), Nat.add_zero]
          simp only [f_Ballotscript_recount_L9, show ¬ (13 : Nat) = 20 from by decide, show ¬ (14 : Nat) = 20 from by decide, ↓reduceIte, e1, e2, e3, gd_t, h14, c, nI_1]
      · subst e
        have e1 : w 13 8 ≤ nI bn := by rw [b2, nl_le (by omega) (by omega)]; omega
        exact Ok.eq (a := .inr _) (by simp only [f_Ballotscript_recount_L9, show ¬ (13 : Nat) = 20 from by decide, ↓reduceIte, e1]) rfl
      · show (_, _, _) = (_, _, _)
        congr 2
        funext i
        by_cases g : i = 20
        · subst g
          rw [if_pos rfl, hF.1.2.2]
          funext j
          unfold rcU
          rw [if_neg (by omega)]
        · rw [if_neg g]
    generalize hm0 : upd2 m 0 45 (thrN true true true) = m0
    have m0n : ∀ i, i ≠ 0 → m0 i = m i := fun i hi => by rw [← hm0, thr_n hi]
    have m0z : ∀ j, j ≠ 45 → m0 0 j = m 0 j := fun j hj => by rw [← hm0, thr_z hj]
    have key2 : lp (m_recount_L23 (nI v)) FU ((0 : Int32), (0 : Int32), m0) = some (nI (cntS (rcB m (nI v)) bn), fun i => if i = 22 then rcU m (nI v) bn else m0 i) := by
      refine Ok.eqn (Ok.count bn (fun k s => s = (nI (cntS (rcB m (nI v)) k), nI k, fun i => if i = 22 then rcU m (nI v) k else m0 i)) (fun k s hk e => ?_) (fun s e => ?_) bn FU 0 _ (by omega) (by show _ < 100000; omega) ?_)
      · subst e
        have e1 : ¬ m0 0 27 ≤ nI k := by rw [m0z 27 (by decide), b3, nl_le (by omega) (by omega)]; omega
        have e2 : inb (nI k) 100 = true := nl_in (by omega) (by omega)
        have e3 : (nI k).toNatClampNeg = k := nl_cl (by omega)
        have h19 : m0 19 k = m 19 k := by rw [m0n 19 (by decide)]
        have hk22 : rcU m (nI v) k k = m 22 k := by unfold rcU; rw [if_neg (by omega)]
        have hU : ∀ x, upd2 (fun i => if i = 22 then rcU m (nI v) k else m0 i) 22 k x = fun i => if i = 22 then upd (rcU m (nI v) k) k x else m0 i := by
          intro x
          funext i
          by_cases g : i = 22
          · subst g; rw [upd2_s, if_pos rfl, if_pos rfl]
          · rw [upd2_n g, if_neg g, if_neg g]
        have hsame : ∀ x, x = m 22 k → upd (rcU m (nI v) k) k x = rcU m (nI v) k := by
          intro x hx
          funext j
          by_cases g : j = k
          · subst g; rw [pk_us, hk22, hx]
          · rw [pk_un g]
        refine Ok.eq (a := .inl (nI (cntS (rcB m (nI v)) (k + 1)), nI (k + 1), fun i => if i = 22 then rcU m (nI v) (k + 1) else m0 i)) ?_ rfl
        have hcs : cntS (rcB m (nI v)) (k + 1) = cntS (rcB m (nI v)) k + (if rcB m (nI v) k = true then 1 else 0) := rfl
        have hz0 : nI (cntS (rcB m (nI v)) k) + (0 : Int32) = nI (cntS (rcB m (nI v)) k) := Int32.add_zero _
        rw [hcs, rcU_s, show rcB m (nI v) k = (decide (m 19 k = nI v) && decide (¬ m 22 k = 0)) from rfl]
        by_cases g : m 22 k = 0
        · rw [decide_eq_false (show ¬ ¬ m 22 k = 0 from fun q => q g), Bool.and_false, if_neg (by decide), Nat.add_zero]
          have hR : (if m 19 k = nI v then upd (rcU m (nI v) k) k 0 else rcU m (nI v) k) = rcU m (nI v) k := by
            by_cases c : m 19 k = nI v
            · rw [if_pos c]; exact hsame 0 g.symm
            · rw [if_neg c]
          rw [hR]
          have h55 : m_recount_b55 (nI v) (nI k) (nI (cntS (rcB m (nI v)) k)) (fun i => if i = 22 then rcU m (nI v) k else m0 i) = some (.inl (nI (cntS (rcB m (nI v)) k), nI (k + 1), fun i => if i = 22 then rcU m (nI v) k else m0 i)) := by
            unfold m_recount_b55 m_recount_b56
            simp only [e2, e3, gd_t, nmd_eq, ↓reduceIte, hk22, g, nar_b0, hU, hsame 0 g.symm, hz0, nI_1]
          by_cases c : m 19 k = nI v
          · simp only [m_recount_L23, show ¬ (0 : Nat) = 22 from by decide, show ¬ (19 : Nat) = 22 from by decide, ↓reduceIte, e1, e2, e3, gd_t, h19, c, hk22, g, h55]
          · simp only [m_recount_L23, show ¬ (0 : Nat) = 22 from by decide, show ¬ (19 : Nat) = 22 from by decide, ↓reduceIte, e1, e2, e3, gd_t, h19, c, h55]
        · have h221 : m 22 k = 1 := by
            obtain ⟨_, _, -, -, -, -, q5⟩ := hF.2.1 k hk
            rcases q5 with q | ⟨q, -⟩
            · exact absurd q g
            · exact q
          rw [decide_eq_true (show ¬ m 22 k = 0 from g), Bool.and_true]
          by_cases c : m 19 k = nI v
          · rw [if_pos c, decide_eq_true c, if_pos rfl]
            have h56 : m_recount_b56 (nI v) (nI k) (1 : Int32) (nI (cntS (rcB m (nI v)) k)) (fun i => if i = 22 then rcU m (nI v) k else m0 i) = some (.inl (nI (cntS (rcB m (nI v)) k + 1), nI (k + 1), fun i => if i = 22 then upd (rcU m (nI v) k) k 0 else m0 i)) := by
              unfold m_recount_b56
              simp only [e2, e3, gd_t, nmd_eq, ↓reduceIte, hk22, g, show ¬ (19 : Nat) = 22 from by decide, h19, c, nar_b0, hU, nI_1]
            simp only [m_recount_L23, show ¬ (0 : Nat) = 22 from by decide, show ¬ (19 : Nat) = 22 from by decide, ↓reduceIte, e1, e2, e3, gd_t, h19, c, hk22, g, h56]
          · rw [if_neg c, decide_eq_false c, if_neg (by decide), Nat.add_zero]
            have h55 : m_recount_b55 (nI v) (nI k) (nI (cntS (rcB m (nI v)) k)) (fun i => if i = 22 then rcU m (nI v) k else m0 i) = some (.inl (nI (cntS (rcB m (nI v)) k), nI (k + 1), fun i => if i = 22 then rcU m (nI v) k else m0 i)) := by
              unfold m_recount_b55 m_recount_b56
              simp only [e2, e3, gd_t, nmd_eq, ↓reduceIte, hk22, g, show ¬ (19 : Nat) = 22 from by decide, h19, c, nar_b1, hU, hsame 1 h221.symm, hz0, nI_1]
            simp only [m_recount_L23, show ¬ (0 : Nat) = 22 from by decide, show ¬ (19 : Nat) = 22 from by decide, ↓reduceIte, e1, e2, e3, gd_t, h19, c, h55]
      · subst e
        have e1 : m0 0 27 ≤ nI bn := by rw [m0z 27 (by decide), b3, nl_le (by omega) (by omega)]; omega
        exact Ok.eq (a := .inr _) (by simp only [m_recount_L23, show ¬ (0 : Nat) = 22 from by decide, ↓reduceIte, e1]) rfl
      · show (_, _, _) = (_, _, _)
        congr 2
        funext i
        by_cases g : i = 22
        · subst g
          rw [if_pos rfl, m0n 22 (by decide)]
          funext j
          unfold rcU
          rw [if_neg (by omega)]
        · rw [if_neg g]
    have hI0 : Inv (t + 1) w m0 := by rw [← hm0]; exact hth _
    refine ⟨.inr (nI (cntS (rcB m (nI v)) bn)), fun i => if i = 20 then rcU m (nI v) bn else w i, nI (cntS (rcB m (nI v)) bn), fun i => if i = 22 then rcU m (nI v) bn else m0 i, ?_, ?_, hI0.sw (fun i hi => if_neg hi) (fun i hi => if_neg hi) ?_ (fun b => ?_), Agr.r ?_ rfl⟩
    · rw [key1]; rfl
    · simp only [show ¬ tI true = 0 from by decide, ↓reduceIte, key2]; rfl
    · rw [if_pos rfl, if_pos rfl]
    · rw [if_pos rfl, m0n 22 (by decide)]
      unfold rcU
      split
      · exact Or.inl rfl
      · exact Or.inr rfl
    · show (if (0:Nat) = 22 then rcU m (nI v) bn else m0 0) 45 = 0
      rw [if_neg (by decide), ← hm0, thr_at]; rfl
theorem rs_cg {m m' : Wt} {bn nE b : Nat} (k : ∀ i, i ≠ 22 → m' i = m i) : rsM m' bn nE b = rsM m bn nE b := by
  unfold rsM laM enM
  rw [k 1 (by decide), k 2 (by decide), k 3 (by decide), k 4 (by decide), k 5 (by decide), k 9 (by decide), k 19 (by decide), k 20 (by decide), k 21 (by decide)]
theorem m_counted {nE bn i b : Nat} {v : Int32} (hK : Core w m nE bn) (hb : (glS (ofV m bn nE v) bn 0)[i]? = some b) : m_countedAt v (nI i) m = some (nI b) := by
  have hbn := hK.2.1.1
  have hi : i < bn := by
    have h1 := (List.getElem?_eq_some_iff.mp hb).1
    have h2 := glS_len (p := ofV m bn nE v) (d := bn) (k := 0)
    omega
  have key : lp (m_countedAt_L8 v m) FU ((-1 : Int32), nI i, (0 : Int32)) = some (match (glS (ofV m bn nE v) bn 0)[i]? with | some b => nI b | none => -1) := by
    refine Ok.eqn (Ok.count bn (fun k s => s = ((match (glS (ofV m bn nE v) k 0)[i]? with | some b => nI b | none => -1), nI i - nI (glS (ofV m bn nE v) k 0).length, nI k)) (fun k s hk e => ?_) (fun s e => ?_) bn FU 0 _ (by omega) (by show _ < 100000; omega) ?_)
    · subst e
      have e1 : ¬ m 0 27 ≤ nI k := by rw [hK.2.1.2.2, nl_le (by omega) (by omega)]; omega
      have e2 : inb (nI k) 100 = true := nl_in (by omega) (by omega)
      have e3 : (nI k).toNatClampNeg = k := nl_cl (by omega)
      have hr := rsM_lt (m := m) (bn := bn) (nE := nE) (b := k)
      have hl := glS_len (p := ofV m bn nE v) (d := k) (k := 0)
      generalize hL : glS (ofV m bn nE v) k 0 = L at hl
      have hsn : glS (ofV m bn nE v) (k + 1) 0 = L ++ (if ofV m bn nE v k then [k] else []) := by rw [glS_snoc, hL, Nat.zero_add]
      refine Ok.eq (a := .inl ((match (glS (ofV m bn nE v) (k + 1) 0)[i]? with | some b => nI b | none => -1), nI i - nI (glS (ofV m bn nE v) (k + 1) 0).length, nI (k + 1))) ?_ rfl
      rw [hsn]
      have hz : (nI i - nI L.length = 0) = (i = L.length) := by
        refine propext ⟨fun e => ?_, fun e => by rw [e, Int32.sub_self]⟩
        by_cases c : L.length ≤ i
        · rw [pk_sub c, qe_0 (by omega)] at e; omega
        · have := pk_sneg (a := i) (b := L.length) (by omega) (by omega)
          rw [e] at this
          exact absurd this (by decide)
      have h60 : ∀ t0 l6, m_countedAt_b60 v (nI i - nI L.length) (nI k) l6 t0 m = some (.inl (t0, (if l6 = 0 then nI i - nI L.length else nI i - nI (L.length + 1)), nI (k + 1))) := by
        intro t0 l6
        unfold m_countedAt_b60
        by_cases g : l6 = 0
        · rw [if_pos g, if_pos g, Int32.sub_zero, nI_1]; rfl
        · rw [if_neg g, if_neg g, nI_1]
          have := i_sub1 i L.length
          rw [← Int32.sub_eq_add_neg] at this
          rw [this]; rfl
      unfold ofV
      by_cases c1 : m 19 k = v
      · by_cases c2 : rsM m bn nE k = 0
        · rw [decide_eq_true c1, decide_eq_true c2]
          simp only [m_countedAt_L8, e1, e2, e3, gd_t, c1, hK.m hk, bnd_eq, nI_e0 (show rsM m bn nE k < 2147483648 by omega), c2, ↓reduceIte, Bool.and_self, m_countedAt_b42, m_countedAt_b59, h60, show ¬ (1 : Int32) = 0 from by decide, hz, n0]
          by_cases g : i = L.length
          · rw [if_pos g, List.length_append, List.getElem?_append_right (by omega), g, Nat.sub_self]; rfl
          · rw [if_neg g, List.length_append]
            by_cases g2 : i < L.length
            · rw [List.getElem?_append_left g2]; rfl
            · rw [List.getElem?_eq_none (by omega), List.getElem?_eq_none (by rw [List.length_append]; show L.length + 1 ≤ i; omega)]; rfl
        · rw [decide_eq_false c2, Bool.and_false]
          simp only [m_countedAt_L8, e1, e2, e3, gd_t, c1, hK.m hk, bnd_eq, nI_e0 (show rsM m bn nE k < 2147483648 by omega), c2, ↓reduceIte, m_countedAt_b41, m_countedAt_b42, m_countedAt_b59, h60, Bool.false_eq_true, List.append_nil]
      · rw [decide_eq_false c1, Bool.false_and]
        simp only [m_countedAt_L8, e1, e2, e3, gd_t, c1, ↓reduceIte, m_countedAt_b41, m_countedAt_b42, m_countedAt_b59, h60, Bool.false_eq_true, List.append_nil]
    · subst e
      have e1 : m 0 27 ≤ nI bn := by rw [hK.2.1.2.2, nl_le (by omega) (by omega)]; omega
      exact Ok.eq (a := .inr _) (by simp only [m_countedAt_L8, e1, ↓reduceIte]) rfl
    · show (_, _, _) = (_, _, _)
      have : nI i - nI ([] : List Nat).length = nI i := Int32.sub_zero _
      rw [show glS (ofV m bn nE v) 0 0 = [] from rfl, this]
      rfl
  unfold m_countedAt
  rw [key, hb]; rfl
theorem q_sample (h : Inv t w m) (ht : t ≤ 100000) (a1 a2 a3 : Int32) : ∃ res w' z m', f_Ballotscript_sample a1 a2 a3 w = some (res, w') ∧ m_sample a1 a2 a3 m = some (z, m') ∧ Inv (t + 1) w' m' ∧ Agr [0, 1, 2] res z (m' 0 45) := by
  have hth := fun v => h.thr v
  have h0 := h
  obtain ⟨hA, hC, hG, nE, bn, rn, vn, hK, h5, hD, ⟨⟨v1, v2, v3⟩, hE2, hE3, hE4⟩, hF⟩ := h
  obtain ⟨b1, b2, b3⟩ := hK.2.1
  have hsb : ∀ (a b c : Bool) (l6 : Int32), (a && b && c) = false → m_sample_b69 a1 a2 a3 l6 (tI c) (tI b) (tI a) m = some (0, upd2 m 0 45 (thrN a b c)) := by
    intro a b c l6 hf
    unfold m_sample_b69
    rw [m_goes_eq, bnd_eq, hf]
    rfl
  have h52 : ∀ (a b : Bool) (n : Nat), n ≤ 100 → m_sample_b52 a1 a2 a3 (tI a) (tI b) (nI n) m = m_sample_b69 a1 a2 a3 (nI n) (tI (decide (0 < n))) (tI b) (tI a) m := by
    intro a b n hn
    unfold m_sample_b52
    simp only [qa_0 (show n < 2147483648 by omega)]
    by_cases c : n ≤ 0
    · rw [if_pos c, decide_eq_false (by omega)]; rfl
    · rw [if_neg c, decide_eq_true (by omega)]; rfl
  have hcn : cntS (ofV m bn nE a1) bn ≤ 100 := Nat.le_trans cntS_le b1
  have hm : m_sample a1 a2 a3 m = m_sample_b36 a1 a2 a3 (tI (blw a1 (nI vn))) (tI (wthn a2 0 9999 && wthn a3 1 20)) m := by
    unfold m_sample m_sample_b35
    rw [v3, m_below, bnd_eq, m_within, bnd_eq]
    cases c2 : wthn a2 0 9999 with
    | false => rw [if_pos (show tI false = 0 from rfl)]; rfl
    | true =>
      rw [if_neg (show ¬ tI true = 0 from by decide), m_within, bnd_eq]
      cases c3 : wthn a3 1 20 with
      | false => rw [if_pos (show tI false = 0 from rfl)]; rfl
      | true => rw [if_neg (show ¬ tI true = 0 from by decide)]; rfl
  have h36 : ∀ b : Bool, m_sample_b36 a1 a2 a3 (tI true) (tI b) m = m_sample_b69 a1 a2 a3 (nI (cntS (ofV m bn nE a1) bn)) (tI (decide (0 < cntS (ofV m bn nE a1) bn))) (tI b) (tI true) m := by
    intro b
    unfold m_sample_b36
    rw [if_neg (show ¬ tI true = 0 from by decide), hK.inM, bnd_eq, h52 true b _ hcn]
  rw [hm]
  unfold f_Ballotscript_sample f_Ballotscript_sample_b26
  rw [need_V v2 v1, bnd_eq]
  cases c1 : blw a1 (nI vn) with
  | false =>
    have : ∀ b : Bool, m_sample_b36 a1 a2 a3 (tI false) (tI b) m = some (0, upd2 m 0 45 1) := by
      intro b
      unfold m_sample_b36
      rw [if_pos (show tI false = 0 from rfl), show (0 : Int32) = nI 0 from rfl, h52 false b 0 (by omega), hsb false b _ _ (by cases b <;> rfl)]
      rfl
    refine ⟨.inl 0, _, _, _, rfl, this _, hth _, Agr.l (by decide) ?_⟩
    exact thr_e (m := m) rfl
  | true =>
    rw [if_pos rfl]
    have hfa : ∀ (F : Option ((Nat ⊕ Int32) × Wt)), (onX (.inr 0 : Nat ⊕ Int32) (fun k2 => some (.inl k2, w)) (fun _ => F)) = F := fun F => rfl
    rw [hfa, f_within, bnd_eq, h36]
    cases c2 : wthn a2 0 9999 with
    | false =>
      refine ⟨_, _, _, _, rfl, hsb _ _ _ _ (by cases decide (0 < cntS (ofV m bn nE a1) bn) <;> rfl), hth _, Agr.l (by decide) ?_⟩
      exact thr_e (m := m) rfl
    | true =>
      rw [if_neg (show ¬ tI true = 0 from by decide), f_within, bnd_eq]
      cases c3 : wthn a3 1 20 with
      | false =>
        refine ⟨_, _, _, _, rfl, hsb _ _ _ _ (by cases decide (0 < cntS (ofV m bn nE a1) bn) <;> rfl), hth _, Agr.l (by decide) ?_⟩
        exact thr_e (m := m) rfl
      | true =>
        rw [if_neg (show ¬ tI true = 0 from by decide)]
        obtain ⟨w1, ew, g1, g2, g3, g4⟩ := hK.gather a1
        rw [ew, bnd_eq, g3]
        rw [glS_cnt] at g3 ⊢
        have hc0 : ((0 : Int32) < nI (cntS (ofV m bn nE a1) bn)) = (0 < cntS (ofV m bn nE a1) bn) := qd_0 (by omega)
        simp only [hc0]
        have hI1 : Inv t w1 (upd2 m 0 45 0) := h0.kp g1 thr_k
        by_cases c4 : 0 < cntS (ofV m bn nE a1) bn
        · rw [if_pos c4, decide_eq_true c4]
          obtain ⟨v, hv, rfl⟩ := blw_n (by omega) c1
          obtain ⟨x, hx, rfl⟩ : ∃ x, x < 65536 ∧ a2 = nI x := by
            unfold wthn at c2
            simp only [Bool.and_eq_true, decide_eq_true_eq] at c2
            obtain ⟨x, hx, rfl⟩ := nl_of (x := a2) (by rw [ile]; have q := c2.1; rw [ilt] at q; have : (0 : Int32).toInt = 0 := rfl; omega)
            have q2 := c2.2
            rw [show (9999 : Int32) = nI 9999 from rfl, nl_lt (by omega) hx] at q2
            exact ⟨x, by omega, rfl⟩
          obtain ⟨mk, hmk, rfl⟩ : ∃ mk, (1 ≤ mk ∧ mk ≤ 20) ∧ a3 = nI mk := by
            unfold wthn at c3
            simp only [Bool.and_eq_true, decide_eq_true_eq] at c3
            obtain ⟨x, hx, rfl⟩ := nl_of (x := a3) (by rw [ile]; have q := c3.1; rw [ilt] at q; have : (1 : Int32).toInt = 1 := rfl; have : (0 : Int32).toInt = 0 := rfl; omega)
            have q1 := c3.1
            rw [qc_1 hx] at q1
            have q2 := c3.2
            rw [qd_20 hx] at q2
            exact ⟨x, by omega, rfl⟩
          have e1 : inb (nI v) 8 = true := nl_in (by omega) (by omega)
          have e2 : (nI v).toNatClampNeg = v := nl_cl (by omega)
          -- the draws, both sides
          have draws : ∀ d j x f fuel (w2 m2 : Wt), j + d = mk → d < fuel → x < 65536 → Inv t w2 m2 → (∀ i, i ≠ 20 → w2 i = w1 i) → (∀ i, i ≠ 22 → m2 i = upd2 m 0 45 0 i) →
              ∃ f' w3 m3, lp (f_Ballotscript_sample_L73 (nI v) (nI mk)) fuel (nI x, nI f, nI j, w2) = some (nI f', w3) ∧ lp (m_sample_L86 (nI v) (nI mk) (nI (cntS (ofV m bn nE (nI v)) bn))) fuel (nI x, nI f, nI j, m2) = some (nI f', m3) ∧ Inv t w3 m3 ∧ (∀ i, i ≠ 20 → w3 i = w1 i) ∧ ∀ i, i ≠ 22 → m3 i = upd2 m 0 45 0 i := by
            intro d
            induction d with
            | zero =>
              intro j x f fuel w2 m2 s1 s2 s3 s4 s5 s6
              obtain ⟨fuel, rfl⟩ : ∃ f, fuel = f + 1 := ⟨fuel - 1, by omega⟩
              have d1 : nI mk ≤ nI j := by rw [nl_le (by omega) (by omega)]; omega
              refine ⟨f, w2, m2, ?_, ?_, s4, s5, s6⟩
              · unfold lp; simp only [f_Ballotscript_sample_L73, d1, ↓reduceIte] <;> rfl
              · unfold lp; simp only [m_sample_L86, d1, ↓reduceIte] <;> rfl
            | succ d ih =>
              intro j x f fuel w2 m2 s1 s2 s3 s4 s5 s6
              obtain ⟨fuel, rfl⟩ : ∃ f, fuel = f + 1 := ⟨fuel - 1, by omega⟩
              have d1 : ¬ nI mk ≤ nI j := by rw [nl_le (by omega) (by omega)]; omega
              have d2 : nzb (65536 : Int32) = true := by decide
              have d3 : ((1103 : Int32) * nI x) + (12345 : Int32) = nI (1103 * x + 12345) := by
                rw [show (1103 : Int32) = nI 1103 from rfl, pk_mul, show (12345 : Int32) = nI 12345 from rfl, nI_add]
              have d4 : nI (1103 * x + 12345) - nI (1103 * x + 12345) / (65536 : Int32) * (65536 : Int32) = nI ((1103 * x + 12345) % 65536) := pk_rem (d := 65536) (by omega) (by omega) (by omega)
              generalize hy : (1103 * x + 12345) % 65536 = y at d4
              have hy2 : y < 65536 := by rw [← hy]; exact Nat.mod_lt _ (by omega)
              generalize hcc : cntS (ofV m bn nE (nI v)) bn = cc at hcn c4 g3
              have d5 : nzb (nI cc) = true := by
                have : ¬ nI cc = 0 := by rw [qe_0 (by omega)]; omega
                unfold nzb; exact decide_eq_true this
              have d6 : nI y - nI y / nI cc * nI cc = nI (y % cc) := pk_rem (by omega) c4 (by omega)
              have hyc : y % cc < cc := Nat.mod_lt _ c4
              have hlen : (glS (ofV m bn nE (nI v)) bn 0).length = cc := by rw [glS_cnt, hcc]
              obtain ⟨b, hb⟩ : ∃ b, (glS (ofV m bn nE (nI v)) bn 0)[y % cc]? = some b := ⟨_, List.getElem?_eq_getElem (by omega)⟩
              have hbm := glS_mem (List.mem_of_getElem? hb)
              have d7 : inb (nI (y % cc)) 100 = true := nl_in (by omega) (by omega)
              have d8 : (nI (y % cc)).toNatClampNeg = y % cc := nl_cl (by omega)
              have d9 : w2 21 (y % cc) = nI b := by rw [s5 21 (by decide)]; exact g4 _ _ hb
              have d10 : w2 13 10 = nI cc := by rw [s5 13 (by decide)]; exact g3
              have d11 : inb (nI b) 100 = true := nl_in (by omega) (by omega)
              have d12 : (nI b).toNatClampNeg = b := nl_cl (by omega)
              -- the reference finds the same ballot
              have hof : ofV m2 bn nE (nI v) = ofV m bn nE (nI v) := by
                funext k
                unfold ofV
                rw [rs_cg s6, s6 19 (by decide), rs_kp thr_k, thr_n (by decide)]
              have hK2 : Core w2 m2 nE bn := by
                have hKx := (hK.kp g1).kpm (m' := upd2 m 0 45 0) thr_k
                exact hKx.cg (by rw [s5 1 (by decide)]) (by rw [s5 13 (by decide)]) (fun i hi => s5 i (by omega)) (by rw [s6 0 (by decide)]) (by rw [s6 0 (by decide)]) (fun i hi => s6 i (by omega))
              have hcnt : m_countedAt (nI v) (nI (y % cc)) m2 = some (nI b) := m_counted hK2 (by rw [hof]; exact hb)
              have h20 : w2 20 = m2 22 := by
                obtain ⟨-, -, -, nE', bn', rn', vn', -, -, -, -, hF'⟩ := s4
                exact hF'.1.2.2
              have h22 : m2 22 b = 0 ∨ m2 22 b = 1 := by
                obtain ⟨-, -, -, nE', bn', rn', vn', hK', -, -, -, hF'⟩ := s4
                have : bn' = bn := by
                  have q1 := hK'.2.1.2.2
                  have q2 := hK2.2.1.2.2
                  rw [q1] at q2
                  have := hK'.2.1.1
                  exact (Iff.of_eq (nl_eq (by omega) (by omega))).mp q2
                subst this
                obtain ⟨_, _, -, -, -, -, q5⟩ := hF'.2.1 b (by omega)
                rcases q5 with q | ⟨q, -⟩
                · exact Or.inl q
                · exact Or.inr q
              have hbob : bob (m2 22 b) = true := by unfold bob; exact decide_eq_true h22
              have hput : f_Box_putRight (nI b) w2 = some (m2 22 b, upd2 w2 20 b 0) := by
                unfold f_Box_putRight
                simp only [d11, d12, gd_t, nmd_eq, h20, nar_b0, hbob]
              have hI2 : Inv t (upd2 w2 20 b 0) (upd2 m2 22 b 0) := s4.sw (fun i hi => upd2_n hi) (fun i hi => upd2_n hi) (by rw [upd2_s, upd2_s, h20]) (fun k => by
                rw [upd2_at, if_pos rfl]
                by_cases g : k = b
                · rw [if_pos g]; exact Or.inl rfl
                · rw [if_neg g]; exact Or.inr rfl)
              have s5' : ∀ i, i ≠ 20 → upd2 w2 20 b 0 i = w1 i := fun i hi => by rw [upd2_n hi]; exact s5 i hi
              have s6' : ∀ i, i ≠ 22 → upd2 m2 22 b 0 i = upd2 m 0 45 0 i := fun i hi => by rw [upd2_n hi]; exact s6 i hi
              by_cases gg : m2 22 b = 0
              · obtain ⟨f', w3, m3, r1, r2, r3, r4, r5⟩ := ih (j + 1) y f fuel (upd2 w2 20 b 0) (upd2 m2 22 b 0) (by omega) (by omega) hy2 hI2 s5' s6'
                refine ⟨f', w3, m3, ?_, ?_, r3, r4, r5⟩
                · show Option.bind _ _ = _
                  simp only [f_Ballotscript_sample_L73, d1, ↓reduceIte, d2, gd_t, nmd_eq, d3, d4, d10, d5, d6, d7, d8, d9, hput, bnd_eq, gg, nI_1]
                  exact r1
                · show Option.bind _ _ = _
                  simp only [m_sample_L86, d1, ↓reduceIte, d2, gd_t, nmd_eq, d3, d4, d5, d6, hcnt, bnd_eq, d11, d12, gg, m_sample_b136, nar_b0, Int32.add_zero, nI_1]
                  rw [hcc] at r2
                  exact r2
              · obtain ⟨f', w3, m3, r1, r2, r3, r4, r5⟩ := ih (j + 1) y (f + 1) fuel (upd2 w2 20 b 0) (upd2 m2 22 b 0) (by omega) (by omega) hy2 hI2 s5' s6'
                refine ⟨f', w3, m3, ?_, ?_, r3, r4, r5⟩
                · show Option.bind _ _ = _
                  simp only [f_Ballotscript_sample_L73, d1, ↓reduceIte, d2, gd_t, nmd_eq, d3, d4, d10, d5, d6, d7, d8, d9, hput, bnd_eq, gg, nI_1]
                  exact r1
                · show Option.bind _ _ = _
                  simp only [m_sample_L86, d1, ↓reduceIte, d2, gd_t, nmd_eq, d3, d4, d5, d6, hcnt, bnd_eq, d11, d12, gg, m_sample_b136, nar_b0, nI_1]
                  rw [hcc] at r2
                  exact r2
          obtain ⟨f', w3, m3, r1, r2, r3, r4, r5⟩ := draws mk 0 x 0 FU w1 (upd2 m 0 45 0) (by omega) (by show _ < 100000; omega) hx hI1 (fun _ _ => rfl) (fun _ _ => rfl)
          have hwv : w3 (64 + v) = w (64 + v) := by rw [r4 _ (by omega), g2 _ (by omega) (by omega)]
          obtain ⟨⟨q1, q2, q3, q4⟩, ⟨q5, q6, q7⟩, dd, q8, q9⟩ := hE2 v (by omega)
          have hm15 : m3 15 = m 15 := by rw [r5 15 (by decide), thr_n (by decide)]
          have hm16 : m3 16 = m 16 := by rw [r5 16 (by decide), thr_n (by decide)]
          generalize hw9 : upd2 (upd2 w3 (64 + v) 5 (nI (dd + mk))) (64 + v) 6 (m 16 v + nI f') = w9
          generalize hm9 : upd2 (upd2 m3 15 v (nI (dd + mk))) 16 v (m 16 v + nI f') = m9
          have hfv : f_Ballotscript_sample_b131 (nI v) (nI mk) (nI f') w3 = some (.inr (nI f'), w9) := by
            unfold f_Ballotscript_sample_b131
            simp only [e1, e2, gd_t, nmd_eq, hwv, q6, q9, nI_add, upd2_at, ↓reduceIte, show ¬ (6 : Nat) = 5 from by decide, q7]
            rw [hw9]
          have hmv : m_sample_b153 (nI v) (nI mk) (nI f') m3 = some (nI f', m9) := by
            unfold m_sample_b153
            simp only [e1, e2, gd_t, nmd_eq, hm15, q9, nI_add, upd2_n (show (16 : Nat) ≠ 15 by decide), hm16]
            rw [hm9]
          have hmm : m_sample_b69 (nI v) (nI x) (nI mk) (nI (cntS (ofV m bn nE (nI v)) bn)) (tI true) (tI (true && true)) (tI true) m = some (nI f', m9) := by
            unfold m_sample_b69
            rw [m_goes_eq, bnd_eq]
            simp only [Bool.and_self, show ¬ tI true = 0 from by decide, ↓reduceIte]
            have : (thrN true true true) = 0 := rfl
            rw [this, show (nI x, (0 : Int32), (0 : Int32), upd2 m 0 45 0) = (nI x, nI 0, nI 0, upd2 m 0 45 0) from rfl, r2, bnd_eq]
            exact hmv
          have r3' := r3.up (Nat.le_succ t)
          obtain ⟨hA', hC', hG', nE', bn', rn', vn', hK', h5', hD', ⟨⟨v1', v2', v3'⟩, hE2', hE3', hE4'⟩, hF'⟩ := r3'
          have wn : ∀ i, i ≠ 64 + v → w9 i = w3 i := fun i hi => by rw [← hw9, upd2_n hi, upd2_n hi]
          have mn : ∀ i, i ≠ 15 → i ≠ 16 → m9 i = m3 i := fun i h1 h2 => by rw [← hm9, upd2_n h2, upd2_n h1]
          refine ⟨.inr (nI f'), w9, nI f', m9, ?_, hmm, ⟨hA'.cg (by rw [wn 0 (by omega)]) (by rw [mn 0 (by decide) (by decide)]), hC'.cg (by rw [wn 7 (by omega)]) (wn 8 (by omega)) (by rw [mn 0 (by decide) (by decide)]) (mn 6 (by decide) (by decide)), hG'.cg (by rw [wn 11 (by omega)]) (wn 12 (by omega)) (by rw [mn 0 (by decide) (by decide)]) (mn 23 (by decide) (by decide)), nE', bn', rn', vn', hK'.cg (by rw [wn 1 (by omega)]) (by rw [wn 13 (by omega)]) (fun i hi => wn i (by omega)) (by rw [mn 0 (by decide) (by decide)]) (by rw [mn 0 (by decide) (by decide)]) (fun i hi => mn i (by omega) (by omega)), fun k hk => by rw [mn 5 (by decide) (by decide)]; exact h5' k hk, hD'.cg (by rw [wn 0 (by omega)]) (fun i h1 h2 => wn i (by omega)) (by rw [mn 0 (by decide) (by decide)]) (mn 8 (by decide) (by decide)) (mn 7 (by decide) (by decide)), ⟨⟨v1', by rw [wn 0 (by omega)]; exact v2', by rw [mn 0 (by decide) (by decide)]; exact v3'⟩, fun u hu => ?_, fun u hu => ?_, fun u h1 h2 => ?_⟩, hF'.cg (fun i h1 h2 => wn i (by omega)) (fun i h1 h2 => mn i (by omega) (by omega))⟩, Agr.r ?_ rfl⟩
          · rw [show (nI x, (0 : Int32), (0 : Int32), w1) = (nI x, nI 0, nI 0, w1) from rfl, r1, bnd_eq]
            exact hfv
          · obtain ⟨⟨p1, p2, p3, p4⟩, ⟨p5, p6, p7⟩, d2, p8, p9⟩ := hE2' u hu
            unfold InV
            rw [mn 9 (by decide) (by decide), mn 10 (by decide) (by decide), mn 11 (by decide) (by decide), mn 12 (by decide) (by decide), mn 13 (by decide) (by decide)]
            have hm9_15 : ∀ k, m9 15 k = if k = v then nI (dd + mk) else m3 15 k := fun k => by rw [← hm9, upd2_n (by decide), upd2_at, if_pos rfl]
            have hm9_16 : ∀ k, m9 16 k = if k = v then m 16 v + nI f' else m3 16 k := fun k => by rw [← hm9, upd2_at, if_pos rfl, upd2_n (by decide)]
            rw [hm9_15, hm9_16]
            by_cases g : u = v
            · subst g
              have hw9v : ∀ j, w9 (64 + u) j = if j = 6 then m 16 u + nI f' else if j = 5 then nI (dd + mk) else w3 (64 + u) j := fun j => by rw [← hw9, upd2_at, if_pos rfl, upd2_at, if_pos rfl]
              rw [hw9v, hw9v, hw9v, hw9v, hw9v, hw9v, hw9v]
              simp only [↓reduceIte, show ¬ (0 : Nat) = 6 from by decide, show ¬ (0 : Nat) = 5 from by decide, show ¬ (1 : Nat) = 6 from by decide, show ¬ (1 : Nat) = 5 from by decide, show ¬ (2 : Nat) = 6 from by decide, show ¬ (2 : Nat) = 5 from by decide, show ¬ (3 : Nat) = 6 from by decide, show ¬ (3 : Nat) = 5 from by decide, show ¬ (4 : Nat) = 6 from by decide, show ¬ (4 : Nat) = 5 from by decide, show ¬ (5 : Nat) = 6 from by decide]
              exact ⟨⟨p1, p2, p3, p4⟩, ⟨p5, trivial, trivial⟩, dd + mk, by omega, rfl⟩
            · rw [if_neg g, if_neg g, wn (64 + u) (by omega)]
              exact ⟨⟨p1, p2, p3, p4⟩, ⟨p5, p6, p7⟩, d2, p8, p9⟩
          · obtain ⟨c', s', r', p1, p2, p3, p4⟩ := hE3' u hu
            unfold InW
            rw [mn 10 (by decide) (by decide), mn 11 (by decide) (by decide), mn 12 (by decide) (by decide), mn 14 (by decide) (by decide)]
            refine ⟨c', s', r', p1, p2, ?_, p4⟩
            by_cases g : u = v
            · subst g; rw [← hw9, upd2_at, if_pos rfl, if_neg (by decide), upd2_at, if_pos rfl, if_neg (by decide)]; exact p3
            · rw [wn (64 + u) (by omega)]; exact p3
          · have hvn : vn' = vn := by
              have q2 : m3 0 20 = nI vn := by rw [r5 0 (by decide), thr_z (by decide)]; exact v3
              rw [v3'] at q2
              exact (Iff.of_eq (nl_eq (by omega) (by omega))).mp q2
            rw [wn (64 + u) (by omega)]; exact hE4' u h1 h2
          · rw [mn 0 (by decide) (by decide), r5 0 (by decide), thr_at]
        · rw [if_neg c4, decide_eq_false c4]
          refine ⟨_, _, _, _, rfl, hsb _ _ _ _ rfl, ?_, Agr.l (by decide) (thr_e (m := m) rfl)⟩
          exact (h0.kp g1 kpW.rfl').thr _
end CALLS5

/-! THE CALLS, the second part -/
theorem blw_n {a : Int32} {n : Nat} (hn : n < 2147483648) (h : blw a (nI n) = true) : ∃ k, k < n ∧ a = nI k := blw_of hn h
section CALLS2
variable {t : Nat} {w m : Wt}
/-- the reference's cells where a call throws nothing -/
theorem thr_e {m : Wt} {v u : Int32} (h : v = u) : upd2 m 0 45 v 0 45 = u := by rw [thr_at]; exact h
theorem cg0 {m : Wt} : kpW m (upd2 m 0 45 0) := thr_k
theorem q_strike (h : Inv t w m) (a1 : Int32) : ∃ res w' z m', f_Ballotscript_strike a1 w = some (res, w') ∧ m_strike a1 m = some (z, m') ∧ Inv (t + 1) w' m' ∧ Agr [0, 2] res z (m' 0 45) := by
  have hth := fun v => h.thr v
  obtain ⟨hA, hC, hG, nE, bn, rn, vn, hK, h5, hD, hE, hF⟩ := h.up (Nat.le_succ t)
  obtain ⟨k1, k2, k3⟩ := hK.1
  unfold f_Ballotscript_strike m_strike m_strike_b28
  rw [k2, f_within, blw_within a1 nE (by omega), bnd_eq, k3, m_below, bnd_eq]
  cases c1 : blw a1 (nI nE) with
  | false =>
    rw [if_pos (show tI false = 0 from rfl), if_pos (show tI false = 0 from rfl)]
    have hg := m_goes_eq false false true m
    refine ⟨_, _, _, _, rfl, (by unfold m_strike_b29; rw [show (0 : Int32) = tI false from rfl, show (1 : Int32) = tI true from rfl, hg]; rfl), hth _, Agr.l (by decide) ?_⟩
    exact thr_e (m := m) rfl
  | true =>
    obtain ⟨e, he, rfl⟩ := blw_n (by omega) c1
    have e2 : inb (nI e) 60 = true := nl_in (by omega) (by omega)
    have e3 : (nI e).toNatClampNeg = e := nl_cl (by omega)
    have h65 : w 6 e = m 5 e := by rw [hK.2.2.1.2.2.2.2]
    rw [if_neg (show ¬ tI true = 0 from by decide), if_neg (show ¬ tI true = 0 from by decide), e2, gd_t, gd_t, e3, h65]
    by_cases c2 : m 5 e = 0
    · rw [if_pos c2, if_pos c2]
      have hK0 : Core w (upd2 m 0 45 0) nE bn := hK.kpm thr_k
      have hK1 : Core (upd2 w 6 e 1) (upd2 (upd2 m 0 45 0) 5 e 1) nE bn := by
        obtain ⟨⟨g1, g2, g3⟩, ⟨g4, g5, g6⟩, ⟨f1, f2, f3, f4, f5⟩, ⟨d1, d2, d3⟩, d4⟩ := hK0
        have wn : ∀ i, i ≠ 6 → upd2 w 6 e 1 i = w i := fun i hi => upd2_n hi
        have mn : ∀ i, i ≠ 5 → upd2 (upd2 m 0 45 0) 5 e 1 i = upd2 m 0 45 0 i := fun i hi => upd2_n hi
        refine ⟨⟨g1, by rw [wn 1 (by decide)]; exact g2, by rw [mn 0 (by decide)]; exact g3⟩, ⟨g4, by rw [wn 13 (by decide)]; exact g5, by rw [mn 0 (by decide)]; exact g6⟩, ⟨?_, ?_, ?_, ?_, ?_⟩, ⟨?_, ?_, ?_⟩, fun b hb => ?_⟩
        · rw [wn 2 (by decide), mn 1 (by decide)]; exact f1
        · rw [wn 3 (by decide), mn 2 (by decide)]; exact f2
        · rw [wn 4 (by decide), mn 3 (by decide)]; exact f3
        · rw [wn 5 (by decide), mn 4 (by decide)]; exact f4
        · rw [upd2_s, upd2_s, f5]
        · rw [wn 14 (by decide), mn 19 (by decide)]; exact d1
        · rw [wn 16 (by decide), mn 20 (by decide)]; exact d2
        · rw [wn 17 (by decide), mn 21 (by decide)]; exact d3
        · rw [wn 15 (by decide), mn 9 (by decide), mn 19 (by decide)]; exact d4 b hb
      have hm9 : m_strike_b29 (nI e) (1 : Int32) (tI true) m = some (nI (cntS (fun b => decide (rsM (upd2 m 0 45 0) bn nE b = 0)) bn) - nI (cntS (fun b => decide (rsM (upd2 (upd2 m 0 45 0) 5 e 1) bn nE b = 0)) bn), upd2 (upd2 m 0 45 0) 5 e 1) := by
        unfold m_strike_b29
        rw [show m_goes (tI true) (1 : Int32) (1 : Int32) m = some (tI true, upd2 m 0 45 0) from goes_1 true m, bnd_eq]
        simp only [show ¬ tI true = 0 from by decide, ↓reduceIte, hK0.countM, bnd_eq, e2, gd_t, e3, nar_b1, nmd_eq, hK1.countM]
      refine ⟨_, upd2 w 6 e 1, _, _, ?_, hm9, ⟨hA.cg (by rw [upd2_n (by decide)]) (by rw [upd2_n (by decide), thr_z (by decide)]), hC.cg (by rw [upd2_n (by decide)]) (by rw [upd2_n (by decide)]) (by rw [upd2_n (by decide), thr_z (by decide)]) (by rw [upd2_n (by decide), thr_n (by decide)]), hG.cg (by rw [upd2_n (by decide)]) (by rw [upd2_n (by decide)]) (by rw [upd2_n (by decide), thr_z (by decide)]) (by rw [upd2_n (by decide), thr_n (by decide)]), nE, bn, rn, vn, hK1, fun k hk => ?_, hD.cg (by rw [upd2_n (by decide)]) (fun i h1 h2 => upd2_n (by omega)) (by rw [upd2_n (by decide), thr_z (by decide)]) (by rw [upd2_n (by decide), thr_n (by decide)]) (by rw [upd2_n (by decide), thr_n (by decide)]), hE.cg (by rw [upd2_n (by decide)]) (fun i h1 => upd2_n (by omega)) (by rw [upd2_n (by decide), thr_z (by decide)]) (fun i h1 h2 => by rw [upd2_n (by omega), thr_n (by omega)]), hF.cg (fun i h1 h2 => upd2_n (by omega)) (fun i h1 h2 => by rw [upd2_n (by omega), thr_n (by omega)])⟩, Agr.r ?_ rfl⟩
      · rw [hK0.countC, bnd_eq, gd_t, nar_b1, nmd_eq, hK1.countC, bnd_eq]
      · rw [upd2_at, if_pos rfl, if_neg (by omega), thr_n (by decide)]; exact h5 k hk
      · rw [upd2_n (by decide), thr_at]
    · rw [if_neg c2, if_neg c2]
      have hg := m_goes_eq true false true m
      refine ⟨_, _, _, _, rfl, (by unfold m_strike_b29; rw [show (0 : Int32) = tI false from rfl, show (1 : Int32) = tI true from rfl, hg]; rfl), hth _, Agr.l (by decide) ?_⟩
      exact thr_e (m := m) rfl
def tyB (x : Nat) : Bool := (decide (97 ≤ x) && decide (x ≤ 122)) || (dgN x || decide (x = 59 ∨ x = 40 ∨ x = 41))
theorem f_typ {x : Nat} (hx : x < 65536) : f_Ballotscript_isTypable (nI x) = some (tI (tyB x)) := by
  unfold f_Ballotscript_isTypable f_Ballotscript_isTypable_b12 tyB
  rw [f_digit hx]
  simp only [bnd_eq, tI0, qc_97 (show x < 2147483648 by omega), qa_122 (show x < 2147483648 by omega), qe_59 (show x < 2147483648 by omega), qe_40 (show x < 2147483648 by omega), qe_41 (show x < 2147483648 by omega)]
  by_cases c1 : x < 97
  · rw [if_pos c1, decide_eq_false (show ¬ 97 ≤ x by omega), Bool.false_and, Bool.false_or]
    cases hd : dgN x
    · by_cases c2 : x = 59
      · simp [c2, tI]
      · by_cases c3 : x = 40
        · simp [c3, tI]
        · by_cases c4 : x = 41
          · simp [c4, tI]
          · simp [c2, c3, c4, tI]
    · simp [tI]
  · rw [if_neg c1, decide_eq_true (show 97 ≤ x by omega), Bool.true_and]
    by_cases c5 : x ≤ 122
    · rw [if_pos c5, decide_eq_true c5, Bool.true_or]; rfl
    · rw [if_neg c5, decide_eq_false c5, Bool.false_or]
      cases hd : dgN x
      · simp [tI, show ¬ x = 59 by omega, show ¬ x = 40 by omega, show ¬ x = 41 by omega]
      · simp [tI]
theorem q_type (h : Inv t w m) {x : Nat} (hx : x < 65536) : ∃ res w' z m', f_Ballotscript_type (nI x) w = some (res, w') ∧ m_type (nI x) m = some (z, m') ∧ Inv (t + 1) w' m' ∧ Agr [1, 2] res z (m' 0 45) := by
  have hth := fun v => h.thr v
  obtain ⟨hA, hC, hG, hrest⟩ := h.up (Nat.le_succ t)
  have hC0 := hC
  obtain ⟨n, c1, c2, c3, c4, c5⟩ := hC
  have hm : m_type (nI x) m = m_type_b42 (nI x) (tI (tyB x)) m := by
    unfold m_type m_type_b12 m_type_b37
    rw [m_digit hx]
    simp only [bnd_eq, tI0, qc_97 (show x < 2147483648 by omega), qa_122 (show x < 2147483648 by omega), qe_59 (show x < 2147483648 by omega), qe_40 (show x < 2147483648 by omega), qe_41 (show x < 2147483648 by omega)]
    unfold tyB
    by_cases d1 : x < 97
    · rw [if_pos d1, decide_eq_false (show ¬ 97 ≤ x by omega), Bool.false_and, Bool.false_or]
      cases hd : dgN x
      · by_cases d2 : x = 59
        · simp [d2, tI]
        · by_cases d3 : x = 40
          · simp [d3, tI]
          · by_cases d4 : x = 41
            · simp [d4, tI]
            · simp [d2, d3, d4, tI]
      · simp [tI]
    · rw [if_neg d1, decide_eq_true (show 97 ≤ x by omega), Bool.true_and]
      by_cases d5 : x ≤ 122
      · rw [if_pos d5, decide_eq_true d5, Bool.true_or]; rfl
      · rw [if_neg d5, decide_eq_false d5, Bool.false_or]
        cases hd : dgN x
        · simp [tI, show ¬ x = 59 by omega, show ¬ x = 40 by omega, show ¬ x = 41 by omega]
        · simp [tI]
  rw [hm]
  unfold f_Ballotscript_type m_type_b42
  rw [f_typ hx, bnd_eq, c2, c3]
  simp only [qc_24 (show n < 2147483648 by omega), qb_24 (show n < 2147483648 by omega)]
  cases ht : tyB x with
  | false =>
    rw [if_pos (show tI false = 0 from rfl)]
    by_cases g : 24 ≤ n
    · rw [if_pos g]
      have hg := m_goes_eq false false true m
      refine ⟨_, _, _, _, rfl, (by unfold m_type_b59; rw [show (0 : Int32) = tI false from rfl, show (1 : Int32) = tI true from rfl, hg]; rfl), hth _, Agr.l (by decide) ?_⟩
      exact thr_e (m := m) rfl
    · rw [if_neg g]
      have hg := m_goes_eq false true true m
      refine ⟨_, _, _, _, rfl, (by unfold m_type_b59; rw [show (1 : Int32) = tI true from rfl, hg]; rfl), hth _, Agr.l (by decide) ?_⟩
      exact thr_e (m := m) rfl
  | true =>
    rw [if_neg (show ¬ tI true = 0 from by decide)]
    by_cases g : 24 ≤ n
    · rw [if_neg (by omega), if_pos g]
      have hg := m_goes_eq true false true m
      refine ⟨_, _, _, _, rfl, (by unfold m_type_b59; rw [show (0 : Int32) = tI false from rfl, show (1 : Int32) = tI true from rfl, hg]; rfl), hth _, Agr.l (by decide) ?_⟩
      exact thr_e (m := m) rfl
    · rw [if_pos (by omega), if_neg g]
      have e1 : ¬ (24 : Int32) ≤ nI n := by rw [qb_24 (by omega)]; omega
      have e2 : inb (nI n) 24 = true := nl_in (by omega) (by omega)
      have e3 : (nI n).toNatClampNeg = n := nl_cl (by omega)
      have hf : f_Text_add (nI x) w = some (nI (n + 1), upd2 (upd2 w 8 n (nI x)) 7 1 (nI (n + 1))) := by
        unfold f_Text_add
        simp only [c2, e1, e2, e3, gd_t, nmd_eq, nar_c hx, ↓reduceIte, upd2_at, show ¬ (7 : Nat) = 8 from by decide, nI_1]
      have hm9 : m_type_b59 (nI x) (1 : Int32) (tI true) m = some (nI (n + 1), upd2 (upd2 (upd2 m 0 45 0) 6 n (nI x)) 0 8 (nI (n + 1))) := by
        unfold m_type_b59
        rw [show m_goes (tI true) (1 : Int32) (1 : Int32) m = some (tI true, upd2 m 0 45 0) from goes_1 true m, bnd_eq]
        simp only [show ¬ tI true = 0 from by decide, ↓reduceIte, thr_z (show (8 : Nat) ≠ 45 by decide), c3, e2, e3, gd_t, nmd_eq, upd2_at, show ¬ (0 : Nat) = 6 from by decide, show ¬ (8 : Nat) = 45 from by decide, nI_1]
      rw [hf, bnd_eq]
      generalize hw9 : upd2 (upd2 w 8 n (nI x)) 7 1 (nI (n + 1)) = w9
      generalize hmm9 : upd2 (upd2 (upd2 m 0 45 0) 6 n (nI x)) 0 8 (nI (n + 1)) = m9
      rw [hmm9] at hm9
      have wn : ∀ i, i ≠ 7 → i ≠ 8 → w9 i = w i := fun i h1 h2 => by rw [← hw9, upd2_n h1, upd2_n h2]
      have mn : ∀ i, i ≠ 0 → i ≠ 6 → m9 i = m i := fun i h1 h2 => by rw [← hmm9, upd2_n h1, upd2_n h2, upd2_n h1]
      have mz : ∀ j, j ≠ 8 → j ≠ 45 → m9 0 j = m 0 j := fun j h1 h2 => by rw [← hmm9, upd2_at, if_pos rfl, if_neg h1, upd2_n (by decide), thr_z h2]
      obtain ⟨nE, bn, rn, vn, hK, h5, hD, hE, hF⟩ := hrest
      refine ⟨_, w9, _, m9, rfl, hm9, ⟨hA.cg (by rw [wn 0 (by omega) (by omega)]) (mz 0 (by decide) (by decide)), ⟨n + 1, by omega, ?_, ?_, ?_, fun k => ?_⟩, hG.cg (by rw [wn 11 (by omega) (by omega)]) (wn 12 (by omega) (by omega)) (mz 29 (by decide) (by decide)) (mn 23 (by omega) (by omega)), nE, bn, rn, vn, hK.cg (by rw [wn 1 (by omega) (by omega)]) (by rw [wn 13 (by omega) (by omega)]) (fun i hi => wn i (by omega) (by omega)) (mz 6 (by decide) (by decide)) (mz 27 (by decide) (by decide)) (fun i hi => mn i (by omega) (by omega)), fun k hk => by rw [mn 5 (by omega) (by omega)]; exact h5 k hk, hD.cg (by rw [wn 0 (by omega) (by omega)]) (fun i h1 h2 => wn i (by omega) (by omega)) (mz 11 (by decide) (by decide)) (mn 8 (by omega) (by omega)) (mn 7 (by omega) (by omega)), hE.cg (by rw [wn 0 (by omega) (by omega)]) (fun i h1 => wn i (by omega) (by omega)) (mz 20 (by decide) (by decide)) (fun i h1 h2 => mn i (by omega) (by omega)), hF.cg (fun i h1 h2 => wn i (by omega) (by omega)) (fun i h1 h2 => mn i (by omega) (by omega))⟩, Agr.r ?_ rfl⟩
      · rw [← hw9, upd2_at, if_pos rfl, if_pos rfl]
      · rw [← hmm9, upd2_at, if_pos rfl, if_pos rfl]
      · rw [← hw9, ← hmm9, upd2_n (by decide), upd2_s, upd2_n (by decide), upd2_s, thr_n (by decide), c4]
      · rw [← hmm9, upd2_n (by decide), upd2_at, if_pos rfl]
        by_cases g2 : k = n
        · rw [if_pos g2]; exact ⟨x, hx, rfl⟩
        · rw [if_neg g2, thr_n (by decide)]; exact c5 k
      · rw [← hmm9, upd2_at, if_pos rfl, if_neg (by decide), upd2_n (by decide), thr_at]
theorem q_wipe (h : Inv t w m) : ∃ z w' m', f_Ballotscript_wipe w = some (z, w') ∧ m_wipe m = some (z, m') ∧ Inv (t + 1) w' m' := by
  obtain ⟨hA, ⟨n, c1, c2, c3, c4, c5⟩, hG, nE, bn, rn, vn, hK, h5, hD, hE, hF⟩ := h.up (Nat.le_succ t)
  have hm : m_wipe m = some (nI n, upd2 (upd2 m 0 45 0) 0 8 0) := by
    unfold m_wipe
    simp only [nmd_eq, thr_z (show (8 : Nat) ≠ 45 by decide), c3]
  have wn : ∀ i, i ≠ 7 → upd2 w 7 1 0 i = w i := fun i h1 => upd2_n h1
  have mn : ∀ i, i ≠ 0 → upd2 (upd2 m 0 45 0) 0 8 0 i = m i := fun i h1 => by rw [upd2_n h1, upd2_n h1]
  have mz : ∀ j, j ≠ 8 → j ≠ 45 → upd2 (upd2 m 0 45 0) 0 8 0 0 j = m 0 j := fun j h1 h2 => by rw [upd2_at, if_pos rfl, if_neg h1, thr_z h2]
  refine ⟨nI n, upd2 w 7 1 0, _, by unfold f_Ballotscript_wipe; rw [nmd_eq, nmd_eq, c2], hm, ⟨hA.cg (by rw [wn 0 (by omega)]) (mz 0 (by decide) (by decide)), ⟨0, by omega, by rw [upd2_at, if_pos rfl, if_pos rfl]; rfl, by rw [upd2_at, if_pos rfl, if_pos rfl]; rfl, by rw [wn 8 (by omega), mn 6 (by omega)]; exact c4, fun k => by rw [mn 6 (by omega)]; exact c5 k⟩, hG.cg (by rw [wn 11 (by omega)]) (wn 12 (by omega)) (mz 29 (by decide) (by decide)) (mn 23 (by omega)), nE, bn, rn, vn, hK.cg (by rw [wn 1 (by omega)]) (by rw [wn 13 (by omega)]) (fun i hi => wn i (by omega)) (mz 6 (by decide) (by decide)) (mz 27 (by decide) (by decide)) (fun i hi => mn i (by omega)), fun k hk => by rw [mn 5 (by omega)]; exact h5 k hk, hD.cg (by rw [wn 0 (by omega)]) (fun i h1 h2 => wn i (by omega)) (mz 11 (by decide) (by decide)) (mn 8 (by omega)) (mn 7 (by omega)), hE.cg (by rw [wn 0 (by omega)]) (fun i h1 => wn i (by omega)) (mz 20 (by decide) (by decide)) (fun i h1 h2 => mn i (by omega)), hF.cg (fun i h1 h2 => wn i (by omega)) (fun i h1 h2 => mn i (by omega))⟩⟩
/-- the text, both sides -/
theorem InC.flt {w m m' : Wt} (h : InC w m) (k : kpW m m') : ∃ T len, (len ≤ 24 ∧ w 7 1 = nI len ∧ m' 0 8 = nI len) ∧ (∀ k, k < len → w 8 k = nI (T k) ∧ T k < 65536) ∧ (∀ k, k < len → m' 6 k = nI (T k)) ∧ f_Text_firstFault w = some (flt T len) ∧ m_faultOf m' = some (flt T len) := by
  obtain ⟨n, c1, c2, c3, c4, c5⟩ := h
  have h6 : m' 6 = m 6 := k.fn (by decide) (by decide)
  have hT : ∀ j, m 6 j = nI (m 6 j).toNatClampNeg ∧ (m 6 j).toNatClampNeg < 65536 := fun j => by
    obtain ⟨x, hx, e⟩ := c5 j
    rw [e, nl_cl (by omega)]
    exact ⟨rfl, hx⟩
  refine ⟨fun j => (m 6 j).toNatClampNeg, n, ⟨c1, c2, by rw [k.z (by decide)]; exact c3⟩, fun j _ => by rw [c4]; exact hT j, fun j _ => by rw [h6]; exact (hT j).1, f_fault c1 c2 (fun j _ => by rw [c4]; exact hT j), m_fault_eq c1 (by rw [k.z (by decide)]; exact c3) (fun j _ => by rw [h6]; exact hT j)⟩
theorem q_fault (h : Inv t w m) : ∃ z m', f_Ballotscript_fault w = some z ∧ m_fault m = some (z, m') ∧ Inv (t + 1) w m' := by
  obtain ⟨T, len, -, -, -, hf, hm⟩ := h.2.1.flt (m' := upd2 m 0 45 0) thr_k
  refine ⟨flt T len, upd2 m 0 45 0, ?_, ?_, h.thr 0⟩
  · unfold f_Ballotscript_fault; rw [hf]; rfl
  · unfold m_fault; rw [nmd_eq, hm]; rfl
theorem q_commands (h : Inv t w m) (a1 : Int32) : ∃ res z m', f_Ballotscript_commands a1 w = some res ∧ m_commands a1 m = some (z, m') ∧ Inv (t + 1) w m' ∧ Agr [0] res z (m' 0 45) := by
  have hth := fun v => h.thr v
  obtain ⟨hA, hC, hG, nE, bn, rn, vn, hK, h5, ⟨d1, d2, d3, d4⟩, hE, hF⟩ := h
  unfold f_Ballotscript_commands m_commands
  rw [d2, f_within, blw_within a1 rn (by omega), bnd_eq, d3, m_below, bnd_eq, goes_1, bnd_eq]
  cases c1 : blw a1 (nI rn) with
  | false => refine ⟨_, _, _, rfl, rfl, hth _, Agr.l (by decide) ?_⟩; exact thr_e (m := m) rfl
  | true =>
    obtain ⟨r, hr, rfl⟩ := blw_n (by omega) c1
    obtain ⟨T, len, ⟨g1, g2, g3⟩, g4, g5⟩ := d4 r hr
    have e2 : inb (nI r) 8 = true := nl_in (by omega) (by omega)
    have e3 : (nI r).toNatClampNeg = r := nl_cl (by omega)
    have hU : RuM (upd2 m 0 45 (thrN true true true)) r T len := ⟨by rw [thr_n (by decide)]; exact g5.1, fun j hj => by rw [thr_n (by decide)]; exact g5.2 j hj⟩
    rw [if_neg (show ¬ tI true = 0 from by decide), e2, gd_t, e3, g4.1.2.2]
    simp only [show ¬ tI true = 0 from by decide, ↓reduceIte, m_cmds (by omega) g1 hU g3, bnd_eq]
    refine ⟨_, _, _, rfl, rfl, hth _, Agr.r ?_ rfl⟩
    exact thr_e (m := m) rfl
theorem q_why (h : Inv t w m) (a1 : Int32) : ∃ res z m', f_Ballotscript_why a1 w = some res ∧ m_why a1 m = some (z, m') ∧ Inv (t + 1) w m' ∧ Agr [0] res z (m' 0 45) := by
  have hth := fun v => h.thr v
  obtain ⟨hA, hC, hG, nE, bn, rn, vn, hK, h5, hD, hE, hF⟩ := h
  obtain ⟨k1, k2, k3⟩ := hK.2.1
  unfold f_Ballotscript_why m_why
  rw [need_B k2 k1, bnd_eq, k3, m_below, bnd_eq, goes_1, bnd_eq]
  cases c1 : blw a1 (nI bn) with
  | false => refine ⟨_, _, _, rfl, rfl, hth _, Agr.l (by decide) ?_⟩; exact thr_e (m := m) rfl
  | true =>
    obtain ⟨b, hb, rfl⟩ := blw_n (by omega) c1
    have hK0 : Core w (upd2 m 0 45 (thrN true true true)) nE bn := hK.kpm thr_k
    rw [if_pos rfl]
    simp only [show ¬ tI true = 0 from by decide, ↓reduceIte, hK0.m hb, bnd_eq]
    refine ⟨.inr (nI (rsM (upd2 m 0 45 (thrN true true true)) bn nE b)), _, _, ?_, rfl, hth _, Agr.r ?_ rfl⟩
    · show Option.bind (f_Box_reasonOf (nI b) w) _ = _
      rw [hK0.f hb]; rfl
    · exact thr_e (m := m) rfl
theorem q_read (h : Inv t w m) (a1 a2 : Int32) : ∃ res z m', f_Ballotscript_read a1 a2 w = some res ∧ m_read a1 a2 m = some (z, m') ∧ Inv (t + 1) w m' ∧ Agr [0] res z (m' 0 45) := by
  have hth := fun v => h.thr v
  obtain ⟨hA, hC, hG, nE, bn, rn, vn, hK, h5, hD, hE, hF⟩ := h
  obtain ⟨k1, k2, k3⟩ := hK.2.1
  have b2 : wthn a2 0 5 = blw a2 6 := within_lit 6 5 (by omega) rfl
  have hm : m_read a1 a2 m = m_read_b26 a1 a2 (tI (blw a1 (nI bn) && blw a2 6)) m := by
    unfold m_read m_read_b25
    rw [k3]
    simp only [m_below, bnd_eq]
    cases blw a1 (nI bn) <;> cases blw a2 6 <;> rfl
  rw [hm]
  unfold f_Ballotscript_read m_read_b26
  rw [need_B k2 k1, bnd_eq, goes_1, bnd_eq]
  cases c1 : blw a1 (nI bn) with
  | false => refine ⟨_, _, _, rfl, rfl, hth _, Agr.l (by decide) ?_⟩; exact thr_e (m := m) rfl
  | true =>
    obtain ⟨b, hb, rfl⟩ := blw_n (by omega) c1
    rw [if_pos rfl, Bool.true_and]
    cases c2 : blw a2 6 with
    | false =>
      refine ⟨.inl 0, _, _, ?_, rfl, hth _, Agr.l (by decide) ?_⟩
      · show Option.bind (f_Ballotscript_isWithin a2 0 5) _ = _
        rw [f_within, b2, c2]; rfl
      · exact thr_e (m := m) rfl
    | true =>
      obtain ⟨p, hp, rfl⟩ := blw_n (n := 6) (by omega) c2
      have hB := hF.2.1 b hb
      obtain ⟨l1, l2, l3⟩ := hB.ln
      have e1 : inb (nI b) 100 = true := nl_in (by omega) (by omega)
      have e2 : (nI b).toNatClampNeg = b := nl_cl (by omega)
      have hF0 : InF w (upd2 m 0 45 (thrN true true true)) vn bn := hF.kp kpC.rfl' thr_k
      have hval : f_Box_candidateAt (nI b) (nI p) w = some (if p < lnF m b then nI (rdF m b p) else -1) := by
        by_cases c : p < lnF m b
        · rw [if_pos c]; exact read_C hF k1 hb c
        · rw [if_neg c]
          unfold f_Box_candidateAt
          rw [e1, gd_t, e2, hF.1.1, l3, if_neg (by rw [nl_lt (by omega) (by omega)]; exact c)]
      refine ⟨.inr (if p < lnF m b then nI (rdF m b p) else -1), (if p < lnF m b then nI (rdF m b p) else -1), upd2 m 0 45 (thrN true true true), ?_, ?_, hth _, Agr.r ?_ rfl⟩
      · show Option.bind (f_Ballotscript_isWithin (nI p) 0 5) _ = _
        rw [f_within, b2, c2, bnd_eq, if_neg (show ¬ tI true = 0 from by decide), hval]; rfl
      · simp only [show ¬ tI true = 0 from by decide, ↓reduceIte, e1, e2, gd_t, thr_n (show (18 : Nat) ≠ 0 by decide), l3, nl_le (show lnF m b < 2147483648 by omega) (show p < 2147483648 by omega)]
        by_cases c : p < lnF m b
        · rw [if_neg (show ¬ lnF m b ≤ p by omega), if_pos c]
          have := read_M hF0 k1 hb (p := p) (by rw [(rd_kp thr_k).2]; exact c)
          rw [this, bnd_eq, (rd_kp thr_k).1]
        · rw [if_pos (show lnF m b ≤ p by omega), if_neg c]
      · exact thr_e (m := m) rfl
theorem q_doubt (h : Inv t w m) (ht : t ≤ 100000) (a1 : Int32) : ∃ res z m', f_Ballotscript_doubt a1 w = some res ∧ m_doubt a1 m = some (z, m') ∧ Inv (t + 1) w m' ∧ Agr [0] res z (m' 0 45) := by
  have hth := fun v => h.thr v
  obtain ⟨hA, hC, hG, nE, bn, rn, vn, hK, h5, hD, ⟨⟨k1, k2, k3⟩, hE2, hE3, hE4⟩, hF⟩ := h
  unfold f_Ballotscript_doubt m_doubt
  rw [need_V k2 k1, bnd_eq, k3, m_below, bnd_eq, goes_1, bnd_eq]
  cases c1 : blw a1 (nI vn) with
  | false => refine ⟨_, _, _, rfl, rfl, hth _, Agr.l (by decide) ?_⟩; exact thr_e (m := m) rfl
  | true =>
    obtain ⟨v, hv, rfl⟩ := blw_n (by omega) c1
    have e1 : inb (nI v) 8 = true := nl_in (by omega) (by omega)
    have e2 : (nI v).toNatClampNeg = v := nl_cl (by omega)
    obtain ⟨-, ⟨-, q5, q6⟩, d, hd, hd2⟩ := hE2 v (by omega)
    have hf : (onX (.inr 0 : Nat ⊕ Int32) (fun k2 => some (.inl k2 : Nat ⊕ Int32)) (fun _ => gd (inb (nI v) 8) ((if (0 : Int32) < (w (64 + (nI v).toNatClampNeg) 5) then gd (inb (nI v) 8) (gd (inb (nI v) 8) (gd (nzb (w (64 + (nI v).toNatClampNeg) 5)) (some (.inr (((100 : Int32) * (w (64 + (nI v).toNatClampNeg) 6)) / (w (64 + (nI v).toNatClampNeg) 5)))))) else some (.inr (0 : Int32)))))) = some (.inr (if d = 0 then 0 else ((100 : Int32) * m 16 v) / nI d)) := by
      show gd _ _ = _
      simp only [e1, e2, gd_t, q5, q6, hd2, qd_0 (show d < 2147483648 by omega)]
      by_cases c : d = 0
      · rw [if_neg (by omega), if_pos c]
      · have : nzb (nI d) = true := by
          have hnz : ¬ nI d = 0 := by rw [qe_0 (show d < 2147483648 by omega)]; exact c
          unfold nzb; exact decide_eq_true hnz
        rw [if_pos (by omega), if_neg c, this, gd_t]
    refine ⟨.inr (if d = 0 then 0 else ((100 : Int32) * m 16 v) / nI d), (if d = 0 then 0 else ((100 : Int32) * m 16 v) / nI d), upd2 m 0 45 (thrN true true true), ?_, ?_, hth _, Agr.r ?_ rfl⟩
    · rw [if_pos rfl]; exact hf
    · simp only [show ¬ tI true = 0 from by decide, ↓reduceIte, e1, e2, gd_t, thr_n (show (15 : Nat) ≠ 0 by decide), thr_n (show (16 : Nat) ≠ 0 by decide), hd2, qe_0 (show d < 2147483648 by omega)]
      by_cases c : d = 0
      · rw [if_pos c, if_pos c]
      · have : nzb (nI d) = true := by
          have hnz : ¬ nI d = 0 := by rw [qe_0 (show d < 2147483648 by omega)]; exact c
          unfold nzb; exact decide_eq_true hnz
        rw [if_neg c, if_neg c, this, gd_t]
    · exact thr_e (m := m) rfl
theorem q_certified (h : Inv t w m) (a1 : Int32) : ∃ res z m', f_Ballotscript_certified a1 w = some res ∧ m_certified a1 m = some (z, m') ∧ Inv (t + 1) w m' ∧ Agr [0] res z (m' 0 45) := by
  have hth := fun v => h.thr v
  obtain ⟨hA, hC, hG, nE, bn, rn, vn, hK, h5, hD, ⟨⟨k1, k2, k3⟩, hE2, hE3, hE4⟩, hF⟩ := h
  unfold f_Ballotscript_certified m_certified
  rw [need_V k2 k1, bnd_eq, k3, m_below, bnd_eq, goes_1, bnd_eq]
  cases c1 : blw a1 (nI vn) with
  | false => refine ⟨_, _, _, rfl, rfl, hth _, Agr.l (by decide) ?_⟩; exact thr_e (m := m) rfl
  | true =>
    obtain ⟨v, hv, rfl⟩ := blw_n (by omega) c1
    have e1 : inb (nI v) 8 = true := nl_in (by omega) (by omega)
    have e2 : (nI v).toNatClampNeg = v := nl_cl (by omega)
    obtain ⟨c, s, r, -, -, q7, -⟩ := hE3 v hv
    rw [if_pos rfl]
    simp only [show ¬ tI true = 0 from by decide, ↓reduceIte, e1, e2, gd_t, thr_n (show (14 : Nat) ≠ 0 by decide)]
    refine ⟨.inr (w (64 + v) 7), _, _, ?_, rfl, hth _, Agr.r ?_ q7.symm⟩
    · rfl
    · exact thr_e (m := m) rfl
theorem q_misread (h : Inv t w m) (a1 : Int32) : ∃ res w' m', f_Ballotscript_misread a1 w = some (res, w') ∧ m_misread a1 m = some m' ∧ Inv (t + 1) w' m' ∧ Agr [0, 2] res 0 (m' 0 45) := by
  have hth := fun v => h.thr v
  obtain ⟨hA, hC, hG, nE, bn, rn, vn, hK, h5, hD, hE, hF⟩ := h.up (Nat.le_succ t)
  obtain ⟨k1, k2, k3⟩ := hK.2.1
  unfold f_Ballotscript_misread m_misread m_misread_b38 f_Ballotscript_misread_b30
  rw [need_B k2 k1, bnd_eq, k3, m_below, bnd_eq]
  cases c1 : blw a1 (nI bn) with
  | false =>
    rw [if_pos (show tI false = 0 from rfl)]
    have hg := m_goes_eq false false true m
    refine ⟨.inl 0, _, _, rfl, (by unfold m_misread_b39; rw [show (0 : Int32) = tI false from rfl, show (1 : Int32) = tI true from rfl, hg]; rfl), hth _, Agr.l (by decide) ?_⟩
    exact thr_e (m := m) rfl
  | true =>
    obtain ⟨b, hb, rfl⟩ := blw_n (by omega) c1
    have e1 : inb (nI b) 100 = true := nl_in (by omega) (by omega)
    have e2 : (nI b).toNatClampNeg = b := nl_cl (by omega)
    have hB := hF.2.1 b hb
    obtain ⟨l1, l2, l3⟩ := hB.ln
    rw [if_pos rfl, if_neg (show ¬ tI true = 0 from by decide)]
    have hfa : ∀ (F : Option ((Nat ⊕ Int32) × Wt)), (onX (.inr 0 : Nat ⊕ Int32) (fun k2 => some (.inl k2, w)) (fun _ => F)) = F := fun F => rfl
    rw [hfa]
    simp only [e1, e2, gd_t, hF.1.1, hF.1.2.2, l3, qb_2 (show lnF m b < 2147483648 by omega), qa_1 (show lnF m b < 2147483648 by omega)]
    by_cases c2 : m 22 b = 0
    · rw [if_pos c2, if_pos c2]
      by_cases c3 : 2 ≤ lnF m b
      · rw [if_pos c3, if_neg (show ¬ lnF m b ≤ 1 by omega), nar_b1, nmd_eq]
        have hm9 : m_misread_b39 (nI b) (1 : Int32) (tI true) m = some (upd2 (upd2 m 0 45 0) 22 b 1) := by
          unfold m_misread_b39
          rw [show m_goes (tI true) (1 : Int32) (1 : Int32) m = some (tI true, upd2 m 0 45 0) from goes_1 true m, bnd_eq]
          simp only [show ¬ tI true = 0 from by decide, ↓reduceIte, e1, e2, gd_t, nar_b1, nmd_eq]
        generalize hm8 : upd2 (upd2 m 0 45 0) 22 b 1 = m9 at hm9
        have wn : ∀ i, i ≠ 20 → upd2 w 20 b 1 i = w i := fun i h1 => upd2_n h1
        have mn : ∀ i, i ≠ 0 → i ≠ 22 → m9 i = m i := fun i h1 h2 => by rw [← hm8, upd2_n h2, upd2_n h1]
        have mz : ∀ j, j ≠ 45 → m9 0 j = m 0 j := fun j h2 => by rw [← hm8, upd2_n (by decide), thr_z h2]
        have m22 : ∀ k, m9 22 k = if k = b then 1 else m 22 k := fun k => by rw [← hm8, upd2_at, if_pos rfl, thr_n (by decide)]
        refine ⟨_, _, m9, rfl, hm9, ⟨hA.cg (by rw [wn 0 (by omega)]) (mz 0 (by decide)), hC.cg (by rw [wn 7 (by omega)]) (wn 8 (by omega)) (mz 8 (by decide)) (mn 6 (by omega) (by omega)), hG.cg (by rw [wn 11 (by omega)]) (wn 12 (by omega)) (mz 29 (by decide)) (mn 23 (by omega) (by omega)), nE, bn, rn, vn, hK.cg (by rw [wn 1 (by omega)]) (by rw [wn 13 (by omega)]) (fun i hi => wn i (by omega)) (mz 6 (by decide)) (mz 27 (by decide)) (fun i hi => mn i (by omega) (by omega)), fun k hk => by rw [mn 5 (by omega) (by omega)]; exact h5 k hk, hD.cg (by rw [wn 0 (by omega)]) (fun i h1 h2 => wn i (by omega)) (mz 11 (by decide)) (mn 8 (by omega) (by omega)) (mn 7 (by omega) (by omega)), hE.cg (by rw [wn 0 (by omega)]) (fun i h1 => wn i (by omega)) (mz 20 (by decide)) (fun i h1 h2 => mn i (by omega) (by omega)), ⟨⟨?_, ?_, ?_⟩, fun b' hb' => ?_, fun b' hb' => ?_⟩⟩, Agr.r ?_ rfl⟩
        · rw [wn 18 (by omega), mn 18 (by omega) (by omega)]; exact hF.1.1
        · rw [wn 19 (by omega), mn 17 (by omega) (by omega)]; exact hF.1.2.1
        · funext k
          rw [m22, upd2_at, if_pos rfl, hF.1.2.2]
        · obtain ⟨v, n, g1, g2, g3, g4, g6⟩ := hF.2.1 b' hb'
          refine ⟨v, n, by rw [mn 19 (by omega) (by omega)]; exact g1, by rw [mn 18 (by omega) (by omega)]; exact g2, by rw [mn 17 (by omega) (by omega)]; exact g3, by rw [mn 17 (by omega) (by omega)]; exact g4, ?_⟩
          rw [m22]
          by_cases g : b' = b
          · rw [if_pos g]
            right
            refine ⟨rfl, ?_⟩
            have : nI n = nI (lnF m b) := by rw [← g2.2.2, g, l3]
            have := (Iff.of_eq (nl_eq (show n < 2147483648 by omega) (show lnF m b < 2147483648 by omega))).mp this
            omega
          · rw [if_neg g]; exact g6
        · rw [m22, if_neg (by omega)]; exact hF.2.2 b' hb'
        · rw [← hm8, upd2_n (by decide), thr_at]
      · rw [if_neg c3, if_pos (show lnF m b ≤ 1 by omega)]
        have hg := m_goes_eq true false true m
        refine ⟨_, _, _, rfl, (by unfold m_misread_b39; rw [show (0 : Int32) = tI false from rfl, show (1 : Int32) = tI true from rfl, hg]; rfl), hth _, Agr.l (by decide) ?_⟩
        exact thr_e (m := m) rfl
    · rw [if_neg c2, if_neg c2]
      have hg := m_goes_eq true false true m
      refine ⟨_, _, _, rfl, (by unfold m_misread_b39; rw [show (0 : Int32) = tI false from rfl, show (1 : Int32) = tI true from rfl, hg]; rfl), hth _, Agr.l (by decide) ?_⟩
      exact thr_e (m := m) rfl
end CALLS2

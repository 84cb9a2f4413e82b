/-! THE CALLS: each is answered alike, and what the two sides share stays -/
def Agr (L : List Nat) (res : Nat ⊕ Int32) (z th : Int32) : Prop := (∀ k, res = .inl k → k ∈ L) ∧ th = cdX L res ∧ ∀ v, res = .inr v → z = v
theorem Agr.l {L : List Nat} {k : Nat} {z th : Int32} (h1 : k ∈ L) (h2 : th = nI (cdN L k 1)) : Agr L (.inl k) z th := ⟨fun j e => (by rw [← Sum.inl.inj e]; exact h1), h2, fun v e => (by cases e)⟩
theorem Agr.r {L : List Nat} {v z th : Int32} (h1 : th = 0) (h2 : z = v) : Agr L (.inr v) z th := ⟨fun j e => (by cases e), h1, fun u e => (by rw [← Sum.inr.inj e]; exact h2)⟩
theorem thr_at {m : Wt} {v : Int32} : upd2 m 0 45 v 0 45 = v := by rw [upd2_at, if_pos rfl, if_pos rfl]
theorem thr_z {m : Wt} {v : Int32} {j : Nat} (h : j ≠ 45) : upd2 m 0 45 v 0 j = m 0 j := by rw [upd2_at, if_pos rfl, if_neg h]
theorem thr_n {m : Wt} {v : Int32} {i : Nat} (h : i ≠ 0) : upd2 m 0 45 v i = m i := upd2_n h
theorem thr_k {m : Wt} {v : Int32} : kpW m (upd2 m 0 45 v) := kpW.up rfl
theorem Inv.thr {t : Nat} {w m : Wt} (h : Inv t w m) (v : Int32) : Inv (t + 1) w (upd2 m 0 45 v) := (h.up (Nat.le_succ t)).kp kpC.rfl' thr_k
theorem goes_1 (a : Bool) (m : Wt) : m_goes (tI a) (1 : Int32) (1 : Int32) m = some (tI a, upd2 m 0 45 (thrN a true true)) := by
  have h := m_goes_eq a true true m
  rw [Bool.and_true, Bool.and_true] at h
  exact h
theorem goes_2 (a b : Bool) (m : Wt) : m_goes (tI a) (tI b) (1 : Int32) m = some (tI (a && b), upd2 m 0 45 (thrN a b true)) := by
  have h := m_goes_eq a b true m
  rw [Bool.and_true] at h
  exact h
theorem within_lit {a : Int32} (n : Nat) (k : Int32) (hn : n < 2147483648) (hk : nI n - 1 = k) : wthn a 0 k = blw a (nI n) := by rw [← hk]; exact blw_within a n hn
theorem need_V {w : Wt} {vn : Nat} (h : w 0 10 = nI vn) (hvn : vn ≤ 8) (a : Int32) : f_Ballotscript_needVote a w = some (if blw a (nI vn) = true then .inr 0 else .inl 0) := by
  unfold f_Ballotscript_needVote
  rw [f_within, h, blw_within a vn (by omega), bnd_eq]
  cases blw a (nI vn) <;> rfl
theorem need_B {w : Wt} {bn : Nat} (h : w 13 8 = nI bn) (hbn : bn ≤ 100) (a : Int32) : f_Ballotscript_needBallot a w = some (if blw a (nI bn) = true then .inr 0 else .inl 0) := by
  unfold f_Ballotscript_needBallot
  rw [f_within, h, blw_within a bn (by omega), bnd_eq]
  cases blw a (nI bn) <;> rfl
/-! what each piece rests on -/
theorem InA.cg {w w' m m' : Wt} (h : InA w m) (a : w' 0 8 = w 0 8) (b : m' 0 0 = m 0 0) : InA w' m' := by unfold InA; rw [a, b]; exact h
theorem InC.cg {w w' m m' : Wt} (h : InC w m) (a : w' 7 1 = w 7 1) (b : w' 8 = w 8) (c : m' 0 8 = m 0 8) (d : m' 6 = m 6) : InC w' m' := by unfold InC; rw [a, b, c, d]; exact h
theorem InG.cg {w w' m m' : Wt} (h : InG w m) (a : w' 11 1 = w 11 1) (b : w' 12 = w 12) (c : m' 0 29 = m 0 29) (d : m' 23 = m 23) : InG w' m' := by unfold InG; rw [a, b, c, d]; exact h
theorem InR.cg {w w' m m' : Wt} {r : Nat} (h : InR w m r) (a1 : w' (32 + r) = w (32 + r)) (a2 : w' (40 + r) = w (40 + r)) (a3 : w' (48 + r) = w (48 + r)) (a4 : w' (56 + r) = w (56 + r)) (b : m' 8 r = m 8 r) (c : ∀ j, j < 24 → m' 7 (24 * r + j) = m 7 (24 * r + j)) : InR w' m' r := by
  obtain ⟨T, len, h1, h2, h3⟩ := h
  refine ⟨T, len, h1, ?_, ?_, fun j hj => ?_⟩
  · unfold RuC; rw [a1, a2, a3, a4]; exact h2
  · rw [b]; exact h3.1
  · rw [c j (by omega)]; exact h3.2 j hj
theorem InD.cg {w w' m m' : Wt} {rn : Nat} (h : InD w m rn) (a0 : w' 0 9 = w 0 9) (a : ∀ i, 32 ≤ i → i < 64 → w' i = w i) (b0 : m' 0 11 = m 0 11) (b : m' 8 = m 8) (c : m' 7 = m 7) : InD w' m' rn := by
  obtain ⟨h1, h2, h3, h4⟩ := h
  exact ⟨h1, by rw [a0]; exact h2, by rw [b0]; exact h3, fun r hr => (h4 r hr).cg (a _ (by omega) (by omega)) (a _ (by omega) (by omega)) (a _ (by omega) (by omega)) (a _ (by omega) (by omega)) (by rw [b]) (fun j _ => by rw [c])⟩
theorem InV.cg {w w' m m' : Wt} {t v : Nat} (h : InV w m t v) (a : w' (64 + v) = w (64 + v)) (b : ∀ i, 9 ≤ i → i ≤ 16 → m' i = m i) : InV w' m' t v := by
  unfold InV
  rw [a, b 9 (by omega) (by omega), b 10 (by omega) (by omega), b 11 (by omega) (by omega), b 12 (by omega) (by omega), b 13 (by omega) (by omega), b 15 (by omega) (by omega), b 16 (by omega) (by omega)]
  exact h
theorem InW.cg {w w' m m' : Wt} {rn v : Nat} (h : InW w m rn v) (a : w' (64 + v) = w (64 + v)) (b : ∀ i, 9 ≤ i → i ≤ 16 → m' i = m i) : InW w' m' rn v := by
  unfold InW
  rw [a, b 10 (by omega) (by omega), b 11 (by omega) (by omega), b 12 (by omega) (by omega), b 14 (by omega) (by omega)]
  exact h
theorem InE.cg {w w' m m' : Wt} {t rn vn : Nat} (h : InE w m t rn vn) (a0 : w' 0 10 = w 0 10) (a : ∀ i, 64 ≤ i → w' i = w i) (b0 : m' 0 20 = m 0 20) (b : ∀ i, 9 ≤ i → i ≤ 16 → m' i = m i) : InE w' m' t rn vn := by
  obtain ⟨⟨h1, h2, h3⟩, h4, h5, h6⟩ := h
  exact ⟨⟨h1, by rw [a0]; exact h2, by rw [b0]; exact h3⟩, fun v hv => (h4 v hv).cg (a _ (by omega)) b, fun v hv => (h5 v hv).cg (a _ (by omega)) b, fun v g1 g2 => by rw [a _ (by omega)]; exact h6 v g1 g2⟩
theorem InE.up1 {w m : Wt} {t rn vn : Nat} (h : InE w m t rn vn) : InE w m (t + 1) rn vn := by
  obtain ⟨h4, h5, h6, h7⟩ := h
  refine ⟨h4, fun v hv => ?_, h6, h7⟩
  obtain ⟨q1, q2, d, q3, q4⟩ := h5 v hv
  exact ⟨q1, q2, d, by omega, q4⟩
theorem InF.cg {w w' m m' : Wt} {vn bn : Nat} (h : InF w m vn bn) (a : ∀ i, 18 ≤ i → i ≤ 20 → w' i = w i) (b : ∀ i, 17 ≤ i → i ≤ 22 → m' i = m i) : InF w' m' vn bn := by
  unfold InF InB
  rw [a 18 (by omega) (by omega), a 19 (by omega) (by omega), a 20 (by omega) (by omega), b 17 (by omega) (by omega), b 18 (by omega) (by omega), b 19 (by omega) (by omega), b 22 (by omega) (by omega)]
  exact h
theorem Core.cg {w w' m m' : Wt} {nE bn : Nat} (h : Core w m nE bn) (a1 : w' 1 5 = w 1 5) (a2 : w' 13 8 = w 13 8) (a : ∀ i, (2 ≤ i ∧ i ≤ 6) ∨ (14 ≤ i ∧ i ≤ 17) → w' i = w i) (b1 : m' 0 6 = m 0 6) (b2 : m' 0 27 = m 0 27) (b : ∀ i, (1 ≤ i ∧ i ≤ 5) ∨ i = 9 ∨ (19 ≤ i ∧ i ≤ 21) → m' i = m i) : Core w' m' nE bn := by
  unfold Core
  rw [a1, a2, a 2 (by omega), a 3 (by omega), a 4 (by omega), a 5 (by omega), a 6 (by omega), a 14 (by omega), a 15 (by omega), a 16 (by omega), a 17 (by omega), b1, b2, b 1 (by omega), b 2 (by omega), b 3 (by omega), b 4 (by omega), b 5 (by omega), b 9 (by omega), b 19 (by omega), b 20 (by omega), b 21 (by omega)]
  exact h
section CALLS1
variable {t : Nat} {w m : Wt}
theorem q_enter (h : Inv t w m) (a1 a2 a3 a4 : Int32) : ∃ res w' z m', f_Ballotscript_enter a1 a2 a3 a4 w = some (res, w') ∧ m_enter a1 a2 a3 a4 m = some (z, m') ∧ Inv (t + 1) w' m' ∧ Agr [0, 1, 2] res z (m' 0 45) := by
  have hth := fun v => h.thr v
  obtain ⟨hA, hC, hG, nE, bn, rn, vn, hK, h5, hD, hE, hF⟩ := h
  obtain ⟨k1, k2, k3⟩ := hK.1
  have b1 : wthn a1 0 2 = blw a1 3 := within_lit 3 2 (by omega) rfl
  have b2 : wthn a2 0 19 = blw a2 20 := within_lit 20 19 (by omega) rfl
  -- the reference, told short
  have hm : m_enter a1 a2 a3 a4 m = m_enter_b69 a1 a2 a3 a4 (tI (decide (nE < 60))) (tI (wthn a3 0 1000 && wthn a4 a3 1000)) (tI (blw a1 3 && blw a2 20)) m := by
    unfold m_enter m_enter_b27 m_enter_b28 m_enter_b52 m_enter_b53
    simp only [m_within, m_below, bnd_eq, k3, qb_60 (show nE < 2147483648 by omega)]
    by_cases c : 60 ≤ nE
    · rw [decide_eq_false (show ¬ nE < 60 by omega)]
      simp only [c, ↓reduceIte]
      cases wthn a3 0 1000 <;> cases wthn a4 a3 1000 <;> cases blw a1 3 <;> cases blw a2 20 <;> rfl
    · rw [decide_eq_true (show nE < 60 by omega)]
      simp only [c, ↓reduceIte]
      cases wthn a3 0 1000 <;> cases wthn a4 a3 1000 <;> cases blw a1 3 <;> cases blw a2 20 <;> rfl
  have hm2 : ∀ a b c, (a && b && c) = false → m_enter_b69 a1 a2 a3 a4 (tI c) (tI b) (tI a) m = some (0, upd2 m 0 45 (thrN a b c)) := by
    intro a b c hf
    unfold m_enter_b69
    rw [m_goes_eq, bnd_eq, hf]
    rfl
  rw [hm]
  unfold f_Ballotscript_enter
  rw [f_within, bnd_eq, b1]
  cases c1 : blw a1 3 with
  | false =>
    refine ⟨_, _, _, _, rfl, hm2 _ _ _ rfl, hth _, Agr.l (by decide) ?_⟩
    rw [thr_at]; rfl
  | true =>
    rw [if_neg (by decide), f_within, bnd_eq, b2]
    cases c2 : blw a2 20 with
    | false =>
      refine ⟨_, _, _, _, rfl, hm2 _ _ _ rfl, hth _, Agr.l (by decide) ?_⟩
      rw [thr_at]; rfl
    | true =>
      rw [if_neg (by decide), f_within, bnd_eq]
      cases c3 : wthn a3 0 1000 with
      | false =>
        refine ⟨_, _, _, _, rfl, hm2 _ _ _ rfl, hth _, Agr.l (by decide) ?_⟩
        rw [thr_at]; rfl
      | true =>
        rw [if_neg (by decide), f_within, bnd_eq]
        cases c4 : wthn a4 a3 1000 with
        | false =>
          refine ⟨_, _, _, _, rfl, hm2 _ _ _ rfl, hth _, Agr.l (by decide) ?_⟩
          rw [thr_at]; rfl
        | true =>
          rw [if_neg (by decide), k2]
          simp only [qc_60 (show nE < 2147483648 by omega)]
          by_cases c5 : nE < 60
          · have e1 : ¬ (60 : Int32) ≤ nI nE := by rw [qb_60 (by omega)]; omega
            have e2 : inb (nI nE) 60 = true := nl_in (by omega) (by omega)
            have e3 : (nI nE).toNatClampNeg = nE := nl_cl (by omega)
            rw [if_pos c5, decide_eq_true c5]
            have hf : f_Rolls_add a1 a2 a3 a4 w = some (nI nE, upd2 (upd2 (upd2 (upd2 (upd2 w 2 nE a1) 3 nE a2) 4 nE a3) 5 nE a4) 1 5 (nI (nE + 1))) := by
              unfold f_Rolls_add
              have z1 : ∀ i v, i ≠ 1 → upd2 w i nE v 1 = w 1 := fun i v hi => upd2_n (Ne.symm hi)
              simp only [k2, e1, e2, e3, gd_t, nmd_eq, ↓reduceIte, upd2_at, show ¬ (1 : Nat) = 2 from by decide, show ¬ (1 : Nat) = 3 from by decide, show ¬ (1 : Nat) = 4 from by decide, show ¬ (1 : Nat) = 5 from by decide, nI_1, nI_pred]
            have hm3 : m_enter_b69 a1 a2 a3 a4 (tI true) (tI (true && true)) (tI (true && true)) m = some (nI nE, upd2 (upd2 (upd2 (upd2 (upd2 (upd2 (upd2 m 0 45 0) 1 nE a1) 2 nE a2) 3 nE a3) 4 nE a4) 5 nE 0) 0 6 (nI (nE + 1))) := by
              unfold m_enter_b69
              rw [m_goes_eq, bnd_eq]
              simp only [Bool.and_self, show ¬ tI true = 0 from by decide, ↓reduceIte, thr_z (show (6 : Nat) ≠ 45 by decide), k3, e2, e3, gd_t, nmd_eq, upd2_at, show ¬ (0 : Nat) = 1 from by decide, show ¬ (0 : Nat) = 2 from by decide, show ¬ (0 : Nat) = 3 from by decide, show ¬ (0 : Nat) = 4 from by decide, show ¬ (0 : Nat) = 5 from by decide, show ¬ (6 : Nat) = 45 from by decide, nar_b0, nI_1, nI_pred]
              rfl
            rw [hf, bnd_eq]
            generalize hw9 : upd2 (upd2 (upd2 (upd2 (upd2 w 2 nE a1) 3 nE a2) 4 nE a3) 5 nE a4) 1 5 (nI (nE + 1)) = w9
            generalize hm9 : upd2 (upd2 (upd2 (upd2 (upd2 (upd2 (upd2 m 0 45 0) 1 nE a1) 2 nE a2) 3 nE a3) 4 nE a4) 5 nE 0) 0 6 (nI (nE + 1)) = m9
            rw [hm9] at hm3
            have wn : ∀ i, i = 0 ∨ 6 ≤ i → w9 i = w i := fun i hi => by rw [← hw9, upd2_n (by omega), upd2_n (by omega), upd2_n (by omega), upd2_n (by omega), upd2_n (by omega)]
            have mn : ∀ i, 6 ≤ i → m9 i = m i := fun i hi => by rw [← hm9, upd2_n (by omega), upd2_n (by omega), upd2_n (by omega), upd2_n (by omega), upd2_n (by omega), upd2_n (by omega), upd2_n (by omega)]
            have mz : ∀ j, j ≠ 6 → j ≠ 45 → m9 0 j = m 0 j := fun j h1 h2 => by rw [← hm9, upd2_at, if_pos rfl, if_neg h1, upd2_n (by decide), upd2_n (by decide), upd2_n (by decide), upd2_n (by decide), upd2_n (by decide), thr_z h2]
            have hm5 : m9 5 = m 5 := by
              rw [← hm9, upd2_n (by decide)]
              funext k
              rw [upd2_at, if_pos rfl]
              by_cases g : k = nE
              · rw [if_pos g, g]; exact (h5 nE (Nat.le_refl _)).symm
              · rw [if_neg g, upd2_n (by decide), upd2_n (by decide), upd2_n (by decide), upd2_n (by decide), upd2_n (by decide)]
            refine ⟨_, w9, _, m9, rfl, hm3, ⟨hA.cg (by rw [wn 0 (by omega)]) (mz 0 (by decide) (by decide)), hC.cg (by rw [wn 7 (by omega)]) (wn 8 (by omega)) (mz 8 (by decide) (by decide)) (mn 6 (by omega)), hG.cg (by rw [wn 11 (by omega)]) (wn 12 (by omega)) (mz 29 (by decide) (by decide)) (mn 23 (by omega)), nE + 1, bn, rn, vn, ?_, fun k hk => by rw [hm5]; exact h5 k (by omega), hD.cg (by rw [wn 0 (by omega)]) (fun i h1 h2 => wn i (by omega)) (mz 11 (by decide) (by decide)) (mn 8 (by omega)) (mn 7 (by omega)), (hE.cg (by rw [wn 0 (by omega)]) (fun i h1 => wn i (by omega)) (mz 20 (by decide) (by decide)) (fun i h1 h2 => mn i (by omega))).up1, hF.cg (fun i h1 h2 => wn i (by omega)) (fun i h1 h2 => mn i (by omega))⟩, Agr.r ?_ rfl⟩
            · obtain ⟨⟨g1, g2, g3⟩, ⟨g4, g5, g6⟩, ⟨f1, f2, f3, f4, f5⟩, ⟨d1, d2, d3⟩, d4⟩ := hK
              refine ⟨⟨by omega, ?_, ?_⟩, ⟨g4, ?_, ?_⟩, ⟨?_, ?_, ?_, ?_, ?_⟩, ⟨?_, ?_, ?_⟩, fun b hb => ?_⟩
              · rw [← hw9, upd2_at, if_pos rfl, if_pos rfl]
              · rw [← hm9, upd2_at, if_pos rfl, if_pos rfl]
              · rw [wn 13 (by omega)]; exact g5
              · rw [mz 27 (by decide) (by decide)]; exact g6
              · rw [← hw9, ← hm9, upd2_n (by decide), upd2_n (by decide), upd2_n (by decide), upd2_n (by decide), upd2_s, upd2_n (by decide), upd2_n (by decide), upd2_n (by decide), upd2_n (by decide), upd2_n (by decide), upd2_s, thr_n (by decide), f1]
              · rw [← hw9, ← hm9, upd2_n (by decide), upd2_n (by decide), upd2_n (by decide), upd2_s, upd2_n (by decide), upd2_n (by decide), upd2_n (by decide), upd2_n (by decide), upd2_n (by decide), upd2_s, upd2_n (by decide), thr_n (by decide), f2]
              · rw [← hw9, ← hm9, upd2_n (by decide), upd2_n (by decide), upd2_s, upd2_n (by decide), upd2_n (by decide), upd2_n (by decide), upd2_n (by decide), upd2_n (by decide), upd2_s, upd2_n (by decide), upd2_n (by decide), thr_n (by decide), f3]
              · rw [← hw9, ← hm9, upd2_n (by decide), upd2_s, upd2_n (by decide), upd2_n (by decide), upd2_n (by decide), upd2_n (by decide), upd2_n (by decide), upd2_s, upd2_n (by decide), upd2_n (by decide), upd2_n (by decide), thr_n (by decide), f4]
              · rw [hm5, wn 6 (by omega)]; exact f5
              · rw [wn 14 (by omega), mn 19 (by omega)]; exact d1
              · rw [wn 16 (by omega), mn 20 (by omega)]; exact d2
              · rw [wn 17 (by omega), mn 21 (by omega)]; exact d3
              · rw [wn 15 (by omega), mn 9 (by omega), mn 19 (by omega)]; exact d4 b hb
            · rw [← hm9, upd2_at, if_pos rfl, if_neg (by decide), upd2_n (by decide), upd2_n (by decide), upd2_n (by decide), upd2_n (by decide), upd2_n (by decide), thr_at]
          · rw [if_neg c5, decide_eq_false c5]
            refine ⟨_, _, _, _, rfl, hm2 _ _ _ rfl, hth _, Agr.l (by decide) ?_⟩
            rw [thr_at]; rfl
theorem q_isAllowed (h : Inv t w m) (a1 a2 a3 : Int32) : ∃ res z m', f_Ballotscript_isAllowed a1 a2 a3 w = some res ∧ m_isAllowed a1 a2 a3 m = some (z, m') ∧ Inv (t + 1) w m' ∧ Agr [0, 1] res z (m' 0 45) := by
  have hth := fun v => h.thr v
  obtain ⟨hA, hC, hG, nE, bn, rn, vn, hK, h5, hD, hE, hF⟩ := h
  have b1 : wthn a1 0 2 = blw a1 3 := within_lit 3 2 (by omega) rfl
  have b2 : wthn a2 0 19 = blw a2 20 := within_lit 20 19 (by omega) rfl
  have hm : m_isAllowed a1 a2 a3 m = m_isAllowed_b23 a1 a2 a3 (tI (blw a1 3 && blw a2 20)) m := by
    unfold m_isAllowed m_isAllowed_b22
    simp only [m_below, bnd_eq]
    cases blw a1 3 <;> cases blw a2 20 <;> rfl
  have hm1 : ∀ a, m_isAllowed_b23 a1 a2 a3 (tI a) m = if (a && wthn a3 0 1000) = true then some (tI (anyB (enM m a1 a2 a3) nE), upd2 m 0 45 (thrN a (wthn a3 0 1000) true)) else some (0, upd2 m 0 45 (thrN a (wthn a3 0 1000) true)) := by
    intro a
    unfold m_isAllowed_b23
    rw [m_within, bnd_eq, goes_2, bnd_eq]
    cases hc : (a && wthn a3 0 1000)
    · rfl
    · have hal : m_allowed a1 a2 a3 (upd2 m 0 45 (thrN a (wthn a3 0 1000) true)) = some (tI (anyB (enM m a1 a2 a3) nE)) := by
        rw [m_allows hK.1.1 (by rw [thr_z (by decide)]; exact hK.1.2.2)]
        rfl
      simp only [show ¬ tI true = 0 from by decide, ↓reduceIte, hal, bnd_eq]
      cases anyB (enM m a1 a2 a3) nE <;> rfl
  rw [hm, hm1]
  unfold f_Ballotscript_isAllowed
  rw [f_within, bnd_eq, b1]
  cases c1 : blw a1 3 with
  | false =>
    refine ⟨_, _, _, rfl, rfl, hth _, Agr.l (by decide) ?_⟩
    rw [thr_at]; rfl
  | true =>
    rw [if_neg (by decide), f_within, bnd_eq, b2]
    cases c2 : blw a2 20 with
    | false =>
      refine ⟨_, _, _, rfl, rfl, hth _, Agr.l (by decide) ?_⟩
      rw [thr_at]; rfl
    | true =>
      rw [if_neg (by decide), f_within, bnd_eq]
      cases c3 : wthn a3 0 1000 with
      | false =>
        refine ⟨_, _, _, rfl, rfl, hth _, Agr.l (by decide) ?_⟩
        rw [thr_at]; rfl
      | true =>
        rw [if_neg (by decide), f_allows hK.1.1 hK.1.2.1, bnd_eq, tI_bob, gd_t, hK.en]
        refine ⟨_, _, _, rfl, rfl, hth _, Agr.r ?_ rfl⟩
        rw [thr_at]; rfl
theorem q_pass (h : Inv t w m) (a1 : Int32) : ∃ res w' z m', f_Ballotscript_pass a1 w = some (res, w') ∧ m_pass a1 m = some (z, m') ∧ Inv (t + 1) w' m' ∧ Agr [1, 2] res z (m' 0 45) := by
  have hth := fun v => h.thr v
  have h0 := h.up (Nat.le_succ t)
  obtain ⟨hA, hrest⟩ := h0
  obtain ⟨td, h1, h2, h3⟩ := hA
  unfold f_Ballotscript_pass m_pass m_pass_b30 m_pass_b31
  rw [f_within, m_within, bnd_eq, bnd_eq]
  cases c1 : wthn a1 1 100 with
  | false =>
    rw [if_pos (show tI false = 0 from rfl), if_pos (show tI false = 0 from rfl)]
    have hg := m_goes_eq false false true m
    refine ⟨_, _, _, _, rfl, (by rw [show (0 : Int32) = tI false from rfl, show (1 : Int32) = tI true from rfl, hg]; rfl), hth _, Agr.l (by decide) ?_⟩
    rw [thr_at]; rfl
  | true =>
    rw [if_neg (show ¬ tI true = 0 from by decide), if_neg (show ¬ tI true = 0 from by decide), h2, h3]
    by_cases c2 : nI td + a1 ≤ (1000 : Int32)
    · rw [if_pos c2, if_neg (Int32.not_lt.mpr c2)]
      have hg := goes_2 true true m
      have hdd : ∃ d, nI td + a1 = nI d ∧ d ≤ 1000 := by
        unfold wthn at c1
        simp only [Bool.and_eq_true, decide_eq_true_eq] at c1
        obtain ⟨q1, q2⟩ := c1
        obtain ⟨d, hd1, rfl⟩ := nl_of (x := a1) (by rw [ile]; rw [ilt] at q1; have : (1 : Int32).toInt = 1 := rfl; have : (0 : Int32).toInt = 0 := rfl; omega)
        have q3 : ¬ 100 < d := by rw [qd_100 hd1] at q2; exact q2
        refine ⟨td + d, nI_add _ _, ?_⟩
        rw [nI_add, qa_1000 (by omega)] at c2
        exact c2
      obtain ⟨d, hd, hd2⟩ := hdd
      have hm9 : m_pass_b31 a1 (1 : Int32) (tI true) m = some (nI d, upd2 (upd2 m 0 45 0) 0 0 (nI d)) := by
        unfold m_pass_b31
        rw [show m_goes (tI true) (1 : Int32) (1 : Int32) m = some (tI true, upd2 m 0 45 0) from goes_1 true m, bnd_eq]
        simp only [show ¬ tI true = 0 from by decide, ↓reduceIte, nmd_eq, thr_z (show (0 : Nat) ≠ 45 by decide), h3, hd]
        rfl
      refine ⟨.inr (nI d), upd2 w 0 8 (nI d), nI d, _, ?_, hm9, ⟨⟨d, hd2, ?_, ?_⟩, ?_⟩, Agr.r ?_ rfl⟩
      · rw [nmd_eq, hd]; rfl
      · rw [upd2_at, if_pos rfl, if_pos rfl]
      · rw [upd2_at, if_pos rfl, if_pos rfl]
      · obtain ⟨hC, hG, nE, bn, rn, vn, hK, h5, hD, hE, hF⟩ := hrest
        have wn : ∀ i, i ≠ 0 → upd2 w 0 8 (nI d) i = w i := fun i hi => upd2_n hi
        have wz : ∀ j, j ≠ 8 → upd2 w 0 8 (nI d) 0 j = w 0 j := fun j hj => by rw [upd2_at, if_pos rfl, if_neg hj]
        have mn : ∀ i, i ≠ 0 → upd2 (upd2 m 0 45 0) 0 0 (nI d) i = m i := fun i hi => by rw [upd2_n hi, upd2_n hi]
        have mz : ∀ j, j ≠ 0 → j ≠ 45 → upd2 (upd2 m 0 45 0) 0 0 (nI d) 0 j = m 0 j := fun j h1 h2 => by rw [upd2_at, if_pos rfl, if_neg h1, thr_z h2]
        exact ⟨hC.cg (by rw [wn 7 (by omega)]) (wn 8 (by omega)) (mz 8 (by decide) (by decide)) (mn 6 (by omega)), hG.cg (by rw [wn 11 (by omega)]) (wn 12 (by omega)) (mz 29 (by decide) (by decide)) (mn 23 (by omega)), nE, bn, rn, vn, hK.cg (by rw [wn 1 (by omega)]) (by rw [wn 13 (by omega)]) (fun i hi => wn i (by omega)) (mz 6 (by decide) (by decide)) (mz 27 (by decide) (by decide)) (fun i hi => mn i (by omega)), fun k hk => by rw [mn 5 (by omega)]; exact h5 k hk, hD.cg (wz 9 (by decide)) (fun i h1 h2 => wn i (by omega)) (mz 11 (by decide) (by decide)) (mn 8 (by omega)) (mn 7 (by omega)), hE.cg (wz 10 (by decide)) (fun i h1 => wn i (by omega)) (mz 20 (by decide) (by decide)) (fun i h1 h2 => mn i (by omega)), hF.cg (fun i h1 h2 => wn i (by omega)) (fun i h1 h2 => mn i (by omega))⟩
      · rw [upd2_at, if_pos rfl, if_neg (by decide), thr_at]
    · rw [if_neg c2, if_pos (Int32.not_le.mp c2)]
      have hg := m_goes_eq true false true m
      refine ⟨_, _, _, _, rfl, (by rw [show (0 : Int32) = tI false from rfl, show (1 : Int32) = tI true from rfl, hg]; rfl), hth _, Agr.l (by decide) ?_⟩
      rw [thr_at]; rfl
end CALLS1

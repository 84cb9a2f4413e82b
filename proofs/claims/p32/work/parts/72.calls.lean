/-! THE CALLS, the sixth part: what a vote's count answers -/
theorem both {w m : Wt} {nE bn rn vn t v : Nat} (hK : Core w m nE bn) (hD : InD w m rn) (hE : InE w m t rn vn) (hF : InF w m vn bn) (hv : v < vn) : ∃ (c : Nat) (σ : CS) (w' m' : Wt), (f_Ballotscript_countVote (nI v) w = some w' ∧ m_winnersOf (nI v) m = some (nI σ.1.2.1, m')) ∧ (MC w' (rdF m) (lnF m) (glS (ofV m bn nE (nI v)) bn 0) σ ∧ RC m' (rdF m) (lnF m) (glS (ofV m bn nE (nI v)) bn 0) c σ ∧ gdC c σ) ∧ (2 ≤ c ∧ c ≤ 6 ∧ w (64 + v) 1 = nI c ∧ m 10 v = nI c) ∧ (kpC w w' ∧ (∀ i, 32 ≤ i → w' i = w i) ∧ kpW m m' ∧ m' 29 = m 29 ∧ m' 0 45 = m 0 45) ∧ ∃ w'', f_Ballotscript_winnersByHand (nI v) w = some (.inr (nI σ.1.2.1), w'') ∧ kpC w w'' := by
  obtain ⟨⟨v1, v2, v3⟩, hE2, hE3, -⟩ := hE
  obtain ⟨⟨q1, q2, q3, q4⟩, -, -⟩ := hE2 v (by omega)
  obtain ⟨c, s, r, ⟨p1, p2, p3, p4, p5⟩, ⟨p6, p7, p8⟩, -⟩ := hE3 v hv
  obtain ⟨d1, d2, d3, d4⟩ := hD
  obtain ⟨T, len, ⟨t1, t2, t3⟩, t4, t5⟩ := d4 r p5
  have h1 : w (64 + v) 1 = nI c := q2.trans p6
  have h2 : w (64 + v) 2 = nI s := q3.trans p7
  have h3 : w (64 + v) 3 = nI r := q4.trans p8
  have hneed : f_Ballotscript_needVote (nI v) w = some (.inr 0) := by
    rw [need_V v2 v1, blw_nI (by omega) (by omega), decide_eq_true hv, if_pos rfl]
  obtain ⟨m', n1, r1, r2, r3, r4, r5, r6, r7⟩ := count_R hK hF (show v < 8 by omega) p1 p2 p4 (show r < 8 by omega) p6 p7 p8 t1 t2 t3 t5
  obtain ⟨w', n2, s1, s2, s3, s4, s5⟩ := count_M hK hF (show v < 8 by omega) p1 p2 p4 (show r < 8 by omega) h1 h2 h3 t1 t2 t3 t4
  obtain ⟨w'', n3, u1, u2, u3⟩ := count_H hK hF (show v < 8 by omega) p1 p2 p4 (show r < 8 by omega) h1 h2 h3 t1 t2 t3 t4 hneed
  rw [← run_uniq rfl rfl r2 s2] at s3
  rw [← run_uniq rfl rfl r2 u2] at u1
  exact ⟨c, _, w', m', ⟨s1, r1⟩, ⟨s3, r3, r4⟩, ⟨p1, p2, h1, p6⟩, ⟨s4, s5, r5, r6, r7⟩, w'', u1, u3⟩
section CALLS6
variable {t : Nat} {w m : Wt}
theorem wa_in {w : Wt} {F : Option ((Nat ⊕ Int32) × Wt)} : (onX (.inr 0 : Nat ⊕ Int32) (fun k2 => some (.inl k2, w)) (fun _ => F)) = F := rfl
theorem q_winners (h : Inv t w m) (a1 : Int32) : ∃ res w' z m', f_Ballotscript_winners a1 w = some (res, w') ∧ m_winners a1 m = some (z, m') ∧ Inv (t + 1) w' m' ∧ Agr [0] res z (m' 0 45) := by
  have hth := fun v => h.thr v
  obtain ⟨hA, hC, hG, nE, bn, rn, vn, hK, h5, hD, hE, hF⟩ := hth 0
  obtain ⟨v1, v2, v3⟩ := hE.1
  have v4 : m 0 20 = nI vn := by rw [← v3, thr_z (by decide)]
  unfold f_Ballotscript_winners m_winners
  rw [need_V v2 v1, bnd_eq, v4, m_below, bnd_eq, goes_1, bnd_eq]
  cases c1 : blw a1 (nI vn) with
  | false =>
    refine ⟨.inl 0, _, _, _, rfl, rfl, hth _, Agr.l (by decide) ?_⟩
    exact thr_e (m := m) rfl
  | true =>
    obtain ⟨v, hv, rfl⟩ := blw_n (by omega) c1
    obtain ⟨c, σ, w', m', ⟨e1, e2⟩, ⟨g1, g2, g3⟩, -, ⟨k1, k2, k3, k4, k5⟩, -⟩ := both hK hD hE hF hv
    have hth0 : m' 0 45 = 0 := k5.trans thr_at
    rw [if_pos rfl, wa_in, e1, bnd_eq]
    rw [if_neg (show ¬ tI true = 0 from by decide)]
    (try dsimp only)
    rw [show (thrN true true true) = 0 from rfl, e2, bnd_eq]
    refine ⟨.inr (w' 22 6), w', nI σ.1.2.1, m', rfl, rfl, (hth 0).kp k1 k3, Agr.r hth0 ?_⟩
    exact g1.1.2.1.symm
theorem q_tallies (h : Inv t w m) (a1 : Int32) : ∃ res w' z m', f_Ballotscript_tallies a1 w = some (res, w') ∧ m_tallies a1 m = some (z, m') ∧ Inv (t + 1) w' m' ∧ Agr [0] res z (m' 0 45) := by
  have hth := fun v => h.thr v
  obtain ⟨hA, hC, hG, nE, bn, rn, vn, hK, h5, hD, hE, hF⟩ := hth 0
  obtain ⟨v1, v2, v3⟩ := hE.1
  have v4 : m 0 20 = nI vn := by rw [← v3, thr_z (by decide)]
  unfold f_Ballotscript_tallies m_tallies
  rw [need_V v2 v1, bnd_eq, v4, m_below, bnd_eq, goes_1, bnd_eq]
  cases c1 : blw a1 (nI vn) with
  | false =>
    refine ⟨.inl 0, _, _, _, rfl, rfl, hth _, Agr.l (by decide) ?_⟩
    exact thr_e (m := m) rfl
  | true =>
    obtain ⟨v, hv, rfl⟩ := blw_n (by omega) c1
    obtain ⟨c, σ, w', m', ⟨e1, e2⟩, ⟨g1, g2, g3⟩, -, ⟨k1, k2, k3, k4, k5⟩, -⟩ := both hK hD hE hF hv
    have hth0 : m' 0 45 = 0 := k5.trans thr_at
    rw [if_pos rfl, wa_in, e1, bnd_eq]
    rw [if_neg (show ¬ tI true = 0 from by decide)]
    (try dsimp only)
    rw [show (thrN true true true) = 0 from rfl, e2, bnd_eq]
    refine ⟨.inr (w' 22 3), w', m' 0 32, m', rfl, rfl, (hth 0).kp k1 k3, Agr.r hth0 ?_⟩
    exact g2.2.1.1.trans g1.2.1.1.symm
theorem q_ties (h : Inv t w m) (a1 : Int32) : ∃ res w' z m', f_Ballotscript_ties a1 w = some (res, w') ∧ m_ties a1 m = some (z, m') ∧ Inv (t + 1) w' m' ∧ Agr [0] res z (m' 0 45) := by
  have hth := fun v => h.thr v
  obtain ⟨hA, hC, hG, nE, bn, rn, vn, hK, h5, hD, hE, hF⟩ := hth 0
  obtain ⟨v1, v2, v3⟩ := hE.1
  have v4 : m 0 20 = nI vn := by rw [← v3, thr_z (by decide)]
  unfold f_Ballotscript_ties m_ties
  rw [need_V v2 v1, bnd_eq, v4, m_below, bnd_eq, goes_1, bnd_eq]
  cases c1 : blw a1 (nI vn) with
  | false =>
    refine ⟨.inl 0, _, _, _, rfl, rfl, hth _, Agr.l (by decide) ?_⟩
    exact thr_e (m := m) rfl
  | true =>
    obtain ⟨v, hv, rfl⟩ := blw_n (by omega) c1
    obtain ⟨c, σ, w', m', ⟨e1, e2⟩, ⟨g1, g2, g3⟩, -, ⟨k1, k2, k3, k4, k5⟩, -⟩ := both hK hD hE hF hv
    have hth0 : m' 0 45 = 0 := k5.trans thr_at
    rw [if_pos rfl, wa_in, e1, bnd_eq]
    rw [if_neg (show ¬ tI true = 0 from by decide)]
    (try dsimp only)
    rw [show (thrN true true true) = 0 from rfl, e2, bnd_eq]
    refine ⟨.inr (w' 22 2), w', m' 0 35, m', rfl, rfl, (hth 0).kp k1 k3, Agr.r hth0 ?_⟩
    exact g2.1.2.2.2.1.trans g1.1.2.2.2.1.symm
theorem q_winnersByHand (h : Inv t w m) (a1 : Int32) : ∃ res w' z m', f_Ballotscript_winnersByHand a1 w = some (res, w') ∧ m_winnersByHand a1 m = some (z, m') ∧ Inv (t + 1) w' m' ∧ Agr [0] res z (m' 0 45) := by
  have hth := fun v => h.thr v
  obtain ⟨hA, hC, hG, nE, bn, rn, vn, hK, h5, hD, hE, hF⟩ := hth 0
  obtain ⟨v1, v2, v3⟩ := hE.1
  have v4 : m 0 20 = nI vn := by rw [← v3, thr_z (by decide)]
  unfold m_winnersByHand m_winners
  rw [v4, m_below, bnd_eq, goes_1, bnd_eq]
  cases c1 : blw a1 (nI vn) with
  | false =>
    refine ⟨.inl 0, w, 0, upd2 m 0 45 1, ?_, rfl, hth _, Agr.l (by decide) ?_⟩
    · unfold f_Ballotscript_winnersByHand
      rw [need_V v2 v1, bnd_eq, c1]; rfl
    · exact thr_e (m := m) rfl
  | true =>
    obtain ⟨v, hv, rfl⟩ := blw_n (by omega) c1
    obtain ⟨c, σ, w', m', ⟨e1, e2⟩, ⟨g1, g2, g3⟩, -, ⟨k1, k2, k3, k4, k5⟩, w'', e3, k6⟩ := both hK hD hE hF hv
    have hth0 : m' 0 45 = 0 := k5.trans thr_at
    rw [if_neg (show ¬ tI true = 0 from by decide)]
    (try dsimp only)
    rw [show (thrN true true true) = 0 from rfl, e2]
    exact ⟨_, w'', _, m', e3, rfl, (hth 0).kp k6 k3, Agr.r hth0 rfl⟩
theorem q_votes (h : Inv t w m) (a1 a2 a3 : Int32) : ∃ res w' z m', f_Ballotscript_votes a1 a2 a3 w = some (res, w') ∧ m_votes a1 a2 a3 m = some (z, m') ∧ Inv (t + 1) w' m' ∧ Agr [0] res z (m' 0 45) := by
  have hth := fun v => h.thr v
  have h0 := h
  obtain ⟨hA, hC, hG, nE, bn, rn, vn, hK, h5, hD, hE, hF⟩ := h
  obtain ⟨v1, v2, v3⟩ := hE.1
  have hno : ∀ (l2 l3 : Int32) (u : Wt), m_votes_b64 l2 l3 u = some (0, upd2 u 0 45 1) := by
    intro l2 l3 u
    unfold m_votes_b64 m_votes_b65
    rw [show (0 : Int32) = tI false from rfl, goes_1, bnd_eq]; rfl
  unfold f_Ballotscript_votes m_votes
  rw [need_V v2 v1, bnd_eq, v3, m_below, bnd_eq]
  cases c1 : blw a1 (nI vn) with
  | false =>
    refine ⟨.inl 0, _, 0, upd2 m 0 45 1, rfl, ?_, hth _, Agr.l (by decide) ?_⟩
    · rw [if_pos (show tI false = 0 from rfl)]
      unfold m_votes_b24
      rw [if_pos (show tI false = 0 from rfl), hno]
    · exact thr_e (m := m) rfl
  | true =>
    obtain ⟨v, hv, rfl⟩ := blw_n (by omega) c1
    obtain ⟨c, σ, w', m', ⟨e1, e2⟩, ⟨g1, g2, g3⟩, ⟨c2, c3, c4, c5⟩, ⟨k1, k2, k3, k4, k5⟩, -⟩ := both hK hD hE hF hv
    have hE64 : σ.1.2.1 < 64 := g3.1.2.1
    have htn : σ.2.2.1 ≤ 156 := g3.2.1.2.1
    have u1 : inb (nI v) 8 = true := nl_in (by omega) (by omega)
    have u2 : (nI v).toNatClampNeg = v := nl_cl (by omega)
    have n0 : ¬ nI σ.1.2.1 < 0 := by rw [qc_0 (by omega)]; omega
    have t1 : w' 22 3 = nI σ.2.2.1 := g1.2.1.1
    have t2 : m' 0 32 = nI σ.2.2.1 := g2.2.1.1
    have hm10 : m' 10 v = nI c := by rw [k3.fn (i := 10) (by decide) (by decide)]; exact c5
    have hI : ∀ x, Inv (t + 1) w' (upd2 m' 0 45 x) := fun x => (h0.kp k1 k3).thr x
    have hI0 : ∀ x, Inv (t + 1) w (upd2 m' 0 45 x) := fun x => (h0.kp kpC.rfl' k3).thr x
    rw [if_pos rfl, wa_in, u1, gd_t, u2, c4, f_within, blw_within a3 c (by omega), bnd_eq, if_neg (show ¬ tI true = 0 from by decide), e2, bnd_eq]
    (try dsimp only)
    have hM : m_votes_b24 (nI v) a2 a3 (tI true) (nI σ.1.2.1) m' = if blw a2 (nI σ.2.2.1) = true then (if blw a3 (nI c) = true then m_votes_b65 a2 a3 (1 : Int32) m' else some (0, upd2 m' 0 45 1)) else some (0, upd2 m' 0 45 1) := by
      unfold m_votes_b24
      rw [if_neg (show ¬ tI true = 0 from by decide), if_neg n0, t2, m_below, bnd_eq, u1, gd_t, u2, hm10, m_below, bnd_eq, hno]
      cases blw a2 (nI σ.2.2.1) <;> cases blw a3 (nI c) <;> rfl
    rw [hM]
    cases d3 : blw a3 (nI c) with
    | false =>
      rw [if_pos (show tI false = 0 from rfl)]
      refine ⟨.inl 0, w, 0, upd2 m' 0 45 1, rfl, ?_, hI0 _, Agr.l (by decide) (thr_e (m := m') rfl)⟩
      cases blw a2 (nI σ.2.2.1) <;> rfl
    | true =>
      rw [if_neg (show ¬ tI true = 0 from by decide), e1, bnd_eq, t1, f_within, blw_within a2 _ (by omega), bnd_eq]
      cases d2 : blw a2 (nI σ.2.2.1) with
      | false =>
        rw [if_pos (show tI false = 0 from rfl)]
        refine ⟨.inl 0, w', 0, upd2 m' 0 45 1, rfl, rfl, hI _, Agr.l (by decide) (thr_e (m := m') rfl)⟩
      | true =>
        obtain ⟨T, hT, rfl⟩ := blw_n (by omega) d2
        obtain ⟨k, hk, rfl⟩ := blw_n (by omega) d3
        obtain ⟨x1, x2, x3⟩ := g1.2.1.2 T hT
        have x4 := x3 k (by omega)
        have x5 := g2.2.1.2.2 T hT k (by omega)
        have hS := (g3.2.1.2.2 T hT).1
        have y1 : inb (nI T) 156 = true := nl_in (by omega) (by omega)
        have y2 : (nI T).toNatClampNeg = T := nl_cl (by omega)
        have hst : f_MachineCount_stoodIn (nI T) (nI k) w' = some (tI (hs (σ.2.2.2.2 T) k)) := by
          unfold f_MachineCount_stoodIn
          rw [t1, f_within, blw_within _ _ (by omega), d2, bnd_eq, if_neg (show ¬ tI true = 0 from by decide), y1, gd_t, y2, x1, zb_has _ hS k (by omega), bnd_eq]
          cases hs (σ.2.2.2.2 T) k <;> rfl
        have hvo : f_MachineCount_votesIn (nI T) (nI k) w' = some (w' 24 (T * 6 + k)) := by
          unfold f_MachineCount_votesIn
          rw [if_pos (show (0 : Int32) ≤ nI T by rw [qb_0 (by omega)]; omega), show nI T * (6 : Int32) = nI (T * 6) from pk_mul T 6, nI_add, nl_in (show T * 6 + k < 936 by omega) (by omega), gd_t, nl_cl (by omega)]
        have hrv : m_votesIn (nI T) (nI k) (upd2 m' 0 45 0) = some (m' 25 (6 * T + k)) := by
          unfold m_votesIn
          rw [if_pos (show (0 : Int32) ≤ nI T by rw [qb_0 (by omega)]; omega), show (6 : Int32) * nI T = nI (6 * T) from pk_mul 6 T, nI_add, nl_in (show 6 * T + k < 2400 by omega) (by omega), gd_t, nl_cl (by omega), thr_n (by decide)]
        have hmv : m_votes_b65 (nI T) (nI k) (1 : Int32) m' = some (m' 25 (6 * T + k), upd2 m' 0 45 0) := by
          unfold m_votes_b65
          rw [show m_goes (1 : Int32) (1 : Int32) (1 : Int32) m' = some (tI true, upd2 m' 0 45 0) from goes_1 true m', bnd_eq, if_neg (show ¬ tI true = 0 from by decide)]
          (try dsimp only)
          rw [hrv, bnd_eq]
        rw [if_neg (show ¬ tI true = 0 from by decide), hst, bnd_eq, hvo, bnd_eq, if_pos rfl, if_pos rfl, hmv]
        cases hb : hs (σ.2.2.2.2 T) k with
        | false =>
          rw [hb, if_neg (by decide)] at x5
          exact ⟨.inr (-1), w', _, _, rfl, rfl, hI _, Agr.r thr_at x5⟩
        | true =>
          rw [hb, if_pos rfl] at x5
          exact ⟨.inr (w' 24 (T * 6 + k)), w', _, _, rfl, rfl, hI _, Agr.r thr_at (x5.trans x4.symm)⟩
theorem q_tied (h : Inv t w m) (a1 a2 : Int32) : ∃ res w' z m', f_Ballotscript_tied a1 a2 w = some (res, w') ∧ m_tied a1 a2 m = some (z, m') ∧ Inv (t + 1) w' m' ∧ Agr [0] res z (m' 0 45) := by
  have hth := fun v => h.thr v
  have h0 := h
  obtain ⟨hA, hC, hG, nE, bn, rn, vn, hK, h5, hD, hE, hF⟩ := h
  obtain ⟨v1, v2, v3⟩ := hE.1
  have hno : ∀ (l2 : Int32) (u : Wt), m_tied_b49 l2 u = some (0, upd2 u 0 45 1) := by
    intro l2 u
    unfold m_tied_b49 m_tied_b50
    rw [show (0 : Int32) = tI false from rfl, goes_1, bnd_eq]; rfl
  unfold f_Ballotscript_tied m_tied
  rw [need_V v2 v1, bnd_eq, v3, m_below, bnd_eq]
  cases c1 : blw a1 (nI vn) with
  | false =>
    refine ⟨.inl 0, _, 0, upd2 m 0 45 1, rfl, ?_, hth _, Agr.l (by decide) ?_⟩
    · rw [if_pos (show tI false = 0 from rfl)]
      unfold m_tied_b22
      rw [if_pos (show tI false = 0 from rfl), hno]
    · exact thr_e (m := m) rfl
  | true =>
    obtain ⟨v, hv, rfl⟩ := blw_n (by omega) c1
    obtain ⟨c, σ, w', m', ⟨e1, e2⟩, ⟨g1, g2, g3⟩, ⟨c2, c3, c4, c5⟩, ⟨k1, k2, k3, k4, k5⟩, -⟩ := both hK hD hE hF hv
    have hE64 : σ.1.2.1 < 64 := g3.1.2.1
    have hun : σ.1.2.2.2.1 ≤ 6 := by have := g3.1.2.2.2; omega
    have n0 : ¬ nI σ.1.2.1 < 0 := by rw [qc_0 (by omega)]; omega
    have t1 : w' 22 2 = nI σ.1.2.2.2.1 := g1.1.2.2.2.1
    have t2 : m' 0 35 = nI σ.1.2.2.2.1 := g2.1.2.2.2.1
    have hI : ∀ x, Inv (t + 1) w' (upd2 m' 0 45 x) := fun x => (h0.kp k1 k3).thr x
    rw [if_pos rfl, wa_in, e1, bnd_eq, t1, f_within, blw_within a2 _ (by omega), bnd_eq, if_neg (show ¬ tI true = 0 from by decide), e2, bnd_eq]
    (try dsimp only)
    have hM : m_tied_b22 a2 (tI true) (nI σ.1.2.1) m' = if blw a2 (nI σ.1.2.2.2.1) = true then m_tied_b50 a2 (1 : Int32) m' else some (0, upd2 m' 0 45 1) := by
      unfold m_tied_b22
      rw [if_neg (show ¬ tI true = 0 from by decide), if_neg n0, t2, m_below, bnd_eq, hno]
      cases blw a2 (nI σ.1.2.2.2.1) <;> rfl
    rw [hM]
    cases d2 : blw a2 (nI σ.1.2.2.2.1) with
    | false =>
      rw [if_pos (show tI false = 0 from rfl)]
      exact ⟨.inl 0, w', 0, upd2 m' 0 45 1, rfl, rfl, hI _, Agr.l (by decide) (thr_e (m := m') rfl)⟩
    | true =>
      obtain ⟨k, hk, rfl⟩ := blw_n (by omega) d2
      have y1 : inb (nI k) 6 = true := nl_in (by omega) (by omega)
      have y2 : (nI k).toNatClampNeg = k := nl_cl (by omega)
      have y3 : inb (nI k) 800 = true := nl_in (by omega) (by omega)
      have hmv : m_tied_b50 (nI k) (1 : Int32) m' = some (m' 26 k, upd2 m' 0 45 0) := by
        unfold m_tied_b50
        rw [show m_goes (1 : Int32) (1 : Int32) (1 : Int32) m' = some (tI true, upd2 m' 0 45 0) from goes_1 true m', bnd_eq, if_neg (show ¬ tI true = 0 from by decide), y3, gd_t]
        (try dsimp only)
        rw [thr_n (by decide), y2]
      rw [if_neg (show ¬ tI true = 0 from by decide), if_pos rfl, hmv, y1, gd_t, y2]
      exact ⟨.inr (w' 23 k), w', _, _, rfl, rfl, hI _, Agr.r thr_at ((g2.1.2.2.2.2.1 k hk).trans (g1.1.2.2.2.2 k hk).symm)⟩
end CALLS6

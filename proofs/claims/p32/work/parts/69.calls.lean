/-! THE CALLS, the third part: marks, votes, ballots, rules -/
theorem pigeon : ∀ (n : Nat) (f : Nat → Nat), (∀ i, i ≤ n → f i < n) → ∃ i j, i < j ∧ j ≤ n ∧ f i = f j := by
  intro n
  induction n with
  | zero => intro f h; exact absurd (h 0 (Nat.le_refl 0)) (Nat.not_lt_zero _)
  | succ n ih =>
    intro f h
    by_cases c : ∃ i, i ≤ n ∧ f i = f (n + 1)
    · obtain ⟨i, hi, e⟩ := c
      exact ⟨i, n + 1, by omega, Nat.le_refl _, e⟩
    · obtain ⟨i, j, h1, h2, h3⟩ := ih (fun i => if f i = n then f (n + 1) else f i) (fun i hi => by
        have a1 := h i (by omega)
        have a2 := h (n + 1) (Nat.le_refl _)
        have a3 : f i ≠ f (n + 1) := fun e => c ⟨i, hi, e⟩
        try dsimp only
        by_cases g : f i = n
        · rw [if_pos g]; omega
        · rw [if_neg g]; omega)
      refine ⟨i, j, h1, by omega, ?_⟩
      try dsimp only at h3
      have a3 : f i ≠ f (n + 1) := fun e => c ⟨i, by omega, e⟩
      have a4 : f j ≠ f (n + 1) := fun e => c ⟨j, h2, e⟩
      by_cases g1 : f i = n
      · by_cases g2 : f j = n
        · rw [g1, g2]
        · rw [if_pos g1, if_neg g2] at h3; exact absurd h3.symm a4
      · by_cases g2 : f j = n
        · rw [if_neg g1, if_pos g2] at h3; exact absurd h3 a3
        · rw [if_neg g1, if_neg g2] at h3; exact h3
section CALLS3
variable {t : Nat} {w m : Wt}
def mkB (m : Wt) (a : Int32) (k : Nat) : Bool := decide (m 23 k = a)
theorem f_has {k : Nat} (hk : k ≤ 6) (h1 : w 11 1 = nI k) (h2 : w 12 = m 23) (a : Int32) : f_Slip_has a w = some (tI (anyB (mkB m a) k)) := by
  have key : Ok (lp (f_Slip_has_L2 a w) FU (0 : Int32)) (fun r => f_Slip_has_x2 w r = some (tI (anyB (mkB m a) k))) := by
    refine Ok.count k (fun j s => s = nI j ∧ anyB (mkB m a) j = false) (fun j s hj h => ?_) (fun s h => ?_) k FU 0 _ (by omega) (by show _ < 100000; omega) ⟨rfl, rfl⟩
    · obtain ⟨rfl, ha⟩ := h
      have e1 : ¬ w 11 1 ≤ nI j := by rw [h1, nl_le (by omega) (by omega)]; omega
      have e2 : inb (nI j) 6 = true := nl_in (by omega) (by omega)
      have e3 : (nI j).toNatClampNeg = j := nl_cl (by omega)
      have body : f_Slip_has_L2 a w (nI j) = some (if mkB m a j then .inr (.inr 1) else .inl (nI j + 1)) := by
        by_cases c1 : m 23 j = a <;> simp [f_Slip_has_L2, mkB, e1, e2, e3, h2, c1, gd_t]
      refine Ok.eq body ?_
      cases c : mkB m a j with
      | true => show some (1 : Int32) = _; rw [anyB_t hj c]; rfl
      | false => exact And.intro (nI_1 j) (anyB_s ha c)
    · obtain ⟨rfl, ha⟩ := h
      have e1 : w 11 1 ≤ nI k := by rw [h1, nl_le (by omega) (by omega)]; omega
      refine Ok.eq (a := .inr (.inl ())) (by simp [f_Slip_has_L2, e1]) ?_
      show some (0 : Int32) = _
      rw [ha]; rfl
  obtain ⟨r, e, hr⟩ := key
  unfold f_Slip_has
  rw [e]; exact hr
theorem m_marked {k : Nat} (hk : k ≤ 6) (h1 : m 0 29 = nI k) (a : Int32) : lp (m_mark_L4 a m) FU ((0 : Int32), (0 : Int32)) = some (tI (anyB (mkB m a) k)) := by
  refine Ok.eqn (Ok.count k (fun j s => s = (tI (anyB (mkB m a) j), nI j)) (fun j s hj h => ?_) (fun s h => ?_) k FU 0 _ (by omega) (by show _ < 100000; omega) rfl)
  · subst h
    have e1 : ¬ m 0 29 ≤ nI j := by rw [h1, nl_le (by omega) (by omega)]; omega
    have e2 : inb (nI j) 6 = true := nl_in (by omega) (by omega)
    have e3 : (nI j).toNatClampNeg = j := nl_cl (by omega)
    have body : m_mark_L4 a m (tI (anyB (mkB m a) j), nI j) = some (.inl (tI (anyB (mkB m a) j || mkB m a j), nI j + 1)) := by
      cases c0 : anyB (mkB m a) j <;> by_cases c1 : m 23 j = a <;> simp [m_mark_L4, mkB, e1, e2, e3, c1, gd_t, tI]
    exact Ok.eq body (by show _ = _; rw [nI_1]; rfl)
  · subst h
    have e1 : m 0 29 ≤ nI k := by rw [h1, nl_le (by omega) (by omega)]; omega
    exact Ok.eq (a := .inr _) (by simp only [m_mark_L4, e1, ↓reduceIte]) rfl
theorem q_mark (h : Inv t w m) (a1 : Int32) : ∃ res w' z m', f_Ballotscript_mark a1 w = some (res, w') ∧ m_mark a1 m = some (z, m') ∧ Inv (t + 1) w' m' ∧ Agr [0, 2] res z (m' 0 45) := by
  have hth := fun v => h.thr v
  obtain ⟨hA, hC, ⟨k, k1, k2, k3, k4, k5, k6⟩, nE, bn, rn, vn, hK, h5, hD, hE, hF⟩ := h.up (Nat.le_succ t)
  have b1 : wthn a1 0 5 = blw a1 6 := within_lit 6 5 (by omega) rfl
  have hm : m_mark a1 m = m_mark_b54 a1 (tI (!anyB (mkB m a1) k)) (tI (blw a1 6)) m := by
    unfold m_mark
    rw [m_marked k1 k3, bnd_eq]
    show m_mark_b38 a1 _ m = _
    unfold m_mark_b38
    rw [m_below, bnd_eq]
    cases anyB (mkB m a1) k <;> rfl
  rw [hm]
  unfold f_Ballotscript_mark m_mark_b54
  rw [f_within, bnd_eq, b1, goes_2, bnd_eq]
  cases c1 : blw a1 6 with
  | false => refine ⟨_, _, _, _, rfl, rfl, hth _, Agr.l (by decide) ?_⟩; exact thr_e (m := m) rfl
  | true =>
    rw [if_neg (show ¬ tI true = 0 from by decide), f_has k1 k2 k4, bnd_eq]
    cases c2 : anyB (mkB m a1) k with
    | true =>
      rw [if_neg (show ¬ tI true = 0 from by decide)]
      refine ⟨_, _, _, _, rfl, rfl, hth _, Agr.l (by decide) ?_⟩; exact thr_e (m := m) rfl
    | false =>
      obtain ⟨c, hc, rfl⟩ := blw_n (n := 6) (by omega) c1
      have hnew : ∀ p, p < k → m 23 p ≠ nI c := fun p hp e => by
        rw [anyB_t hp (show mkB m (nI c) p = true from decide_eq_true e)] at c2; cases c2
      have hk5 : k < 6 := by
        rcases Nat.lt_or_eq_of_le k1 with g | g
        · exact g
        · exfalso
          obtain ⟨i, j, h1, h2, h3⟩ := pigeon 6 (fun p => if p < 6 then (m 23 p).toNatClampNeg else c) (fun p hp => by
            try dsimp only
            by_cases g2 : p < 6
            · rw [if_pos g2]
              obtain ⟨x, hx, e⟩ := k5 p (by omega)
              rw [e, nl_cl (by omega)]; exact hx
            · rw [if_neg g2]; exact hc)
          try dsimp only at h3
          rw [if_pos (by omega)] at h3
          obtain ⟨x, hx, ex⟩ := k5 i (by omega)
          by_cases g2 : j < 6
          · rw [if_pos g2] at h3
            obtain ⟨y, hy, ey⟩ := k5 j (by omega)
            rw [ex, ey, nl_cl (by omega), nl_cl (by omega)] at h3
            exact k6 i j (by omega) (by omega) (by omega) (by rw [ex, ey, h3])
          · rw [if_neg g2, ex, nl_cl (by omega)] at h3
            exact hnew i (by omega) (by rw [ex, h3])
      have e1 : ¬ (6 : Int32) ≤ nI k := by rw [qb_6 (by omega)]; omega
      have e2 : inb (nI k) 6 = true := nl_in (by omega) (by omega)
      have e3 : (nI k).toNatClampNeg = k := nl_cl (by omega)
      have hf : f_Slip_add (nI c) w = some (nI (k + 1), upd2 (upd2 w 12 k (nI c)) 11 1 (nI (k + 1))) := by
        unfold f_Slip_add
        simp only [k2, e1, e2, e3, gd_t, nmd_eq, ↓reduceIte, upd2_at, show ¬ (11 : Nat) = 12 from by decide, nI_1]
      have hmv : (if tI (true && !false) = (0 : Int32) then some ((0 : Int32), upd2 m 0 45 (thrN true (!false) true)) else gd (inb (upd2 m 0 45 (thrN true (!false) true) 0 29) 6) (nmd (upd2 (upd2 m 0 45 (thrN true (!false) true)) 23 ((upd2 m 0 45 (thrN true (!false) true) 0 29)).toNatClampNeg (nI c)) fun w4 => nmd (upd2 w4 0 29 ((w4 0 29) + (1 : Int32))) fun w5 => some ((w5 0 29), w5))) = some (nI (k + 1), upd2 (upd2 (upd2 m 0 45 0) 23 k (nI c)) 0 29 (nI (k + 1))) := by
        have hz : thrN true (!false) true = 0 := rfl
        rw [if_neg (show ¬ tI (true && !false) = 0 from by decide), hz, thr_z (by decide), k3, e2, gd_t, e3, nmd_eq, nmd_eq, upd2_n (show (0 : Nat) ≠ 23 by decide), thr_z (by decide), k3, nI_1, upd2_at, if_pos rfl, if_pos rfl]
      generalize hw9 : upd2 (upd2 w 12 k (nI c)) 11 1 (nI (k + 1)) = w9 at hf
      generalize hm9 : upd2 (upd2 (upd2 m 0 45 0) 23 k (nI c)) 0 29 (nI (k + 1)) = m9 at hmv
      have wn : ∀ i, i ≠ 11 → i ≠ 12 → w9 i = w i := fun i h1 h2 => by rw [← hw9, upd2_n h1, upd2_n h2]
      have mn : ∀ i, i ≠ 0 → i ≠ 23 → m9 i = m i := fun i h1 h2 => by rw [← hm9, upd2_n h1, upd2_n h2, upd2_n h1]
      have mz : ∀ j, j ≠ 29 → j ≠ 45 → m9 0 j = m 0 j := fun j h1 h2 => by rw [← hm9, upd2_at, if_pos rfl, if_neg h1, upd2_n (by decide), thr_z h2]
      have m23 : ∀ p, m9 23 p = if p = k then nI c else m 23 p := fun p => by rw [← hm9, upd2_n (by decide), upd2_at, if_pos rfl, thr_n (by decide)]
      rw [if_pos (show tI false = 0 from rfl), hf, bnd_eq]
      refine ⟨.inr (nI (k + 1)), w9, nI (k + 1), m9, rfl, hmv, ⟨hA.cg (by rw [wn 0 (by omega) (by omega)]) (mz 0 (by decide) (by decide)), hC.cg (by rw [wn 7 (by omega) (by omega)]) (wn 8 (by omega) (by omega)) (mz 8 (by decide) (by decide)) (mn 6 (by omega) (by omega)), ⟨k + 1, by omega, ?_, ?_, ?_, fun p hp => ?_, fun p q hp hq hpq => ?_⟩, nE, bn, rn, vn, hK.cg (by rw [wn 1 (by omega) (by omega)]) (by rw [wn 13 (by omega) (by omega)]) (fun i hi => wn i (by omega) (by omega)) (mz 6 (by decide) (by decide)) (mz 27 (by decide) (by decide)) (fun i hi => mn i (by omega) (by omega)), fun k hk => by rw [mn 5 (by omega) (by omega)]; exact h5 k hk, hD.cg (by rw [wn 0 (by omega) (by omega)]) (fun i h1 h2 => wn i (by omega) (by omega)) (mz 11 (by decide) (by decide)) (mn 8 (by omega) (by omega)) (mn 7 (by omega) (by omega)), hE.cg (by rw [wn 0 (by omega) (by omega)]) (fun i h1 => wn i (by omega) (by omega)) (mz 20 (by decide) (by decide)) (fun i h1 h2 => mn i (by omega) (by omega)), hF.cg (fun i h1 h2 => wn i (by omega) (by omega)) (fun i h1 h2 => mn i (by omega) (by omega))⟩, Agr.r ?_ rfl⟩
      · rw [← hw9, upd2_at, if_pos rfl, if_pos rfl]
      · rw [← hm9, upd2_at, if_pos rfl, if_pos rfl]
      · funext p
        rw [m23, ← hw9, upd2_n (by decide), upd2_at, if_pos rfl, k4]
      · rw [m23]
        by_cases g : p = k
        · rw [if_pos g]; exact ⟨c, hc, rfl⟩
        · rw [if_neg g]; exact k5 p (by omega)
      · rw [m23, m23]
        by_cases g : p = k
        · rw [if_pos g, if_neg (by omega)]; exact fun e => hnew q (by omega) e.symm
        · rw [if_neg g]
          by_cases g2 : q = k
          · rw [if_pos g2]; exact hnew p (by omega)
          · rw [if_neg g2]; exact k6 p q (by omega) (by omega) hpq
      · rw [← hm9, upd2_at, if_pos rfl, if_neg (by decide), upd2_n (by decide), thr_at]
theorem q_open (h : Inv t w m) (a1 a2 a3 a4 : Int32) : ∃ res w' z m', f_Ballotscript_open a1 a2 a3 a4 w = some (res, w') ∧ m_open a1 a2 a3 a4 m = some (z, m') ∧ Inv (t + 1) w' m' ∧ Agr [0, 1, 2] res z (m' 0 45) := by
  have hth := fun v => h.thr v
  obtain ⟨hA, hC, hG, nE, bn, rn, vn, hK, h5, hD, ⟨⟨k1, k2, k3⟩, hE2, hE3, hE4⟩, hF⟩ := h.up (Nat.le_succ t)
  obtain ⟨d1, d2, d3, d4⟩ := hD
  have b1 : wthn a1 0 2 = blw a1 3 := within_lit 3 2 (by omega) rfl
  have b4 : wthn a4 0 (w 0 9 - 1) = blw a4 (nI rn) := by rw [d2]; exact blw_within a4 rn (by omega)
  have hsb : ∀ a b c, (a && b && c) = false → m_open_b69 a1 a2 a3 a4 (tI c) (tI b) (tI a) m = some (0, upd2 m 0 45 (thrN a b c)) := by
    intro a b c hf
    unfold m_open_b69
    rw [m_goes_eq, bnd_eq, hf]
    rfl
  have hA3 : wthn a2 2 6 = true → wthn a3 1 (a2 - 1) = (decide (¬ a3 < 1) && decide (¬ a2 ≤ a3)) := by
    intro g
    have g' := g
    unfold wthn at g
    simp only [Bool.and_eq_true, decide_eq_true_eq] at g
    obtain ⟨c, hc, rfl⟩ := nl_of (x := a2) (by rw [ile]; have q := g.1; rw [ilt] at q; have : (2 : Int32).toInt = 2 := rfl; have : (0 : Int32).toInt = 0 := rfl; omega)
    have q1 : ¬ 6 < c := by have q := g.2; rw [qd_6 hc] at q; exact q
    have q2 : ¬ c < 2 := by have q := g.1; rw [qc_2 hc] at q; exact q
    have e : nI c - (1 : Int32) = nI (c - 1) := pk_sub (b := 1) (by omega)
    unfold wthn
    rw [e]
    congr 1
    rw [decide_eq_decide, ilt, ile, nI_toInt (by omega), nI_toInt (by omega)]
    omega
  have hm : m_open a1 a2 a3 a4 m = m_open_b69 a1 a2 a3 a4 (tI (decide (vn < 8))) (tI (wthn a2 2 6 && (decide (¬ a3 < 1) && decide (¬ a2 ≤ a3)))) (tI (blw a1 3 && blw a4 (nI rn))) m := by
    unfold m_open m_open_b24 m_open_b25 m_open_b52 m_open_b53
    simp only [m_within, m_below, bnd_eq, k3, d3, qb_8 (show vn < 2147483648 by omega)]
    have hd : decide (vn < 8) = !decide (8 ≤ vn) := by
      by_cases c : 8 ≤ vn
      · rw [decide_eq_true c, decide_eq_false (by omega)]; rfl
      · rw [decide_eq_false c, decide_eq_true (by omega)]; rfl
    rw [hd]
    by_cases c1 : a3 < 1
    · by_cases c : 8 ≤ vn <;> simp only [c1, c, ↓reduceIte] <;> cases wthn a2 2 6 <;> cases blw a1 3 <;> cases blw a4 (nI rn) <;> rfl
    · by_cases c2 : a2 ≤ a3
      · by_cases c : 8 ≤ vn <;> simp only [c1, c2, c, ↓reduceIte] <;> cases wthn a2 2 6 <;> cases blw a1 3 <;> cases blw a4 (nI rn) <;> rfl
      · by_cases c : 8 ≤ vn <;> simp only [c1, c2, c, ↓reduceIte] <;> cases wthn a2 2 6 <;> cases blw a1 3 <;> cases blw a4 (nI rn) <;> rfl
  rw [hm]
  unfold f_Ballotscript_open
  rw [f_within, bnd_eq, b1]
  cases c1 : blw a1 3 with
  | false => refine ⟨_, _, _, _, rfl, hsb _ _ _ rfl, hth _, Agr.l (by decide) ?_⟩; exact thr_e (m := m) rfl
  | true =>
    rw [if_neg (show ¬ tI true = 0 from by decide), f_within, bnd_eq, b4]
    cases c2 : blw a4 (nI rn) with
    | false => refine ⟨_, _, _, _, rfl, hsb _ _ _ rfl, hth _, Agr.l (by decide) ?_⟩; exact thr_e (m := m) rfl
    | true =>
      rw [if_neg (show ¬ tI true = 0 from by decide), f_within, bnd_eq]
      cases c3 : wthn a2 2 6 with
      | false => refine ⟨_, _, _, _, rfl, hsb _ _ _ rfl, hth _, Agr.l (by decide) ?_⟩; exact thr_e (m := m) rfl
      | true =>
        rw [if_neg (show ¬ tI true = 0 from by decide), f_within, bnd_eq, hA3 c3]
        cases c4 : (decide (¬ a3 < 1) && decide (¬ a2 ≤ a3)) with
        | false => refine ⟨_, _, _, _, rfl, hsb _ _ _ rfl, hth _, Agr.l (by decide) ?_⟩; exact thr_e (m := m) rfl
        | true =>
          rw [if_neg (show ¬ tI true = 0 from by decide), k2]
          simp only [qc_8 (show vn < 2147483648 by omega)]
          by_cases c5 : vn < 8
          · obtain ⟨r, hr, rfl⟩ := blw_n (by omega) c2
            obtain ⟨c, s, hcs, rfl, rfl⟩ : ∃ c s, (2 ≤ c ∧ c ≤ 6 ∧ 1 ≤ s ∧ s < c) ∧ a2 = nI c ∧ a3 = nI s := by
              unfold wthn at c3
              simp only [Bool.and_eq_true, decide_eq_true_eq] at c3 c4
              obtain ⟨c, hc, rfl⟩ := nl_of (x := a2) (by rw [ile]; have q := c3.1; rw [ilt] at q; have : (2 : Int32).toInt = 2 := rfl; have : (0 : Int32).toInt = 0 := rfl; omega)
              obtain ⟨s, hs, rfl⟩ := nl_of (x := a3) (by rw [ile]; have q := c4.1; rw [ilt] at q; have : (1 : Int32).toInt = 1 := rfl; have : (0 : Int32).toInt = 0 := rfl; omega)
              have q1 := c3.2
              rw [qd_6 hc] at q1
              have q2 := c3.1
              rw [qc_2 hc] at q2
              have q3 := c4.1
              rw [qc_1 hs] at q3
              have q4 := c4.2
              rw [nl_le hc hs] at q4
              exact ⟨c, s, by omega, rfl, rfl⟩
            have e1 : inb (nI vn) 8 = true := nl_in (by omega) (by omega)
            have e2 : (nI vn).toNatClampNeg = vn := nl_cl (by omega)
            rw [if_pos c5, decide_eq_true c5, e1, gd_t, e2]
            generalize hw9 : upd2 (upd2 (upd2 (upd2 (upd2 w (64 + vn) 0 a1) (64 + vn) 1 (nI c)) (64 + vn) 2 (nI s)) (64 + vn) 3 (nI r)) 0 10 (nI (vn + 1)) = w9
            generalize hm9 : upd2 (upd2 (upd2 (upd2 (upd2 (upd2 (upd2 m 0 45 0) 9 vn a1) 10 vn (nI c)) 11 vn (nI s)) 12 vn (nI r)) 14 vn (-1)) 0 20 (nI (vn + 1)) = m9
            have hf : (Option.bind (f_Vote_begin vn a1 (nI c) (nI s) (nI r) w) fun x11 => nmd (upd2 x11 0 10 ((x11 0 10) + (1 : Int32))) fun w12 => some ((.inr ((w12 0 10) - (1 : Int32)) : Nat ⊕ Int32), w12)) = some (.inr (nI vn), w9) := by
              unfold f_Vote_begin
              simp only [nmd_eq, bnd_eq]
              have hz : upd2 (upd2 (upd2 (upd2 w (64 + vn) 0 a1) (64 + vn) 1 (nI c)) (64 + vn) 2 (nI s)) (64 + vn) 3 (nI r) 0 = w 0 := by rw [upd2_n (by omega), upd2_n (by omega), upd2_n (by omega), upd2_n (by omega)]
              rw [hz, k2, nI_1, hw9, ← hw9, upd2_at, if_pos rfl, if_pos rfl, nI_pred]
            have hmv : m_open_b69 a1 (nI c) (nI s) (nI r) (tI true) (tI (true && true)) (tI (true && true)) m = some (nI vn, m9) := by
              unfold m_open_b69
              rw [m_goes_eq, bnd_eq]
              simp only [Bool.and_self, show ¬ tI true = 0 from by decide, ↓reduceIte, thr_z (show (20 : Nat) ≠ 45 by decide), k3, e1, e2, gd_t, nmd_eq, upd2_at, show ¬ (0 : Nat) = 9 from by decide, show ¬ (0 : Nat) = 10 from by decide, show ¬ (0 : Nat) = 11 from by decide, show ¬ (0 : Nat) = 12 from by decide, show ¬ (0 : Nat) = 14 from by decide, show ¬ (20 : Nat) = 45 from by decide, nI_1, nI_pred]
              rw [← hm9]
              rfl
            have wn : ∀ i, i ≠ 0 → i ≠ 64 + vn → w9 i = w i := fun i h1 h2 => by rw [← hw9, upd2_n h1, upd2_n h2, upd2_n h2, upd2_n h2, upd2_n h2]
            have wz : ∀ j, j ≠ 10 → w9 0 j = w 0 j := fun j h1 => by rw [← hw9, upd2_at, if_pos rfl, if_neg h1, upd2_n (by omega), upd2_n (by omega), upd2_n (by omega), upd2_n (by omega)]
            have wv : ∀ j, w9 (64 + vn) j = if j = 3 then nI r else if j = 2 then nI s else if j = 1 then nI c else if j = 0 then a1 else w (64 + vn) j := fun j => by
              rw [← hw9, upd2_n (by omega)]
              simp only [upd2_at, ↓reduceIte]
            have mn : ∀ i, i ≠ 0 → i ≠ 9 → i ≠ 10 → i ≠ 11 → i ≠ 12 → i ≠ 14 → m9 i = m i := fun i h0 h1 h2 h3 h4 h6 => by rw [← hm9, upd2_n h0, upd2_n h6, upd2_n h4, upd2_n h3, upd2_n h2, upd2_n h1, upd2_n h0]
            have mz : ∀ j, j ≠ 20 → j ≠ 45 → m9 0 j = m 0 j := fun j h1 h2 => by rw [← hm9, upd2_at, if_pos rfl, if_neg h1, upd2_n (by decide), upd2_n (by decide), upd2_n (by decide), upd2_n (by decide), upd2_n (by decide), thr_z h2]
            have m_9 : ∀ k, m9 9 k = if k = vn then a1 else m 9 k := fun k => by
              rw [← hm9, upd2_n (by decide), upd2_n (by decide), upd2_n (by decide), upd2_n (by decide), upd2_n (by decide), upd2_at, if_pos rfl, thr_n (by decide)]
            have m_10 : ∀ k, m9 10 k = if k = vn then nI c else m 10 k := fun k => by
              rw [← hm9, upd2_n (by decide), upd2_n (by decide), upd2_n (by decide), upd2_n (by decide), upd2_at, if_pos rfl, upd2_n (by decide), thr_n (by decide)]
            have m_11 : ∀ k, m9 11 k = if k = vn then nI s else m 11 k := fun k => by
              rw [← hm9, upd2_n (by decide), upd2_n (by decide), upd2_n (by decide), upd2_at, if_pos rfl, upd2_n (by decide), upd2_n (by decide), thr_n (by decide)]
            have m_12 : ∀ k, m9 12 k = if k = vn then nI r else m 12 k := fun k => by
              rw [← hm9, upd2_n (by decide), upd2_n (by decide), upd2_at, if_pos rfl, upd2_n (by decide), upd2_n (by decide), upd2_n (by decide), thr_n (by decide)]
            have m_14 : ∀ k, m9 14 k = if k = vn then -1 else m 14 k := fun k => by
              rw [← hm9, upd2_n (by decide), upd2_at, if_pos rfl, upd2_n (by decide), upd2_n (by decide), upd2_n (by decide), upd2_n (by decide), thr_n (by decide)]
            refine ⟨_, w9, _, m9, hf, hmv, ⟨hA.cg (wz 8 (by decide)) (mz 0 (by decide) (by decide)), hC.cg (by rw [wn 7 (by omega) (by omega)]) (wn 8 (by omega) (by omega)) (mz 8 (by decide) (by decide)) (mn 6 (by omega) (by omega) (by omega) (by omega) (by omega) (by omega)), hG.cg (by rw [wn 11 (by omega) (by omega)]) (wn 12 (by omega) (by omega)) (mz 29 (by decide) (by decide)) (mn 23 (by omega) (by omega) (by omega) (by omega) (by omega) (by omega)), nE, bn, rn, vn + 1, ?_, fun k hk => by rw [mn 5 (by omega) (by omega) (by omega) (by omega) (by omega) (by omega)]; exact h5 k hk, ?_, ⟨⟨by omega, ?_, ?_⟩, fun v hv => ?_, fun v hv => ?_, fun v h1 h2 => ?_⟩, ?_⟩, Agr.r ?_ rfl⟩
            · obtain ⟨⟨g1, g2, g3⟩, ⟨g4, g5, g6⟩, ⟨f1, f2, f3, f4, f5⟩, ⟨e1, e2, e3⟩, e4⟩ := hK
              have M := fun i (h : i ≠ 0 ∧ i ≠ 9 ∧ i ≠ 10 ∧ i ≠ 11 ∧ i ≠ 12 ∧ i ≠ 14) => mn i h.1 h.2.1 h.2.2.1 h.2.2.2.1 h.2.2.2.2.1 h.2.2.2.2.2
              refine ⟨⟨g1, by rw [wn 1 (by omega) (by omega)]; exact g2, by rw [mz 6 (by decide) (by decide)]; exact g3⟩, ⟨g4, by rw [wn 13 (by omega) (by omega)]; exact g5, by rw [mz 27 (by decide) (by decide)]; exact g6⟩, ⟨?_, ?_, ?_, ?_, ?_⟩, ⟨?_, ?_, ?_⟩, fun b hb => ?_⟩
              · rw [wn 2 (by omega) (by omega), M 1 (by omega)]; exact f1
              · rw [wn 3 (by omega) (by omega), M 2 (by omega)]; exact f2
              · rw [wn 4 (by omega) (by omega), M 3 (by omega)]; exact f3
              · rw [wn 5 (by omega) (by omega), M 4 (by omega)]; exact f4
              · rw [wn 6 (by omega) (by omega), M 5 (by omega)]; exact f5
              · rw [wn 14 (by omega) (by omega), M 19 (by omega)]; exact e1
              · rw [wn 16 (by omega) (by omega), M 20 (by omega)]; exact e2
              · rw [wn 17 (by omega) (by omega), M 21 (by omega)]; exact e3
              · obtain ⟨v, n, ⟨q1, q2⟩, -⟩ := hF.2.1 b hb
                rw [wn 15 (by omega) (by omega), M 19 (by omega), m_9, if_neg (by rw [q2, nl_cl (by omega)]; omega)]
                exact e4 b hb
            · exact ⟨d1, by rw [wz 9 (by decide)]; exact d2, by rw [mz 11 (by decide) (by decide)]; exact d3, fun r hr => (d4 r hr).cg (wn _ (by omega) (by omega)) (wn _ (by omega) (by omega)) (wn _ (by omega) (by omega)) (wn _ (by omega) (by omega)) (by rw [mn 8 (by omega) (by omega) (by omega) (by omega) (by omega) (by omega)]) (fun j _ => by rw [mn 7 (by omega) (by omega) (by omega) (by omega) (by omega) (by omega)])⟩
            · rw [← hw9, upd2_at, if_pos rfl, if_pos rfl]
            · rw [← hm9, upd2_at, if_pos rfl, if_pos rfl]
            · obtain ⟨⟨q1, q2, q3, q4⟩, ⟨q5, q6, q7⟩, d, q8, q9⟩ := hE2 v hv
              unfold InV
              rw [m_9, m_10, m_11, m_12, mn 13 (by omega) (by omega) (by omega) (by omega) (by omega) (by omega), mn 15 (by omega) (by omega) (by omega) (by omega) (by omega) (by omega), mn 16 (by omega) (by omega) (by omega) (by omega) (by omega) (by omega)]
              by_cases g : v = vn
              · subst g
                rw [wv, wv, wv, wv, wv, wv, wv]
                simp only [↓reduceIte]
                refine ⟨⟨?_, ?_, ?_, ?_⟩, ⟨q5, q6, q7⟩, d, q8, q9⟩ <;> first | rfl | trivial
              · rw [wn (64 + v) (by omega) (by omega), if_neg g, if_neg g, if_neg g, if_neg g]
                exact ⟨⟨q1, q2, q3, q4⟩, ⟨q5, q6, q7⟩, d, q8, q9⟩
            · by_cases g : v = vn
              · subst g
                refine ⟨c, s, r, ⟨hcs.1, hcs.2.1, hcs.2.2.1, hcs.2.2.2, hr⟩, ⟨?_, ?_, ?_⟩, ?_, Or.inl ?_⟩
                · rw [m_10, if_pos rfl]
                · rw [m_11, if_pos rfl]
                · rw [m_12, if_pos rfl]
                · rw [m_14, if_pos rfl, wv]
                  simp only [show ¬ (7 : Nat) = 3 from by decide, show ¬ (7 : Nat) = 2 from by decide, show ¬ (7 : Nat) = 1 from by decide, show ¬ (7 : Nat) = 0 from by decide, ↓reduceIte]
                  exact hE4 v (Nat.le_refl _) c5
                · rw [m_14, if_pos rfl]
              · obtain ⟨c', s', r', q1, ⟨q2, q3, q4⟩, q5, q6⟩ := hE3 v (by omega)
                refine ⟨c', s', r', q1, ⟨?_, ?_, ?_⟩, ?_, ?_⟩
                · rw [m_10, if_neg g]; exact q2
                · rw [m_11, if_neg g]; exact q3
                · rw [m_12, if_neg g]; exact q4
                · rw [m_14, if_neg g, wn (64 + v) (by omega) (by omega)]; exact q5
                · rw [m_14, if_neg g]; exact q6
            · rw [wn (64 + v) (by omega) (by omega)]; exact hE4 v (by omega) h2
            · have M := fun i (h : 17 ≤ i ∧ i ≤ 22) => mn i (by omega) (by omega) (by omega) (by omega) (by omega) (by omega)
              refine ⟨⟨?_, ?_, ?_⟩, fun b hb => ?_, fun b hb => ?_⟩
              · rw [wn 18 (by omega) (by omega), M 18 (by omega)]; exact hF.1.1
              · rw [wn 19 (by omega) (by omega), M 17 (by omega)]; exact hF.1.2.1
              · rw [wn 20 (by omega) (by omega), M 22 (by omega)]; exact hF.1.2.2
              · obtain ⟨v, n, ⟨q1, q2⟩, q3, q4, q5, q6⟩ := hF.2.1 b hb
                unfold InB
                rw [M 19 (by omega), M 18 (by omega), M 17 (by omega), M 22 (by omega)]
                exact ⟨v, n, ⟨by omega, q2⟩, q3, q4, q5, q6⟩
              · rw [M 22 (by omega)]; exact hF.2.2 b hb
            · rw [← hm9, upd2_at, if_pos rfl, if_neg (by decide), upd2_n (by decide), upd2_n (by decide), upd2_n (by decide), upd2_n (by decide), upd2_n (by decide), thr_at]
          · rw [if_neg c5, decide_eq_false c5]
            refine ⟨_, _, _, _, rfl, hsb _ _ _ rfl, hth _, Agr.l (by decide) ?_⟩; exact thr_e (m := m) rfl
theorem q_close (h : Inv t w m) (a1 : Int32) : ∃ res w' z m', f_Ballotscript_close a1 w = some (res, w') ∧ m_close a1 m = some (z, m') ∧ Inv (t + 1) w' m' ∧ Agr [0, 2] res z (m' 0 45) := by
  have hth := fun v => h.thr v
  obtain ⟨hA, hC, hG, nE, bn, rn, vn, hK, h5, hD, ⟨⟨k1, k2, k3⟩, hE2, hE3, hE4⟩, hF⟩ := h.up (Nat.le_succ t)
  unfold f_Ballotscript_close m_close m_close_b28
  rw [need_V k2 k1, bnd_eq, k3, m_below, bnd_eq]
  cases c1 : blw a1 (nI vn) with
  | false =>
    rw [if_pos (show tI false = 0 from rfl)]
    have hg := m_goes_eq false false true m
    refine ⟨.inl 0, _, _, _, rfl, (by unfold m_close_b29; rw [show (0 : Int32) = tI false from rfl, show (1 : Int32) = tI true from rfl, hg]; rfl), hth _, Agr.l (by decide) ?_⟩
    exact thr_e (m := m) rfl
  | true =>
    obtain ⟨v, hv, rfl⟩ := blw_n (by omega) c1
    have e1 : inb (nI v) 8 = true := nl_in (by omega) (by omega)
    have e2 : (nI v).toNatClampNeg = v := nl_cl (by omega)
    obtain ⟨⟨q1, q2, q3, q4⟩, ⟨q5, q6, q7⟩, d, q8, q9⟩ := hE2 v (by omega)
    have hfa : ∀ (F : Option ((Nat ⊕ Int32) × Wt)), (onX (.inr 0 : Nat ⊕ Int32) (fun k2 => some (.inl k2, w)) (fun _ => F)) = F := fun F => rfl
    rw [if_pos rfl, if_neg (show ¬ tI true = 0 from by decide), hfa, e1, gd_t, gd_t, e2, q5]
    by_cases c2 : m 13 v = 0
    · rw [if_pos c2, if_pos c2, gd_t, nmd_eq]
      have hK0 : Core (upd2 w (64 + v) 4 1) (upd2 (upd2 m 0 45 0) 13 v 1) nE bn := hK.cg (by rw [upd2_n (by omega)]) (by rw [upd2_n (by omega)]) (fun i hi => upd2_n (by omega)) (by rw [upd2_n (by decide), thr_z (by decide)]) (by rw [upd2_n (by decide), thr_z (by decide)]) (fun i hi => by rw [upd2_n (by omega), thr_n (by omega)])
      obtain ⟨w2, ew, g1, g2, g3, g4⟩ := hK0.gather (nI v)
      have hm9 : m_close_b29 (nI v) (1 : Int32) (tI true) m = some (nI (cntS (ofV (upd2 (upd2 m 0 45 0) 13 v 1) bn nE (nI v)) bn), upd2 (upd2 m 0 45 0) 13 v 1) := by
        unfold m_close_b29
        rw [show m_goes (tI true) (1 : Int32) (1 : Int32) m = some (tI true, upd2 m 0 45 0) from goes_1 true m, bnd_eq]
        simp only [show ¬ tI true = 0 from by decide, ↓reduceIte, e1, e2, gd_t, nar_b1, nmd_eq, hK0.inM, bnd_eq]
      rw [glS_cnt] at g3
      have hI1 : Inv (t + 1) (upd2 w (64 + v) 4 1) (upd2 (upd2 m 0 45 0) 13 v 1) := by
        have wn : ∀ i, i ≠ 64 + v → upd2 w (64 + v) 4 1 i = w i := fun i h1 => upd2_n h1
        have mn : ∀ i, i ≠ 0 → i ≠ 13 → upd2 (upd2 m 0 45 0) 13 v 1 i = m i := fun i h1 h2 => by rw [upd2_n h2, upd2_n h1]
        have mz : ∀ j, j ≠ 45 → upd2 (upd2 m 0 45 0) 13 v 1 0 j = m 0 j := fun j h2 => by rw [upd2_n (by decide), thr_z h2]
        refine ⟨hA.cg (by rw [wn 0 (by omega)]) (mz 0 (by decide)), hC.cg (by rw [wn 7 (by omega)]) (wn 8 (by omega)) (mz 8 (by decide)) (mn 6 (by omega) (by omega)), hG.cg (by rw [wn 11 (by omega)]) (wn 12 (by omega)) (mz 29 (by decide)) (mn 23 (by omega) (by omega)), nE, bn, rn, vn, hK0, fun k hk => by rw [mn 5 (by omega) (by omega)]; exact h5 k hk, hD.cg (by rw [wn 0 (by omega)]) (fun i h1 h2 => wn i (by omega)) (mz 11 (by decide)) (mn 8 (by omega) (by omega)) (mn 7 (by omega) (by omega)), ⟨⟨k1, by rw [wn 0 (by omega)]; exact k2, by rw [mz 20 (by decide)]; exact k3⟩, fun u hu => ?_, fun u hu => ?_, fun u h1 h2 => ?_⟩, hF.cg (fun i h1 h2 => wn i (by omega)) (fun i h1 h2 => mn i (by omega) (by omega))⟩
        · obtain ⟨⟨p1, p2, p3, p4⟩, ⟨p5, p6, p7⟩, d, p8, p9⟩ := hE2 u hu
          unfold InV
          rw [mn 9 (by omega) (by omega), mn 10 (by omega) (by omega), mn 11 (by omega) (by omega), mn 12 (by omega) (by omega), mn 15 (by omega) (by omega), mn 16 (by omega) (by omega), upd2_at (i := 13), if_pos rfl, thr_n (show (13 : Nat) ≠ 0 by decide)]
          by_cases g : u = v
          · subst g
            simp only [upd2_at, ↓reduceIte, show ¬ (0 : Nat) = 4 from by decide, show ¬ (1 : Nat) = 4 from by decide, show ¬ (2 : Nat) = 4 from by decide, show ¬ (3 : Nat) = 4 from by decide, show ¬ (5 : Nat) = 4 from by decide, show ¬ (6 : Nat) = 4 from by decide]
            exact ⟨⟨p1, p2, p3, p4⟩, ⟨trivial, p6, p7⟩, d, p8, p9⟩
          · rw [wn (64 + u) (by omega), if_neg g]
            exact ⟨⟨p1, p2, p3, p4⟩, ⟨p5, p6, p7⟩, d, p8, p9⟩
        · obtain ⟨c', s', r', p1, p2, p3, p4⟩ := hE3 u hu
          unfold InW
          rw [mn 10 (by omega) (by omega), mn 11 (by omega) (by omega), mn 12 (by omega) (by omega), mn 14 (by omega) (by omega)]
          refine ⟨c', s', r', p1, p2, ?_, p4⟩
          by_cases g : u = v
          · subst g; rw [upd2_at, if_pos rfl, if_neg (by decide)]; exact p3
          · rw [wn (64 + u) (by omega)]; exact p3
        · have : u ≠ v := by omega
          rw [wn (64 + u) (by omega)]; exact hE4 u h1 h2
      refine ⟨_, w2, _, _, ?_, hm9, hI1.kp g1 kpW.rfl', Agr.r ?_ rfl⟩
      · rw [ew, bnd_eq, g3]
      · rw [upd2_n (by decide), thr_at]
    · rw [if_neg c2, if_neg c2]
      have hg := m_goes_eq true false true m
      refine ⟨_, _, _, _, rfl, (by unfold m_close_b29; rw [show (0 : Int32) = tI false from rfl, show (1 : Int32) = tI true from rfl, hg]; rfl), hth _, Agr.l (by decide) ?_⟩
      exact thr_e (m := m) rfl
end CALLS3

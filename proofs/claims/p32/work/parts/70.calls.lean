/-! THE CALLS, the fourth part: ballots cast, rules, the recount desk -/
theorem anyB_m {p : Nat → Bool} {k n : Nat} (h : anyB p k = true) (hk : k ≤ n) : anyB p n = true := by
  obtain ⟨d, rfl⟩ : ∃ d, n = k + d := ⟨n - k, by omega⟩
  induction d with
  | zero => exact h
  | succ d ih => show (anyB p (k + d) || p (k + d)) = true; rw [ih (by omega), Bool.true_or]
section CALLS4
variable {t : Nat} {w m : Wt}
def hiB (m : Wt) (c k : Nat) : Bool := decide (nI c ≤ m 23 k)
theorem f_highest {k c : Nat} (hk : k ≤ 6) (hc : c ≤ 6) (h1 : w 11 1 = nI k) (h2 : w 12 = m 23) : Ok (f_Slip_highest w) (fun z => nI c ≤ z ↔ anyB (hiB m c) k = true) := by
  have key : Ok (lp (f_Slip_highest_L4 w) FU ((-1 : Int32), (0 : Int32))) (fun z => nI c ≤ z ↔ anyB (hiB m c) k = true) := by
    refine Ok.count k (fun j s => s.2 = nI j ∧ (nI c ≤ s.1 ↔ anyB (hiB m c) j = true)) (fun j s hj h => ?_) (fun s h => ?_) k FU 0 _ (by omega) (by show _ < 100000; omega) ⟨rfl, ?_⟩
    · obtain ⟨s1, s2⟩ := s
      obtain ⟨rfl, ha⟩ := h
      dsimp only at ha
      have e1 : ¬ w 11 1 ≤ nI j := by rw [h1, nl_le (by omega) (by omega)]; omega
      have e2 : inb (nI j) 6 = true := nl_in (by omega) (by omega)
      have e3 : (nI j).toNatClampNeg = j := nl_cl (by omega)
      refine Ok.eq (a := .inl ((if s1 < m 23 j then m 23 j else s1), nI j + 1)) (by simp only [f_Slip_highest_L4, e1, e2, e3, h2, gd_t, nmd_eq, ↓reduceIte]) (And.intro (nI_1 j) ?_)
      dsimp only
      have hs : anyB (hiB m c) (j + 1) = (anyB (hiB m c) j || hiB m c j) := rfl
      rw [hs, Bool.or_eq_true, ← ha]
      unfold hiB
      rw [decide_eq_true_eq]
      by_cases g : s1 < m 23 j
      · rw [if_pos g]
        rw [ilt] at g
        rw [ile, ile]
        constructor
        · intro q; exact Or.inr q
        · intro q; omega
      · rw [if_neg g]
        rw [ilt] at g
        rw [ile, ile]
        constructor
        · intro q; exact Or.inl q
        · intro q; omega
    · obtain ⟨s1, s2⟩ := s
      obtain ⟨rfl, ha⟩ := h
      have e1 : w 11 1 ≤ nI k := by rw [h1, nl_le (by omega) (by omega)]; omega
      exact Ok.eq (a := .inr s1) (by simp only [f_Slip_highest_L4, e1, ↓reduceIte]) ha
    · dsimp only
      constructor
      · intro q
        rw [ile, nI_toInt (by omega)] at q
        have : (-1 : Int32).toInt = -1 := rfl
        omega
      · intro q; cases q
  obtain ⟨z, e, hz⟩ := key
  unfold f_Slip_highest
  rw [e]
  exact ⟨z, rfl, hz⟩
theorem m_cans {k c v : Nat} (hk : k ≤ 6) (hv : v < 8) (h1 : m 0 29 = nI k) (h2 : m 10 v = nI c) (l2 l3 : Int32) (b : Bool) : lp (m_cast_L65 (nI v) l2 l3 m) FU (tI b, (0 : Int32)) = some (tI (b && !anyB (hiB m c) k)) := by
  have e4 : inb (nI v) 8 = true := nl_in (by omega) (by omega)
  have e5 : (nI v).toNatClampNeg = v := nl_cl (by omega)
  refine Ok.eqn (Ok.count k (fun j s => s = (tI (b && !anyB (hiB m c) j), nI j)) (fun j s hj h => ?_) (fun s h => ?_) k FU 0 _ (by omega) (by show _ < 100000; omega) (by cases b <;> rfl))
  · subst h
    have e1 : ¬ m 0 29 ≤ nI j := by rw [h1, nl_le (by omega) (by omega)]; omega
    have e2 : inb (nI j) 6 = true := nl_in (by omega) (by omega)
    have e3 : (nI j).toNatClampNeg = j := nl_cl (by omega)
    have hs : anyB (hiB m c) (j + 1) = (anyB (hiB m c) j || hiB m c j) := rfl
    cases b with
    | false =>
      refine Ok.eq (a := .inr (tI false)) (by simp only [m_cast_L65, e1, Bool.false_and, tI0, ↓reduceIte]) ?_
      show tI false = _
      rw [Bool.false_and]
    | true =>
      cases ha : anyB (hiB m c) j with
      | true =>
        refine Ok.eq (a := .inr (tI false)) (by simp only [m_cast_L65, e1, Bool.true_and, Bool.not_true, tI0, ↓reduceIte]) ?_
        show tI false = _
        rw [anyB_m ha (by omega)]; rfl
      | false =>
        refine Ok.eq (a := .inl (tI (true && !anyB (hiB m c) (j + 1)), nI (j + 1))) ?_ rfl
        rw [hs, ha, Bool.false_or]
        unfold hiB
        by_cases g : nI c ≤ m 23 j
        · rw [decide_eq_true g]
          simp only [m_cast_L65, e1, e2, e3, e4, e5, gd_t, h2, g, Bool.true_and, Bool.not_true, Bool.not_false, tI0, nI_1, ↓reduceIte, Bool.true_eq_false]
          rfl
        · rw [decide_eq_false g]
          simp only [m_cast_L65, e1, e2, e3, e4, e5, gd_t, h2, g, Bool.true_and, Bool.not_true, Bool.not_false, tI0, nI_1, ↓reduceIte, Bool.true_eq_false]
          rfl
  · subst h
    have e1 : m 0 29 ≤ nI k := by rw [h1, nl_le (by omega) (by omega)]; omega
    exact Ok.eq (a := .inr _) (by simp only [m_cast_L65, e1, ↓reduceIte]) rfl
def ordU (f g : Nat → Int32) (bn k : Nat) : Nat → Int32 := fun j => if 6 * bn ≤ j ∧ j < 6 * bn + k then g (j - 6 * bn) else f j
theorem ordU_s (f g : Nat → Int32) (bn k : Nat) : upd (ordU f g bn k) (6 * bn + k) (g k) = ordU f g bn (k + 1) := by
  funext j
  by_cases c : j = 6 * bn + k
  · subst c
    rw [pk_us]
    unfold ordU
    rw [if_pos ⟨by omega, by omega⟩, Nat.add_sub_cancel_left]
  · rw [pk_un c]
    unfold ordU
    by_cases c2 : 6 * bn ≤ j ∧ j < 6 * bn + k
    · rw [if_pos c2, if_pos ⟨c2.1, by omega⟩]
    · rw [if_neg c2, if_neg (fun e => c2 ⟨e.1, by omega⟩)]
theorem f_add67 {bn k : Nat} (hb : bn < 100) (hk : k ≤ 6) (h1 : w 13 8 = nI bn) (h2 : w 11 1 = nI k) : lp f_Box_add_L67 FU ((0 : Int32), w) = some (fun i => if i = 19 then ordU (w 19) (w 12) bn k else w i) := by
  have e9 : nI bn * (6 : Int32) = nI (bn * 6) := pk_mul bn 6
  refine Ok.eqn (Ok.count k (fun j s => s = (nI j, fun i => if i = 19 then ordU (w 19) (w 12) bn j else w i)) (fun j s hj h => ?_) (fun s h => ?_) k FU 0 _ (by omega) (by show _ < 100000; omega) ?_)
  · subst h
    have e1 : ¬ w 11 1 ≤ nI j := by rw [h2, nl_le (by omega) (by omega)]; omega
    have e2 : inb (nI j) 6 = true := nl_in (by omega) (by omega)
    have e3 : (nI j).toNatClampNeg = j := nl_cl (by omega)
    have e4 : nI (bn * 6) + nI j = nI (bn * 6 + j) := nI_add _ _
    have e5 : inb (nI (bn * 6 + j)) 600 = true := nl_in (by omega) (by omega)
    have e6 : (nI (bn * 6 + j)).toNatClampNeg = bn * 6 + j := nl_cl (by omega)
    refine Ok.eq (a := .inl (nI j + 1, upd2 (fun i => if i = 19 then ordU (w 19) (w 12) bn j else w i) 19 (bn * 6 + j) (w 12 j))) ?_ ?_
    · simp only [f_Box_add_L67, show ¬ (11 : Nat) = 19 from by decide, show ¬ (12 : Nat) = 19 from by decide, show ¬ (13 : Nat) = 19 from by decide, ↓reduceIte, e1, e2, e3, h1, e9, e4, e5, e6, gd_t, nmd_eq]
    · show (_, _) = (_, _)
      rw [nI_1]
      congr 1
      funext i
      by_cases c : i = 19
      · subst c
        rw [upd2_s, if_pos rfl, if_pos rfl, Nat.mul_comm bn 6, ordU_s]
      · rw [upd2_n c, if_neg c, if_neg c]
  · subst h
    have e1 : w 11 1 ≤ nI k := by rw [h2, nl_le (by omega) (by omega)]; omega
    exact Ok.eq (a := .inr _) (by simp only [f_Box_add_L67, show ¬ (11 : Nat) = 19 from by decide, ↓reduceIte, e1]) rfl
  · show (_, _) = (_, _)
    congr 1
    funext i
    by_cases c : i = 19
    · subst c
      rw [if_pos rfl]
      funext j
      unfold ordU
      rw [if_neg (by omega)]
    · rw [if_neg c]
theorem m_add124 {bn k : Nat} (hb : bn < 100) (hk : k ≤ 6) (h1 : m 0 27 = nI bn) (h2 : m 0 29 = nI k) (l1 l2 : Int32) : lp (m_cast_L124 l1 l2) FU ((0 : Int32), m) = some (fun i => if i = 17 then ordU (m 17) (m 23) bn k else m i) := by
  have e9 : (6 : Int32) * nI bn = nI (6 * bn) := pk_mul 6 bn
  refine Ok.eqn (Ok.count k (fun j s => s = (nI j, fun i => if i = 17 then ordU (m 17) (m 23) bn j else m i)) (fun j s hj h => ?_) (fun s h => ?_) k FU 0 _ (by omega) (by show _ < 100000; omega) ?_)
  · subst h
    have e1 : ¬ m 0 29 ≤ nI j := by rw [h2, nl_le (by omega) (by omega)]; omega
    have e2 : inb (nI j) 6 = true := nl_in (by omega) (by omega)
    have e3 : (nI j).toNatClampNeg = j := nl_cl (by omega)
    have e4 : nI (6 * bn) + nI j = nI (6 * bn + j) := nI_add _ _
    have e5 : inb (nI (6 * bn + j)) 600 = true := nl_in (by omega) (by omega)
    have e6 : (nI (6 * bn + j)).toNatClampNeg = 6 * bn + j := nl_cl (by omega)
    refine Ok.eq (a := .inl (nI j + 1, upd2 (fun i => if i = 17 then ordU (m 17) (m 23) bn j else m i) 17 (6 * bn + j) (m 23 j))) ?_ ?_
    · simp only [m_cast_L124, show ¬ (0 : Nat) = 17 from by decide, show ¬ (23 : Nat) = 17 from by decide, ↓reduceIte, e1, e2, e3, h1, e9, e4, e5, e6, gd_t, nmd_eq]
    · show (_, _) = (_, _)
      rw [nI_1]
      congr 1
      funext i
      by_cases c : i = 17
      · subst c
        rw [upd2_s, if_pos rfl, if_pos rfl, ordU_s]
      · rw [upd2_n c, if_neg c, if_neg c]
  · subst h
    have e1 : m 0 29 ≤ nI k := by rw [h2, nl_le (by omega) (by omega)]; omega
    exact Ok.eq (a := .inr _) (by simp only [m_cast_L124, show ¬ (0 : Nat) = 17 from by decide, ↓reduceIte, e1]) rfl
  · show (_, _) = (_, _)
    congr 1
    funext i
    by_cases c : i = 17
    · subst c
      rw [if_pos rfl]
      funext j
      unfold ordU
      rw [if_neg (by omega)]
    · rw [if_neg c]
theorem q_cast (h : Inv t w m) (a1 a2 : Int32) : ∃ res w' z m', f_Ballotscript_cast a1 a2 w = some (res, w') ∧ m_cast a1 a2 m = some (z, m') ∧ Inv (t + 1) w' m' ∧ Agr [0, 2] res z (m' 0 45) := by
  have hth := fun v => h.thr v
  obtain ⟨⟨td, ha1, ha2, ha3⟩, hC, ⟨k, k1, k2, k3, k4, k5, k6⟩, nE, bn, rn, vn, hK, h5, hD, ⟨⟨v1, v2, v3⟩, hE2, hE3, hE4⟩, hF⟩ := h.up (Nat.le_succ t)
  obtain ⟨b1, b2, b3⟩ := hK.2.1
  have hw20 : wthn a2 0 19 = blw a2 20 := within_lit 20 19 (by omega) rfl
  have hno : ∀ a b : Bool, (a && b) = false → m_cast_b108 a1 a2 (tI a) (tI b) m = some (0, upd2 m 0 45 (thrN a b true)) := by
    intro a b hab
    unfold m_cast_b108
    rw [goes_2, bnd_eq, hab]; rfl
  have hfalse : ∀ a : Bool, m_cast_b60 a1 a2 (tI a) (0 : Int32) m = m_cast_b108 a1 a2 (tI a) (tI false) m := by
    intro a
    unfold m_cast_b60
    have : lp (m_cast_L65 a1 a2 (tI a) m) FU ((0 : Int32), (0 : Int32)) = some (tI false) := by
      show lp _ (99999 + 1) _ = _
      unfold lp
      by_cases g : m 0 29 ≤ (0 : Int32)
      · simp only [m_cast_L65, g, ↓reduceIte] <;> rfl
      · simp only [m_cast_L65, g, ↓reduceIte] <;> rfl
    rw [this]; rfl
  have hm0 : (blw a1 (nI vn) && blw a2 20) = false → m_cast a1 a2 m = some (0, upd2 m 0 45 (thrN false false true)) := by
    intro g
    unfold m_cast m_cast_b24 m_cast_b25 m_cast_b59
    rw [v3, m_below, bnd_eq]
    cases c1 : blw a1 (nI vn) with
    | false => rw [if_pos (show tI false = 0 from rfl), if_pos (show (0 : Int32) = 0 from rfl), show (0 : Int32) = tI false from rfl, show m_cast_b60 a1 a2 (tI false) (tI false) m = m_cast_b108 a1 a2 (tI false) (tI false) m from hfalse false, hno _ _ rfl]; rfl
    | true =>
      rw [c1, Bool.true_and] at g
      rw [if_neg (show ¬ tI true = 0 from by decide), m_below, bnd_eq, g, if_pos (show tI false = 0 from rfl), if_pos (show (0 : Int32) = 0 from rfl), show (0 : Int32) = tI false from rfl, show m_cast_b60 a1 a2 (tI false) (tI false) m = m_cast_b108 a1 a2 (tI false) (tI false) m from hfalse false, hno _ _ rfl]; rfl
  unfold f_Ballotscript_cast f_Ballotscript_cast_b78
  rw [need_V v2 v1, bnd_eq]
  cases c1 : blw a1 (nI vn) with
  | false =>
    refine ⟨.inl 0, _, _, _, rfl, hm0 (by rw [c1]; rfl), hth _, Agr.l (by decide) ?_⟩
    exact thr_e (m := m) rfl
  | true =>
    rw [if_pos rfl]
    have hfa : ∀ (F : Option ((Nat ⊕ Int32) × Wt)), (onX (.inr 0 : Nat ⊕ Int32) (fun k2 => some (.inl k2, w)) (fun _ => F)) = F := fun F => rfl
    rw [hfa, f_within, bnd_eq, hw20]
    cases c2 : blw a2 20 with
    | false =>
      refine ⟨_, _, _, _, rfl, hm0 (by rw [c1, c2]; rfl), hth _, Agr.l (by decide) ?_⟩
      exact thr_e (m := m) rfl
    | true =>
      obtain ⟨v, hv, rfl⟩ := blw_n (by omega) c1
      have e1 : inb (nI v) 8 = true := nl_in (by omega) (by omega)
      have e2 : (nI v).toNatClampNeg = v := nl_cl (by omega)
      obtain ⟨⟨q1, q2, q3, q4⟩, ⟨q5, q6, q7⟩, -⟩ := hE2 v (by omega)
      obtain ⟨c, s, r, ⟨p1, p2, p3, p4, p5⟩, ⟨p6, p7, p8⟩, -⟩ := hE3 v hv
      have hmm : m_cast (nI v) a2 m = (if m 13 v = 0 then (if m 0 29 ≤ 0 then m_cast_b60 (nI v) a2 (tI true) 0 m else (if (100 : Int32) ≤ m 0 27 then m_cast_b60 (nI v) a2 (tI true) 0 m else m_cast_b60 (nI v) a2 (tI true) 1 m)) else m_cast_b60 (nI v) a2 (tI true) 0 m) := by
        unfold m_cast m_cast_b25 m_cast_b59
        rw [v3, m_below, bnd_eq, c1, if_neg (show ¬ tI true = 0 from by decide), m_below, bnd_eq, c2, if_neg (show ¬ tI true = 0 from by decide), if_neg (show ¬ (1 : Int32) = 0 from by decide), e1, gd_t, e2]
        rfl
      have hrefuse : m_cast (nI v) a2 m = m_cast_b60 (nI v) a2 (tI true) 0 m → ∃ z m', m_cast (nI v) a2 m = some (z, m') ∧ Inv (t + 1) w m' ∧ m' 0 45 = 2 := by
        intro g
        refine ⟨0, upd2 m 0 45 2, ?_, hth _, thr_at⟩
        rw [g, hfalse true, hno true false rfl]; rfl
      rw [if_neg (show ¬ tI true = 0 from by decide), e1, gd_t, e2, q5, k2, gd_t]
      have hk0 : (nI k = 0) = (k = 0) := qe_0 (by omega)
      have hk1 : (nI k ≤ 0) = (k ≤ 0) := qa_0 (by omega)
      rw [k3, b3] at hmm
      simp only [hk1] at hmm
      simp only [hk0]
      by_cases d1 : m 13 v = 0
      · rw [if_pos d1] at hmm ⊢
        by_cases d2 : k = 0
        · rw [if_pos (show k ≤ 0 by omega)] at hmm
          rw [if_pos d2]
          obtain ⟨z, m', g1, g2, g3⟩ := hrefuse hmm
          exact ⟨_, _, z, m', rfl, g1, g2, Agr.l (by decide) (by rw [g3]; rfl)⟩
        · rw [if_neg (show ¬ k ≤ 0 by omega)] at hmm
          rw [if_neg d2]
          obtain ⟨hh, eh, hh2⟩ := f_highest (w := w) (m := m) (c := c) k1 p2 k2 k4
          rw [eh, bnd_eq, q2, p6, b2]
          have hb1 : (nI bn < (100 : Int32)) = (bn < 100) := qc_100 (by omega)
          have hb2 : ((100 : Int32) ≤ nI bn) = (100 ≤ bn) := qb_100 (by omega)
          simp only [hb2] at hmm
          simp only [hb1]
          by_cases d3 : anyB (hiB m c) k = true
          · rw [if_pos (hh2.mpr d3)]
            have hcan : m_cast_b60 (nI v) a2 (tI true) (1 : Int32) m = m_cast_b108 (nI v) a2 (tI true) (tI false) m := by
              unfold m_cast_b60
              rw [show ((1 : Int32), (0 : Int32)) = (tI true, (0 : Int32)) from rfl, m_cans k1 (by omega) k3 p6, d3]; rfl
            by_cases d4 : 100 ≤ bn
            · rw [if_pos d4] at hmm
              obtain ⟨z, m', g1, g2, g3⟩ := hrefuse hmm
              exact ⟨_, _, z, m', rfl, g1, g2, Agr.l (by decide) (by rw [g3]; rfl)⟩
            · rw [if_neg d4, hcan] at hmm
              obtain ⟨z, m', g1, g2, g3⟩ := hrefuse (by rw [hmm, hfalse true])
              exact ⟨_, _, z, m', rfl, g1, g2, Agr.l (by decide) (by rw [g3]; rfl)⟩
          · rw [if_neg (fun g => d3 (hh2.mp g))]
            by_cases d4 : 100 ≤ bn
            · rw [if_pos d4] at hmm
              rw [if_neg (by omega)]
              obtain ⟨z, m', g1, g2, g3⟩ := hrefuse hmm
              exact ⟨_, _, z, m', rfl, g1, g2, Agr.l (by decide) (by rw [g3]; rfl)⟩
            · rw [if_neg d4] at hmm
              rw [if_pos (show bn < 100 by omega), gd_t, q1, ha2]
              have hcan : m_cast_b60 (nI v) a2 (tI true) (1 : Int32) m = m_cast_b108 (nI v) a2 (tI true) (tI true) m := by
                unfold m_cast_b60
                rw [show ((1 : Int32), (0 : Int32)) = (tI true, (0 : Int32)) from rfl, m_cans k1 (by omega) k3 p6, (by simpa using d3 : anyB (hiB m c) k = false)]; rfl
              have u1 : inb (nI bn) 100 = true := nl_in (by omega) (by omega)
              have u2 : (nI bn).toNatClampNeg = bn := nl_cl (by omega)
              have u3 : ¬ (100 : Int32) ≤ nI bn := by rw [hb2]; omega
              -- the class writes
              generalize hw8 : upd2 (upd2 (upd2 (upd2 (upd2 w 14 bn (nI v)) 15 bn (m 9 v)) 16 bn a2) 17 bn (nI td)) 18 bn (nI k) = w8
              have w8n : ∀ i, (i < 14 ∨ 18 < i) → w8 i = w i := fun i hi => by rw [← hw8, upd2_n (by omega), upd2_n (by omega), upd2_n (by omega), upd2_n (by omega), upd2_n (by omega)]
              have hadd := f_add67 (w := w8) (bn := bn) (k := k) (by omega) k1 (by rw [w8n 13 (by omega)]; exact b2) (by rw [w8n 11 (by omega)]; exact k2)
              have hf : f_Box_add (nI v) (m 9 v) a2 (nI td) w = some (nI bn, upd2 (fun i => if i = 19 then ordU (w8 19) (w8 12) bn k else w8 i) 13 8 (nI (bn + 1))) := by
                have x1 : ∀ (u : Wt) (i : Nat) (x : Int32), i ≠ 13 → u 13 8 = nI bn → upd2 u i bn x 13 8 = nI bn := fun u i x hi hu => by rw [upd2_n (Ne.symm hi)]; exact hu
                have y1 := x1 w 14 (nI v) (by decide) b2
                have y2 := x1 _ 15 (m 9 v) (by decide) y1
                have y3 := x1 _ 16 a2 (by decide) y2
                have y4 := x1 _ 17 (nI td) (by decide) y3
                have y5 : upd2 (upd2 (upd2 (upd2 w 14 bn (nI v)) 15 bn (m 9 v)) 16 bn a2) 17 bn (nI td) 11 1 = nI k := by rw [upd2_n (by decide), upd2_n (by decide), upd2_n (by decide), upd2_n (by decide)]; exact k2
                unfold f_Box_add
                simp only [b2, u3, ↓reduceIte, u1, u2, gd_t, nmd_eq, y1, y2, y3, y4, y5, hw8, hadd, bnd_eq]
                show f_Box_add_b106 _ = _
                unfold f_Box_add_b106
                have y6 : (if (13 : Nat) = 19 then ordU (w8 19) (w8 12) bn k else w8 13) 8 = nI bn := by rw [if_neg (by decide), w8n 13 (by omega)]; exact b2
                simp only [nmd_eq, y6, nI_1, upd2_at, ↓reduceIte, nI_pred]
              generalize hw9 : upd2 (upd2 (fun i => if i = 19 then ordU (w8 19) (w8 12) bn k else w8 i) 13 8 (nI (bn + 1))) 11 1 0 = w9
              -- the reference's
              have hadd2 := m_add124 (m := upd2 m 0 45 0) (bn := bn) (k := k) (by omega) k1 (by rw [thr_z (by decide)]; exact b3) (by rw [thr_z (by decide)]; exact k3) (nI v) a2
              generalize hm8 : (fun i => if i = 17 then ordU (upd2 m 0 45 0 17) (upd2 m 0 45 0 23) bn k else upd2 m 0 45 0 i) = m8 at hadd2
              have m8n : ∀ i, i ≠ 0 → i ≠ 17 → m8 i = m i := fun i h1 h2 => by rw [← hm8]; (try dsimp only); rw [if_neg h2, thr_n h1]
              have m8z : ∀ j, j ≠ 45 → m8 0 j = m 0 j := fun j h2 => by rw [← hm8]; (try dsimp only); rw [if_neg (by decide), thr_z h2]
              have m817 : m8 17 = ordU (m 17) (m 23) bn k := by rw [← hm8]; (try dsimp only); rw [if_pos rfl, thr_n (by decide), thr_n (by decide)]
              generalize hm9 : upd2 (upd2 (upd2 (upd2 (upd2 (upd2 m8 18 bn (nI k)) 19 bn (nI v)) 20 bn a2) 21 bn (nI td)) 0 29 0) 0 27 (nI (bn + 1)) = m9
              have hmv : m_cast_b108 (nI v) a2 (tI true) (tI true) m = some (nI bn, m9) := by
                unfold m_cast_b108
                rw [show m_goes (tI true) (tI true) (1 : Int32) m = some (tI true, upd2 m 0 45 0) from goes_2 true true m, bnd_eq]
                simp only [show ¬ tI true = 0 from by decide, ↓reduceIte, hadd2, bnd_eq]
                show m_cast_b161 (nI v) a2 m8 = _
                unfold m_cast_b161
                have z27 : m8 0 27 = nI bn := by rw [m8z 27 (by decide)]; exact b3
                have z29 : m8 0 29 = nI k := by rw [m8z 29 (by decide)]; exact k3
                have z0 : m8 0 0 = nI td := by rw [m8z 0 (by decide)]; exact ha3
                simp only [z27, z29, z0, u1, u2, gd_t, nmd_eq, upd2_at, show ¬ (0 : Nat) = 18 from by decide, show ¬ (0 : Nat) = 19 from by decide, show ¬ (0 : Nat) = 20 from by decide, show ¬ (0 : Nat) = 21 from by decide, show ¬ (27 : Nat) = 29 from by decide, ↓reduceIte, nI_1, nI_pred]
                rw [← hm9]
              rw [hcan, hmv] at hmm
              rw [hf, bnd_eq, nmd_eq, nmd_eq]
              have wn : ∀ i, i ≠ 11 → i ≠ 13 → (i < 14 ∨ 19 < i) → w9 i = w i := fun i h1 h2 h3 => by
                rw [← hw9, upd2_n h1, upd2_n h2]; (try dsimp only); rw [if_neg (by omega), w8n i (by omega)]
              have w13 : ∀ j, w9 13 j = if j = 8 then nI (bn + 1) else w 13 j := fun j => by
                rw [← hw9, upd2_n (by decide), upd2_at, if_pos rfl]
                by_cases g : j = 8
                · rw [if_pos g, if_pos g]
                · rw [if_neg g, if_neg g]; (try dsimp only); rw [if_neg (by decide), w8n 13 (by omega)]
              have w1x : ∀ i, 14 ≤ i → i ≤ 18 → w9 i = w8 i := fun i h1 h2 => by
                rw [← hw9, upd2_n (by omega), upd2_n (by omega)]; (try dsimp only); rw [if_neg (by omega)]
              have w14 : w9 14 = upd (w 14) bn (nI v) := by rw [w1x 14 (by omega) (by omega), ← hw8, upd2_n (by decide), upd2_n (by decide), upd2_n (by decide), upd2_n (by decide), upd2_s]
              have w15 : w9 15 = upd (w 15) bn (m 9 v) := by rw [w1x 15 (by omega) (by omega), ← hw8, upd2_n (by decide), upd2_n (by decide), upd2_n (by decide), upd2_s, upd2_n (by decide)]
              have w16 : w9 16 = upd (w 16) bn a2 := by rw [w1x 16 (by omega) (by omega), ← hw8, upd2_n (by decide), upd2_n (by decide), upd2_s, upd2_n (by decide), upd2_n (by decide)]
              have w17 : w9 17 = upd (w 17) bn (nI td) := by rw [w1x 17 (by omega) (by omega), ← hw8, upd2_n (by decide), upd2_s, upd2_n (by decide), upd2_n (by decide), upd2_n (by decide)]
              have w18 : w9 18 = upd (w 18) bn (nI k) := by rw [w1x 18 (by omega) (by omega), ← hw8, upd2_s, upd2_n (by decide), upd2_n (by decide), upd2_n (by decide), upd2_n (by decide)]
              have w19 : w9 19 = ordU (w 19) (w 12) bn k := by rw [← hw9, upd2_n (by decide), upd2_n (by decide)]; (try dsimp only); rw [if_pos rfl, w8n 19 (by omega), w8n 12 (by omega)]
              have mn : ∀ i, i ≠ 0 → (i < 17 ∨ 21 < i) → m9 i = m i := fun i h1 h2 => by
                rw [← hm9, upd2_n h1, upd2_n h1, upd2_n (by omega), upd2_n (by omega), upd2_n (by omega), upd2_n (by omega), m8n i h1 (by omega)]
              have mz : ∀ j, j ≠ 27 → j ≠ 29 → j ≠ 45 → m9 0 j = m 0 j := fun j h1 h2 h3 => by
                rw [← hm9, upd2_at, if_pos rfl, if_neg h1, upd2_at, if_pos rfl, if_neg h2, upd2_n (by decide), upd2_n (by decide), upd2_n (by decide), upd2_n (by decide), m8z j h3]
              have m17 : m9 17 = ordU (m 17) (m 23) bn k := by rw [← hm9, upd2_n (by decide), upd2_n (by decide), upd2_n (by decide), upd2_n (by decide), upd2_n (by decide), upd2_n (by decide), m817]
              have m18 : m9 18 = upd (m 18) bn (nI k) := by rw [← hm9, upd2_n (by decide), upd2_n (by decide), upd2_n (by decide), upd2_n (by decide), upd2_n (by decide), upd2_s, m8n 18 (by decide) (by decide)]
              have m19 : m9 19 = upd (m 19) bn (nI v) := by rw [← hm9, upd2_n (by decide), upd2_n (by decide), upd2_n (by decide), upd2_n (by decide), upd2_s, upd2_n (by decide), m8n 19 (by decide) (by decide)]
              have m20 : m9 20 = upd (m 20) bn a2 := by rw [← hm9, upd2_n (by decide), upd2_n (by decide), upd2_n (by decide), upd2_s, upd2_n (by decide), upd2_n (by decide), m8n 20 (by decide) (by decide)]
              have m21 : m9 21 = upd (m 21) bn (nI td) := by rw [← hm9, upd2_n (by decide), upd2_n (by decide), upd2_s, upd2_n (by decide), upd2_n (by decide), upd2_n (by decide), m8n 21 (by decide) (by decide)]
              refine ⟨.inr (nI bn), w9, nI bn, m9, ?_, hmm, ⟨⟨td, ha1, ?_, ?_⟩, hC.cg (by rw [wn 7 (by omega) (by omega) (by omega)]) (wn 8 (by omega) (by omega) (by omega)) (mz 8 (by decide) (by decide) (by decide)) (mn 6 (by omega) (by omega)), ⟨0, by omega, ?_, ?_, ?_, fun p hp => absurd hp (Nat.not_lt_zero p), fun p q hp => absurd hp (Nat.not_lt_zero p)⟩, nE, bn + 1, rn, vn, ?_, fun j hj => by rw [mn 5 (by omega) (by omega)]; exact h5 j hj, hD.cg (by rw [wn 0 (by omega) (by omega) (by omega)]) (fun i h1 h2 => wn i (by omega) (by omega) (by omega)) (mz 11 (by decide) (by decide) (by decide)) (mn 8 (by omega) (by omega)) (mn 7 (by omega) (by omega)), InE.cg ⟨⟨v1, v2, v3⟩, hE2, hE3, hE4⟩ (by rw [wn 0 (by omega) (by omega) (by omega)]) (fun i h1 => wn i (by omega) (by omega) (by omega)) (mz 20 (by decide) (by decide) (by decide)) (fun i h1 h2 => mn i (by omega) (by omega)), ⟨⟨?_, ?_, ?_⟩, fun b hb => ?_, fun b hb => ?_⟩⟩, Agr.r ?_ rfl⟩
              · dsimp only
                rw [hw9]
              · rw [wn 0 (by omega) (by omega) (by omega)]; exact ha2
              · rw [mz 0 (by decide) (by decide) (by decide)]; exact ha3
              · rw [← hw9, upd2_at, if_pos rfl, if_pos rfl]; rfl
              · rw [← hm9, upd2_at, if_pos rfl, if_neg (by decide), upd2_at, if_pos rfl, if_pos rfl]; rfl
              · rw [wn 12 (by omega) (by omega) (by omega), mn 23 (by omega) (by omega)]; exact k4
              · obtain ⟨⟨g1, g2, g3⟩, ⟨g4, g5, g6⟩, ⟨f1, f2, f3, f4, f5⟩, ⟨l1, l2, l3⟩, l4⟩ := hK
                refine ⟨⟨g1, by rw [wn 1 (by omega) (by omega) (by omega)]; exact g2, by rw [mz 6 (by decide) (by decide) (by decide)]; exact g3⟩, ⟨by omega, by rw [w13, if_pos rfl], by rw [← hm9, upd2_at, if_pos rfl, if_pos rfl]⟩, ⟨?_, ?_, ?_, ?_, ?_⟩, ⟨?_, ?_, ?_⟩, fun b hb => ?_⟩
                · rw [wn 2 (by omega) (by omega) (by omega), mn 1 (by omega) (by omega)]; exact f1
                · rw [wn 3 (by omega) (by omega) (by omega), mn 2 (by omega) (by omega)]; exact f2
                · rw [wn 4 (by omega) (by omega) (by omega), mn 3 (by omega) (by omega)]; exact f3
                · rw [wn 5 (by omega) (by omega) (by omega), mn 4 (by omega) (by omega)]; exact f4
                · rw [wn 6 (by omega) (by omega) (by omega), mn 5 (by omega) (by omega)]; exact f5
                · rw [w14, m19, l1]
                · rw [w16, m20, l2]
                · rw [w17, m21, l3]
                · rw [w15, m19, mn 9 (by omega) (by omega)]
                  by_cases g : b = bn
                  · subst g; rw [pk_us, pk_us, e2]; exact ⟨rfl, e1⟩
                  · rw [pk_un g, pk_un g]; exact l4 b (by omega)
              · rw [w18, m18, hF.1.1]
              · rw [w19, m17, hF.1.2.1, k4]
              · rw [wn 20 (by omega) (by omega) (by omega), mn 22 (by omega) (by omega)]; exact hF.1.2.2
              · unfold InB
                rw [m19, m18, m17, mn 22 (by omega) (by omega)]
                by_cases g : b = bn
                · subst g
                  refine ⟨v, k, ⟨hv, by rw [pk_us]⟩, ⟨by omega, k1, by rw [pk_us]⟩, fun p hp => ?_, fun p q hp hq hpq => ?_, Or.inl (hF.2.2 b (Nat.le_refl _))⟩
                  · unfold ordU
                    rw [if_pos ⟨by omega, by omega⟩, Nat.add_sub_cancel_left]
                    exact k5 p hp
                  · unfold ordU
                    rw [if_pos ⟨by omega, by omega⟩, if_pos ⟨by omega, by omega⟩, Nat.add_sub_cancel_left, Nat.add_sub_cancel_left]
                    exact k6 p q hp hq hpq
                · obtain ⟨v', n, i1, ⟨i2, i3, i4⟩, i5, i6, i7⟩ := hF.2.1 b (by omega)
                  refine ⟨v', n, by rw [pk_un g]; exact i1, by rw [pk_un g]; exact ⟨i2, i3, i4⟩, fun p hp => ?_, fun p q hp hq hpq => ?_, i7⟩
                  · unfold ordU
                    rw [if_neg (by omega)]
                    exact i5 p hp
                  · unfold ordU
                    rw [if_neg (by omega), if_neg (by omega)]
                    exact i6 p q hp hq hpq
              · rw [mn 22 (by omega) (by omega)]; exact hF.2.2 b (by omega)
              · rw [← hm9, upd2_at, if_pos rfl, if_neg (by decide), upd2_at, if_pos rfl, if_neg (by decide), upd2_n (by decide), upd2_n (by decide), upd2_n (by decide), upd2_n (by decide), ← hm8]
                (try dsimp only)
                rw [if_neg (by decide), thr_at]
      · rw [if_neg d1] at hmm ⊢
        obtain ⟨z, m', g1, g2, g3⟩ := hrefuse hmm
        exact ⟨_, _, z, m', rfl, g1, g2, Agr.l (by decide) (by rw [g3]; rfl)⟩
theorem q_rule (h : Inv t w m) : ∃ res w' z m', f_Ballotscript_rule w = some (res, w') ∧ m_rule m = some (z, m') ∧ Inv (t + 1) w' m' ∧ Agr [1, 2] res z (m' 0 45) := by
  have hth := fun v => h.thr v
  obtain ⟨hA, hC, hG, nE, bn, rn, vn, hK, h5, ⟨d1, d2, d3, d4⟩, hE, hF⟩ := h.up (Nat.le_succ t)
  obtain ⟨T, len, ⟨t1, t2, t3⟩, t4, t5, t6, t7⟩ := hC.flt (m' := m) kpW.rfl'
  have hwf := flt_wf (T := T) t1
  have hm : m_rule m = m_rule_b28 (tI (decide (rn < 8))) (tI (decide (flt T len = -1))) m := by
    unfold m_rule m_rule_b14
    rw [t7, bnd_eq, d3]
    simp only [qb_8 (show rn < 2147483648 by omega)]
    by_cases c1 : flt T len = -1
    · rw [if_pos c1, decide_eq_true c1]
      by_cases c2 : 8 ≤ rn
      · rw [if_pos c2, decide_eq_false (show ¬ rn < 8 by omega)]; rfl
      · rw [if_neg c2, decide_eq_true (show rn < 8 by omega)]; rfl
    · rw [if_neg c1, decide_eq_false c1]
      by_cases c2 : 8 ≤ rn
      · rw [if_pos c2, decide_eq_false (show ¬ rn < 8 by omega)]; rfl
      · rw [if_neg c2, decide_eq_true (show rn < 8 by omega)]; rfl
  have hno : ∀ a b : Bool, (a && b) = false → m_rule_b28 (tI b) (tI a) m = some (0, upd2 m 0 45 (thrN a b true)) := by
    intro a b hab
    unfold m_rule_b28
    rw [goes_2, bnd_eq, hab]; rfl
  rw [hm]
  unfold f_Ballotscript_rule
  rw [t6, bnd_eq]
  by_cases c1 : flt T len = -1
  · rw [if_pos c1, decide_eq_true c1, d2]
    simp only [qc_8 (show rn < 2147483648 by omega)]
    by_cases c2 : rn < 8
    · rw [if_pos c2, decide_eq_true c2]
      have hW := hwf.mp c1
      have e1 : inb (nI rn) 8 = true := nl_in (by omega) (by omega)
      have e2 : (nI rn).toNatClampNeg = rn := nl_cl (by omega)
      obtain ⟨w1, ew, f1, f2⟩ := f_take c2 t1 hW t2 t4
      obtain ⟨m1, em, g1, g2, g3, g4⟩ := m_write (m := upd2 m 0 45 0) c2 t1 (by rw [thr_z (by decide)]; exact t3) (fun k hk => by rw [thr_n (by decide)]; exact t5 k hk)
      rw [e1, gd_t, e2, ew, bnd_eq, nmd_eq]
      have hz9 : w1 0 9 = nI rn := by rw [f2 0 (by omega) (by omega) (by omega) (by omega)]; exact d2
      have hz11 : m1 0 11 = nI rn := by rw [g2 0 (by decide) (by decide), thr_z (by decide)]; exact d3
      have hmv : m_rule_b28 (tI true) (tI true) m = some (nI rn, upd2 m1 0 11 (nI (rn + 1))) := by
        unfold m_rule_b28
        rw [show m_goes (tI true) (tI true) (1 : Int32) m = some (tI true, upd2 m 0 45 0) from goes_2 true true m, bnd_eq]
        simp only [show ¬ tI true = 0 from by decide, ↓reduceIte, thr_z (show (11 : Nat) ≠ 45 by decide), d3, em, bnd_eq, nmd_eq, hz11, nI_1, upd2_at, nI_pred]
      rw [hz9, nI_1, upd2_at, if_pos rfl, if_pos rfl, nI_pred]
      have wn : ∀ i, i ≠ 0 → i ≠ 32 + rn → i ≠ 40 + rn → i ≠ 48 + rn → i ≠ 56 + rn → upd2 w1 0 9 (nI (rn + 1)) i = w i := fun i h0 h1 h2 h3 h4 => by rw [upd2_n h0]; exact f2 i h1 h2 h3 h4
      have wz : ∀ j, j ≠ 9 → upd2 w1 0 9 (nI (rn + 1)) 0 j = w 0 j := fun j hj => by rw [upd2_at, if_pos rfl, if_neg hj, f2 0 (by omega) (by omega) (by omega) (by omega)]
      have mn : ∀ i, i ≠ 0 → i ≠ 7 → i ≠ 8 → upd2 m1 0 11 (nI (rn + 1)) i = m i := fun i h0 h1 h2 => by rw [upd2_n h0, g2 i h1 h2, thr_n h0]
      have mz : ∀ j, j ≠ 11 → j ≠ 45 → upd2 m1 0 11 (nI (rn + 1)) 0 j = m 0 j := fun j h1 h2 => by rw [upd2_at, if_pos rfl, if_neg h1, g2 0 (by decide) (by decide), thr_z h2]
      have WN := fun i (hi : i ≠ 0 ∧ (i < 32 ∨ 64 ≤ i)) => wn i hi.1 (by omega) (by omega) (by omega) (by omega)
      have hRU : RuC (upd2 w1 0 9 (nI (rn + 1))) rn T len := by
        have X : ∀ i, i ≠ 0 → upd2 w1 0 9 (nI (rn + 1)) i = w1 i := fun i hi => upd2_n hi
        unfold RuC
        rw [X _ (by omega), X _ (by omega), X _ (by omega), X _ (by omega)]
        exact f1
      have hRM : RuM (upd2 m1 0 11 (nI (rn + 1))) rn T len := by
        unfold RuM
        rw [upd2_n (by decide), upd2_n (by decide)]
        exact g1
      refine ⟨.inr (nI rn), _, nI rn, _, rfl, hmv, ⟨hA.cg (wz 8 (by decide)) (mz 0 (by decide) (by decide)), hC.cg (by rw [WN 7 (by omega)]) (WN 8 (by omega)) (mz 8 (by decide) (by decide)) (mn 6 (by decide) (by decide) (by decide)), hG.cg (by rw [WN 11 (by omega)]) (WN 12 (by omega)) (mz 29 (by decide) (by decide)) (mn 23 (by decide) (by decide) (by decide)), nE, bn, rn + 1, vn, hK.cg (by rw [WN 1 (by omega)]) (by rw [WN 13 (by omega)]) (fun i hi => WN i (by omega)) (mz 6 (by decide) (by decide)) (mz 27 (by decide) (by decide)) (fun i hi => mn i (by omega) (by omega) (by omega)), fun k hk => by rw [mn 5 (by decide) (by decide) (by decide)]; exact h5 k hk, ⟨by omega, ?_, ?_, fun r hr => ?_⟩, ?_, hF.cg (fun i h1 h2 => WN i (by omega)) (fun i h1 h2 => mn i (by omega) (by omega) (by omega))⟩, Agr.r ?_ rfl⟩
      · rw [upd2_at, if_pos rfl, if_pos rfl]
      · rw [upd2_at, if_pos rfl, if_pos rfl]
      · by_cases g : r = rn
        · subst g
          exact ⟨T, len, ⟨t1, hW, fun k hk => (t4 k hk).2⟩, hRU, hRM⟩
        · exact (d4 r (by omega)).cg (wn _ (by omega) (by omega) (by omega) (by omega) (by omega)) (wn _ (by omega) (by omega) (by omega) (by omega) (by omega)) (wn _ (by omega) (by omega) (by omega) (by omega) (by omega)) (wn _ (by omega) (by omega) (by omega) (by omega) (by omega)) (by rw [upd2_n (by decide), g3 r g, thr_n (by decide)]) (fun j hj => by rw [upd2_n (by decide), g4 _ (by omega), thr_n (by decide)])
      · obtain ⟨⟨k1, k2, k3⟩, hE2, hE3, hE4⟩ := hE
        have B : ∀ i, 9 ≤ i → i ≤ 16 → upd2 m1 0 11 (nI (rn + 1)) i = m i := fun i h1 h2 => mn i (by omega) (by omega) (by omega)
        refine ⟨⟨k1, by rw [wz 10 (by decide)]; exact k2, by rw [mz 20 (by decide) (by decide)]; exact k3⟩, fun v hv => (hE2 v hv).cg (WN _ (by omega)) B, fun v hv => ?_, fun v h1 h2 => by rw [WN (64 + v) (by omega)]; exact hE4 v h1 h2⟩
        obtain ⟨c, s, r, ⟨p1, p2, p3, p4, p5⟩, p6, p7⟩ := (hE3 v hv).cg (w' := upd2 w1 0 9 (nI (rn + 1))) (m' := upd2 m1 0 11 (nI (rn + 1))) (WN _ (by omega)) B
        exact ⟨c, s, r, ⟨p1, p2, p3, p4, by omega⟩, p6, p7⟩
      · rw [upd2_at, if_pos rfl, if_neg (by decide), g2 0 (by decide) (by decide), thr_at]
    · rw [if_neg c2, decide_eq_false c2]
      refine ⟨_, _, _, _, rfl, hno _ _ rfl, hth _, Agr.l (by decide) ?_⟩
      exact thr_e (m := m) rfl
  · rw [if_neg c1, decide_eq_false c1]
    refine ⟨_, _, _, _, rfl, hno _ _ rfl, hth _, Agr.l (by decide) ?_⟩
    exact thr_e (m := m) rfl
end CALLS4

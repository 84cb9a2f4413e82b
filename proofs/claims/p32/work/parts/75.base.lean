/-! p32: what the calls answer, the second part -/
section TWO
variable {t : Nat} {w m : Wt} {nE bn rn vn : Nat}
/-! cast -/
theorem e_cast (c : Cn m nE bn rn vn) {k v p n td : Nat} (h29 : m 0 29 = nI k) (h00 : m 0 0 = nI td) (hk : 1 ≤ k ∧ k ≤ 6) (hv : v < vn) (hp : p < 20) (h10 : m 10 v = nI n) (hn : n ≤ 6) (h13 : m 13 v = 0) (hb : bn < 100) (hm : ∀ j, j < k → ∃ x, x < n ∧ m 23 j = nI x) : ∃ m', m_cast (nI v) (nI p) m = some (nI bn, m') ∧ m' 0 45 = 0 ∧ Fr [17, 18, 19, 20, 21] [27, 29] m m' ∧ (m' 0 27 = nI (bn + 1) ∧ m' 0 29 = 0) ∧ (∀ b, m' 19 b = if b = bn then nI v else m 19 b) ∧ (∀ b, m' 20 b = if b = bn then nI p else m 20 b) ∧ (m' 18 bn = nI k ∧ ∀ j, j < k → m' 17 (6 * bn + j) = m 23 j) := by
  obtain ⟨⟨c1, c2, c3, c4⟩, b1, b2, b3, b4⟩ := id c
  obtain ⟨k1, k2⟩ := hk
  have t1 : ¬ tI true = (0 : Int32) := by decide
  have q1 : blw (nI v) (nI vn) = true := blw_t hv (by omega)
  have q2 : blw (nI p) 20 = true := blw_t (n := 20) hp (by omega)
  have e1 : inb (nI v) 8 = true := nl_in (by omega) (by omega)
  have e2 : (nI v).toNatClampNeg = v := nl_cl (by omega)
  have d1 : ¬ nI k ≤ (0 : Int32) := by rw [qa_0 (by omega)]; omega
  have d2 : ¬ (100 : Int32) ≤ nI bn := by rw [qb_100 (by omega)]; omega
  have hany : anyB (hiB m n) k = false := anyB_0 (fun j hj => by
    obtain ⟨x, hx, ex⟩ := hm j hj
    refine decide_eq_false ?_
    rw [ex, nl_le (by omega) (by omega)]; omega)
  have hadd2 := m_add124 (m := upd2 m 0 45 0) (bn := bn) (k := k) (by omega) k2 (by rw [thr_z (by decide)]; exact c2) (by rw [thr_z (by decide)]; exact h29) (nI v) (nI p)
  generalize hm8 : (fun i => if i = 17 then ordU (upd2 m 0 45 0 17) (upd2 m 0 45 0 23) bn k else upd2 m 0 45 0 i) = m8 at hadd2
  have m8n : ∀ i, i ≠ 0 → i ≠ 17 → m8 i = m i := fun i h1 h2 => by rw [← hm8]; (try dsimp only); rw [if_neg h2, thr_n h1]
  have m8z : ∀ j, j ≠ 45 → m8 0 j = m 0 j := fun j h2 => by rw [← hm8]; (try dsimp only); rw [if_neg (by decide), thr_z h2]
  have m845 : m8 0 45 = 0 := by rw [← hm8]; (try dsimp only); rw [if_neg (by decide), thr_at]
  have m817 : m8 17 = ordU (m 17) (m 23) bn k := by rw [← hm8]; (try dsimp only); rw [if_pos rfl, thr_n (by decide), thr_n (by decide)]
  have u1 : inb (nI bn) 100 = true := nl_in (by omega) (by omega)
  have u2 : (nI bn).toNatClampNeg = bn := nl_cl (by omega)
  have z27 : m8 0 27 = nI bn := by rw [m8z 27 (by decide)]; exact c2
  have z29 : m8 0 29 = nI k := by rw [m8z 29 (by decide)]; exact h29
  have z00 : m8 0 0 = nI td := by rw [m8z 0 (by decide)]; exact h00
  have h161 : m_cast_b161 (nI v) (nI p) m8 = some (nI bn, upd2 (upd2 (upd2 (upd2 (upd2 (upd2 m8 18 bn (nI k)) 19 bn (nI v)) 20 bn (nI p)) 21 bn (nI td)) 0 29 0) 0 27 (nI (bn + 1))) := by
    unfold m_cast_b161
    simp only [z27, z29, z00, u1, u2, gd_t, nmd_eq, upd2_at, show ¬ (0 : Nat) = 18 from by decide, show ¬ (0 : Nat) = 19 from by decide, show ¬ (0 : Nat) = 20 from by decide, show ¬ (0 : Nat) = 21 from by decide, show ¬ (27 : Nat) = 29 from by decide, show ¬ (0 : Nat) = 29 from by decide, nI_1, nI_pred, ↓reduceIte]
  refine ⟨upd2 (upd2 (upd2 (upd2 (upd2 (upd2 m8 18 bn (nI k)) 19 bn (nI v)) 20 bn (nI p)) 21 bn (nI td)) 0 29 0) 0 27 (nI (bn + 1)), ?_, ?_, ⟨fun i h0 _ h2 => ?_, fun j h1 h2 => ?_⟩, ⟨?_, ?_⟩, fun b => ?_, fun b => ?_, ?_, fun j hj => ?_⟩
  · unfold m_cast m_cast_b25 m_cast_b60
    rw [c4, m_below, bnd_eq, q1, if_neg t1, m_below, bnd_eq, q2, if_neg t1, if_neg (show ¬ (1 : Int32) = 0 from by decide), e1, gd_t, e2, if_pos h13, h29, if_neg d1, c2, if_neg d2, show ((1 : Int32), (0 : Int32)) = (tI true, (0 : Int32)) from rfl, m_cans k2 (by omega) h29 h10, hany, bnd_eq]
    show m_cast_b108 (nI v) (nI p) (1 : Int32) (tI true) m = _
    unfold m_cast_b108
    rw [show m_goes (1 : Int32) (tI true) (1 : Int32) m = some (tI true, upd2 m 0 45 0) from goes_2 true true m, bnd_eq, if_neg t1, hadd2, bnd_eq]
    exact h161
  · simp [upd2_at, m845]
  · simp only [List.mem_cons, not_or, List.not_mem_nil, not_false_eq_true, and_true] at h2
    funext b
    simp [upd2_at, h0, h2, m8n i h0 h2.1]
  · simp only [List.mem_cons, not_or, List.not_mem_nil, not_false_eq_true, and_true] at h2
    simp [upd2_at, h2, m8z j (by omega)]
  · simp [upd2_at]
  · simp [upd2_at]
  · simp [upd2_at, m8n 19 (by decide) (by decide)]
  · simp [upd2_at, m8n 20 (by decide) (by decide)]
  · simp [upd2_at]
  · simp only [upd2_at, show ¬ (17 : Nat) = 0 from by decide, show ¬ (17 : Nat) = 21 from by decide, show ¬ (17 : Nat) = 20 from by decide, show ¬ (17 : Nat) = 19 from by decide, show ¬ (17 : Nat) = 18 from by decide, ↓reduceIte, m817]
    unfold ordU
    rw [if_pos ⟨by omega, by omega⟩, Nat.add_sub_cancel_left]
theorem s_cast (h : Inv t w m) (c : Cn m nE bn rn vn) {k v p n : Nat} (h29 : m 0 29 = nI k) (hk : 1 ≤ k ∧ k ≤ 6) (hv : v < vn) (hp : p < 20) (h10 : m 10 v = nI n) (hn : n ≤ 6) (h13 : m 13 v = 0) (hb : bn < 100) (hm : ∀ j, j < k → ∃ x, x < n ∧ m 23 j = nI x) : ∃ w' m', l_cast (nI v) (nI p) w = some (nI bn, w') ∧ Inv (t + 1) w' m' ∧ Fr [17, 18, 19, 20, 21] [27, 29] m m' ∧ (m' 0 27 = nI (bn + 1) ∧ m' 0 29 = 0) ∧ (∀ b, m' 19 b = if b = bn then nI v else m 19 b) ∧ (∀ b, m' 20 b = if b = bn then nI p else m 20 b) ∧ (m' 18 bn = nI k ∧ ∀ j, j < k → m' 17 (6 * bn + j) = m 23 j) := by
  obtain ⟨res, w', z, m', e1, e2, hI, hg⟩ := q_cast h (nI v) (nI p)
  obtain ⟨td, -, -, h00⟩ := h.1
  obtain ⟨m9, e3, f1, f2⟩ := e_cast c h29 h00 hk hv hp h10 hn h13 hb hm
  obtain ⟨rfl, rfl⟩ := Prod.mk.inj (Option.some.inj (e2.symm.trans e3))
  rw [agr_r (by decide) hg f1] at e1
  exact ⟨w', m', lx2 e1, hI, f2⟩
/-- refused: the vote is closed, or no mark is made -/
theorem s_castX (h : Inv t w m) (c : Cn m nE bn rn vn) {k v p : Nat} (h29 : m 0 29 = nI k) (hk : k ≤ 6) (hv : v < vn) (hp : p < 20) (hx : m 13 v ≠ 0 ∨ k = 0) : ∃ w' m', l_cast (nI v) (nI p) w = some (-103, w') ∧ Inv (t + 1) w' m' ∧ Fr [] [] m m' := by
  obtain ⟨res, w', z, m', e1, e2, hI, hg⟩ := q_cast h (nI v) (nI p)
  obtain ⟨⟨c1, c2, c3, c4⟩, b1, b2, b3, b4⟩ := id c
  have t1 : ¬ tI true = (0 : Int32) := by decide
  have q1 : blw (nI v) (nI vn) = true := blw_t hv (by omega)
  have q2 : blw (nI p) 20 = true := blw_t (n := 20) hp (by omega)
  have y1 : inb (nI v) 8 = true := nl_in (by omega) (by omega)
  have y2 : (nI v).toNatClampNeg = v := nl_cl (by omega)
  have h60 : m_cast_b60 (nI v) (nI p) (1 : Int32) (0 : Int32) m = some (0, upd2 m 0 45 2) := by
    have hl : lp (m_cast_L65 (nI v) (nI p) (1 : Int32) m) FU ((0 : Int32), (0 : Int32)) = some (tI false) := by
      show lp _ (99999 + 1) _ = _
      unfold lp
      by_cases g : m 0 29 ≤ (0 : Int32)
      · simp only [m_cast_L65, g, ↓reduceIte] <;> rfl
      · simp only [m_cast_L65, g, ↓reduceIte] <;> rfl
    unfold m_cast_b60
    rw [hl, bnd_eq]
    show m_cast_b108 (nI v) (nI p) (1 : Int32) (tI false) m = _
    unfold m_cast_b108
    rw [show m_goes (1 : Int32) (tI false) (1 : Int32) m = some (tI false, upd2 m 0 45 2) from goes_2 true false m, bnd_eq, if_pos (show tI false = (0 : Int32) from rfl)]
  have e3 : m_cast (nI v) (nI p) m = some (0, upd2 m 0 45 2) := by
    unfold m_cast m_cast_b25 m_cast_b59
    rw [c4, m_below, bnd_eq, q1, if_neg t1, m_below, bnd_eq, q2, if_neg t1, if_neg (show ¬ (1 : Int32) = 0 from by decide), y1, gd_t, y2, h60]
    rcases hx with g | g
    · rw [if_neg g]
    · subst g
      rw [h29, if_pos (show nI 0 ≤ (0 : Int32) from by decide)]
      split <;> rfl
  obtain ⟨rfl, rfl⟩ := Prod.mk.inj (Option.some.inj (e2.symm.trans e3))
  rw [agr_x 2 (by decide) (by decide) hg thr_at] at e1
  exact ⟨w', _, lx2x (by decide) e1, hI, fr0⟩
/-! why -/
theorem s_why (h : Inv t w m) (c : Cn m nE bn rn vn) {b : Nat} (hb : b < bn) : l_why (nI b) w = some (nI (rsM m bn nE b)) := by
  obtain ⟨hA, hC, hG, hK, -⟩ := h.at c
  unfold l_why f_Ballotscript_why
  rw [need_B hK.2.1.2.1 hK.2.1.1, bnd_eq, blw_t hb (by have := hK.2.1.1; omega), if_pos rfl]
  show Option.bind (Option.bind (f_Box_reasonOf (nI b) w) _) _ = _
  rw [hK.f hb]; rfl
/-! strike -/
def stM (m : Wt) (e : Nat) : Wt := upd2 m 5 e 1
theorem rs_st {e b : Nat} (h : rsM (stM m e) bn nE b = 0) : rsM m bn nE b = 0 := by
  unfold rsM at h ⊢
  have hl : laM (stM m e) b = laM m b := by unfold laM stM; rw [upd2_n (by decide), upd2_n (by decide)]
  rw [hl] at h
  by_cases g : anyB (laM m b) bn = true
  · rw [if_pos g] at h; cases h
  · rw [if_neg g] at h ⊢
    by_cases g2 : anyB (enM (stM m e) (stM m e 9 (stM m e 19 b).toNatClampNeg) (stM m e 20 b) (stM m e 21 b)) nE = true
    · have e9 : stM m e 9 = m 9 := upd2_n (by decide)
      have e19 : stM m e 19 = m 19 := upd2_n (by decide)
      have e20 : stM m e 20 = m 20 := upd2_n (by decide)
      have e21 : stM m e 21 = m 21 := upd2_n (by decide)
      rw [e9, e19, e20, e21] at g2
      have g3 : anyB (enM m (m 9 (m 19 b).toNatClampNeg) (m 20 b) (m 21 b)) nE = true := by
        cases hc : anyB (enM m (m 9 (m 19 b).toNatClampNeg) (m 20 b) (m 21 b)) nE with
        | true => rfl
        | false =>
          exfalso
          have hall : ∀ k, k < nE → enM m (m 9 (m 19 b).toNatClampNeg) (m 20 b) (m 21 b) k = false := fun k hk => by
            cases hh : enM m (m 9 (m 19 b).toNatClampNeg) (m 20 b) (m 21 b) k with
            | false => rfl
            | true => rw [anyB_t hk hh] at hc; cases hc
          have : anyB (enM (stM m e) (m 9 (m 19 b).toNatClampNeg) (m 20 b) (m 21 b)) nE = false := anyB_0 (fun k hk => by
            have h1 := hall k hk
            unfold enM at h1 ⊢
            unfold stM
            rw [upd2_n (show (1 : Nat) ≠ 5 by decide), upd2_n (show (2 : Nat) ≠ 5 by decide), upd2_n (show (3 : Nat) ≠ 5 by decide), upd2_n (show (4 : Nat) ≠ 5 by decide), upd2_at, if_pos rfl]
            by_cases q : k = e
            · rw [if_pos q, decide_eq_false (show ¬ (1 : Int32) = 0 by decide), Bool.false_and]
            · rw [if_neg q]; exact h1)
          rw [this] at g2; cases g2
      rw [if_pos g3]
    · rw [if_neg g2] at h; cases h
theorem cnt_le {p q : Nat → Bool} : ∀ n, (∀ k, k < n → p k = true → q k = true) → cntS p n ≤ cntS q n := by
  intro n
  induction n with
  | zero => intro _; exact Nat.le_refl _
  | succ n ih =>
    intro h
    have h1 := ih (fun k hk => h k (by omega))
    show cntS p n + (if p n = true then 1 else 0) ≤ cntS q n + (if q n = true then 1 else 0)
    by_cases g : p n = true
    · rw [if_pos g, if_pos (h n (by omega) g)]; omega
    · rw [if_neg g]; omega
def coM (m : Wt) (bn nE : Nat) : Nat := cntS (fun b => decide (rsM m bn nE b = 0)) bn
theorem co_fr {m m' : Wt} (f : Fr [] [] m m') : coM m' bn nE = coM m bn nE := by
  unfold coM rsM laM enM
  rw [f.1 1 (by decide) (by decide) (by decide), f.1 2 (by decide) (by decide) (by decide), f.1 3 (by decide) (by decide) (by decide), f.1 4 (by decide) (by decide) (by decide), f.1 5 (by decide) (by decide) (by decide), f.1 9 (by decide) (by decide) (by decide), f.1 19 (by decide) (by decide) (by decide), f.1 20 (by decide) (by decide) (by decide), f.1 21 (by decide) (by decide) (by decide)]
/-- struck, or refused; the law's difference -/
theorem s_strike (h : Inv t w m) (c : Cn m nE bn rn vn) {e : Nat} (he : e < nE ∨ nE = 0) (he2 : e < 2147483648) : ∃ v w' m', l_strike (nI e) w = some (v, w') ∧ Inv (t + 1) w' m' ∧ Fr [5] [] m m' ∧ ((v < 0 ∧ coM m' bn nE = coM m bn nE) ∨ (¬ v < 0 ∧ v = nI (coM m bn nE) - nI (coM m' bn nE))) := by
  obtain ⟨res, w', z, m', e1, e2, hI, hg⟩ := q_strike h (nI e)
  obtain ⟨hA, hC, hG, hK, h5, hD, hE, hF⟩ := h.at c
  obtain ⟨⟨c1, c2, c3, c4⟩, b1, b2, b3, b4⟩ := id c
  have t1 : ¬ tI true = (0 : Int32) := by decide
  by_cases h0 : nE = 0
  · have e3 : m_strike (nI e) m = some (0, upd2 m 0 45 1) := by
      unfold m_strike m_strike_b28 m_strike_b29
      rw [c1, m_below, bnd_eq, blw_f (by omega) he2, if_pos (show tI false = 0 from rfl), show (0 : Int32) = tI false from rfl, show (1 : Int32) = tI true from rfl, m_goes_eq false false true m]; rfl
    obtain ⟨rfl, rfl⟩ := Prod.mk.inj (Option.some.inj (e2.symm.trans e3))
    rw [agr_x 0 (by decide) (by decide) hg thr_at] at e1
    exact ⟨_, w', _, lx2x (by decide) e1, hI, fr0.up (by simp) (by simp), Or.inl ⟨by decide, co_fr fr0⟩⟩
  · have he' : e < nE := by omega
    have y2 : inb (nI e) 60 = true := nl_in (by omega) (by omega)
    have y3 : (nI e).toNatClampNeg = e := nl_cl (by omega)
    by_cases c5 : m 5 e = 0
    · have hK0 : Core w (upd2 m 0 45 0) nE bn := hK.kpm thr_k
      have hK1 : Core (upd2 w 6 e 1) (upd2 (upd2 m 0 45 0) 5 e 1) nE bn := by
        obtain ⟨⟨g1, g2, g3⟩, ⟨g4, g5, g6⟩, ⟨f1, f2, f3, f4, f5⟩, ⟨d1, d2, d3⟩, d4⟩ := hK0
        have wn : ∀ i, i ≠ 6 → upd2 w 6 e 1 i = w i := fun i hi => upd2_n hi
        have mn : ∀ i, i ≠ 5 → upd2 (upd2 m 0 45 0) 5 e 1 i = upd2 m 0 45 0 i := fun i hi => upd2_n hi
        refine ⟨⟨g1, by rw [wn 1 (by decide)]; exact g2, by rw [mn 0 (by decide)]; exact g3⟩, ⟨g4, by rw [wn 13 (by decide)]; exact g5, by rw [mn 0 (by decide)]; exact g6⟩, ⟨?_, ?_, ?_, ?_, ?_⟩, ⟨?_, ?_, ?_⟩, fun b hb => ?_⟩
        · rw [wn 2 (by decide), mn 1 (by decide)]; exact f1
        · rw [wn 3 (by decide), mn 2 (by decide)]; exact f2
        · rw [wn 4 (by decide), mn 3 (by decide)]; exact f3
        · rw [wn 5 (by decide), mn 4 (by decide)]; exact f4
        · rw [upd2_s, upd2_s, f5]
        · rw [wn 14 (by decide), mn 19 (by decide)]; exact d1
        · rw [wn 16 (by decide), mn 20 (by decide)]; exact d2
        · rw [wn 17 (by decide), mn 21 (by decide)]; exact d3
        · rw [wn 15 (by decide), mn 9 (by decide), mn 19 (by decide)]; exact d4 b hb
      have e3 : m_strike (nI e) m = some (nI (coM (upd2 m 0 45 0) bn nE) - nI (coM (stM (upd2 m 0 45 0) e) bn nE), stM (upd2 m 0 45 0) e) := by
        unfold m_strike m_strike_b29
        rw [c1, m_below, bnd_eq, blw_t he' (by omega), if_neg t1, y2, gd_t, y3, if_pos c5, show m_goes (tI true) (1 : Int32) (1 : Int32) m = some (tI true, upd2 m 0 45 0) from goes_1 true m, bnd_eq, if_neg t1]
        simp only [hK0.countM, bnd_eq, y2, gd_t, y3, nar_b1, nmd_eq, hK1.countM]
        rfl
      obtain ⟨rfl, rfl⟩ := Prod.mk.inj (Option.some.inj (e2.symm.trans e3))
      rw [agr_r (by decide) hg (show stM (upd2 m 0 45 0) e 0 45 = 0 by unfold stM; rw [upd2_n (by decide), thr_at])] at e1
      have hle : coM (stM (upd2 m 0 45 0) e) bn nE ≤ coM m bn nE := by
        rw [← co_fr (bn := bn) (nE := nE) (fr0 (m := m) (v := 0))]
        exact cnt_le bn (fun k _ hk => decide_eq_true (rs_st (of_decide_eq_true hk)))
      have hcb : coM m bn nE ≤ bn := cntS_le
      refine ⟨_, w', _, lx2 e1, hI, ⟨fun i h0 _ h2 => ?_, fun j h1 h2 => ?_⟩, Or.inr ⟨?_, ?_⟩⟩
      · simp only [List.mem_cons, List.not_mem_nil, or_false] at h2
        unfold stM
        rw [upd2_n h2, thr_n h0]
      · unfold stM
        rw [upd2_n (by decide), thr_z (by omega)]
      · rw [co_fr fr0, pk_sub hle]; exact nl_neg (by omega)
      · rw [co_fr fr0]
    · have e3 : m_strike (nI e) m = some (0, upd2 m 0 45 2) := by
        unfold m_strike m_strike_b28 m_strike_b29
        rw [c1, m_below, bnd_eq, blw_t he' (by omega), if_neg t1, y2, gd_t, y3, if_neg c5, show m_goes (tI true) (0 : Int32) (1 : Int32) m = some (tI false, upd2 m 0 45 2) from goes_2 true false m, bnd_eq, if_pos (show tI false = (0 : Int32) from rfl)]
      obtain ⟨rfl, rfl⟩ := Prod.mk.inj (Option.some.inj (e2.symm.trans e3))
      rw [agr_x 2 (by decide) (by decide) hg thr_at] at e1
      exact ⟨_, w', _, lx2x (by decide) e1, hI, fr0.up (by simp) (by simp), Or.inl ⟨by decide, co_fr fr0⟩⟩
/-! read, misread -/
theorem s_read (h : Inv t w m) (c : Cn m nE bn rn vn) {b p : Nat} (hb : b < bn) (hp : p < 6) : l_read (nI b) (nI p) w = some (if p < lnF m b then nI (rdF m b p) else -1) := by
  obtain ⟨hA, hC, hG, hK, h5, hD, hE, hF⟩ := h.at c
  obtain ⟨k1, k2, k3⟩ := hK.2.1
  have t1 : ¬ tI true = (0 : Int32) := by decide
  have b2 : wthn (nI p) 0 5 = true := wth_n (l := 0) (h := 5) (by omega) (by omega) (by omega) (by omega) (by omega)
  obtain ⟨l1, l2, l3⟩ := (hF.2.1 b hb).ln
  have e1 : inb (nI b) 100 = true := nl_in (by omega) (by omega)
  have e2 : (nI b).toNatClampNeg = b := nl_cl (by omega)
  have hval : f_Box_candidateAt (nI b) (nI p) w = some (if p < lnF m b then nI (rdF m b p) else -1) := by
    by_cases c : p < lnF m b
    · rw [if_pos c]; exact read_C hF k1 hb c
    · rw [if_neg c]
      unfold f_Box_candidateAt
      rw [e1, gd_t, e2, hF.1.1, l3, if_neg (by rw [nl_lt (by omega) (by omega)]; exact c)]
  unfold l_read f_Ballotscript_read
  rw [need_B k2 k1, bnd_eq, blw_t hb (by omega), if_pos rfl]
  show Option.bind (Option.bind (f_Ballotscript_isWithin (nI p) 0 5) _) _ = _
  rw [f_within, b2, bnd_eq, if_neg t1, hval]; rfl
theorem s_misread (h : Inv t w m) (c : Cn m nE bn rn vn) {b : Nat} (hb : b < bn) : ∃ v w' m', l_misread (nI b) w = some (v, w') ∧ Inv (t + 1) w' m' ∧ ((v = 0 ∧ m 22 b = 0 ∧ 2 ≤ lnF m b ∧ Fr [22] [] m m' ∧ ∀ k, m' 22 k = if k = b then 1 else m 22 k) ∨ (v = -103 ∧ (m 22 b ≠ 0 ∨ lnF m b < 2) ∧ Fr [] [] m m')) := by
  obtain ⟨res, w', m', e1, e2, hI, hg⟩ := q_misread h (nI b)
  obtain ⟨hA, hC, hG, hK, h5, hD, hE, hF⟩ := h.at c
  obtain ⟨⟨c1, c2, c3, c4⟩, b1, b2, b3, b4⟩ := id c
  have t1 : ¬ tI true = (0 : Int32) := by decide
  have y1 : inb (nI b) 100 = true := nl_in (by omega) (by omega)
  have y2 : (nI b).toNatClampNeg = b := nl_cl (by omega)
  obtain ⟨l1, l2, l3⟩ := (hF.2.1 b hb).ln
  have hm : m_misread (nI b) m = if m 22 b = 0 ∧ 2 ≤ lnF m b then some (upd2 (upd2 m 0 45 0) 22 b 1) else some (upd2 m 0 45 2) := by
    unfold m_misread m_misread_b38
    have no : m_misread_b39 (nI b) (0 : Int32) (tI true) m = some (upd2 m 0 45 2) := by
      unfold m_misread_b39
      rw [show m_goes (tI true) (0 : Int32) (1 : Int32) m = some (tI false, upd2 m 0 45 2) from goes_2 true false m, bnd_eq, if_pos (show tI false = (0 : Int32) from rfl)]
    rw [c2, m_below, bnd_eq, blw_t hb (by omega), if_neg t1, y1, gd_t, y2, no]
    by_cases g : m 22 b = 0
    · rw [if_pos g, gd_t, l3]
      simp only [qa_1 (show lnF m b < 2147483648 by omega)]
      by_cases g2 : 2 ≤ lnF m b
      · rw [if_neg (by omega), if_pos ⟨g, g2⟩]
        unfold m_misread_b39
        rw [show m_goes (tI true) (1 : Int32) (1 : Int32) m = some (tI true, upd2 m 0 45 0) from goes_1 true m, bnd_eq, if_neg t1]
        simp only [y1, y2, gd_t, nar_b1, nmd_eq]
      · rw [if_pos (by omega), if_neg (fun q => g2 q.2)]
    · rw [if_neg g, if_neg (fun q => g q.1)]
  by_cases g : m 22 b = 0 ∧ 2 ≤ lnF m b
  · rw [if_pos g] at hm
    obtain rfl := Option.some.inj (e2.symm.trans hm)
    rw [agr_r (by decide) hg (by simp [upd2_at])] at e1
    refine ⟨0, w', _, ?_, hI, Or.inl ⟨rfl, g.1, g.2, ⟨fun i h0 _ h2 => ?_, fun j h1 h2 => ?_⟩, fun k => by simp [upd2_at]⟩⟩
    · unfold l_misread; rw [e1]; rfl
    · simp only [List.mem_cons, List.not_mem_nil, or_false] at h2
      funext k; simp [upd2_at, h0, h2]
    · simp [upd2_at, show ¬ j = 45 by omega]
  · rw [if_neg g] at hm
    obtain rfl := Option.some.inj (e2.symm.trans hm)
    rw [agr_x 2 (by decide) (by decide) hg thr_at] at e1
    refine ⟨-103, w', _, ?_, hI, Or.inr ⟨rfl, ?_, fr0⟩⟩
    · unfold l_misread
      rw [e1, bnd_eq]
      show gd (decide (2 ∈ [0, 2])) _ = _
      rw [show decide (2 ∈ [0, 2]) = true from by decide]; rfl
    · by_cases q : m 22 b = 0
      · exact Or.inr (by
          rcases Nat.lt_or_ge (lnF m b) 2 with q2 | q2
          · exact q2
          · exact absurd ⟨q, q2⟩ g)
      · exact Or.inl q
end TWO

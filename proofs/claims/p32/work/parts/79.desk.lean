/-! p32: the recount desk, closing, certificates -/
section DESK
variable {t : Nat} {w m : Wt} {nE bn rn vn : Nat}
theorem s_certified (h : Inv t w m) (c : Cn m nE bn rn vn) {v : Nat} (hv : v < vn) : l_certified (nI v) w = some (m 14 v) := by
  obtain ⟨hA, hC, hG, hK, h5, hD, ⟨⟨v1, v2, v3⟩, hE2, hE3, -⟩, hF⟩ := h.at c
  obtain ⟨n, s, r, -, -, q7, -⟩ := hE3 v hv
  have e1 : inb (nI v) 8 = true := nl_in (by omega) (by omega)
  have e2 : (nI v).toNatClampNeg = v := nl_cl (by omega)
  unfold l_certified
  refine lx1 ?_
  unfold f_Ballotscript_certified
  rw [need_V v2 v1, bnd_eq, blw_t hv (by omega), if_pos rfl]
  show gd _ _ = _
  rw [e1, gd_t, e2, q7]
/-- a certificate is none, or a set of candidates -/
theorem cer_or (h : Inv t w m) (c : Cn m nE bn rn vn) {v : Nat} (hv : v < vn) : m 14 v = -1 ∨ ∃ e, e < 64 ∧ m 14 v = nI e := by
  obtain ⟨hA, hC, hG, hK, h5, hD, ⟨-, hE2, hE3, -⟩, hF⟩ := h.at c
  obtain ⟨n, s, r, -, -, -, q⟩ := hE3 v hv
  exact q
theorem s_close (h : Inv t w m) (c : Cn m nE bn rn vn) {v : Nat} (hv : v < vn) (h13 : m 13 v = 0) : ∃ x w' m', l_close (nI v) w = some (nI x, w') ∧ x ≤ 100 ∧ Inv (t + 1) w' m' ∧ Fr [13] [] m m' ∧ ∀ k, m' 13 k = if k = v then 1 else m 13 k := by
  obtain ⟨res, w', z, m', e1, e2, hI, hg⟩ := q_close h (nI v)
  obtain ⟨hA, hC, hG, hK, -⟩ := h.at c
  obtain ⟨⟨c1, c2, c3, c4⟩, b1, b2, b3, b4⟩ := id c
  have t1 : ¬ tI true = (0 : Int32) := by decide
  have y1 : inb (nI v) 8 = true := nl_in (by omega) (by omega)
  have y2 : (nI v).toNatClampNeg = v := nl_cl (by omega)
  have hK2 : Core w (upd2 (upd2 m 0 45 0) 13 v 1) nE bn := hK.cg rfl rfl (fun _ _ => rfl) (by rw [upd2_n (by decide), thr_z (by decide)]) (by rw [upd2_n (by decide), thr_z (by decide)]) (fun i hi => by rw [upd2_n (by omega), thr_n (by omega)])
  have e3 : m_close (nI v) m = some (nI (cntS (ofV (upd2 (upd2 m 0 45 0) 13 v 1) bn nE (nI v)) bn), upd2 (upd2 m 0 45 0) 13 v 1) := by
    unfold m_close m_close_b29
    rw [c4, m_below, bnd_eq, blw_t hv (by omega), if_neg t1, y1, gd_t, y2, if_pos h13, show m_goes (tI true) (1 : Int32) (1 : Int32) m = some (tI true, upd2 m 0 45 0) from goes_1 true m, bnd_eq, if_neg t1]
    simp only [gd_t, nar_b1, nmd_eq, hK2.inM, bnd_eq]
  obtain ⟨rfl, rfl⟩ := Prod.mk.inj (Option.some.inj (e2.symm.trans e3))
  rw [agr_r (by decide) hg (by rw [upd2_n (by decide), thr_at])] at e1
  refine ⟨_, w', _, lx2 e1, Nat.le_trans cntS_le b2, hI, ⟨fun i h0 _ h2 => ?_, fun j h1 h2 => ?_⟩, fun k => by simp [upd2_at]⟩
  · simp only [List.mem_cons, List.not_mem_nil, or_false] at h2
    rw [upd2_n h2, thr_n h0]
  · rw [upd2_n (by decide), thr_z (by omega)]
theorem s_closeX (h : Inv t w m) (c : Cn m nE bn rn vn) {v : Nat} (hv : v < vn) (h13 : m 13 v ≠ 0) : ∃ w' m', l_close (nI v) w = some (-103, w') ∧ Inv (t + 1) w' m' ∧ Fr [] [] m m' := by
  obtain ⟨res, w', z, m', e1, e2, hI, hg⟩ := q_close h (nI v)
  obtain ⟨⟨c1, c2, c3, c4⟩, b1, b2, b3, b4⟩ := id c
  have t1 : ¬ tI true = (0 : Int32) := by decide
  have y1 : inb (nI v) 8 = true := nl_in (by omega) (by omega)
  have y2 : (nI v).toNatClampNeg = v := nl_cl (by omega)
  have e3 : m_close (nI v) m = some (0, upd2 m 0 45 2) := by
    unfold m_close m_close_b28 m_close_b29
    rw [c4, m_below, bnd_eq, blw_t hv (by omega), if_neg t1, y1, gd_t, y2, if_neg h13, show m_goes (tI true) (0 : Int32) (1 : Int32) m = some (tI false, upd2 m 0 45 2) from goes_2 true false m, bnd_eq, if_pos (show tI false = (0 : Int32) from rfl)]
  obtain ⟨rfl, rfl⟩ := Prod.mk.inj (Option.some.inj (e2.symm.trans e3))
  rw [agr_x 2 (by decide) (by decide) hg thr_at] at e1
  exact ⟨w', _, lx2x (by decide) e1, hI, fr0⟩
/-- the winners are there, and one -/
theorem wn_ex (h : Inv t w m) (c : Cn m nE bn rn vn) {v : Nat} (hv : v < vn) : ∃ e, e < 64 ∧ Wn m v e := by
  obtain ⟨n, s, σ, -, -, hg, -, ⟨m', e1, -⟩, -⟩ := picture h c hv
  exact ⟨_, hg.1.2.1, m', e1⟩
theorem s_winners (h : Inv t w m) (c : Cn m nE bn rn vn) {v e : Nat} (hv : v < vn) (hW : Wn m v e) (he : e < 64) : ∀ w2, kpC w w2 → ∃ w3, l_winners (nI v) w2 = some (nI e, w3) ∧ kpL w2 (jn w3 w2) := fun w2 k => by
  obtain ⟨n, s, σ, -, -, hg, -, ⟨m', e1, -⟩, hP⟩ := picture h c hv
  obtain ⟨hA, hC, hG, hK, h5, hD, ⟨⟨v1, v2, v3⟩, -⟩, hF⟩ := h.at c
  obtain ⟨⟨w3, f1, f2, f3⟩, -⟩ := hP w2 k
  have : e = σ.1.2.1 := hW.u ⟨m', e1⟩ he hg.1.2.1
  subst this
  exact ⟨w3, sc_winners (by rw [k.v _ (by omega)]; exact v2) v1 hv f1 f2, kpL.jn f3⟩
theorem s_certify (h : Inv t w m) (c : Cn m nE bn rn vn) {v e : Nat} (hv : v < vn) (h13 : m 13 v ≠ 0) (hW : Wn m v e) (he : e < 64) : ∃ w' m', l_certify (nI v) w = some (nI e, w') ∧ Inv (t + 1) w' m' ∧ Fr [14] [] m m' ∧ ∀ k, m' 14 k = if k = v then nI e else m 14 k := by
  obtain ⟨res, w', z, m', e1, e2, hI, hg⟩ := q_certify h (nI v)
  obtain ⟨⟨c1, c2, c3, c4⟩, b1, b2, b3, b4⟩ := id c
  have t1 : ¬ tI true = (0 : Int32) := by decide
  have y1 : inb (nI v) 8 = true := nl_in (by omega) (by omega)
  have y2 : (nI v).toNatClampNeg = v := nl_cl (by omega)
  have h0 := h.thr 0
  have c0 : Cn (upd2 m 0 45 0) nE bn rn vn := c.fr fr0 (by simp)
  obtain ⟨n, s, σ, -, -, hg2, -, ⟨m2, f1, f2, f3, f4⟩, -⟩ := picture h0 c0 hv
  have hW0 : Wn (upd2 m 0 45 0) v e := wn_fr h c h0 c0 hv fr0 (by simp) hW he
  have : e = σ.1.2.1 := hW0.u ⟨m2, f1⟩ he hg2.1.2.1
  subst this
  have e3 : m_certify (nI v) m = some (nI σ.1.2.1, upd2 m2 14 v (nI σ.1.2.1)) := by
    unfold m_certify m_certify_b29
    rw [c4, m_below, bnd_eq, blw_t hv (by omega), if_neg t1, y1, gd_t, y2, if_neg h13, show m_goes (tI true) (1 : Int32) (1 : Int32) m = some (tI true, upd2 m 0 45 0) from goes_1 true m, bnd_eq, if_neg t1]
    (try dsimp only)
    rw [f1, bnd_eq, gd_t, nmd_eq, gd_t]
    (try dsimp only)
    rw [upd2_at, if_pos rfl, if_pos rfl]
  obtain ⟨rfl, rfl⟩ := Prod.mk.inj (Option.some.inj (e2.symm.trans e3))
  rw [agr_r (by decide) hg (by rw [upd2_n (by decide), f4, thr_at])] at e1
  have fr := (fr0 (m := m) (v := 0)).tr f2.fr
  refine ⟨w', _, lx2 e1, hI, ⟨fun i h0 h1 h2 => ?_, fun j h1 h2 => ?_⟩, fun k => ?_⟩
  · simp only [List.mem_cons, List.not_mem_nil, or_false] at h2
    rw [upd2_n h2]; exact fr.1 i h0 h1 (by simp)
  · rw [upd2_n (by decide)]; exact fr.2 j h1 (by simp)
  · rw [upd2_at, if_pos rfl, fr.1 14 (by decide) (by decide) (by simp)]
theorem s_certifyX (h : Inv t w m) (c : Cn m nE bn rn vn) {v : Nat} (hv : v < vn) (h13 : m 13 v = 0) : ∃ w' m', l_certify (nI v) w = some (-103, w') ∧ Inv (t + 1) w' m' ∧ Fr [] [] m m' := by
  obtain ⟨res, w', z, m', e1, e2, hI, hg⟩ := q_certify h (nI v)
  obtain ⟨⟨c1, c2, c3, c4⟩, b1, b2, b3, b4⟩ := id c
  have t1 : ¬ tI true = (0 : Int32) := by decide
  have y1 : inb (nI v) 8 = true := nl_in (by omega) (by omega)
  have y2 : (nI v).toNatClampNeg = v := nl_cl (by omega)
  have e3 : m_certify (nI v) m = some (0, upd2 m 0 45 2) := by
    unfold m_certify m_certify_b28 m_certify_b29
    rw [c4, m_below, bnd_eq, blw_t hv (by omega), if_neg t1, y1, gd_t, y2, if_pos h13, show m_goes (tI true) (0 : Int32) (1 : Int32) m = some (tI false, upd2 m 0 45 2) from goes_2 true false m, bnd_eq, if_pos (show tI false = (0 : Int32) from rfl)]
  obtain ⟨rfl, rfl⟩ := Prod.mk.inj (Option.some.inj (e2.symm.trans e3))
  rw [agr_x 2 (by decide) (by decide) hg thr_at] at e1
  exact ⟨w', _, lx2x (by decide) e1, hI, fr0⟩
/-! stale -/
def slB (m : Wt) (W : Nat → Nat) (v : Nat) : Bool := decide (¬ m 14 v = -1) && decide (¬ m 14 v = nI (W v))
theorem s_stale (h : Inv t w m) (c : Cn m nE bn rn vn) {W : Nat → Nat} (hW : ∀ v, v < vn → Wn m v (W v) ∧ W v < 64) : ∀ w0, kpC w w0 → ∃ w', f_Ballotscript_stale w0 = some (nI (cntS (slB m W) vn), w') ∧ kpL w0 (jn w' w0) := fun w0 k0 => by
  obtain ⟨hA, hC, hG, hK, h5, hD, ⟨⟨v1, v2, v3⟩, hE2, hE3, -⟩, hF⟩ := h.at c
  have go : ∀ d j fuel w2, j + d = vn → d < fuel → kpC w w2 → kpC w0 w2 → ∃ w3, lp f_Ballotscript_stale_L4 fuel (nI (cntS (slB m W) j), nI j, w2) = some (nI (cntS (slB m W) vn), w3) ∧ kpC w0 w3 := by
    intro d
    induction d with
    | zero =>
      intro j fuel w2 hj hf k k2
      obtain ⟨fuel, rfl⟩ : ∃ f, fuel = f + 1 := ⟨fuel - 1, by omega⟩
      have z : w2 0 10 = nI vn := by rw [k.v _ (by omega)]; exact v2
      have d1 : nI vn ≤ nI j := by rw [nl_le (by omega) (by omega)]; omega
      have : j = vn := by omega
      subst this
      refine ⟨w2, ?_, k2⟩
      unfold lp; simp only [f_Ballotscript_stale_L4, z, d1, ↓reduceIte] <;> rfl
    | succ d ih =>
      intro j fuel w2 hj hf k k2
      obtain ⟨fuel, rfl⟩ : ∃ f, fuel = f + 1 := ⟨fuel - 1, by omega⟩
      have z : w2 0 10 = nI vn := by rw [k.v _ (by omega)]; exact v2
      have d1 : ¬ nI vn ≤ nI j := by rw [nl_le (by omega) (by omega)]; omega
      have u1 : inb (nI j) 8 = true := nl_in (by omega) (by omega)
      have u2 : (nI j).toNatClampNeg = j := nl_cl (by omega)
      obtain ⟨n0, s0, r0, -, -, p3, p4⟩ := hE3 j (by omega)
      have p3' : w2 (64 + j) 7 = m 14 j := by rw [k.o (by decide)]; exact p3
      have hs : cntS (slB m W) (j + 1) = cntS (slB m W) j + (if slB m W j = true then 1 else 0) := rfl
      obtain ⟨g1, g2⟩ := hW j (by omega)
      rcases p4 with p4 | ⟨e, he, p4⟩
      · obtain ⟨w3, r1, r2⟩ := ih (j + 1) fuel w2 (by omega) (by omega) k k2
        refine ⟨w3, ?_, r2⟩
        have hb : slB m W j = false := by unfold slB; rw [p4]; rfl
        rw [hs, hb, if_neg (by decide), Nat.add_zero] at r1
        show Option.bind _ _ = _
        simp only [f_Ballotscript_stale_L4, z, d1, ↓reduceIte, u1, u2, gd_t, nmd_eq, p3', p4, bnd_eq, nI_1]
        exact r1
      · obtain ⟨n, s, σ, -, -, hg, -, ⟨m', e1, -⟩, hP⟩ := picture h c (show j < vn by omega)
        obtain ⟨⟨w4, f1, f2, f3⟩, -⟩ := hP w2 k
        have : W j = σ.1.2.1 := g1.u ⟨m', e1⟩ g2 hg.1.2.1
        have h22 : w4 22 6 = nI (W j) := by rw [this]; exact f2.1.2.1
        have n1 : ¬ nI e = -1 := nl_m1 (by omega)
        have n1' : ¬ nI (W j) = -1 := nl_m1 (by omega)
        obtain ⟨w3, r1, r2⟩ := ih (j + 1) fuel w4 (by omega) (by omega) (k.tr f3) (k2.tr f3)
        refine ⟨w3, ?_, r2⟩
        show Option.bind _ _ = _
        by_cases q : nI e = nI (W j)
        · have hb : slB m W j = false := by
            unfold slB
            rw [p4, decide_eq_false (show ¬ ¬ nI e = nI (W j) from fun x => x q), Bool.and_false]
          rw [hs, hb, if_neg (by decide), Nat.add_zero] at r1
          simp only [f_Ballotscript_stale_L4, z, d1, ↓reduceIte, u1, u2, gd_t, nmd_eq, p3', p4, n1, n1', f1, h22, q, bnd_eq, nI_1]
          exact r1
        · have hb : slB m W j = true := by
            unfold slB
            rw [p4, decide_eq_true q, decide_eq_true n1]; rfl
          rw [hs, hb, if_pos rfl] at r1
          simp only [f_Ballotscript_stale_L4, z, d1, ↓reduceIte, u1, u2, gd_t, nmd_eq, p3', p4, n1, n1', f1, h22, q, bnd_eq, nI_1]
          exact r1
  obtain ⟨w3, r1, r2⟩ := go vn 0 FU w0 (by omega) (by show _ < 100000; omega) k0 kpC.rfl'
  refine ⟨w3, ?_, kpL.jn r2⟩
  unfold f_Ballotscript_stale
  rw [show ((0 : Int32), (0 : Int32), w0) = (nI (cntS (slB m W) 0), nI 0, w0) from rfl, r1]; rfl
end DESK

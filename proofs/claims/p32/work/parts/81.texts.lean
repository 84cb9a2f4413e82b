/-! p32: texts and rules -/
theorem Inv.lo {t : Nat} {w w2 m : Wt} (h : Inv t w m) (J : ∀ i, i < 72 → w2 i = w i) : Inv t w2 m := by
  obtain ⟨hA, hC, hG, nE, bn, rn, vn, hK, h5, hD, ⟨⟨v1, v2, v3⟩, hE2, hE3, hE4⟩, hF⟩ := h
  exact ⟨hA.cg (by rw [J 0 (by omega)]) rfl, hC.cg (by rw [J 7 (by omega)]) (J 8 (by omega)) rfl rfl, hG.cg (by rw [J 11 (by omega)]) (J 12 (by omega)) rfl rfl, nE, bn, rn, vn, hK.cg (by rw [J 1 (by omega)]) (by rw [J 13 (by omega)]) (fun i hi => J i (by omega)) rfl rfl (fun _ _ => rfl), h5, hD.cg (by rw [J 0 (by omega)]) (fun i h1 h2 => J i (by omega)) rfl rfl rfl, ⟨⟨v1, by rw [J 0 (by omega)]; exact v2, v3⟩, fun v hv => (hE2 v hv).cg (J _ (by omega)) (fun _ _ _ => rfl), fun v hv => (hE3 v hv).cg (J _ (by omega)) (fun _ _ _ => rfl), fun v h1 h2 => by rw [J _ (by omega)]; exact hE4 v h1 h2⟩, hF.cg (fun i h1 h2 => J i (by omega)) (fun _ _ _ => rfl)⟩
theorem Inv.jn {t : Nat} {w' w m : Wt} (h : Inv t w' m) : Inv t (jn w' w) m := h.lo (fun i hi => jn_l hi)
theorem jn_hi {w' w : Wt} {i : Nat} (h : 72 ≤ i) : jn w' w i = w i := jn_r (by omega)
theorem zb_chr : ∀ x, x < 128 → ((nI x).toUInt32 % 65536).toInt32 = nI x := by decide +kernel
section TEXTS
variable {t : Nat} {w m : Wt} {nE bn rn vn : Nat}
theorem s_wipe (h : Inv t w m) : ∃ n w' m', n ≤ 24 ∧ f_Ballotscript_wipe w = some (nI n, w') ∧ Inv (t + 1) w' m' ∧ Fr [] [8] m m' ∧ m' 0 8 = 0 := by
  obtain ⟨z, w', m', e1, e2, hI⟩ := q_wipe h
  obtain ⟨n, c1, c2, c3, -⟩ := h.2.1
  have e3 : m_wipe m = some (nI n, upd2 (upd2 m 0 45 0) 0 8 0) := by
    unfold m_wipe
    simp only [nmd_eq, thr_z (show (8 : Nat) ≠ 45 by decide), c3]
  obtain ⟨rfl, rfl⟩ := Prod.mk.inj (Option.some.inj (e2.symm.trans e3))
  refine ⟨n, w', _, c1, e1, hI, ⟨fun i h0 _ _ => by rw [upd2_n h0, thr_n h0], fun j h1 h2 => ?_⟩, by simp [upd2_at]⟩
  simp only [List.mem_cons, List.not_mem_nil, or_false] at h2
  simp [upd2_at, h2, show ¬ j = 45 by omega]
theorem s_type (h : Inv t w m) {n x : Nat} (h8 : m 0 8 = nI n) (hn : n < 24) (hx : x < 128) (hty : tyB x = true) : ∃ w' m', l_type (nI x) w = some (nI (n + 1), w') ∧ Inv (t + 1) w' m' ∧ Fr [6] [8] m m' ∧ m' 0 8 = nI (n + 1) ∧ ∀ k, m' 6 k = if k = n then nI x else m 6 k := by
  obtain ⟨res, w', z, m', e1, e2, hI, hg⟩ := q_type h (show x < 65536 by omega)
  have t1 : ¬ tI true = (0 : Int32) := by decide
  have y1 : ¬ (24 : Int32) ≤ nI n := by rw [qb_24 (by omega)]; omega
  have y2 : inb (nI n) 24 = true := nl_in (by omega) (by omega)
  have y3 : (nI n).toNatClampNeg = n := nl_cl (by omega)
  have hm : m_type (nI x) m = m_type_b42 (nI x) (tI (tyB x)) m := by
    unfold m_type m_type_b12 m_type_b37
    rw [m_digit (by omega)]
    simp only [bnd_eq, tI0, qc_97 (show x < 2147483648 by omega), qa_122 (show x < 2147483648 by omega), qe_59 (show x < 2147483648 by omega), qe_40 (show x < 2147483648 by omega), qe_41 (show x < 2147483648 by omega)]
    unfold tyB
    by_cases d1 : x < 97
    · rw [if_pos d1, decide_eq_false (show ¬ 97 ≤ x by omega), Bool.false_and, Bool.false_or]
      cases hd : dgN x
      · by_cases d2 : x = 59
        · simp [d2, tI]
        · by_cases d3 : x = 40
          · simp [d3, tI]
          · by_cases d4 : x = 41
            · simp [d4, tI]
            · simp [d2, d3, d4, tI]
      · simp [tI]
    · rw [if_neg d1, decide_eq_true (show 97 ≤ x by omega), Bool.true_and]
      by_cases d5 : x ≤ 122
      · rw [if_pos d5, decide_eq_true d5, Bool.true_or]; rfl
      · rw [if_neg d5, decide_eq_false d5, Bool.false_or]
        cases hd : dgN x
        · simp [tI, show ¬ x = 59 by omega, show ¬ x = 40 by omega, show ¬ x = 41 by omega]
        · simp [tI]
  have e3 : m_type (nI x) m = some (nI (n + 1), upd2 (upd2 (upd2 m 0 45 0) 6 n (nI x)) 0 8 (nI (n + 1))) := by
    rw [hm, hty]
    unfold m_type_b42 m_type_b59
    rw [h8, if_neg y1, show m_goes (tI true) (1 : Int32) (1 : Int32) m = some (tI true, upd2 m 0 45 0) from goes_1 true m, bnd_eq, if_neg t1]
    simp only [thr_z (show (8 : Nat) ≠ 45 by decide), h8, y2, y3, gd_t, nmd_eq, upd2_at, show ¬ (0 : Nat) = 6 from by decide, show ¬ (8 : Nat) = 45 from by decide, nI_1, ↓reduceIte]
  obtain ⟨rfl, rfl⟩ := Prod.mk.inj (Option.some.inj (e2.symm.trans e3))
  rw [agr_r (by decide) hg (by simp [upd2_at])] at e1
  refine ⟨w', _, ?_, hI, ⟨fun i h0 _ h2 => ?_, fun j h1 h2 => ?_⟩, by simp [upd2_at], fun k => by simp [upd2_at]⟩
  · unfold l_type
    rw [zb_chr x hx]
    exact lx2 e1
  · simp only [List.mem_cons, List.not_mem_nil, or_false] at h2
    funext k; simp [upd2_at, h0, h2]
  · simp only [List.mem_cons, List.not_mem_nil, or_false] at h2
    simp [upd2_at, h2, show ¬ j = 45 by omega]
theorem s_types (h : Inv t w m) {many : Nat} {T : Nat → Nat} (hm : many ≤ 24) (hT : ∀ k, k < many → w 72 k = nI (T k) ∧ T k < 128 ∧ tyB (T k) = true) : ∃ w' m', l_types (nI many) w = some (1, w') ∧ Inv (t + 25) w' m' ∧ Fr [6] [8] m m' ∧ (m' 0 8 = nI many ∧ ∀ k, k < many → m' 6 k = nI (T k)) ∧ ∀ i, 72 ≤ i → w' i = w i := by
  obtain ⟨n0, w1, m1, g1, g2, g3, g4, g5⟩ := s_wipe h
  have go : ∀ d k fuel t2 w2 m2, k + d = many → d < fuel → Inv t2 w2 m2 → m2 0 8 = nI k → (∀ j, j < k → m2 6 j = nI (T j)) → (∀ i, 72 ≤ i → w2 i = w i) → ∃ w3 m3, lp (l_types_L16 (nI many)) fuel (1, nI k, w2) = some (1, w3) ∧ Inv (t2 + d) w3 m3 ∧ Fr [6] [8] m2 m3 ∧ (m3 0 8 = nI many ∧ ∀ j, j < many → m3 6 j = nI (T j)) ∧ ∀ i, 72 ≤ i → w3 i = w i := by
    intro d
    induction d with
    | zero =>
      intro k fuel t2 w2 m2 s1 s2 s3 s4 s5 s6
      obtain ⟨fuel, rfl⟩ : ∃ f, fuel = f + 1 := ⟨fuel - 1, by omega⟩
      have d1 : nI many ≤ nI k := by rw [nl_le (by omega) (by omega)]; omega
      have : k = many := by omega
      subst this
      refine ⟨w2, m2, ?_, s3, Fr.rf.up (by simp) (by simp), ⟨s4, s5⟩, s6⟩
      unfold lp; simp only [l_types_L16, d1, ↓reduceIte] <;> rfl
    | succ d ih =>
      intro k fuel t2 w2 m2 s1 s2 s3 s4 s5 s6
      obtain ⟨fuel, rfl⟩ : ∃ f, fuel = f + 1 := ⟨fuel - 1, by omega⟩
      have d1 : ¬ nI many ≤ nI k := by rw [nl_le (by omega) (by omega)]; omega
      have d2 : inb (nI k) 24 = true := nl_in (by omega) (by omega)
      have d3 : (nI k).toNatClampNeg = k := nl_cl (by omega)
      obtain ⟨t1, t3, t4⟩ := hT k (by omega)
      have d4 : w2 72 k = nI (T k) := by rw [s6 72 (by omega)]; exact t1
      obtain ⟨w4, m4, e1, e2, e3, e4, e5⟩ := s_type s3 s4 (by omega) t3 t4
      obtain ⟨w3, m3, r1, r2, r3, r4, r5⟩ := ih (k + 1) fuel (t2 + 1) (jn w4 w2) m4 (by omega) (by omega) e2.jn e4 (fun j hj => by
        rw [e5]
        by_cases q : j = k
        · rw [if_pos q, q]
        · rw [if_neg q]; exact s5 j (by omega)) (fun i hi => by rw [jn_hi hi]; exact s6 i hi)
      refine ⟨w3, m3, ?_, by rw [show t2 + (d + 1) = t2 + 1 + d by omega]; exact r2, e3.t2 r3, r4, r5⟩
      show Option.bind _ _ = _
      simp only [l_types_L16, d1, ↓reduceIte, show ¬ (1 : Int32) = 0 from by decide, d2, gd_t, d3, d4, e1, bnd_eq, nmd_eq, nI_1]
      exact r1
  obtain ⟨w3, m3, r1, r2, r3, r4, r5⟩ := go many 0 25 (t + 1) (jn w1 w) m1 (by omega) (by omega) g3.jn g5 (fun j hj => absurd hj (Nat.not_lt_zero j)) (fun i hi => jn_hi hi)
  refine ⟨w3, m3, ?_, r2.up (by omega), (g4.up (by simp) (by simp)).t2 r3, r4, r5⟩
  unfold l_types
  rw [g2, bnd_eq, nmd_eq]
  (try dsimp only)
  rw [if_neg (nl_neg (by omega))]
  unfold l_types_b12
  rw [show ((1 : Int32), (0 : Int32), jn w1 w) = (1, nI 0, jn w1 w) from rfl, r1, bnd_eq]
  rfl
/-- the text that stands -/
def Tx (m : Wt) (T : Nat → Nat) (len : Nat) : Prop := len ≤ 24 ∧ m 0 8 = nI len ∧ ∀ k, k < len → m 6 k = nI (T k) ∧ T k < 65536
theorem Tx.fr {S Z : List Nat} {m' : Wt} {T : Nat → Nat} {len : Nat} (h : Tx m T len) (f : Fr S Z m m') (h6 : 6 ∉ S) (h8 : 8 ∉ Z) : Tx m' T len :=
  ⟨h.1, by rw [f.2 8 (by omega) h8]; exact h.2.1, fun k hk => by rw [f.1 6 (by decide) (by decide) h6]; exact h.2.2 k hk⟩
theorem s_fault (h : Inv t w m) {T : Nat → Nat} {len : Nat} (hx : Tx m T len) : f_Ballotscript_fault w = some (flt T len) := by
  obtain ⟨n, c1, c2, c3, c4, c5⟩ := h.2.1
  obtain ⟨x1, x2, x3⟩ := hx
  have : n = len := nI_i (by omega) (by omega) (c3.symm.trans x2)
  subst this
  unfold f_Ballotscript_fault
  rw [f_fault c1 c2 (fun k hk => by rw [c4]; exact x3 k hk)]
  rfl
theorem m_flt {T : Nat → Nat} {len : Nat} (hx : Tx m T len) : m_faultOf m = some (flt T len) := m_fault_eq hx.1 hx.2.1 hx.2.2
theorem s_ruleX (h : Inv t w m) {T : Nat → Nat} {len : Nat} (hx : Tx m T len) (hf : flt T len ≠ -1) : ∃ w' m', l_rule w = some (-102, w') ∧ Inv (t + 1) w' m' ∧ Fr [] [] m m' := by
  obtain ⟨res, w', z, m', e1, e2, hI, hg⟩ := q_rule h
  have e3 : m_rule m = some (0, upd2 m 0 45 1) := by
    have g : ∀ a : Int32, (a = tI true ∨ a = tI false) → m_rule_b28 a (0 : Int32) m = some (0, upd2 m 0 45 1) := fun a ha => by
      unfold m_rule_b28
      rcases ha with rfl | rfl
      · rw [show m_goes (0 : Int32) (tI true) (1 : Int32) m = some (tI false, upd2 m 0 45 1) from goes_2 false true m, bnd_eq, if_pos (show tI false = (0 : Int32) from rfl)]
      · rw [show m_goes (0 : Int32) (tI false) (1 : Int32) m = some (tI false, upd2 m 0 45 1) from goes_2 false false m, bnd_eq, if_pos (show tI false = (0 : Int32) from rfl)]
    unfold m_rule m_rule_b14
    rw [m_flt hx, bnd_eq, if_neg hf]
    split
    · exact g _ (Or.inr rfl)
    · exact g _ (Or.inl rfl)
  obtain ⟨rfl, rfl⟩ := Prod.mk.inj (Option.some.inj (e2.symm.trans e3))
  rw [agr_x 1 (by decide) (by decide) hg thr_at] at e1
  exact ⟨w', _, lx2x (by decide) e1, hI, fr0⟩
theorem s_rule (h : Inv t w m) (c : Cn m nE bn rn vn) (hr : rn < 8) {T : Nat → Nat} {len : Nat} (hx : Tx m T len) (hf : WF T len) : ∃ w' m', l_rule w = some (nI rn, w') ∧ Inv (t + 1) w' m' ∧ Fr [7, 8] [11] m m' ∧ m' 0 11 = nI (rn + 1) ∧ RuM m' rn T len := by
  obtain ⟨res, w', z, m', e1, e2, hI, hg⟩ := q_rule h
  obtain ⟨⟨c1, c2, c3, c4⟩, z1, z2, z3, z4⟩ := id c
  have t1 : ¬ tI true = (0 : Int32) := by decide
  obtain ⟨x1, x2, x3⟩ := id hx
  obtain ⟨m1, em, g1, g2, g3, g4⟩ := m_write (m := upd2 m 0 45 0) hr x1 (by rw [thr_z (by decide)]; exact x2) (fun k hk => by rw [thr_n (by decide)]; exact (x3 k hk).1)
  have hz11 : m1 0 11 = nI rn := by rw [g2 0 (by decide) (by decide), thr_z (by decide)]; exact c3
  have e3 : m_rule m = some (nI rn, upd2 m1 0 11 (nI (rn + 1))) := by
    unfold m_rule m_rule_b14
    rw [m_flt hx, bnd_eq, if_pos ((flt_wf x1).mpr hf), c3, if_neg (by rw [qb_8 (by omega)]; omega)]
    unfold m_rule_b28
    rw [go3, bnd_eq, if_neg t1]
    simp only [thr_z (show (11 : Nat) ≠ 45 by decide), c3, em, bnd_eq, nmd_eq, hz11, nI_1, upd2_at, nI_pred, ↓reduceIte]
  obtain ⟨rfl, rfl⟩ := Prod.mk.inj (Option.some.inj (e2.symm.trans e3))
  rw [agr_r (by decide) hg (by rw [upd2_at, if_pos rfl, if_neg (by decide), g2 0 (by decide) (by decide), thr_at])] at e1
  refine ⟨w', _, lx2 e1, hI, ⟨fun i h0 _ h2 => ?_, fun j h1 h2 => ?_⟩, by rw [upd2_at, if_pos rfl, if_pos rfl], ?_⟩
  · simp only [List.mem_cons, List.not_mem_nil, or_false, not_or] at h2
    rw [upd2_n h0, g2 i h2.1 h2.2, thr_n h0]
  · simp only [List.mem_cons, List.not_mem_nil, or_false] at h2
    rw [upd2_at, if_pos rfl, if_neg h2, g2 0 (by decide) (by decide), thr_z (by omega)]
  · unfold RuM
    rw [upd2_n (by decide), upd2_n (by decide)]
    exact g1
theorem s_commands (h : Inv t w m) (c : Cn m nE bn rn vn) {r : Nat} (hr : r < rn) {T : Nat → Nat} {len : Nat} (hlen : len ≤ 24) (hT : ∀ k, k < len → T k < 65536) (hU : RuM m r T len) : l_commands (nI r) w = some (nI (cntS (fun j => decide (T j = 59)) len)) := by
  obtain ⟨res, z, m', e1, e2, hI, hg⟩ := q_commands h (nI r)
  obtain ⟨⟨c1, c2, c3, c4⟩, z1, z2, z3, z4⟩ := id c
  have t1 : ¬ tI true = (0 : Int32) := by decide
  have hU0 : RuM (upd2 m 0 45 0) r T len := by
    unfold RuM
    rw [thr_n (by decide), thr_n (by decide)]; exact hU
  have e3 : m_commands (nI r) m = some (nI (cntS (fun j => decide (T j = 59)) len), upd2 m 0 45 0) := by
    unfold m_commands
    rw [c3, m_below, bnd_eq, blw_t hr (by omega), show m_goes (tI true) (1 : Int32) (1 : Int32) m = some (tI true, upd2 m 0 45 0) from goes_1 true m, bnd_eq, if_neg t1, m_cmds (by omega) hlen hU0 hT]; rfl
  obtain ⟨rfl, rfl⟩ := Prod.mk.inj (Option.some.inj (e2.symm.trans e3))
  rw [agr_r (by decide) hg thr_at] at e1
  unfold l_commands
  exact lx1 e1
theorem s_mend8 (h : Inv t w m) (c : Cn m nE bn rn vn) : ∃ w' m', l_mend (8 : Int32) w = some (-101, w') ∧ Inv (t + 1) w' m' ∧ Fr [] [] m m' := by
  obtain ⟨res, w', z, m', e1, e2, hI, hg⟩ := q_mend h (8 : Int32)
  obtain ⟨⟨c1, c2, c3, c4⟩, z1, z2, z3, z4⟩ := id c
  obtain ⟨T, len, -, -, -, -, t7⟩ := h.2.1.flt (m' := m) kpW.rfl'
  have e3 : m_mend (8 : Int32) m = some (0, upd2 m 0 45 1) := by
    have g : ∀ a : Int32, (a = tI true ∨ a = tI false) → m_mend_b22 (8 : Int32) a (tI false) m = some (0, upd2 m 0 45 1) := fun a ha => by
      unfold m_mend_b22
      rcases ha with rfl | rfl
      · rw [show m_goes (tI false) (tI true) (1 : Int32) m = some (tI false, upd2 m 0 45 1) from goes_2 false true m, bnd_eq, if_pos (show tI false = (0 : Int32) from rfl)]
      · rw [show m_goes (tI false) (tI false) (1 : Int32) m = some (tI false, upd2 m 0 45 1) from goes_2 false false m, bnd_eq, if_pos (show tI false = (0 : Int32) from rfl)]
    unfold m_mend
    rw [c3, m_below, bnd_eq, show blw (8 : Int32) (nI rn) = false from blw_f (a := 8) z3 (by omega), t7, bnd_eq]
    split
    · exact g _ (Or.inl rfl)
    · exact g _ (Or.inr rfl)
  obtain ⟨rfl, rfl⟩ := Prod.mk.inj (Option.some.inj (e2.symm.trans e3))
  rw [agr_x 0 (by decide) (by decide) hg thr_at] at e1
  exact ⟨w', _, lx2x (by decide) e1, hI, fr0⟩
end TEXTS

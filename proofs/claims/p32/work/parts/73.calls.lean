/-! THE CALLS, the seventh part: certificates and mended rules -/
theorem nl_m1 {e : Nat} (h : e < 2147483648) : ¬ nI e = -1 := by
  rw [ieq, nI_toInt h]
  have : (-1 : Int32).toInt = -1 := rfl
  omega
section CALLS7
variable {t : Nat} {w m : Wt}
theorem Inv.cer (h : Inv t w m) {v vn e : Nat} (hv : v < vn) (hn : vn ≤ 8) (h20 : m 0 20 = nI vn) (he : e < 64) : Inv t (upd2 w (64 + v) 7 (nI e)) (upd2 m 14 v (nI e)) := by
  obtain ⟨hA, hC, hG, nE, bn, rn, vn', hK, h5, hD, ⟨⟨v1, v2, v3⟩, hE2, hE3, hE4⟩, hF⟩ := h
  have hvv : vn' = vn := by rw [v3] at h20; exact (Iff.of_eq (nl_eq (by omega) (by omega))).mp h20
  subst hvv
  have wn : ∀ i, i ≠ 64 + v → upd2 w (64 + v) 7 (nI e) i = w i := fun i hi => upd2_n hi
  have mn : ∀ i, i ≠ 14 → upd2 m 14 v (nI e) i = m i := fun i hi => upd2_n hi
  have wj : ∀ u j, j ≠ 7 → upd2 w (64 + v) 7 (nI e) (64 + u) j = w (64 + u) j := fun u j hj => by
    rw [upd2_at]
    by_cases g : 64 + u = 64 + v
    · rw [if_pos g, if_neg hj]
    · rw [if_neg g]
  refine ⟨hA.cg (by rw [wn 0 (by omega)]) (by rw [mn 0 (by decide)]), hC.cg (by rw [wn 7 (by omega)]) (wn 8 (by omega)) (by rw [mn 0 (by decide)]) (mn 6 (by decide)), hG.cg (by rw [wn 11 (by omega)]) (wn 12 (by omega)) (by rw [mn 0 (by decide)]) (mn 23 (by decide)), nE, bn, rn, vn', hK.cg (by rw [wn 1 (by omega)]) (by rw [wn 13 (by omega)]) (fun i hi => wn i (by omega)) (by rw [mn 0 (by decide)]) (by rw [mn 0 (by decide)]) (fun i hi => mn i (by omega)), fun k hk => by rw [mn 5 (by decide)]; exact h5 k hk, hD.cg (by rw [wn 0 (by omega)]) (fun i h1 h2 => wn i (by omega)) (by rw [mn 0 (by decide)]) (mn 8 (by decide)) (mn 7 (by decide)), ⟨⟨v1, by rw [wn 0 (by omega)]; exact v2, by rw [mn 0 (by decide)]; exact v3⟩, fun u hu => ?_, fun u hu => ?_, fun u h1 h2 => ?_⟩, hF.cg (fun i h1 h2 => wn i (by omega)) (fun i h1 h2 => mn i (by omega))⟩
  · have q := hE2 u hu
    unfold InV at q ⊢
    rw [wj u 0 (by decide), wj u 1 (by decide), wj u 2 (by decide), wj u 3 (by decide), wj u 4 (by decide), wj u 5 (by decide), wj u 6 (by decide), mn 9 (by decide), mn 10 (by decide), mn 11 (by decide), mn 12 (by decide), mn 13 (by decide), mn 15 (by decide), mn 16 (by decide)]
    exact q
  · obtain ⟨c, s, r, p1, p2, p3, p4⟩ := hE3 u hu
    unfold InW
    rw [mn 10 (by decide), mn 11 (by decide), mn 12 (by decide)]
    by_cases g : u = v
    · subst g
      refine ⟨c, s, r, p1, p2, ?_, Or.inr ⟨e, he, ?_⟩⟩
      · rw [upd2_at, if_pos rfl, if_pos rfl, upd2_at, if_pos rfl, if_pos rfl]
      · rw [upd2_at, if_pos rfl, if_pos rfl]
    · refine ⟨c, s, r, p1, p2, ?_, ?_⟩
      · rw [wn _ (by omega), upd2_at, if_pos rfl, if_neg g]; exact p3
      · rw [upd2_at, if_pos rfl, if_neg g]; exact p4
  · rw [wn _ (by omega)]; exact hE4 u h1 h2
theorem q_certify (h : Inv t w m) (a1 : Int32) : ∃ res w' z m', f_Ballotscript_certify a1 w = some (res, w') ∧ m_certify a1 m = some (z, m') ∧ Inv (t + 1) w' m' ∧ Agr [0, 2] res z (m' 0 45) := by
  have hth := fun v => h.thr v
  obtain ⟨hA, hC, hG, nE, bn, rn, vn, hK, h5, hD, hE, hF⟩ := hth 0
  obtain ⟨v1, v2, v3⟩ := hE.1
  have v4 : m 0 20 = nI vn := by rw [← v3, thr_z (by decide)]
  have hno : ∀ (b : Bool) (l1 : Int32), m_certify_b28 l1 (tI b) m = some (0, upd2 m 0 45 (thrN b false true)) := by
    intro b l1
    unfold m_certify_b28 m_certify_b29
    rw [show (0 : Int32) = tI false from rfl, goes_2, bnd_eq, Bool.and_false]; rfl
  unfold f_Ballotscript_certify m_certify
  rw [need_V v2 v1, bnd_eq, v4, m_below, bnd_eq]
  cases c1 : blw a1 (nI vn) with
  | false =>
    rw [if_pos (show tI false = 0 from rfl), hno]
    refine ⟨.inl 0, _, _, _, rfl, rfl, hth _, Agr.l (by decide) ?_⟩
    exact thr_e (m := m) rfl
  | true =>
    obtain ⟨v, hv, rfl⟩ := blw_n (by omega) c1
    have u1 : inb (nI v) 8 = true := nl_in (by omega) (by omega)
    have u2 : (nI v).toNatClampNeg = v := nl_cl (by omega)
    have h4 : w (64 + v) 4 = m 13 v := by rw [((hE.2.1 v (by omega)).2.1.1), thr_n (by decide)]
    rw [if_pos rfl, wa_in, if_neg (show ¬ tI true = 0 from by decide), u1, gd_t, gd_t, u2, h4]
    by_cases d1 : m 13 v = 0
    · rw [if_pos d1, if_pos d1, hno]
      refine ⟨.inl 2, _, _, _, rfl, rfl, hth _, Agr.l (by decide) ?_⟩
      exact thr_e (m := m) rfl
    · obtain ⟨c, σ, w', m', ⟨e1, e2⟩, ⟨g1, g2, g3⟩, -, ⟨k1, k2, k3, k4, k5⟩, -⟩ := both hK hD hE hF hv
      have hE64 : σ.1.2.1 < 64 := g3.1.2.1
      have hmv : m_certify_b29 (nI v) (1 : Int32) (tI true) m = some (nI σ.1.2.1, upd2 m' 14 v (nI σ.1.2.1)) := by
        unfold m_certify_b29
        rw [show m_goes (tI true) (1 : Int32) (1 : Int32) m = some (tI true, upd2 m 0 45 0) from goes_1 true m, bnd_eq, if_neg (show ¬ tI true = 0 from by decide)]
        (try dsimp only)
        rw [e2, bnd_eq, u1, gd_t, nmd_eq, gd_t, u2]
        (try dsimp only)
        rw [upd2_at, if_pos rfl, if_pos rfl]
      have h22 : w' 22 6 = nI σ.1.2.1 := g1.1.2.1
      rw [if_neg d1, if_neg d1, gd_t, e1, bnd_eq, nmd_eq, gd_t, hmv, h22]
      refine ⟨.inr (nI σ.1.2.1), _, _, _, ?_, rfl, ((hth 0).kp k1 k3).cer hv (by omega) (by rw [k3.z (by decide)]; exact v3) hE64, Agr.r ?_ rfl⟩
      · rw [upd2_at, if_pos rfl, if_pos rfl]
      · rw [upd2_n (by decide)]; exact k5.trans thr_at
theorem stale_go {nE bn rn vn : Nat} (hK : Core w m nE bn) (hD : InD w m rn) (hE : InE w m t rn vn) (hF : InF w m vn bn) : ∀ d j f fuel w2 m2, j + d = vn → d < fuel → kpC w w2 → kpW m m2 → ∃ f' w3 m3, lp f_Ballotscript_stale_L4 fuel (nI f, nI j, w2) = some (nI f', w3) ∧ lp m_stale_L9 fuel (nI f, nI j, m2) = some (nI f', m3) ∧ kpC w w3 ∧ kpW m m3 ∧ m3 0 45 = m2 0 45 := by
  intro d
  induction d with
  | zero =>
    intro j f fuel w2 m2 hj hf k g
    obtain ⟨fuel, rfl⟩ : ∃ f, fuel = f + 1 := ⟨fuel - 1, by omega⟩
    obtain ⟨v1, v2, v3⟩ := (hE.kp k g).1
    have d1 : nI vn ≤ nI j := by rw [nl_le (by omega) (by omega)]; omega
    refine ⟨f, w2, m2, ?_, ?_, k, g, rfl⟩
    · unfold lp; simp only [f_Ballotscript_stale_L4, v2, d1, ↓reduceIte] <;> rfl
    · unfold lp; simp only [m_stale_L9, v3, d1, ↓reduceIte] <;> rfl
  | succ d ih =>
    intro j f fuel w2 m2 hj hf k g
    obtain ⟨fuel, rfl⟩ : ∃ f, fuel = f + 1 := ⟨fuel - 1, by omega⟩
    have hE' := hE.kp k g
    obtain ⟨v1, v2, v3⟩ := hE'.1
    have d1 : ¬ nI vn ≤ nI j := by rw [nl_le (by omega) (by omega)]; omega
    have u1 : inb (nI j) 8 = true := nl_in (by omega) (by omega)
    have u2 : (nI j).toNatClampNeg = j := nl_cl (by omega)
    obtain ⟨c0, s0, r0, -, -, p3, p4⟩ := hE'.2.2.1 j (by omega)
    rcases p4 with p4 | ⟨e, he, p4⟩
    · obtain ⟨f', w3, m3, r1, r2, r3, r4, r5⟩ := ih (j + 1) f fuel w2 m2 (by omega) (by omega) k g
      refine ⟨f', w3, m3, ?_, ?_, r3, r4, r5⟩
      · show Option.bind _ _ = _
        simp only [f_Ballotscript_stale_L4, v2, d1, ↓reduceIte, u1, u2, gd_t, nmd_eq, p3, p4, bnd_eq, nI_1]
        exact r1
      · show Option.bind _ _ = _
        simp only [m_stale_L9, v3, d1, ↓reduceIte, u1, u2, gd_t, nmd_eq, p4, bnd_eq, nI_1, Int32.add_zero, show (-1 : Int32) < 0 from by decide]
        exact r2
    · obtain ⟨c, σ, w', m', ⟨e1, e2⟩, ⟨g1, g2, g3⟩, -, ⟨k1, k2, k3, k4, k5⟩, -⟩ := both ((hK.kp k).kpm g) (hD.kp k g) hE' (hF.kp k g) (show j < vn by omega)
      have h22 : w' 22 6 = nI σ.1.2.1 := g1.1.2.1
      have n0 : ¬ nI e < 0 := nl_neg (by omega)
      have n1 : ¬ nI e = -1 := nl_m1 (by omega)
      have n0' : ¬ nI σ.1.2.1 < 0 := nl_neg (by have := g3.1.2.1; omega)
      have n1' : ¬ nI σ.1.2.1 = -1 := nl_m1 (by have := g3.1.2.1; omega)
      by_cases q : nI e = nI σ.1.2.1
      · obtain ⟨f', w3, m3, r1, r2, r3, r4, r5⟩ := ih (j + 1) f fuel w' m' (by omega) (by omega) (k.tr k1) (g.tr k3)
        refine ⟨f', w3, m3, ?_, ?_, r3, r4, r5.trans k5⟩
        · show Option.bind _ _ = _
          simp only [f_Ballotscript_stale_L4, v2, d1, ↓reduceIte, u1, u2, gd_t, nmd_eq, p3, p4, n1, n1', e1, h22, q, bnd_eq, nI_1]
          exact r1
        · show Option.bind _ _ = _
          simp only [m_stale_L9, v3, d1, ↓reduceIte, u1, u2, gd_t, nmd_eq, p4, n0, n0', e2, q, bnd_eq, nI_1, Int32.add_zero]
          exact r2
      · obtain ⟨f', w3, m3, r1, r2, r3, r4, r5⟩ := ih (j + 1) (f + 1) fuel w' m' (by omega) (by omega) (k.tr k1) (g.tr k3)
        refine ⟨f', w3, m3, ?_, ?_, r3, r4, r5.trans k5⟩
        · show Option.bind _ _ = _
          simp only [f_Ballotscript_stale_L4, v2, d1, ↓reduceIte, u1, u2, gd_t, nmd_eq, p3, p4, n1, n1', e1, h22, q, bnd_eq, nI_1]
          exact r1
        · show Option.bind _ _ = _
          simp only [m_stale_L9, v3, d1, ↓reduceIte, u1, u2, gd_t, nmd_eq, p4, n0, n0', e2, q, bnd_eq, nI_1]
          exact r2
theorem q_stale (h : Inv t w m) : ∃ z w' m', f_Ballotscript_stale w = some (z, w') ∧ m_stale m = some (z, m') ∧ Inv (t + 1) w' m' ∧ m' 0 45 = 0 := by
  have hth := h.thr 0
  have h0 := hth
  obtain ⟨hA, hC, hG, nE, bn, rn, vn, hK, h5, hD, hE, hF⟩ := hth
  have v1 := hE.1.1
  obtain ⟨f', w3, m3, r1, r2, r3, r4, r5⟩ := stale_go hK hD hE hF vn 0 0 FU w (upd2 m 0 45 0) (by omega) (by show _ < 100000; omega) kpC.rfl' kpW.rfl'
  refine ⟨nI f', w3, m3, ?_, ?_, h0.kp r3 r4, r5.trans thr_at⟩
  · unfold f_Ballotscript_stale
    rw [show ((0 : Int32), (0 : Int32), w) = (nI 0, nI 0, w) from rfl, r1]; rfl
  · unfold m_stale
    rw [nmd_eq, show ((0 : Int32), (0 : Int32), upd2 m 0 45 0) = (nI 0, nI 0, upd2 m 0 45 0) from rfl, r2]; rfl
theorem mend_1 {nE bn rn vn : Nat} (hK : Core w m nE bn) (hD : InD w m rn) (hE : InE w m t rn vn) (hF : InF w m vn bn) (a : Int32) : ∀ d j fuel w2 m2, j + d = vn → d < fuel → kpC w w2 → kpW m m2 → (∀ u, u < j → w2 (64 + u) 8 = m2 29 u) → ∃ w3 m3, lp (f_Ballotscript_mend_L47 a) fuel (nI j, w2) = some w3 ∧ lp (m_mend_L33 a) fuel (nI j, m2) = some m3 ∧ kpC w w3 ∧ kpW m m3 ∧ (∀ u, u < vn → w3 (64 + u) 8 = m3 29 u) ∧ m3 0 45 = m2 0 45 := by
  intro d
  induction d with
  | zero =>
    intro j fuel w2 m2 hj hf k g hu
    obtain ⟨fuel, rfl⟩ : ∃ f, fuel = f + 1 := ⟨fuel - 1, by omega⟩
    obtain ⟨v1, v2, v3⟩ := (hE.kp k g).1
    have d1 : nI vn ≤ nI j := by rw [nl_le (by omega) (by omega)]; omega
    refine ⟨w2, m2, ?_, ?_, k, g, fun u h1 => hu u (by omega), rfl⟩
    · unfold lp; simp only [f_Ballotscript_mend_L47, v2, d1, ↓reduceIte] <;> rfl
    · unfold lp; simp only [m_mend_L33, v3, d1, ↓reduceIte] <;> rfl
  | succ d ih =>
    intro j fuel w2 m2 hj hf k g hu
    obtain ⟨fuel, rfl⟩ : ∃ f, fuel = f + 1 := ⟨fuel - 1, by omega⟩
    have hE' := hE.kp k g
    obtain ⟨v1, v2, v3⟩ := hE'.1
    have d1 : ¬ nI vn ≤ nI j := by rw [nl_le (by omega) (by omega)]; omega
    have u1 : inb (nI j) 8 = true := nl_in (by omega) (by omega)
    have u2 : (nI j).toNatClampNeg = j := nl_cl (by omega)
    obtain ⟨c, σ, w', m', ⟨e1, e2⟩, ⟨g1, g2, g3⟩, -, ⟨k1, k2, k3, k4, k5⟩, -⟩ := both ((hK.kp k).kpm g) (hD.kp k g) hE' (hF.kp k g) (show j < vn by omega)
    have h22 : w' 22 6 = nI σ.1.2.1 := g1.1.2.1
    obtain ⟨w3, m3, r1, r2, r3, r4, r5, r6⟩ := ih (j + 1) fuel (upd2 w' (64 + j) 8 (nI σ.1.2.1)) (upd2 m' 29 j (nI σ.1.2.1)) (by omega) (by omega) ((k.tr k1).tr (fun a b q => by
      rw [upd2_at]
      by_cases q1 : a = 64 + j
      · by_cases q2 : b = 8
        · subst q1; subst q2
          unfold scC at q
          simp at q
        · rw [if_pos q1, if_neg q2]
      · rw [if_neg q1])) ((g.tr k3).tr (kpW.up rfl)) (fun u h1 => by
      by_cases q1 : u = j
      · subst q1; rw [upd2_at, if_pos rfl, if_pos rfl, upd2_at, if_pos rfl, if_pos rfl]
      · rw [upd2_at, if_neg (by omega), upd2_at, if_pos rfl, if_neg q1, k2 _ (by omega), k4]; exact hu u (by omega))
    refine ⟨w3, m3, ?_, ?_, r3, r4, r5, r6.trans (by rw [upd2_n (by decide)]; exact k5)⟩
    · show Option.bind _ _ = _
      simp only [f_Ballotscript_mend_L47, v2, d1, ↓reduceIte, u1, u2, gd_t, nmd_eq, e1, h22, bnd_eq, nI_1]
      exact r1
    · show Option.bind _ _ = _
      simp only [m_mend_L33, v3, d1, ↓reduceIte, u1, u2, gd_t, nmd_eq, e2, bnd_eq, nI_1]
      exact r2
theorem mend_2 {nE bn rn vn : Nat} (hK : Core w m nE bn) (hD : InD w m rn) (hE : InE w m t rn vn) (hF : InF w m vn bn) : ∀ d j f fuel w2 m2, j + d = vn → d < fuel → kpC w w2 → kpW m m2 → (∀ u, u < vn → w2 (64 + u) 8 = m2 29 u) → ∃ f' w3 m3, lp f_Ballotscript_mend_L95 fuel (nI f, nI j, w2) = some (nI f', w3) ∧ lp m_mend_L67 fuel (nI f, nI j, m2) = some (nI f', m3) ∧ kpC w w3 ∧ kpW m m3 ∧ m3 0 45 = m2 0 45 := by
  intro d
  induction d with
  | zero =>
    intro j f fuel w2 m2 hj hf k g hu
    obtain ⟨fuel, rfl⟩ : ∃ f, fuel = f + 1 := ⟨fuel - 1, by omega⟩
    obtain ⟨v1, v2, v3⟩ := (hE.kp k g).1
    have d1 : nI vn ≤ nI j := by rw [nl_le (by omega) (by omega)]; omega
    refine ⟨f, w2, m2, ?_, ?_, k, g, rfl⟩
    · unfold lp; simp only [f_Ballotscript_mend_L95, v2, d1, ↓reduceIte] <;> rfl
    · unfold lp; simp only [m_mend_L67, v3, d1, ↓reduceIte] <;> rfl
  | succ d ih =>
    intro j f fuel w2 m2 hj hf k g hu
    obtain ⟨fuel, rfl⟩ : ∃ f, fuel = f + 1 := ⟨fuel - 1, by omega⟩
    have hE' := hE.kp k g
    obtain ⟨v1, v2, v3⟩ := hE'.1
    have d1 : ¬ nI vn ≤ nI j := by rw [nl_le (by omega) (by omega)]; omega
    have u1 : inb (nI j) 8 = true := nl_in (by omega) (by omega)
    have u2 : (nI j).toNatClampNeg = j := nl_cl (by omega)
    obtain ⟨c, σ, w', m', ⟨e1, e2⟩, ⟨g1, g2, g3⟩, -, ⟨k1, k2, k3, k4, k5⟩, -⟩ := both ((hK.kp k).kpm g) (hD.kp k g) hE' (hF.kp k g) (show j < vn by omega)
    have h22 : w' 22 6 = nI σ.1.2.1 := g1.1.2.1
    have h8 : w' (64 + j) 8 = m2 29 j := by rw [k2 _ (by omega)]; exact hu j (by omega)
    have hu' : ∀ u, u < vn → w' (64 + u) 8 = m' 29 u := fun u h1 => by rw [k2 _ (by omega), k4]; exact hu u h1
    by_cases q : nI σ.1.2.1 = m2 29 j
    · obtain ⟨f', w3, m3, r1, r2, r3, r4, r5⟩ := ih (j + 1) f fuel w' m' (by omega) (by omega) (k.tr k1) (g.tr k3) hu'
      refine ⟨f', w3, m3, ?_, ?_, r3, r4, r5.trans k5⟩
      · show Option.bind _ _ = _
        simp only [f_Ballotscript_mend_L95, v2, d1, ↓reduceIte, u1, u2, gd_t, nmd_eq, e1, h22, h8, q, bnd_eq, nI_1]
        exact r1
      · show Option.bind _ _ = _
        simp only [m_mend_L67, v3, d1, ↓reduceIte, u1, u2, gd_t, nmd_eq, e2, q, bnd_eq, nI_1, Int32.add_zero]
        exact r2
    · obtain ⟨f', w3, m3, r1, r2, r3, r4, r5⟩ := ih (j + 1) (f + 1) fuel w' m' (by omega) (by omega) (k.tr k1) (g.tr k3) hu'
      have q2 : ¬ m2 29 j = nI σ.1.2.1 := fun e => q e.symm
      refine ⟨f', w3, m3, ?_, ?_, r3, r4, r5.trans k5⟩
      · show Option.bind _ _ = _
        simp only [f_Ballotscript_mend_L95, v2, d1, ↓reduceIte, u1, u2, gd_t, nmd_eq, e1, h22, h8, q, bnd_eq, nI_1]
        exact r1
      · show Option.bind _ _ = _
        simp only [m_mend_L67, v3, d1, ↓reduceIte, u1, u2, gd_t, nmd_eq, e2, q2, bnd_eq, nI_1]
        exact r2
theorem q_mend (h : Inv t w m) (a1 : Int32) : ∃ res w' z m', f_Ballotscript_mend a1 w = some (res, w') ∧ m_mend a1 m = some (z, m') ∧ Inv (t + 1) w' m' ∧ Agr [0, 1] res z (m' 0 45) := by
  have hth := fun v => h.thr v
  obtain ⟨T, len, ⟨t1, t2, t3⟩, t4, t5, t6, t7⟩ := h.2.1.flt (m' := m) kpW.rfl'
  have hwf := flt_wf (T := T) t1
  obtain ⟨hA, hC, hG, nE, bn, rn, vn, hK, h5, hD, hE, hF⟩ := hth 0
  obtain ⟨d1, d2, d3, d4⟩ := hD
  have d3' : m 0 11 = nI rn := by rw [← d3, thr_z (by decide)]
  have hno : ∀ (b c : Bool), (b && c) = false → m_mend_b22 a1 (tI c) (tI b) m = some (0, upd2 m 0 45 (thrN b c true)) := by
    intro b c hbc
    unfold m_mend_b22
    rw [goes_2, bnd_eq, hbc]; rfl
  have hm : m_mend a1 m = m_mend_b22 a1 (tI (decide (flt T len = -1))) (tI (blw a1 (nI rn))) m := by
    unfold m_mend
    rw [d3', m_below, bnd_eq, t7, bnd_eq]
    by_cases c : flt T len = -1
    · rw [if_pos c, decide_eq_true c]; rfl
    · rw [if_neg c, decide_eq_false c]; rfl
  rw [hm]
  unfold f_Ballotscript_mend
  rw [d2, f_within, blw_within a1 _ (by omega), bnd_eq]
  cases c1 : blw a1 (nI rn) with
  | false =>
    rw [if_pos (show tI false = 0 from rfl), hno _ _ (Bool.false_and _)]
    refine ⟨.inl 0, _, _, _, rfl, rfl, hth _, Agr.l (by decide) ?_⟩
    exact thr_e (m := m) (by cases decide (flt T len = -1) <;> rfl)
  | true =>
    rw [if_neg (show ¬ tI true = 0 from by decide), t6, bnd_eq]
    by_cases c2 : flt T len = -1
    · obtain ⟨r, hr, rfl⟩ := blw_n (by omega) c1
      have hr8 : r < 8 := by omega
      have u1 : inb (nI r) 8 = true := nl_in (by omega) (by omega)
      have u2 : (nI r).toNatClampNeg = r := nl_cl (by omega)
      have hW := hwf.mp c2
      have v1 := hE.1.1
      obtain ⟨w3, m3, r1, r2, r3, r4, r5, r6⟩ := mend_1 hK ⟨d1, d2, d3, d4⟩ hE hF (nI r) vn 0 FU w (upd2 m 0 45 0) (by omega) (by show _ < 100000; omega) kpC.rfl' kpW.rfl' (fun u hu => absurd hu (Nat.not_lt_zero u))
      obtain ⟨w6, ew, f1, f2⟩ := f_take (w := w3) hr8 t1 hW (by rw [r3.v _ (by omega)]; exact t2) (fun k hk => by rw [r3.v _ (by omega)]; exact t4 k hk)
      obtain ⟨m7, em, g1, g2, g3, g4⟩ := m_write (m := m3) hr8 t1 (by rw [r4.z (by decide), thr_z (by decide)]; exact t3) (fun k hk => by rw [r4.fn (i := 6) (by decide) (by decide), thr_n (by decide)]; exact t5 k hk)
      have hA1 := hA.kp r3 r4
      have hC1 := hC.kp r3 r4
      have hG1 := hG.kp r3 r4
      have hK1 := (hK.kp r3).kpm r4
      have hD1 := (show InD w (upd2 m 0 45 0) rn from ⟨d1, d2, d3, d4⟩).kp r3 r4
      have hE1 := hE.kp r3 r4
      have hF1 := hF.kp r3 r4
      have WN : ∀ i, i < 32 ∨ 64 ≤ i → w6 i = w3 i := fun i hi => f2 i (by omega) (by omega) (by omega) (by omega)
      have hD2 : InD w6 m7 rn := by
        obtain ⟨x1, x2, x3, x4⟩ := hD1
        refine ⟨x1, by rw [WN 0 (by omega)]; exact x2, by rw [g2 0 (by decide) (by decide)]; exact x3, fun q hq => ?_⟩
        by_cases e : q = r
        · subst e
          exact ⟨T, len, ⟨t1, hW, fun k hk => (t4 k hk).2⟩, f1, g1⟩
        · exact (x4 q hq).cg (f2 _ (by omega) (by omega) (by omega) (by omega)) (f2 _ (by omega) (by omega) (by omega) (by omega)) (f2 _ (by omega) (by omega) (by omega) (by omega)) (f2 _ (by omega) (by omega) (by omega) (by omega)) (g3 q e) (fun j hj => g4 _ (by omega))
      have hA2 := hA1.cg (w' := w6) (m' := m7) (by rw [WN 0 (by omega)]) (by rw [g2 0 (by decide) (by decide)])
      have hC2 := hC1.cg (w' := w6) (m' := m7) (by rw [WN 7 (by omega)]) (WN 8 (by omega)) (by rw [g2 0 (by decide) (by decide)]) (g2 6 (by decide) (by decide))
      have hG2 := hG1.cg (w' := w6) (m' := m7) (by rw [WN 11 (by omega)]) (WN 12 (by omega)) (by rw [g2 0 (by decide) (by decide)]) (g2 23 (by decide) (by decide))
      have hK2 := hK1.cg (w' := w6) (m' := m7) (by rw [WN 1 (by omega)]) (by rw [WN 13 (by omega)]) (fun i hi => WN i (by omega)) (by rw [g2 0 (by decide) (by decide)]) (by rw [g2 0 (by decide) (by decide)]) (fun i hi => g2 i (by omega) (by omega))
      have hE2 := hE1.cg (w' := w6) (m' := m7) (by rw [WN 0 (by omega)]) (fun i h1 => WN i (by omega)) (by rw [g2 0 (by decide) (by decide)]) (fun i h1 h2 => g2 i (by omega) (by omega))
      have hF2 := hF1.cg (w' := w6) (m' := m7) (fun i h1 h2 => WN i (by omega)) (fun i h1 h2 => g2 i (by omega) (by omega))
      have hI2 : Inv (t + 1) w6 m7 := ⟨hA2, hC2, hG2, nE, bn, rn, vn, hK2, fun k hk => by rw [g2 5 (by decide) (by decide), r4.fn (i := 5) (by decide) (by decide)]; exact h5 k hk, hD2, hE2, hF2⟩
      obtain ⟨f', w9, m9, s1, s2, s3, s4, s5⟩ := mend_2 hK2 hD2 hE2 hF2 vn 0 0 FU w6 m7 (by omega) (by show _ < 100000; omega) kpC.rfl' kpW.rfl' (fun u hu => by rw [WN (64 + u) (by omega), g2 29 (by decide) (by decide)]; exact r5 u hu)
      rw [if_pos c2, decide_eq_true c2]
      refine ⟨.inr (nI f'), w9, nI f', m9, ?_, ?_, hI2.kp s3 s4, Agr.r ?_ rfl⟩
      · rw [show ((0 : Int32), w) = (nI 0, w) from rfl, r1, bnd_eq]
        show f_Ballotscript_mend_b78 (nI r) w3 = _
        unfold f_Ballotscript_mend_b78
        rw [u1, gd_t, u2, ew, bnd_eq, show ((0 : Int32), (0 : Int32), w6) = (nI 0, nI 0, w6) from rfl, s1, bnd_eq]
        rfl
      · unfold m_mend_b22
        rw [goes_2, bnd_eq, if_neg (show ¬ tI (true && true) = 0 from by decide)]
        (try dsimp only)
        rw [show (thrN true true true) = 0 from rfl, show ((0 : Int32), upd2 m 0 45 0) = (nI 0, upd2 m 0 45 0) from rfl, r2, bnd_eq]
        show m_mend_b58 (nI r) m3 = _
        unfold m_mend_b58
        rw [em, bnd_eq, show ((0 : Int32), (0 : Int32), m7) = (nI 0, nI 0, m7) from rfl, s2, bnd_eq]
        rfl
      · rw [s5, g2 0 (by decide) (by decide), r6]; exact thr_at
    · rw [if_neg c2, decide_eq_false c2, hno _ _ rfl]
      refine ⟨.inl 1, _, _, _, rfl, rfl, hth _, Agr.l (by decide) ?_⟩
      exact thr_e (m := m) rfl
end CALLS7

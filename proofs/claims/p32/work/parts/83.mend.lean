/-! p32: a rule is mended, twice with the same text -/
theorem pick {P : Nat → Nat → Prop} {n : Nat} (h : ∀ v, v < n → ∃ e, P v e) : ∃ W : Nat → Nat, ∀ v, v < n → P v (W v) := by
  have h2 : ∀ v, ∃ e, v < n → P v e := fun v => by
    by_cases g : v < n
    · obtain ⟨e, he⟩ := h v g; exact ⟨e, fun _ => he⟩
    · exact ⟨0, fun z => absurd z g⟩
  exact Classical.axiomOfChoice h2
section MEND
variable {t : Nat} {w m : Wt} {nE bn rn vn : Nat}
/-- the winners of each vote -/
def WW (m : Wt) (vn : Nat) (W : Nat → Nat) : Prop := ∀ v, v < vn → Wn m v (W v) ∧ W v < 64
theorem ww_ex (h : Inv t w m) (c : Cn m nE bn rn vn) : ∃ W, WW m vn W := pick (P := fun v e => Wn m v e ∧ e < 64) (n := vn) (fun v hv => by
  obtain ⟨e, he, hW⟩ := wn_ex h c hv
  exact ⟨e, hW, he⟩)
theorem ww_fr {t2 : Nat} {w2 m2 : Wt} {S Z : List Nat} {W : Nat → Nat} (h : Inv t w m) (c : Cn m nE bn rn vn) (h2 : Inv t2 w2 m2) (c2 : Cn m2 nE bn rn vn) (f : Fr S Z m m2) (hS : ∀ i ∈ [1, 2, 3, 4, 5, 7, 8, 9, 10, 11, 12, 17, 18, 19, 20, 21, 22], i ∉ S) (hW : WW m vn W) : WW m2 vn W := fun v hv => ⟨wn_fr h c h2 c2 hv f hS (hW v hv).1 (hW v hv).2, (hW v hv).2⟩
/-- the same, where the rules are only read alike -/
theorem wn_rl {t2 : Nat} {w2 m2 : Wt} {v e : Nat} (h : Inv t w m) (c : Cn m nE bn rn vn) (h2 : Inv t2 w2 m2) (c2 : Cn m2 nE bn rn vn) (hv : v < vn) (f : Fr [7, 8] [] m m2) (hR : ∀ r T len, r < rn → len ≤ 24 → RuM m r T len → RuM m2 r T len) (hW : Wn m v e) (he : e < 64) : Wn m2 v e := by
  obtain ⟨hA, hC, hG, hK, h5, hD, hE, hF⟩ := h.at c
  obtain ⟨-, -, -, hK', -, -, -, hF'⟩ := h2.at c2
  obtain ⟨⟨v1, v2, v3⟩, hE2, hE3, -⟩ := hE
  obtain ⟨n, s, r, ⟨p1, p2, p3, p4, p5⟩, ⟨p6, p7, p8⟩, -⟩ := hE3 v hv
  obtain ⟨d1, d2, d3, d4⟩ := hD
  obtain ⟨T, len, ⟨t1, t2', t3⟩, t4, t5⟩ := d4 r p5
  have g : ∀ i, i ∈ [1, 2, 3, 4, 5, 9, 10, 11, 12, 17, 18, 19, 20, 21, 22] → m2 i = m i := fun i hi => f.1 i (by simp at hi; omega) (by simp at hi; omega) (by simp at hi ⊢; omega)
  have t6 : RuM m2 r T len := hR r T len p5 t1 t5
  obtain ⟨m', n1, r1, r2, r3, r4, r5⟩ := count_R hK hF (show v < 8 by omega) p1 p2 p4 (show r < 8 by omega) p6 p7 p8 t1 t2' t3 t5
  obtain ⟨m'', n2, s1, s2, -⟩ := count_R hK' hF' (show v < 8 by omega) p1 p2 p4 (show r < 8 by omega) (by rw [g 10 (by decide)]; exact p6) (by rw [g 11 (by decide)]; exact p7) (by rw [g 12 (by decide)]; exact p8) t1 t2' t3 t6
  have e1 : rdF m2 = rdF m := by funext b p; unfold rdF; rw [g 17 (by decide), g 22 (by decide)]
  have e2 : lnF m2 = lnF m := by funext b; unfold lnF; rw [g 18 (by decide)]
  have e3 : ofV m2 bn nE (nI v) = ofV m bn nE (nI v) := by
    funext b
    unfold ofV rsM laM enM
    rw [g 1 (by decide), g 2 (by decide), g 3 (by decide), g 4 (by decide), g 5 (by decide), g 9 (by decide), g 19 (by decide), g 20 (by decide), g 21 (by decide)]
  rw [e1, e2, e3] at s1 s2
  rw [← run_uniq rfl rfl r2 s2] at s1
  have : e = _ := Wn.u hW ⟨m', r1⟩ he r4.1.2.1
  rw [this]
  exact ⟨m'', s1⟩
theorem me_1 (h : Inv t w m) (c : Cn m nE bn rn vn) {W : Nat → Nat} (hW : WW m vn W) (a : Int32) : ∀ d j fuel m2, j + d = vn → d < fuel → kpW m m2 → (∀ u, u < j → m2 29 u = nI (W u)) → ∃ m3, lp (m_mend_L33 a) fuel (nI j, m2) = some m3 ∧ kpW m m3 ∧ (∀ u, u < vn → m3 29 u = nI (W u)) ∧ m3 0 45 = m2 0 45 := by
  have hv8 := c.2.2.2.2
  intro d
  induction d with
  | zero =>
    intro j fuel m2 hj hf k hu
    obtain ⟨fuel, rfl⟩ : ∃ f, fuel = f + 1 := ⟨fuel - 1, by omega⟩
    have v3 : m2 0 20 = nI vn := by rw [k.z (by decide)]; exact c.1.2.2.2
    have d1 : nI vn ≤ nI j := by rw [nl_le (by omega) (by omega)]; omega
    refine ⟨m2, ?_, k, fun u h1 => hu u (by omega), rfl⟩
    unfold lp; simp only [m_mend_L33, v3, d1, ↓reduceIte] <;> rfl
  | succ d ih =>
    intro j fuel m2 hj hf k hu
    obtain ⟨fuel, rfl⟩ : ∃ f, fuel = f + 1 := ⟨fuel - 1, by omega⟩
    have v3 : m2 0 20 = nI vn := by rw [k.z (by decide)]; exact c.1.2.2.2
    have d1 : ¬ nI vn ≤ nI j := by rw [nl_le (by omega) (by omega)]; omega
    have u1 : inb (nI j) 8 = true := nl_in (by omega) (by omega)
    have u2 : (nI j).toNatClampNeg = j := nl_cl (by omega)
    have h2 : Inv t w m2 := h.kp kpC.rfl' k
    have c2 : Cn m2 nE bn rn vn := c.fr k.fr (by simp)
    obtain ⟨n, s, σ, -, -, hg, -, ⟨m', e1, e2, e3, e4⟩, -⟩ := picture h2 c2 (show j < vn by omega)
    have : W j = σ.1.2.1 := (wn_fr h c h2 c2 (by omega) k.fr (by simp) (hW j (by omega)).1 (hW j (by omega)).2).u ⟨m', e1⟩ (hW j (by omega)).2 hg.1.2.1
    rw [← this] at e1
    obtain ⟨m3, r1, r2, r3, r4⟩ := ih (j + 1) fuel (upd2 m' 29 j (nI (W j))) (by omega) (by omega) ((k.tr e2).tr (kpW.up rfl)) (fun u h1 => by
      rw [upd2_at, if_pos rfl]
      by_cases q1 : u = j
      · rw [if_pos q1, q1]
      · rw [if_neg q1, e3]; exact hu u (by omega))
    refine ⟨m3, ?_, r2, r3, r4.trans (by rw [upd2_n (by decide)]; exact e4)⟩
    show Option.bind _ _ = _
    simp only [m_mend_L33, v3, d1, ↓reduceIte, u1, u2, gd_t, nmd_eq, e1, bnd_eq, nI_1]
    exact r1
def dfB (W W' : Nat → Nat) (v : Nat) : Bool := decide (¬ W v = W' v)
theorem me_2 (h : Inv t w m) (c : Cn m nE bn rn vn) {W W' : Nat → Nat} (hW : WW m vn W') (hW0 : ∀ v, v < vn → W v < 64) : ∀ d j fuel m2, j + d = vn → d < fuel → kpW m m2 → (∀ u, u < vn → m2 29 u = nI (W u)) → ∃ m3, lp m_mend_L67 fuel (nI (cntS (dfB W W') j), nI j, m2) = some (nI (cntS (dfB W W') vn), m3) ∧ kpW m m3 ∧ m3 0 45 = m2 0 45 := by
  have hv8 := c.2.2.2.2
  intro d
  induction d with
  | zero =>
    intro j fuel m2 hj hf k hu
    obtain ⟨fuel, rfl⟩ : ∃ f, fuel = f + 1 := ⟨fuel - 1, by omega⟩
    have v3 : m2 0 20 = nI vn := by rw [k.z (by decide)]; exact c.1.2.2.2
    have d1 : nI vn ≤ nI j := by rw [nl_le (by omega) (by omega)]; omega
    have : j = vn := by omega
    subst this
    refine ⟨m2, ?_, k, rfl⟩
    unfold lp; simp only [m_mend_L67, v3, d1, ↓reduceIte] <;> rfl
  | succ d ih =>
    intro j fuel m2 hj hf k hu
    obtain ⟨fuel, rfl⟩ : ∃ f, fuel = f + 1 := ⟨fuel - 1, by omega⟩
    have v3 : m2 0 20 = nI vn := by rw [k.z (by decide)]; exact c.1.2.2.2
    have d1 : ¬ nI vn ≤ nI j := by rw [nl_le (by omega) (by omega)]; omega
    have u1 : inb (nI j) 8 = true := nl_in (by omega) (by omega)
    have u2 : (nI j).toNatClampNeg = j := nl_cl (by omega)
    have h2 : Inv t w m2 := h.kp kpC.rfl' k
    have c2 : Cn m2 nE bn rn vn := c.fr k.fr (by simp)
    obtain ⟨n, s, σ, -, -, hg, -, ⟨m', e1, e2, e3, e4⟩, -⟩ := picture h2 c2 (show j < vn by omega)
    have hj64 := hW0 j (by omega)
    have hj64' := (hW j (by omega)).2
    have : W' j = σ.1.2.1 := (wn_fr h c h2 c2 (by omega) k.fr (by simp) (hW j (by omega)).1 hj64').u ⟨m', e1⟩ hj64' hg.1.2.1
    rw [← this] at e1
    have hu' : ∀ u, u < vn → m' 29 u = nI (W u) := fun u h1 => by rw [e3]; exact hu u h1
    have hs : cntS (dfB W W') (j + 1) = cntS (dfB W W') j + (if dfB W W' j = true then 1 else 0) := rfl
    obtain ⟨m3, r1, r2, r4⟩ := ih (j + 1) fuel m' (by omega) (by omega) (k.tr e2) hu'
    refine ⟨m3, ?_, r2, r4.trans e4⟩
    show Option.bind _ _ = _
    by_cases q : W j = W' j
    · have hb : dfB W W' j = false := by unfold dfB; rw [decide_eq_false (show ¬ ¬ W j = W' j from fun x => x q)]
      rw [hs, hb, if_neg (by decide), Nat.add_zero] at r1
      simp only [m_mend_L67, v3, d1, ↓reduceIte, u1, u2, gd_t, nmd_eq, e1, hu j (by omega), q, bnd_eq, nI_1, Int32.add_zero]
      exact r1
    · have hb : dfB W W' j = true := by unfold dfB; rw [decide_eq_true q]
      rw [hs, hb, if_pos rfl] at r1
      have q2 : ¬ nI (W j) = nI (W' j) := by rw [nl_eq (by omega) (by omega)]; exact q
      simp only [m_mend_L67, v3, d1, ↓reduceIte, u1, u2, gd_t, nmd_eq, e1, hu j (by omega), q2, bnd_eq, nI_1]
      exact r1
set_option maxHeartbeats 1000000 in
theorem s_mend (h : Inv t w m) (c : Cn m nE bn rn vn) {r : Nat} (hr : r < rn) {T : Nat → Nat} {len : Nat} (hx : Tx m T len) (hf : WF T len) {W : Nat → Nat} (hW : WW m vn W) : ∃ w' m' W', l_mend (nI r) w = some (nI (cntS (dfB W W') vn), w') ∧ Inv (t + 1) w' m' ∧ Fr [7, 8] [] m m' ∧ RuM m' r T len ∧ (∀ q, q ≠ r → m' 8 q = m 8 q ∧ ∀ j, j < 24 → m' 7 (24 * q + j) = m 7 (24 * q + j)) ∧ WW m' vn W' := by
  obtain ⟨res, w', z, m', e1, e2, hI, hg⟩ := q_mend h (nI r)
  obtain ⟨⟨c1, c2, c3, c4⟩, z1, z2, z3, z4⟩ := id c
  obtain ⟨x1, x2, x3⟩ := id hx
  have h0 := h.thr 0
  have c0 : Cn (upd2 m 0 45 0) nE bn rn vn := c.fr fr0 (by simp)
  have hW0 : WW (upd2 m 0 45 0) vn W := ww_fr h c h0 c0 fr0 (by simp) hW
  obtain ⟨m3, r1, r4, r5, r6⟩ := me_1 h0 c0 hW0 (nI r) vn 0 FU (upd2 m 0 45 0) (by omega) (by show _ < 100000; omega) kpW.rfl' (fun u hu => absurd hu (Nat.not_lt_zero u))
  have h3 : Inv (t + 1) w m3 := h0.kp kpC.rfl' r4
  have c3' : Cn m3 nE bn rn vn := c0.fr r4.fr (by simp)
  have F3 : Fr [] [] m m3 := fr0.tr r4.fr
  have X3 : Tx m3 T len := hx.fr F3 (by simp) (by simp)
  obtain ⟨n, k1, k2, k3, k4, k5⟩ := h3.2.1
  have hn : n = len := nI_i (by omega) (by omega) (k3.symm.trans X3.2.1)
  subst hn
  have hr8 : r < 8 := by omega
  obtain ⟨w6, ew, f1, f2⟩ := f_take (w := w) hr8 x1 hf k2 (fun k hk => by rw [k4]; exact X3.2.2 k hk)
  obtain ⟨m7, em, g1, g2, g3, g4⟩ := m_write (m := m3) hr8 x1 X3.2.1 (fun k hk => (X3.2.2 k hk).1)
  obtain ⟨hA1, hC1, hG1, hK1, h51, hD1, hE1, hF1⟩ := h3.at c3'
  have WN : ∀ i, i < 32 ∨ 64 ≤ i → w6 i = w i := fun i hi => f2 i (by omega) (by omega) (by omega) (by omega)
  have hD2 : InD w6 m7 rn := by
    obtain ⟨y1, y2, y3, y4⟩ := hD1
    refine ⟨y1, by rw [WN 0 (by omega)]; exact y2, by rw [g2 0 (by decide) (by decide)]; exact y3, fun q hq => ?_⟩
    by_cases e : q = r
    · subst e
      exact ⟨T, n, ⟨x1, hf, fun k hk => (x3 k hk).2⟩, f1, g1⟩
    · exact (y4 q hq).cg (f2 _ (by omega) (by omega) (by omega) (by omega)) (f2 _ (by omega) (by omega) (by omega) (by omega)) (f2 _ (by omega) (by omega) (by omega) (by omega)) (f2 _ (by omega) (by omega) (by omega) (by omega)) (g3 q e) (fun j hj => g4 _ (by omega))
  have hA2 := hA1.cg (w' := w6) (m' := m7) (by rw [WN 0 (by omega)]) (by rw [g2 0 (by decide) (by decide)])
  have hC2 := hC1.cg (w' := w6) (m' := m7) (by rw [WN 7 (by omega)]) (WN 8 (by omega)) (by rw [g2 0 (by decide) (by decide)]) (g2 6 (by decide) (by decide))
  have hG2 := hG1.cg (w' := w6) (m' := m7) (by rw [WN 11 (by omega)]) (WN 12 (by omega)) (by rw [g2 0 (by decide) (by decide)]) (g2 23 (by decide) (by decide))
  have hK2 := hK1.cg (w' := w6) (m' := m7) (by rw [WN 1 (by omega)]) (by rw [WN 13 (by omega)]) (fun i hi => WN i (by omega)) (by rw [g2 0 (by decide) (by decide)]) (by rw [g2 0 (by decide) (by decide)]) (fun i hi => g2 i (by omega) (by omega))
  have hE2 := hE1.cg (w' := w6) (m' := m7) (by rw [WN 0 (by omega)]) (fun i h1 => WN i (by omega)) (by rw [g2 0 (by decide) (by decide)]) (fun i h1 h2 => g2 i (by omega) (by omega))
  have hF2 := hF1.cg (w' := w6) (m' := m7) (fun i h1 h2 => WN i (by omega)) (fun i h1 h2 => g2 i (by omega) (by omega))
  have hI2 : Inv (t + 1) w6 m7 := ⟨hA2, hC2, hG2, nE, bn, rn, vn, hK2, fun k hk => by rw [g2 5 (by decide) (by decide)]; exact h51 k hk, hD2, hE2, hF2⟩
  have F7 : Fr [7, 8] [] m m7 := ⟨fun i q0 q1 q2 => by
    simp only [List.mem_cons, List.not_mem_nil, or_false, not_or] at q2
    rw [g2 i q2.1 q2.2]; exact F3.1 i q0 q1 (by simp), fun j q1 q2 => by rw [g2 0 (by decide) (by decide)]; exact F3.2 j q1 (by simp)⟩
  have c7 : Cn m7 nE bn rn vn := c.fr F7 (by simp)
  obtain ⟨W', hW'⟩ := ww_ex hI2 c7
  obtain ⟨m9, s1, s4, s5⟩ := me_2 hI2 c7 hW' (fun v hv => (hW v hv).2) vn 0 FU m7 (by omega) (by show _ < 100000; omega) kpW.rfl' (fun u hu => by rw [g2 29 (by decide) (by decide)]; exact r5 u hu)
  have e3 : m_mend (nI r) m = some (nI (cntS (dfB W W') vn), m9) := by
    unfold m_mend
    rw [c3, m_below, bnd_eq, blw_t hr (by omega), m_flt hx, bnd_eq, if_pos ((flt_wf x1).mpr hf)]
    unfold m_mend_b22
    rw [show m_goes (tI true) (1 : Int32) (1 : Int32) m = some (tI true, upd2 m 0 45 0) from goes_1 true m, bnd_eq, if_neg (show ¬ tI true = (0 : Int32) by decide)]
    (try dsimp only)
    rw [show ((0 : Int32), upd2 m 0 45 0) = (nI 0, upd2 m 0 45 0) from rfl, r1, bnd_eq]
    show m_mend_b58 (nI r) m3 = _
    unfold m_mend_b58
    rw [em, bnd_eq, show ((0 : Int32), (0 : Int32), m7) = (nI (cntS (dfB W W') 0), nI 0, m7) from rfl, s1, bnd_eq]
    rfl
  obtain ⟨rfl, rfl⟩ := Prod.mk.inj (Option.some.inj (e2.symm.trans e3))
  rw [agr_r (by decide) hg (by rw [s5, g2 0 (by decide) (by decide), r6, thr_at])] at e1
  have F9 : Fr [] [] m7 m' := s4.fr
  have c9 : Cn m' nE bn rn vn := c7.fr F9 (by simp)
  have e7 : m' 7 = m7 7 := F9.1 7 (by decide) (by decide) (by simp)
  have e8 : m' 8 = m7 8 := F9.1 8 (by decide) (by decide) (by simp)
  refine ⟨w', m', W', lx2 e1, hI, (F7.tr F9).up (by simp) (by simp), ?_, fun q hq => ⟨?_, fun j hj => ?_⟩, ww_fr hI2 c7 hI c9 F9 (by simp) hW'⟩
  · unfold RuM; rw [e7, e8]; exact g1
  · rw [e8, g3 q hq, F3.1 8 (by decide) (by decide) (by simp)]
  · rw [e7, g4 _ (by omega), F3.1 7 (by decide) (by decide) (by simp)]
/-- the same text once more changes nothing -/
theorem s_mend2 (h : Inv t w m) (c : Cn m nE bn rn vn) {r : Nat} (hr : r < rn) {T : Nat → Nat} {len : Nat} (hx : Tx m T len) (hf : WF T len) : ∃ n w' m', n ≤ vn ∧ l_mend (nI r) w = some (nI n, w') ∧ Inv (t + 1) w' m' ∧ ∀ wj, (∀ i, i < 72 → wj i = w' i) → ∃ w2 m2, l_mend (nI r) wj = some (0, w2) ∧ Inv (t + 2) w2 m2 ∧ Fr [7, 8] [] m m2 := by
  obtain ⟨W, hW⟩ := ww_ex h c
  obtain ⟨w', m', W', e1, e2, e3, e4, e5, e6⟩ := s_mend h c hr hx hf hW
  refine ⟨_, w', m', cntS_le, e1, e2, fun wj hj => ?_⟩
  have c' : Cn m' nE bn rn vn := c.fr e3 (by simp)
  have hx' : Tx m' T len := hx.fr e3 (by simp) (by simp)
  have hI := e2.lo hj
  obtain ⟨w2, m2, W2, f1, f2, f3, f4, f5, f6⟩ := s_mend hI c' hr hx' hf e6
  have c2 : Cn m2 nE bn rn vn := c'.fr f3 (by simp)
  have hR : ∀ q T' len', q < rn → len' ≤ 24 → RuM m' q T' len' → RuM m2 q T' len' := fun q T' len' hq hl hU => by
    obtain ⟨a1, a2⟩ := hU
    by_cases g : q = r
    · subst g
      obtain ⟨b1, b2⟩ := e4
      obtain ⟨d1, d2⟩ := f4
      have : len = len' := nI_i (by have := hx.1; omega) (by omega) (b1.symm.trans a1)
      subst this
      exact ⟨d1, fun j hj => by rw [d2 j hj, ← b2 j hj]; exact a2 j hj⟩
    · obtain ⟨g1, g2⟩ := f5 q g
      exact ⟨by rw [g1]; exact a1, fun j hj => by rw [g2 j (by omega)]; exact a2 j hj⟩
  have : cntS (dfB W' W2) vn = 0 := cnt_0 vn (fun v hv => by
    have h1 := wn_rl hI c' f2 c2 hv f3 hR (e6 v hv).1 (e6 v hv).2
    have : W' v = W2 v := h1.u (f6 v hv).1 (e6 v hv).2 (f6 v hv).2
    unfold dfB
    rw [decide_eq_false (fun x => x this)])
  refine ⟨w2, m2, by rw [f1, this]; rfl, f2, (e3.tr f3).up (by simp) (by simp)⟩
end MEND

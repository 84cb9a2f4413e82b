/-! p32: THE LAW, what it asks behind each call -/
def Own (m : Wt) (vn : Nat) : Prop := (∀ v, vn ≤ v → m 13 v = 0) ∧ ∀ v, v < 8 → ∃ d f, f ≤ d ∧ m 15 v = nI d ∧ m 16 v = nI f ∧ d < 2147483648
def Arr (w m : Wt) (bn vn : Nat) : Prop := (∀ v, v < vn → w 73 v = m 10 v ∧ w 74 v = m 11 v ∧ w 75 v = m 14 v) ∧ ∀ b, b < bn → ∃ a p, a < 8 ∧ p < 100 ∧ m 19 b = nI a ∧ m 20 b = nI p ∧ w 76 b = nI (100 * a + p)
/-- what the law itself keeps -/
def LX (w m : Wt) (bn vn : Nat) : Prop := m 0 29 = 0 ∧ Own m vn ∧ Arr w m bn vn
theorem LX.fr {w m w' m' : Wt} {bn vn : Nat} {S Z : List Nat} (h : LX w m bn vn) (f : Fr S Z m m') (hS : ∀ i ∈ [10, 11, 13, 14, 15, 16, 19, 20], i ∉ S) (hZ : 29 ∉ Z) (hw : ∀ i, 73 ≤ i → w' i = w i) : LX w' m' bn vn := by
  obtain ⟨h1, ⟨h2, h3⟩, h4, h5⟩ := h
  have g : ∀ i ∈ [10, 11, 13, 14, 15, 16, 19, 20], m' i = m i := fun i hi => f.1 i (by simp at hi; omega) (by simp at hi; omega) (hS i hi)
  refine ⟨by rw [f.2 29 (by omega) hZ]; exact h1, ⟨fun v hv => by rw [g 13 (by simp)]; exact h2 v hv, fun v hv => by rw [g 15 (by simp), g 16 (by simp)]; exact h3 v hv⟩, fun v hv => ?_, fun b hb => ?_⟩
  · rw [hw 73 (by omega), hw 74 (by omega), hw 75 (by omega), g 10 (by simp), g 11 (by simp), g 14 (by simp)]; exact h4 v hv
  · rw [hw 76 (by omega), g 19 (by simp), g 20 (by simp)]; exact h5 b hb
def LM (i : Nat) (w m : Wt) (nE bn vn : Nat) : Prop := (∃ t, t ≤ 350 + 200 * i ∧ Inv t w m) ∧ Cn m nE bn 3 vn ∧ (nE ≤ i + 1 ∧ bn ≤ 48 ∧ vn ≤ 6) ∧ (∃ td, td ≤ 12 * i + 12 ∧ m 0 0 = nI td) ∧ LX w m bn vn
def LI (i : Nat) (w m : Wt) (nE bn vn : Nat) : Prop := (∃ t, t ≤ 200 + 200 * i ∧ Inv t w m) ∧ Cn m nE bn 3 vn ∧ (nE ≤ i ∧ bn ≤ 48 ∧ vn ≤ 6) ∧ (∃ td, td ≤ 12 * i ∧ m 0 0 = nI td) ∧ LX w m bn vn
theorem LM.next {i : Nat} {w w' m : Wt} {nE bn vn : Nat} (h : LM i w m nE bn vn) (k : kpL w w') : LI (i + 1) w' m nE bn vn := by
  obtain ⟨⟨t, ht, hI⟩, hc, ⟨n1, n2, n3⟩, ⟨td, h1, h2⟩, hX⟩ := h
  exact ⟨⟨t, by omega, hI.kp k.1 kpW.rfl'⟩, hc, ⟨by omega, n2, n3⟩, ⟨td, by omega, h2⟩, hX.fr Fr.rf (by simp) (by simp) (fun i hi => k.2 i (by omega))⟩
abbrev RR : Type := (Int32 × Int32 × Int32 × Int32 × Int32 × Wt) ⊕ ((Int32 × Wt) ⊕ (Int32 × Wt))
/-- a round of the law comes to its end: to the next, or out with true -/
def GO (i : Nat) (r : Option RR) : Prop := (∃ w' m' nE' bn' vn', r = some (.inl (1, nI vn', nI bn', nI nE', nI (i + 1), w')) ∧ LI (i + 1) w' m' nE' bn' vn') ∨ ∃ w', r = some (.inr (.inr (1, w')))
section TAIL
variable {xs : Nat → Int32} {L : Nat} {i : Nat} {w m : Wt} {nE bn vn : Nat}
/-- which ballots count -/
theorem go_why (h : LM i w m nE bn vn) : ∃ r, l_law_b1563 xs L (nI vn) (nI bn) (nI nE) (nI i) 1 w = some r ∧ r = .inl (1, nI vn, nI bn, nI nE, nI (i + 1), w) := by
  obtain ⟨⟨t, ht, hI⟩, hc, ⟨n1, n2, n3⟩, -, ⟨-, -, -, hO⟩⟩ := h
  have same : ∀ a b, a < bn → b < bn → ((w 76 a = w 76 b) = (m 19 a = m 19 b ∧ m 20 a = m 20 b)) := fun a b ha hb => by
    obtain ⟨a1, p1, u1, u2, u3, u4, u5⟩ := hO a ha
    obtain ⟨a2, p2, z1, z2, z3, z4, z5⟩ := hO b hb
    rw [u5, z5, u3, z3, u4, z4, nl_eq (by omega) (by omega), nl_eq (by omega) (by omega), nl_eq (by omega) (by omega)]
    exact propext ⟨fun e => by omega, fun e => by omega⟩
  have inner : ∀ k, k < bn → lp (l_law_L1589 xs L (nI vn) (nI bn) (nI nE) (nI i) (nI k) w) 49 ((0 : Int32), nI (k + 1)) = some (tI (anyB (laM m k) bn)) := fun k hk => by
    have go : ∀ d j fuel, j + d = bn → d < fuel → k < j → lp (l_law_L1589 xs L (nI vn) (nI bn) (nI nE) (nI i) (nI k) w) fuel (tI (anyB (laM m k) j), nI j) = some (tI (anyB (laM m k) bn)) := by
      intro d
      induction d with
      | zero =>
        intro j fuel hj hf hkj
        obtain ⟨fuel, rfl⟩ : ∃ f, fuel = f + 1 := ⟨fuel - 1, by omega⟩
        have d1 : nI bn ≤ nI j := by rw [nl_le (by omega) (by omega)]; omega
        have : j = bn := by omega
        subst this
        unfold lp; simp only [l_law_L1589, d1, ↓reduceIte] <;> rfl
      | succ d ih =>
        intro j fuel hj hf hkj
        obtain ⟨fuel, rfl⟩ : ∃ f, fuel = f + 1 := ⟨fuel - 1, by omega⟩
        have d1 : ¬ nI bn ≤ nI j := by rw [nl_le (by omega) (by omega)]; omega
        have u1 : inb (nI j) 48 = true := nl_in (by omega) (by omega)
        have u2 : (nI j).toNatClampNeg = j := nl_cl (by omega)
        have u3 : inb (nI k) 48 = true := nl_in (by omega) (by omega)
        have u4 : (nI k).toNatClampNeg = k := nl_cl (by omega)
        have r1 := ih (j + 1) fuel (by omega) (by omega) (by omega)
        have hs : anyB (laM m k) (j + 1) = (anyB (laM m k) j || laM m k j) := rfl
        show Option.bind _ _ = _
        cases g : anyB (laM m k) j with
        | true =>
          rw [hs, g, Bool.true_or] at r1
          simp only [l_law_L1589, d1, ↓reduceIte, show ¬ tI true = 0 from by decide, bnd_eq, nI_1]
          exact r1
        | false =>
          rw [hs, g, Bool.false_or] at r1
          have e := same j k (by omega) hk
          by_cases q : w 76 j = w 76 k
          · have q2 := q
            rw [e] at q2
            have : laM m k j = true := by unfold laM; rw [decide_eq_true hkj, decide_eq_true q2.1, decide_eq_true q2.2]; rfl
            rw [this] at r1
            simp only [l_law_L1589, d1, ↓reduceIte, show tI false = 0 from rfl, u1, u2, u3, u4, gd_t, q, bnd_eq, nI_1]
            exact r1
          · have q2 := q
            rw [e] at q2
            have : laM m k j = false := by
              unfold laM
              by_cases z : m 19 j = m 19 k
              · rw [decide_eq_false (show ¬ m 20 j = m 20 k from fun x => q2 ⟨z, x⟩), Bool.and_false, Bool.and_false]
              · rw [decide_eq_false z, Bool.false_and, Bool.and_false]
            rw [this] at r1
            simp only [l_law_L1589, d1, ↓reduceIte, show tI false = 0 from rfl, u1, u2, u3, u4, gd_t, q, bnd_eq, nI_1]
            exact r1
    have h0 : anyB (laM m k) (k + 1) = false := anyB_0 (fun j hj => by unfold laM; rw [decide_eq_false (show ¬ k < j by omega), Bool.false_and])
    have := go (bn - (k + 1)) (k + 1) 49 (by omega) (by omega) (by omega)
    rw [h0] at this
    exact this
  have outer : ∀ d k fuel, k + d = bn → d < fuel → lp (l_law_L1568 xs L (nI vn) (nI bn) (nI nE) (nI i) w) fuel ((1 : Int32), nI k) = some 1 := by
    intro d
    induction d with
    | zero =>
      intro k fuel hk hf
      obtain ⟨fuel, rfl⟩ : ∃ f, fuel = f + 1 := ⟨fuel - 1, by omega⟩
      have d1 : nI bn ≤ nI k := by rw [nl_le (by omega) (by omega)]; omega
      unfold lp; simp only [l_law_L1568, d1, ↓reduceIte] <;> rfl
    | succ d ih =>
      intro k fuel hk hf
      obtain ⟨fuel, rfl⟩ : ∃ f, fuel = f + 1 := ⟨fuel - 1, by omega⟩
      have d1 : ¬ nI bn ≤ nI k := by rw [nl_le (by omega) (by omega)]; omega
      have hw := s_why hI hc (show k < bn by omega)
      have r1 := ih (k + 1) fuel (by omega) (by omega)
      have hin := inner k (by omega)
      show Option.bind _ _ = _
      simp only [l_law_L1568, d1, ↓reduceIte, show ¬ (1 : Int32) = 0 from by decide, nmd_eq, nI_1, hin, bnd_eq, l_law_x1589, l_law_b1627, hw, l_law_b1642]
      cases g : anyB (laM m k) bn with
      | true =>
        have : rsM m bn nE k = 1 := by unfold rsM; rw [if_pos g]
        rw [this, if_pos (show nI 1 = (1 : Int32) from rfl), if_pos (show (1 : Int32) = tI true from rfl), bnd_eq]
        exact r1
      | false =>
        have : ¬ nI (rsM m bn nE k) = (1 : Int32) := by
          have hlt := rsM_lt (m := m) (bn := bn) (nE := nE) (b := k)
          rw [qe_1 (by omega)]
          unfold rsM
          rw [if_neg (by rw [g]; decide)]
          split <;> omega
        rw [if_neg this, if_pos (show (0 : Int32) = tI false from rfl), bnd_eq]
        exact r1
  have := outer bn 0 49 (by omega) (by omega)
  refine ⟨_, ?_, rfl⟩
  unfold l_law_b1563
  rw [show ((1 : Int32), (0 : Int32)) = (1, nI 0) from rfl, this, bnd_eq]
  show l_law_b1660 xs L _ _ _ _ _ w = _
  unfold l_law_b1660
  rw [nI_1]
set_option maxHeartbeats 1000000 in
theorem go_tail (h : LM i w m nE bn vn) (hi : i < 50) (a : Int32) : GO i (l_law_b1428 xs L 1 (nI vn) (nI bn) (nI nE) (nI i) a w) := by
  have h0 := h
  obtain ⟨⟨t, ht, hI⟩, hc, ⟨n1, n2, n3⟩, -, ⟨-, hOw, hA, -⟩⟩ := h
  obtain ⟨W, hW⟩ := ww_ex hI hc
  have one : ∀ k w2, k < vn → kpL w w2 → ∃ w3, l_law_b1494 xs L (nI vn) (nI bn) (nI nE) (nI i) a (nI (cntS (slB m W) k)) (nI k) w2 = some (.inl (1, nI (cntS (slB m W) (k + 1)), nI (k + 1), w3)) ∧ kpL w w3 := fun k w2 hk k2 => by
    have u1 : inb (nI k) 8 = true := nl_in (by omega) (by omega)
    have u2 : (nI k).toNatClampNeg = k := nl_cl (by omega)
    have e75 : w2 75 k = m 14 k := by rw [k2.2 75 (by omega)]; exact (hA k hk).2.2
    have hs : cntS (slB m W) (k + 1) = cntS (slB m W) k + (if slB m W k = true then 1 else 0) := rfl
    have hz : ∀ n, nI n + (0 : Int32) = nI n := fun n => Int32.add_zero _
    rcases cer_or hI hc hk with p4 | ⟨e, he, p4⟩
    · have hb : slB m W k = false := by unfold slB; rw [p4]; rfl
      refine ⟨w2, ?_, k2⟩
      rw [hs, hb, if_neg (by decide), Nat.add_zero]
      unfold l_law_b1494 l_law_b1499
      rw [if_neg (by decide), u1, gd_t, u2, e75, p4, if_pos (by decide), nmd_eq, hz, nI_1]
    · obtain ⟨w3, f1, f2⟩ := s_winners hI hc hk (hW k hk).1 (hW k hk).2 w2 k2.1
      refine ⟨jn w3 w2, ?_, k2.tr f2⟩
      unfold l_law_b1494 l_law_b1499
      rw [if_neg (by decide), u1, gd_t, u2, e75, p4, if_neg (nl_neg (by omega)), gd_t, f1, bnd_eq, nmd_eq]
      (try dsimp only)
      by_cases q : nI e = nI (W k)
      · have hb : slB m W k = false := by
          unfold slB
          rw [p4, decide_eq_false (show ¬ ¬ nI e = nI (W k) from fun x => x q), Bool.and_false]
        rw [if_pos q, hs, hb, if_neg (by decide), Nat.add_zero, nmd_eq, hz, nI_1]
      · have hb : slB m W k = true := by
          unfold slB
          rw [p4, decide_eq_true q, decide_eq_true (show ¬ nI e = -1 from nl_m1 (by omega))]; rfl
        rw [if_neg q, hs, hb, if_pos rfl, nmd_eq, nI_1, nI_1]
  have two : ∀ k w2, k < vn → kpL w w2 → ∃ w3, l_law_b1474 xs L (nI vn) (nI bn) (nI nE) (nI i) a (nI (cntS (slB m W) k)) (nI k) w2 = some (.inl (1, nI (cntS (slB m W) (k + 1)), nI (k + 1), w3)) ∧ kpL w w3 := fun k w2 hk k2 => by
    have u1 : inb (nI k) 8 = true := nl_in (by omega) (by omega)
    have u2 : (nI k).toNatClampNeg = k := nl_cl (by omega)
    obtain ⟨hE2, hE3⟩ := (hI.at hc).2.2.2.2.2.2.1.2
    obtain ⟨n, s, r, ⟨p1, p2, p3, p4, p5⟩, ⟨p6, p7, p8⟩, -⟩ := hE3.1 k hk
    obtain ⟨g1, g2, g3⟩ := hA k hk
    have hI2 : Inv t w2 m := hI.kp k2.1 kpW.rfl'
    obtain ⟨w3, f1, f2⟩ := s_fits hI2 hc (by omega) hk (hOw.2 k (by omega)) p6 p7 p2 (by omega) (i := i) (by omega)
    obtain ⟨w4, r1, r2⟩ := one k w3 hk (k2.tr f2)
    refine ⟨w4, ?_, r2⟩
    unfold l_law_b1474
    rw [u1, gd_t, gd_t, u2, k2.2 73 (by omega), k2.2 74 (by omega), g1, g2, p6, p7, f1, bnd_eq, nmd_eq]
    (try dsimp only)
    rw [if_neg (by decide)]
    exact r1
  have loop : ∀ d k fuel w2, k + d = vn → d < fuel → kpL w w2 → ∃ w3, lp (l_law_L1434 xs L (nI vn) (nI bn) (nI nE) (nI i) a) fuel (1, nI (cntS (slB m W) k), nI k, w2) = some (1, nI (cntS (slB m W) vn), w3) ∧ kpL w w3 := by
    intro d
    induction d with
    | zero =>
      intro k fuel w2 hk hf k2
      obtain ⟨fuel, rfl⟩ : ∃ f, fuel = f + 1 := ⟨fuel - 1, by omega⟩
      have d1 : nI vn ≤ nI k := by rw [nl_le (by omega) (by omega)]; omega
      have : k = vn := by omega
      subst this
      refine ⟨w2, ?_, k2⟩
      unfold lp; simp only [l_law_L1434, d1, ↓reduceIte] <;> rfl
    | succ d ih =>
      intro k fuel w2 hk hf k2
      obtain ⟨fuel, rfl⟩ : ∃ f, fuel = f + 1 := ⟨fuel - 1, by omega⟩
      have d1 : ¬ nI vn ≤ nI k := by rw [nl_le (by omega) (by omega)]; omega
      have u1 : inb (nI k) 8 = true := nl_in (by omega) (by omega)
      have u2 : (nI k).toNatClampNeg = k := nl_cl (by omega)
      have hcer := s_certified (hI.kp k2.1 kpW.rfl') hc (show k < vn by omega)
      have e75 : w2 75 k = m 14 k := by rw [k2.2 75 (by omega)]; exact (hA k (by omega)).2.2
      have step : ∃ w3, l_law_L1434 xs L (nI vn) (nI bn) (nI nE) (nI i) a (1, nI (cntS (slB m W) k), nI k, w2) = some (.inl (1, nI (cntS (slB m W) (k + 1)), nI (k + 1), w3)) ∧ kpL w w3 := by
        obtain ⟨w3, a1, a2⟩ := one k w2 (by omega) k2
        obtain ⟨w4, b1, b2⟩ := two k w2 (by omega) k2
        by_cases q1 : nI k = a
        · subst q1
          refine ⟨w4, ?_, b2⟩
          rw [← b1]
          simp only [l_law_L1434, d1, ↓reduceIte, show ¬ (1 : Int32) = 0 from by decide, hcer, bnd_eq, u1, gd_t, u2, e75]
        · by_cases q2 : (0 : Int32) < nI i - nI i / (4 : Int32) * (4 : Int32)
          · refine ⟨w3, ?_, a2⟩
            rw [← a1]
            simp only [l_law_L1434, d1, ↓reduceIte, show ¬ (1 : Int32) = 0 from by decide, hcer, bnd_eq, u1, gd_t, u2, e75, q1, show nzb (4 : Int32) = true from by decide, q2]
          · refine ⟨w4, ?_, b2⟩
            rw [← b1]
            simp only [l_law_L1434, d1, ↓reduceIte, show ¬ (1 : Int32) = 0 from by decide, hcer, bnd_eq, u1, gd_t, u2, e75, q1, show nzb (4 : Int32) = true from by decide, q2]
      obtain ⟨w3, s1, s2⟩ := step
      obtain ⟨w4, r1, r2⟩ := ih (k + 1) fuel w3 (by omega) (by omega) s2
      refine ⟨w4, ?_, r2⟩
      show Option.bind _ _ = _
      rw [s1, bnd_eq]
      exact r1
  obtain ⟨w3, r1, r2⟩ := loop vn 0 7 w (by omega) (by omega) kpL.rf
  obtain ⟨w4, e1, e2⟩ := s_stale hI hc hW w3 r2.1
  have k4 : kpL w (jn w4 w3) := r2.tr e2
  have h4 : LM i (jn w4 w3) m nE bn vn := by
    obtain ⟨-, b1, b2, b3, b4⟩ := h0
    exact ⟨⟨t, ht, hI.kp k4.1 kpW.rfl'⟩, b1, b2, b3, b4.fr Fr.rf (by simp) (by simp) (fun i hi => k4.2 i (by omega))⟩
  obtain ⟨r, q1, q2⟩ := go_why (xs := xs) (L := L) h4
  refine Or.inl ⟨jn w4 w3, m, nE, bn, vn, ?_, h0.next k4⟩
  unfold l_law_b1428
  rw [show ((1 : Int32), (0 : Int32), (0 : Int32), w) = (1, nI (cntS (slB m W) 0), nI 0, w) from rfl, r1, bnd_eq]
  show l_law_b1544 xs L 1 _ _ _ _ _ w3 = _
  unfold l_law_b1544
  rw [if_neg (by decide), e1, bnd_eq, nmd_eq]
  (try dsimp only)
  rw [if_pos rfl, q1, q2]
end TAIL

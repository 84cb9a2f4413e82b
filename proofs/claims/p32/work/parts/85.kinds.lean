/-! p32: THE LAW, its kinds of rounds, the first part -/
theorem LI.lm {i t' : Nat} {w w' m m' : Wt} {nE nE' bn vn : Nat} {S Z : List Nat} (h : LI i w m nE bn vn) (hI : Inv t' w' m') (ht : t' ≤ 350 + 200 * i) (f : Fr S Z m m') (hS : ∀ i ∈ [10, 11, 13, 14, 15, 16, 19, 20], i ∉ S) (hZ : 29 ∉ Z ∧ 27 ∉ Z ∧ 11 ∉ Z ∧ 20 ∉ Z ∧ 0 ∉ Z) (h6 : m' 0 6 = nI nE') (hn : nE' ≤ i + 1) (hi : i < 50) (hw : ∀ i, 73 ≤ i → w' i = w i) : LM i w' m' nE' bn vn := by
  obtain ⟨-, ⟨⟨c1, c2, c3, c4⟩, r1, r2, r3, r4⟩, ⟨n1, n2, n3⟩, ⟨td, t1, t2⟩, hX⟩ := h
  exact ⟨⟨t', ht, hI⟩, ⟨⟨h6, by rw [f.2 27 (by omega) hZ.2.1]; exact c2, by rw [f.2 11 (by omega) hZ.2.2.1]; exact c3, by rw [f.2 20 (by omega) hZ.2.2.2.1]; exact c4⟩, by omega, r2, r3, r4⟩, ⟨hn, n2, n3⟩, ⟨td, by omega, by rw [f.2 0 (by omega) hZ.2.2.2.2]; exact t2⟩, hX.fr f hS hZ.1 hw⟩
section KINDS
variable {xs : Nat → Int32} {L : Nat} {i : Nat} {w m : Wt} {nE bn vn q : Nat}
theorem nz3 : nzb (3 : Int32) = true := by decide
theorem nz5 : nzb (5 : Int32) = true := by decide
theorem nz7 : nzb (7 : Int32) = true := by decide
theorem nz8 : nzb (8 : Int32) = true := by decide
theorem nz12 : nzb (12 : Int32) = true := by decide
theorem nz16 : nzb (16 : Int32) = true := by decide
theorem nz20 : nzb (20 : Int32) = true := by decide
theorem nz24 : nzb (24 : Int32) = true := by decide
theorem nz25 : nzb (25 : Int32) = true := by decide
theorem nz49 : nzb (49 : Int32) = true := by decide
theorem nz50 : nzb (50 : Int32) = true := by decide
theorem nz63 : nzb (63 : Int32) = true := by decide
theorem nz75 : nzb (75 : Int32) = true := by decide
theorem nz900 : nzb (900 : Int32) = true := by decide
theorem nz1200 : nzb (1200 : Int32) = true := by decide
theorem nz10000 : nzb (10000 : Int32) = true := by decide
theorem nzn {n : Nat} (h : 0 < n) (hn : n < 2147483648) : nzb (nI n) = true := by
  have : ¬ nI n = 0 := by rw [qe_0 hn]; omega
  unfold nzb; exact decide_eq_true this
theorem go_enter (h : LI i w m nE bn vn) (hi : i < 50) (hq : q < 2147483648) (a : Int32) : GO i (l_law_b316 xs L (nI vn) (nI bn) (nI nE) (nI i) a (nI q) 1 w) := by
  have h0 := h
  obtain ⟨⟨t, ht, hI⟩, hc, ⟨n1, n2, n3⟩, -, hX⟩ := h
  have r1 : nI q - nI q / (3 : Int32) * (3 : Int32) = nI (q % 3) := pk_rem (d := 3) hq (by omega) (by omega)
  have r2 : nI q / (3 : Int32) = nI (q / 3) := pk_div (d := 3) hq (by omega) (by omega)
  have r1' : nI q - nI (q / 3) * (3 : Int32) = nI (q % 3) := by rw [← r2]; exact r1
  have r3 : nI (q / 3) - nI (q / 3) / (8 : Int32) * (8 : Int32) = nI (q / 3 % 8) := pk_rem (d := 8) (by omega) (by omega) (by omega)
  have r4 : nI q / (24 : Int32) = nI (q / 24) := pk_div (d := 24) hq (by omega) (by omega)
  have r5 : nI (q / 24) - nI (q / 24) / (50 : Int32) * (50 : Int32) = nI (q / 24 % 50) := pk_rem (d := 50) (by omega) (by omega) (by omega)
  have r6 : nI q / (1200 : Int32) = nI (q / 1200) := pk_div (d := 1200) hq (by omega) (by omega)
  have r7 : nI (q / 1200) - nI (q / 1200) / (900 : Int32) * (900 : Int32) = nI (q / 1200 % 900) := pk_rem (d := 900) (by omega) (by omega) (by omega)
  have r8 : (50 : Int32) + nI (q / 1200 % 900) = nI (50 + q / 1200 % 900) := nI_add 50 _
  have b1 : q % 3 < 3 := Nat.mod_lt _ (by omega)
  have b2 : q / 3 % 8 < 8 := Nat.mod_lt _ (by omega)
  have b3 : q / 24 % 50 < 50 := Nat.mod_lt _ (by omega)
  have b4 : q / 1200 % 900 < 900 := Nat.mod_lt _ (by omega)
  obtain ⟨w1, m1, e1, i1, f1, e6, g1, g2, g3, g4, g5⟩ := s_enter hI hc (by omega) b1 (show q / 3 % 8 < 20 by omega) (show q / 24 % 50 ≤ 50 + q / 1200 % 900 by omega) (by omega)
  have hM : LM i (jn w1 w) m1 (nE + 1) bn vn := h0.lm i1.jn (by omega) f1 (by simp) (by simp) e6 (by omega) hi (fun i hi => jn_hi (by omega))
  have hal := s_allowed i1.jn hM.2.1 (w := jn w1 w) b1 (show q / 3 % 8 < 20 by omega) (show 50 ≤ 1000 by omega)
  have hany : anyB (enM m1 (nI (q % 3)) (nI (q / 3 % 8)) (nI 50)) (nE + 1) = true := anyB_t (k := nE) (by omega) (by
    unfold enM
    rw [g1, g2, g3, g4, g5, decide_eq_true rfl, decide_eq_true rfl, decide_eq_true rfl, wth_n (by omega) (by omega) (by omega) (by omega) (by omega)]; rfl)
  rw [hany] at hal
  have := go_tail (xs := xs) (L := L) hM hi a
  unfold l_law_b316
  simp only [nz3, nz8, nz24, nz50, nz1200, nz900, gd_t, r1, r1', r2, r3, r4, r5, r6, r7, r8, e1, bnd_eq, nmd_eq, show ¬ (1 : Int32) = 0 from by decide, ↓reduceIte]
  unfold l_law_b366
  simp only [nz3, nz8, gd_t, r1, r1', r2, r3, show (50 : Int32) = nI 50 from rfl, hal, bnd_eq, show tI true = (1 : Int32) from rfl, ↓reduceIte]
  unfold l_law_b395 l_law_b409
  rw [if_neg (by decide), nmd_eq, nI_1]
  exact this
theorem go_pass (h : LI i w m nE bn vn) (hi : i < 50) (hq : q < 2147483648) (a : Int32) : GO i (gd (nzb (12 : Int32)) (Option.bind (l_pass ((1 : Int32) + (nI q - nI q / (12 : Int32) * (12 : Int32))) w) fun x232 => nmd (jn x232.2 w) fun w233 => (if x232.1 ≤ (0 : Int32) then l_law_b808 xs L (nI vn) (nI bn) (nI nE) (nI i) a (0 : Int32) w233 else l_law_b808 xs L (nI vn) (nI bn) (nI nE) (nI i) a (1 : Int32) w233))) := by
  have h0 := h
  obtain ⟨⟨t, ht, hI⟩, hc, ⟨n1, n2, n3⟩, ⟨td, t1, t2⟩, hX⟩ := h
  have r1 : nI q - nI q / (12 : Int32) * (12 : Int32) = nI (q % 12) := pk_rem (d := 12) hq (by omega) (by omega)
  have r2 : (1 : Int32) + nI (q % 12) = nI (1 + q % 12) := nI_add 1 _
  have b1 : q % 12 < 12 := Nat.mod_lt _ (by omega)
  obtain ⟨w1, m1, e1, i1, f1, e0⟩ := s_pass hI t2 (show 1 ≤ 1 + q % 12 by omega) (by omega) (by omega)
  have hM : LM i (jn w1 w) m1 nE bn vn := ⟨⟨t + 1, by omega, i1.jn⟩, hc.fr f1 (by simp), ⟨by omega, n2, n3⟩, ⟨td + (1 + q % 12), by omega, e0⟩, hX.fr f1 (by simp) (by simp) (fun i hi => jn_hi (by omega))⟩
  rw [nz12, gd_t, r1, r2, e1, bnd_eq, nmd_eq]
  (try dsimp only)
  rw [if_neg (by rw [qa_0 (by omega)]; omega)]
  exact go_tail hM hi a
/-- strike, and the ballots that count ahead of it and behind -/
theorem cnt829 {t : Nat} (hI : Inv t w m) (hc : Cn m nE bn 3 vn) (hb : bn ≤ 48) (a1 a2 a3 a4 a5 a6 a7 : Int32) : lp (l_law_L829 xs L a1 (nI bn) a3 a4 a5 a6 a7 w) 49 ((0 : Int32), (0 : Int32)) = some (nI (coM m bn nE)) := by
  have go : ∀ d k fuel, k + d = bn → d < fuel → lp (l_law_L829 xs L a1 (nI bn) a3 a4 a5 a6 a7 w) fuel (nI (cntS (fun b => decide (rsM m bn nE b = 0)) k), nI k) = some (nI (coM m bn nE)) := by
    intro d
    induction d with
    | zero =>
      intro k fuel hk hf
      obtain ⟨fuel, rfl⟩ : ∃ f, fuel = f + 1 := ⟨fuel - 1, by omega⟩
      have d1 : nI bn ≤ nI k := by rw [nl_le (by omega) (by omega)]; omega
      have : k = bn := by omega
      subst this
      unfold lp; simp only [l_law_L829, d1, ↓reduceIte] <;> rfl
    | succ d ih =>
      intro k fuel hk hf
      obtain ⟨fuel, rfl⟩ : ∃ f, fuel = f + 1 := ⟨fuel - 1, by omega⟩
      have d1 : ¬ nI bn ≤ nI k := by rw [nl_le (by omega) (by omega)]; omega
      have hw := s_why hI hc (show k < bn by omega)
      have r1 := ih (k + 1) fuel (by omega) (by omega)
      have hs : cntS (fun b => decide (rsM m bn nE b = 0)) (k + 1) = cntS (fun b => decide (rsM m bn nE b = 0)) k + (if decide (rsM m bn nE k = 0) = true then 1 else 0) := rfl
      have hlt := rsM_lt (m := m) (bn := bn) (nE := nE) (b := k)
      rw [hs] at r1
      show Option.bind _ _ = _
      by_cases g : rsM m bn nE k = 0
      · rw [decide_eq_true g, if_pos rfl] at r1
        simp only [l_law_L829, d1, ↓reduceIte, hw, bnd_eq, g, show nI 0 = (0 : Int32) from rfl, nmd_eq, nI_1]
        exact r1
      · rw [decide_eq_false g, if_neg (by decide), Nat.add_zero] at r1
        simp only [l_law_L829, d1, ↓reduceIte, hw, bnd_eq, qe_0 (show rsM m bn nE k < 2147483648 by omega), g, nmd_eq, nI_1, Int32.add_zero]
        exact r1
  exact go bn 0 49 (by omega) (by omega)
theorem cnt884 {t : Nat} (hI : Inv t w m) (hc : Cn m nE bn 3 vn) (hb : bn ≤ 48) (a1 a2 a3 a4 a5 a6 a7 : Int32) : lp (l_law_L884 xs L a1 (nI bn) a3 a4 a5 a6 a7 w) 49 ((0 : Int32), (0 : Int32)) = some (nI (coM m bn nE)) := by
  have go : ∀ d k fuel, k + d = bn → d < fuel → lp (l_law_L884 xs L a1 (nI bn) a3 a4 a5 a6 a7 w) fuel (nI (cntS (fun b => decide (rsM m bn nE b = 0)) k), nI k) = some (nI (coM m bn nE)) := by
    intro d
    induction d with
    | zero =>
      intro k fuel hk hf
      obtain ⟨fuel, rfl⟩ : ∃ f, fuel = f + 1 := ⟨fuel - 1, by omega⟩
      have d1 : nI bn ≤ nI k := by rw [nl_le (by omega) (by omega)]; omega
      have : k = bn := by omega
      subst this
      unfold lp; simp only [l_law_L884, d1, ↓reduceIte] <;> rfl
    | succ d ih =>
      intro k fuel hk hf
      obtain ⟨fuel, rfl⟩ : ∃ f, fuel = f + 1 := ⟨fuel - 1, by omega⟩
      have d1 : ¬ nI bn ≤ nI k := by rw [nl_le (by omega) (by omega)]; omega
      have hw := s_why hI hc (show k < bn by omega)
      have r1 := ih (k + 1) fuel (by omega) (by omega)
      have hs : cntS (fun b => decide (rsM m bn nE b = 0)) (k + 1) = cntS (fun b => decide (rsM m bn nE b = 0)) k + (if decide (rsM m bn nE k = 0) = true then 1 else 0) := rfl
      have hlt := rsM_lt (m := m) (bn := bn) (nE := nE) (b := k)
      rw [hs] at r1
      show Option.bind _ _ = _
      by_cases g : rsM m bn nE k = 0
      · rw [decide_eq_true g, if_pos rfl] at r1
        simp only [l_law_L884, d1, ↓reduceIte, hw, bnd_eq, g, show nI 0 = (0 : Int32) from rfl, nmd_eq, nI_1]
        exact r1
      · rw [decide_eq_false g, if_neg (by decide), Nat.add_zero] at r1
        simp only [l_law_L884, d1, ↓reduceIte, hw, bnd_eq, qe_0 (show rsM m bn nE k < 2147483648 by omega), g, nmd_eq, nI_1, Int32.add_zero]
        exact r1
  exact go bn 0 49 (by omega) (by omega)
theorem go_strike (h : LI i w m nE bn vn) (hi : i < 50) (hq : q < 2147483648) (a : Int32) : GO i (Option.bind (lp (l_law_L829 xs L (nI vn) (nI bn) (nI nE) (nI i) a (nI q) (0 : Int32) w) 49 ((0 : Int32), (0 : Int32))) (l_law_x829 xs L (nI vn) (nI bn) (nI nE) (nI i) a (nI q) (0 : Int32) w)) := by
  have h0 := h
  obtain ⟨⟨t, ht, hI⟩, hc, ⟨n1, n2, n3⟩, -, hX⟩ := h
  rw [cnt829 hI hc n2 _ (nI bn) _ _ _ _ _, bnd_eq]
  show GO i (l_law_b861 xs L (nI vn) (nI bn) (nI nE) (nI i) a (nI q) (nI (coM m bn nE)) (0 : Int32) w)
  have key : ∀ e, (e < nE ∨ nE = 0) → e < 2147483648 → GO i (l_law_b876 xs L (nI vn) (nI bn) (nI nE) (nI i) a (nI (coM m bn nE)) (0 : Int32) (nI e) w) := fun e he he2 => by
    obtain ⟨v, w1, m1, e1, i1, f1, hv⟩ := s_strike hI hc he he2
    have hM : LM i (jn w1 w) m1 nE bn vn := h0.lm i1.jn (by omega) f1 (by simp) (by simp) (by rw [f1.2 6 (by omega) (by simp)]; exact hc.1.1) (by omega) hi (fun i hi => jn_hi (by omega))
    have := go_tail (xs := xs) (L := L) hM hi a
    unfold l_law_b876
    rw [e1, bnd_eq, nmd_eq, nmd_eq]
    (try dsimp only)
    rw [cnt884 i1.jn hM.2.1 n2 _ (nI bn) _ _ _ _ _, bnd_eq]
    show GO i (l_law_b916 xs L (nI vn) (nI bn) (nI nE) (nI i) a (nI (coM m bn nE)) (nI (coM m1 bn nE)) v (jn w1 w))
    unfold l_law_b916
    rcases hv with ⟨g1, g2⟩ | ⟨g1, g2⟩
    · rw [if_neg (fun x => absurd g1 (Int32.not_lt.mpr x)), g2, if_pos rfl]
      exact this
    · rw [if_pos (Int32.not_lt.mp g1), if_pos g2]
      exact this
  unfold l_law_b861
  by_cases g : nE = 0
  · rw [if_pos (by rw [g]; rfl)]
    exact key 0 (Or.inr g) (by omega)
  · rw [if_neg (by rw [qe_0 (by omega)]; exact g), nzn (by omega) (by omega), gd_t, pk_rem hq (by omega) (by omega)]
    exact key _ (Or.inl (Nat.mod_lt _ (by omega))) (by have := Nat.mod_le q nE; omega)
/-- misread: the two first places change -/
theorem rdF_sw {m' : Wt} {b : Nat} (f : Fr [22] [] m m') (h0 : m 22 b = 0) (h1 : m' 22 b = 1) : rdF m' b 0 = rdF m b 1 ∧ rdF m' b 1 = rdF m b 0 := by
  have e17 : m' 17 = m 17 := f.1 17 (by decide) (by decide) (by simp)
  refine ⟨?_, ?_⟩
  · unfold rdF
    rw [h0, h1, e17, if_pos ⟨by decide, by omega⟩, if_neg (fun x => x.1 rfl)]
  · unfold rdF
    rw [h0, h1, e17, if_pos ⟨by decide, by omega⟩, if_neg (fun x => x.1 rfl)]
theorem go_misread (h : LI i w m nE bn vn) (hi : i < 50) (hq : q < 2147483648) (hb : 0 < bn) (a : Int32) : GO i (gd (nzb (nI bn)) (nmd (nI q - nI q / nI bn * nI bn) fun v215 => Option.bind (l_read v215 (0 : Int32) w) fun x216 => Option.bind (l_read v215 (1 : Int32) w) fun x217 => Option.bind (l_misread v215 w) fun x218 => nmd (jn x218.2 w) fun w219 => nmd x218.1 fun v220 => (if v220 = (0 : Int32) then Option.bind (l_read v215 (0 : Int32) w219) fun x223 => (if x223 = x217 then Option.bind (l_read v215 (1 : Int32) w219) fun x225 => (if x225 = x216 then (if x217 < (0 : Int32) then l_law_b1050 xs L (nI vn) (nI bn) (nI nE) (nI i) a w219 else Option.bind (l_misread v215 w219) fun x228 => nmd (jn x228.2 w219) fun w229 => (if x228.1 = (-103 : Int32) then l_law_b1066 xs L (nI vn) (nI bn) (nI nE) (nI i) a (1 : Int32) w229 else l_law_b1050 xs L (nI vn) (nI bn) (nI nE) (nI i) a w229)) else l_law_b1050 xs L (nI vn) (nI bn) (nI nE) (nI i) a w219) else l_law_b1050 xs L (nI vn) (nI bn) (nI nE) (nI i) a w219) else (if v220 = (-103 : Int32) then l_law_b1066 xs L (nI vn) (nI bn) (nI nE) (nI i) a (1 : Int32) w219 else l_law_b1066 xs L (nI vn) (nI bn) (nI nE) (nI i) a (0 : Int32) w219)))) := by
  have h0 := h
  obtain ⟨⟨t, ht, hI⟩, hc, ⟨n1, n2, n3⟩, -, hX⟩ := h
  have hbm : q % bn < bn := Nat.mod_lt _ hb
  rw [nzn hb (by omega), gd_t, nmd_eq, pk_rem hq hb (by omega)]
  generalize q % bn = b at hbm
  have hF := (hI.at hc).2.2.2.2.2.2.2
  obtain ⟨l1, l2, l3⟩ := (hF.2.1 b hbm).ln
  have s0 := s_read hI hc hbm (show 0 < 6 by omega)
  have s1 := s_read hI hc hbm (show 1 < 6 by omega)
  rw [if_pos (show 0 < lnF m b by omega)] at s0
  rw [show (0 : Int32) = nI 0 from rfl, show (1 : Int32) = nI 1 from rfl]
  obtain ⟨v, w1, m1, e1, i1, hv⟩ := s_misread hI hc hbm
  rcases hv with ⟨rfl, g0, g1, f1, g2⟩ | ⟨rfl, g0, f1⟩
  · have hM : LM i (jn w1 w) m1 nE bn vn := h0.lm i1.jn (by omega) f1 (by simp) (by simp) (by rw [f1.2 6 (by omega) (by simp)]; exact hc.1.1) (by omega) hi (fun i hi => jn_hi (by omega))
    have c1 := hM.2.1
    have m122 : m1 22 b = 1 := by rw [g2, if_pos rfl]
    have hln : lnF m1 b = lnF m b := by unfold lnF; rw [f1.1 18 (by decide) (by decide) (by simp)]
    obtain ⟨z0, z1⟩ := rdF_sw f1 g0 m122
    have t0 := s_read i1.jn c1 (w := jn w1 w) hbm (show 0 < 6 by omega)
    have t1 := s_read i1.jn c1 (w := jn w1 w) hbm (show 1 < 6 by omega)
    rw [hln, if_pos (show 0 < lnF m b by omega), z0] at t0
    rw [hln, if_pos (by omega), z1] at t1
    rw [if_pos (by omega)] at s1
    obtain ⟨v2, w2, m2, e2, i2, hv2⟩ := s_misread i1.jn c1 (w := jn w1 w) hbm
    rcases hv2 with ⟨-, y0, -⟩ | ⟨rfl, -, f2⟩
    · rw [m122] at y0; exact absurd y0 (by decide)
    · have hM2 : LM i (jn w2 (jn w1 w)) m2 nE bn vn := h0.lm i2.jn (by omega) (f1.t2 (f2.up (by simp) (by simp))) (by simp) (by simp) (by rw [f2.2 6 (by omega) (by simp), f1.2 6 (by omega) (by simp)]; exact hc.1.1) (by omega) hi (fun i hi => by rw [jn_hi (by omega), jn_hi (by omega)])
      have hr := (hF.2.1 b hbm).rd (show 1 < lnF m b by omega)
      obtain ⟨_, -, -, hr6, -⟩ := hr
      have := go_tail (xs := xs) (L := L) hM2 hi a
      rw [s0, bnd_eq, s1, bnd_eq, e1, bnd_eq, nmd_eq, nmd_eq]
      (try dsimp only)
      rw [if_pos (show (0 : Int32) = nI 0 from rfl), t0, bnd_eq, if_pos rfl, t1, bnd_eq, if_pos rfl, if_neg (show ¬ nI (rdF m b 1) < nI 0 from nl_neg (by omega)), e2, bnd_eq, nmd_eq, if_pos rfl]
      exact this
  · have hM : LM i (jn w1 w) m1 nE bn vn := h0.lm i1.jn (by omega) f1 (by simp) (by simp) (by rw [f1.2 6 (by omega) (by simp)]; exact hc.1.1) (by omega) hi (fun i hi => jn_hi (by omega))
    have := go_tail (xs := xs) (L := L) hM hi a
    rw [s0, bnd_eq, s1, bnd_eq, e1, bnd_eq, nmd_eq, nmd_eq]
    (try dsimp only)
    rw [if_neg (by decide), if_pos rfl]
    exact this
end KINDS

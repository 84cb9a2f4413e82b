/-! p32: THE LAW, its kinds of rounds, the second part -/
section KINDS2
variable {xs : Nat → Int32} {L : Nat} {i : Nat} {w m : Wt} {nE bn vn q : Nat}
theorem go_sample (h : LI i w m nE bn vn) (hi : i < 50) (hq : q < 2147483648) {v : Nat} (hv : v < vn) : GO i (l_law_b1071 xs L (nI vn) (nI bn) (nI nE) (nI i) (12 : Int32) (nI v) (nI q) w) := by
  have h0 := h
  obtain ⟨⟨t, ht, hI⟩, hc, ⟨n1, n2, n3⟩, ⟨td, t1, t2⟩, hX⟩ := h
  have r1 : nI q - nI q / (10000 : Int32) * (10000 : Int32) = nI (q % 10000) := pk_rem (d := 10000) hq (by omega) (by omega)
  have r2 : nI q / (10000 : Int32) = nI (q / 10000) := pk_div (d := 10000) hq (by omega) (by omega)
  have r3 : nI (q / 10000) - nI (q / 10000) / (20 : Int32) * (20 : Int32) = nI (q / 10000 % 20) := pk_rem (d := 20) (by omega) (by omega) (by omega)
  have r4 : (1 : Int32) + nI (q / 10000 % 20) = nI (1 + q / 10000 % 20) := nI_add 1 _
  have r1' : nI q - nI (q / 10000) * (10000 : Int32) = nI (q % 10000) := by rw [← r2]; exact r1
  have b1 : q % 10000 < 10000 := Nat.mod_lt _ (by omega)
  have b2 : q / 10000 % 20 < 20 := Nat.mod_lt _ (by omega)
  unfold l_law_b1071
  rw [if_pos rfl]
  simp only [nz10000, nz20, gd_t, r1, r1', r2, r3, r4]
  rcases s_sample hI hc (by omega) hv (x := q % 10000) (mk := 1 + q / 10000 % 20) (by omega) (by omega) (by omega) with ⟨w1, m1, e1, i1, f1⟩ | ⟨g, w1, m1, m2, hg, e1, i1, hn, f2, e15, e16⟩
  · have hM : LM i (jn w1 w) m1 nE bn vn := h0.lm i1.jn (by omega) f1 (by simp) (by simp) (by rw [f1.2 6 (by omega) (by simp)]; exact hc.1.1) (by omega) hi (fun i hi => jn_hi (by omega))
    rw [e1, bnd_eq, nmd_eq, nmd_eq]
    (try dsimp only)
    rw [if_pos rfl]
    exact go_tail hM hi _
  · obtain ⟨w2, e2, i2⟩ := hn (jn w1 w) i1.jn
    have hM : LM i (jn w2 (jn w1 w)) m2 nE bn vn := by
      obtain ⟨x1, ⟨x2, x3⟩, x4, x5⟩ := hX
      have hE2 := (hI.at hc).2.2.2.2.2.2.1.2.1
      refine ⟨⟨t + 2, by omega, i2.jn⟩, hc.fr f2 (by simp), ⟨by omega, n2, n3⟩, ⟨td, by omega, by rw [f2.2 0 (by omega) (by simp)]; exact t2⟩, by rw [f2.2 29 (by omega) (by simp)]; exact x1, ⟨fun u hu => by rw [f2.1 13 (by decide) (by decide) (by simp)]; exact x2 u hu, fun u hu => ?_⟩, fun u hu => ?_, fun b hb => ?_⟩
      · obtain ⟨d, f, y1, y2, y3, y4⟩ := x3 u hu
        rw [e15, e16]
        by_cases gg : u = v
        · subst gg
          obtain ⟨-, -, d2, y5, y6⟩ := hE2 u hu
          have : d = d2 := nI_i y4 (by omega) (y2.symm.trans y6)
          subst this
          rw [if_pos rfl, if_pos rfl, y2, y3, nI_add, nI_add, nI_add, Int32.add_zero]
          exact ⟨_, _, by omega, rfl, rfl, by omega⟩
        · rw [if_neg gg, if_neg gg]; exact ⟨d, f, y1, y2, y3, y4⟩
      · rw [jn_hi (show 72 ≤ 73 by omega), jn_hi (show 72 ≤ 73 by omega), jn_hi (show 72 ≤ 74 by omega), jn_hi (show 72 ≤ 74 by omega), jn_hi (show 72 ≤ 75 by omega), jn_hi (show 72 ≤ 75 by omega), f2.1 10 (by decide) (by decide) (by simp), f2.1 11 (by decide) (by decide) (by simp), f2.1 14 (by decide) (by decide) (by simp)]
        exact x4 u hu
      · rw [jn_hi (show 72 ≤ 76 by omega), jn_hi (show 72 ≤ 76 by omega), f2.1 19 (by decide) (by decide) (by simp), f2.1 20 (by decide) (by decide) (by simp)]
        exact x5 b hb
    have n103 : ¬ nI g = (-103 : Int32) := fun e => by
      rw [ieq, nI_toInt (by omega)] at e
      have : (-103 : Int32).toInt = -103 := rfl
      omega
    rw [e1, bnd_eq, nmd_eq, nmd_eq]
    (try dsimp only)
    rw [if_neg n103, if_neg (nl_neg (by omega)), if_neg (by rw [nl_lt (by omega) (by omega)]; omega), e2, bnd_eq, nmd_eq, if_pos rfl]
    exact go_tail hM hi _
set_option maxHeartbeats 1000000 in
theorem go_certify (h : LI i w m nE bn vn) (hi : i < 50) {v : Nat} (hv : v < vn) (q : Int32) : GO i (l_law_b1071 xs L (nI vn) (nI bn) (nI nE) (nI i) (13 : Int32) (nI v) q w) := by
  have h0 := h
  obtain ⟨⟨t, ht, hI⟩, hc, ⟨n1, n2, n3⟩, ⟨td, t1, t2⟩, hX⟩ := h
  have u1 : inb (nI v) 8 = true := nl_in (by omega) (by omega)
  have u2 : (nI v).toNatClampNeg = v := nl_cl (by omega)
  obtain ⟨w1, m1, e1, i1, f1, g1⟩ := s_recount hI hc hv
  have hcb : cntS (rcB m (nI v)) bn ≤ bn := cntS_le
  have c1 : Cn m1 nE bn 3 vn := hc.fr f1 (by simp)
  obtain ⟨w2, m2, e2, i2, f2, g2⟩ := s_recount i1.jn c1 (w := jn w1 w) hv
  rw [recount_0 f1 g1] at e2
  have c2 : Cn m2 nE bn 3 vn := c1.fr f2 (by simp)
  have I2 : Inv (t + 1 + 1) (jn w2 (jn w1 w)) m2 := i2.jn
  have F2 : Fr [22] [] m m2 := f1.t2 f2
  generalize hw2 : jn w2 (jn w1 w) = wa at I2
  have J2 : ∀ i, 72 ≤ i → wa i = w i := fun i hi => by rw [← hw2, jn_hi hi, jn_hi hi]
  obtain ⟨e, he, hW⟩ := wn_ex I2 c2 hv
  obtain ⟨w3, e3, k3⟩ := s_winners I2 c2 hv hW he wa kpC.rfl'
  have I3 : Inv (t + 1 + 1) (jn w3 wa) m2 := I2.kp k3.1 kpW.rfl'
  have J3 : ∀ i, 72 ≤ i → jn w3 wa i = w i := fun i hi => by rw [jn_hi hi]; exact J2 i hi
  -- the end: certified, and written down
  have fin : ∀ (wb mb : Wt) (tb : Nat) (S : List Nat), Inv tb wb mb → tb ≤ 350 + 200 * i → Fr [13, 14, 22] [] m mb → (∀ u, mb 14 u = if u = v then nI e else m 14 u) → (∀ u, vn ≤ u → mb 13 u = 0) → (∀ i, 72 ≤ i → wb i = w i) → GO i (l_law_b1268 xs L (nI vn) (nI bn) (nI nE) (nI i) (nI v) (nI e) wb) := fun wb mb tb S iB htb fB h14 h13 jB => by
    have cB : Cn mb nE bn 3 vn := hc.fr fB (by simp)
    have hcer := s_certified iB cB hv
    rw [h14, if_pos rfl] at hcer
    have hlo : ∀ i, i < 72 → upd2 wb 75 v (nI e) i = wb i := fun i hi => upd2_n (by omega)
    have hM : LM i (upd2 wb 75 v (nI e)) mb nE bn vn := by
      obtain ⟨x1, ⟨x2, x3⟩, x4, x5⟩ := hX
      refine ⟨⟨tb, htb, iB.lo hlo⟩, cB, ⟨by omega, n2, n3⟩, ⟨td, by omega, by rw [fB.2 0 (by omega) (by simp)]; exact t2⟩, by rw [fB.2 29 (by omega) (by simp)]; exact x1, ⟨h13, fun u hu => by rw [fB.1 15 (by decide) (by decide) (by simp), fB.1 16 (by decide) (by decide) (by simp)]; exact x3 u hu⟩, fun u hu => ?_, fun b hb => ?_⟩
      · obtain ⟨y1, y2, y3⟩ := x4 u hu
        rw [upd2_n (show (73 : Nat) ≠ 75 by decide), upd2_n (show (74 : Nat) ≠ 75 by decide), jB 73 (by omega), jB 74 (by omega), fB.1 10 (by decide) (by decide) (by simp), fB.1 11 (by decide) (by decide) (by simp), upd2_at, if_pos rfl, h14]
        refine ⟨y1, y2, ?_⟩
        by_cases gg : u = v
        · rw [if_pos gg, if_pos gg]
        · rw [if_neg gg, if_neg gg, jB 75 (by omega)]; exact y3
      · rw [upd2_n (show (76 : Nat) ≠ 75 by decide), jB 76 (by omega), fB.1 19 (by decide) (by decide) (by simp), fB.1 20 (by decide) (by decide) (by simp)]
        exact x5 b hb
    have := go_tail (xs := xs) (L := L) hM hi (nI v)
    unfold l_law_b1268
    rw [hcer, bnd_eq, if_pos rfl]
    unfold l_law_b1284
    rw [u1, gd_t, u2, nmd_eq]
    exact this
  have h13v : ∀ u, vn ≤ u → m 13 u = 0 := hX.2.1.1
  unfold l_law_b1071
  rw [if_neg (by decide), if_pos rfl, e1, bnd_eq, nmd_eq]
  (try dsimp only)
  rw [if_neg (nl_neg (by omega)), e2, bnd_eq, nmd_eq, if_pos (show nI 0 = (0 : Int32) from rfl)]
  (try dsimp only)
  rw [hw2]
  unfold l_law_b1197
  rw [e3, bnd_eq, nmd_eq, nmd_eq]
  (try dsimp only)
  by_cases g : m2 13 v = 0
  · obtain ⟨w4, m4, e4, i4, f4⟩ := s_certifyX I3 c2 hv g
    have c4 : Cn m4 nE bn 3 vn := c2.fr f4 (by simp)
    have g4 : m4 13 v = 0 := by rw [f4.1 13 (by decide) (by decide) (by simp)]; exact g
    obtain ⟨x, w5, m5, e5, hx, i5, f5, g5⟩ := s_close i4.jn c4 (w := jn w4 (jn w3 wa)) hv g4
    have c5 : Cn m5 nE bn 3 vn := c4.fr f5 (by simp)
    have hW4 : Wn m4 v e := wn_fr I3 c2 i4 c4 hv f4 (by simp) hW he
    have hW5 : Wn m5 v e := wn_fr i4.jn c4 (w := jn w4 (jn w3 wa)) i5 c5 hv f5 (by simp) hW4 he
    obtain ⟨w6, m6, e6, i6, f6, g6⟩ := s_certify i5.jn c5 (w := jn w5 (jn w4 (jn w3 wa))) hv (by rw [g5, if_pos rfl]; decide) hW5 he
    rw [e4, bnd_eq, nmd_eq, nmd_eq]
    (try dsimp only)
    rw [if_neg (by decide), if_pos rfl, e5, bnd_eq, nmd_eq]
    (try dsimp only)
    rw [if_neg (nl_neg (by omega)), e6, bnd_eq, nmd_eq, if_pos rfl]
    refine fin _ m6 _ [] i6.jn (by omega) ?_ (fun u => ?_) (fun u hu => ?_) (fun i hi => by rw [jn_hi hi, jn_hi hi, jn_hi hi]; exact J3 i hi)
    · exact ((((F2.tr f4).tr f5).tr f6)).up (by simp) (by simp)
    · rw [g6, f5.1 14 (by decide) (by decide) (by simp), f4.1 14 (by decide) (by decide) (by simp), F2.1 14 (by decide) (by decide) (by simp)]
    · rw [f6.1 13 (by decide) (by decide) (by simp), g5, if_neg (by omega), f4.1 13 (by decide) (by decide) (by simp), F2.1 13 (by decide) (by decide) (by simp)]
      exact h13v u hu
  · obtain ⟨w4, m4, e4, i4, f4, g4⟩ := s_certify I3 c2 hv g hW he
    have c4 : Cn m4 nE bn 3 vn := c2.fr f4 (by simp)
    obtain ⟨w5, m5, e5, i5, f5⟩ := s_closeX i4.jn c4 (w := jn w4 (jn w3 wa)) hv (by rw [f4.1 13 (by decide) (by decide) (by simp)]; exact g)
    have n103 : ¬ nI e = (-103 : Int32) := fun x => by
      rw [ieq, nI_toInt (by omega)] at x
      have : (-103 : Int32).toInt = -103 := rfl
      omega
    rw [e4, bnd_eq, nmd_eq, nmd_eq]
    (try dsimp only)
    rw [if_neg (by decide), if_neg n103, if_pos rfl, e5, bnd_eq, nmd_eq, if_pos rfl]
    refine fin _ m5 _ [] i5.jn (by omega) ?_ (fun u => ?_) (fun u hu => ?_) (fun i hi => by rw [jn_hi hi, jn_hi hi]; exact J3 i hi)
    · exact ((F2.tr f4).tr f5).up (by simp) (by simp)
    · rw [f5.1 14 (by decide) (by decide) (by simp), g4, F2.1 14 (by decide) (by decide) (by simp)]
    · rw [f5.1 13 (by decide) (by decide) (by simp), f4.1 13 (by decide) (by decide) (by simp), F2.1 13 (by decide) (by decide) (by simp)]
      exact h13v u hu
theorem go_mend (h : LI i w m nE bn vn) (hi : i < 50) (hq : q < 2147483648) (a : Int32) : GO i (l_law_b1071 xs L (nI vn) (nI bn) (nI nE) (nI i) (14 : Int32) a (nI q) w) := by
  have h0 := h
  obtain ⟨⟨t, ht, hI⟩, hc, ⟨n1, n2, n3⟩, -, hX⟩ := h
  have r1 : nI q - nI q / (3 : Int32) * (3 : Int32) = nI (q % 3) := pk_rem (d := 3) hq (by omega) (by omega)
  obtain ⟨n, w1, e1, hn, ⟨ly1, ly2, ly3⟩, k1⟩ := s_lays hq w
  have I1 : Inv t w1 m := hI.lo (fun i hi => k1 i (by omega))
  obtain ⟨w2, m2, e2, i2, f2, ⟨p2, q2⟩, k2⟩ := s_types I1 (show n ≤ 24 by omega) ly1
  have c2 : Cn m2 nE bn 3 vn := hc.fr f2 (by simp)
  have X2 : Tx m2 (Tw w1) n := ⟨by omega, p2, fun k hk => ⟨q2 k hk, by have := (ly1 k hk).2.1; omega⟩⟩
  obtain ⟨z, w3, m3, hz, e3, i3, hn2⟩ := s_mend2 i2 c2 (show q % 3 < 3 from Nat.mod_lt _ (by omega)) X2 ly2
  obtain ⟨w4, m4, e4, i4, f4⟩ := hn2 (jn w3 w2) (fun i hi => jn_l hi)
  have F4 : Fr [6, 7, 8] [8] m m4 := (f2.tr f4).up (by simp) (by simp)
  have hM : LM i (jn w4 (jn w3 w2)) m4 nE bn vn := h0.lm i4.jn (by omega) F4 (by simp) (by simp) (by rw [F4.2 6 (by omega) (by simp)]; exact hc.1.1) (by omega) hi (fun i hi => by rw [jn_hi (by omega), jn_hi (by omega), k2 i (by omega), k1 i (by omega)])
  have := go_tail (xs := xs) (L := L) hM hi a
  unfold l_law_b1071
  rw [if_neg (by decide), if_neg (by decide), if_pos rfl, e1, bnd_eq, nmd_eq, nmd_eq]
  (try dsimp only)
  rw [e2, bnd_eq, nmd_eq]
  (try dsimp only)
  rw [if_neg (by decide), nz3, gd_t, r1, e3, bnd_eq, nmd_eq]
  (try dsimp only)
  unfold l_law_b1334
  rw [if_neg (nl_neg (by omega)), if_neg (by rw [nl_lt (by omega) (by omega)]; omega), nz3, gd_t, r1, e4, bnd_eq, nmd_eq, if_pos rfl]
  exact this
theorem go_fault (h : LI i w m nE bn vn) (hL : L ≤ 260) (hi : i < 50) (hq : q < 2147483648) {kd : Nat} (hkd : kd < 16) (hk2 : kd ≠ 12 ∧ kd ≠ 13 ∧ kd ≠ 14) (a : Int32) : GO i (l_law_b1071 xs L (nI vn) (nI bn) (nI nE) (nI i) (nI kd) a (nI q) w) := by
  have h0 := h
  obtain ⟨⟨t, ht, hI⟩, hc, ⟨n1, n2, n3⟩, -, hX⟩ := h
  have r1 : nI q - nI q / (12 : Int32) * (12 : Int32) = nI (q % 12) := pk_rem (d := 12) hq (by omega) (by omega)
  have r2 : (1 : Int32) + nI (q % 12) = nI (1 + q % 12) := nI_add 1 _
  have b1 : q % 12 < 12 := Nat.mod_lt _ (by omega)
  have go : ∀ d k fuel w2, k + d = 12 → d < fuel → (∀ j, j < k → w2 72 j = nI (Tw w2 j) ∧ Tw w2 j < 128 ∧ tyB (Tw w2 j) = true) → (∀ i, i ≠ 72 → w2 i = w i) → ∃ w3, lp (l_law_L1372 xs L (nI vn) (nI bn) (nI nE) (nI i) a (nI q)) fuel (nI k, w2) = some w3 ∧ (∀ j, j < 12 → w3 72 j = nI (Tw w3 j) ∧ Tw w3 j < 128 ∧ tyB (Tw w3 j) = true) ∧ ∀ i, i ≠ 72 → w3 i = w i := by
    intro d
    induction d with
    | zero =>
      intro k fuel w2 hk hf h1 h2
      obtain ⟨fuel, rfl⟩ : ∃ f, fuel = f + 1 := ⟨fuel - 1, by omega⟩
      have : k = 12 := by omega
      subst this
      refine ⟨w2, ?_, h1, h2⟩
      unfold lp; simp only [l_law_L1372, show (12 : Int32) ≤ nI 12 from by decide, ↓reduceIte] <;> rfl
    | succ d ih =>
      intro k fuel w2 hk hf h1 h2
      obtain ⟨fuel, rfl⟩ : ∃ f, fuel = f + 1 := ⟨fuel - 1, by omega⟩
      have d1 : ¬ (12 : Int32) ≤ nI k := by rw [show (12 : Int32) = nI 12 from rfl, nl_le (by omega) (by omega)]; omega
      have u1 : inb (nI k) 24 = true := nl_in (by omega) (by omega)
      have u2 : (nI k).toNatClampNeg = k := nl_cl (by omega)
      have s1 : (5 : Int32) * nI k = nI (5 * k) := pk_mul 5 k
      have s2 : nI (i + 5 * k) - nI (i + 5 * k) / (63 : Int32) * (63 : Int32) = nI ((i + 5 * k) % 63) := pk_rem (d := 63) (by omega) (by omega) (by omega)
      have hm : (i + 5 * k) % 63 < 63 := Nat.mod_lt _ (by omega)
      obtain ⟨c, hc1, hc2⟩ := s_cell (xs := xs) hL ((i + 5 * k) % 63) (by omega)
      have s3 : nI c / (3 : Int32) = nI (c / 3) := pk_div (d := 3) hc1 (by omega) (by omega)
      have s4 : (7 : Int32) * nI k = nI (7 * k) := pk_mul 7 k
      obtain ⟨x, hx1, hx2, hx3⟩ := s_sign (n := c / 3 + 7 * k) (by omega)
      obtain ⟨w3, r1, r2, r3⟩ := ih (k + 1) fuel (upd2 w2 72 k (nI x)) (by omega) (by omega) (fun j hj => by
        rw [Tw_u hx1, upd2_at, if_pos rfl]
        by_cases g : j = k
        · rw [if_pos g, if_pos g]; exact ⟨rfl, hx1, hx2⟩
        · rw [if_neg g, if_neg g]; exact h1 j (by omega)) (fun i hi => by rw [upd2_n hi]; exact h2 i hi)
      refine ⟨w3, ?_, r2, r3⟩
      show Option.bind _ _ = _
      simp only [l_law_L1372, d1, ↓reduceIte, nz63, gd_t, s1, nI_add, s2, hc2, bnd_eq, nz3, s3, s4, hx3, u1, u2, nmd_eq, nI_1]
      exact r1
  obtain ⟨w3, s1, s2, s3⟩ := go 12 0 13 w (by omega) (by omega) (fun j hj => absurd hj (Nat.not_lt_zero j)) (fun _ _ => rfl)
  have I3 : Inv t w3 m := hI.lo (fun i hi => s3 i (by omega))
  obtain ⟨w4, m4, e4, i4, f4, k4⟩ := s_isFault I3 hc (many := 1 + q % 12) (by omega) (T := Tw w3) (fun k hk => s2 k (by omega))
  have hM : LM i w4 m4 nE bn vn := h0.lm i4 (by omega) f4 (by simp) (by simp) (by rw [f4.2 6 (by omega) (by simp)]; exact hc.1.1) (by omega) hi (fun i hi => by rw [k4 i (by omega)]; exact s3 i (by omega))
  have := go_tail (xs := xs) (L := L) hM hi a
  have k12 : ¬ nI kd = (12 : Int32) := by rw [show (12 : Int32) = nI 12 from rfl, nl_eq (by omega) (by omega)]; exact hk2.1
  have k13 : ¬ nI kd = (13 : Int32) := by rw [show (13 : Int32) = nI 13 from rfl, nl_eq (by omega) (by omega)]; exact hk2.2.1
  have k14 : ¬ nI kd = (14 : Int32) := by rw [show (14 : Int32) = nI 14 from rfl, nl_eq (by omega) (by omega)]; exact hk2.2.2
  unfold l_law_b1071
  rw [if_neg k12, if_neg k13, if_neg k14, show ((0 : Int32), w) = (nI 0, w) from rfl, s1, bnd_eq]
  show GO i (l_law_b1414 xs L (nI vn) (nI bn) (nI nE) (nI i) a (nI q) w3)
  unfold l_law_b1414
  rw [nz12, gd_t, r1, r2, e4, bnd_eq, nmd_eq, nmd_eq]
  exact this
/-- a vote is opened -/
theorem lm_open {t : Nat} {w1 m1 : Wt} {n s : Nat} (h : LI i w m nE bn vn) (hv : vn < 6) (i1 : Inv t w1 m1) (ht : t ≤ 350 + 200 * i) (f1 : Fr [9, 10, 11, 12, 14] [20] m m1) (e20 : m1 0 20 = nI (vn + 1)) (e10 : ∀ k, m1 10 k = if k = vn then nI n else m 10 k) (e11 : ∀ k, m1 11 k = if k = vn then nI s else m 11 k) (e14 : ∀ k, m1 14 k = if k = vn then -1 else m 14 k) (h73 : ∀ k, w1 73 k = if k = vn then nI n else w 73 k) (h74 : ∀ k, w1 74 k = if k = vn then nI s else w 74 k) (h75 : ∀ k, w1 75 k = if k = vn then -1 else w 75 k) (h76 : w1 76 = w 76) : LM i w1 m1 nE bn (vn + 1) := by
  obtain ⟨-, hc, ⟨n1, n2, n3⟩, ⟨td, t1, t2⟩, ⟨x1, ⟨x2, x3⟩, x4, x5⟩⟩ := h
  obtain ⟨⟨c1, c2, c3, c4⟩, z1, z2, z3, z4⟩ := hc
  refine ⟨⟨t, ht, i1⟩, ⟨⟨by rw [f1.2 6 (by omega) (by simp)]; exact c1, by rw [f1.2 27 (by omega) (by simp)]; exact c2, by rw [f1.2 11 (by omega) (by simp)]; exact c3, e20⟩, z1, z2, z3, by omega⟩, ⟨by omega, n2, by omega⟩, ⟨td, by omega, by rw [f1.2 0 (by omega) (by simp)]; exact t2⟩, by rw [f1.2 29 (by omega) (by simp)]; exact x1, ⟨fun u hu => by rw [f1.1 13 (by decide) (by decide) (by simp)]; exact x2 u (by omega), fun u hu => by rw [f1.1 15 (by decide) (by decide) (by simp), f1.1 16 (by decide) (by decide) (by simp)]; exact x3 u hu⟩, fun u hu => ?_, fun b hb => ?_⟩
  · rw [h73, h74, h75, e10, e11, e14]
    by_cases g : u = vn
    · rw [if_pos g, if_pos g, if_pos g, if_pos g, if_pos g, if_pos g]; exact ⟨rfl, rfl, rfl⟩
    · rw [if_neg g, if_neg g, if_neg g, if_neg g, if_neg g, if_neg g]; exact x4 u (by omega)
  · rw [h76, f1.1 19 (by decide) (by decide) (by simp), f1.1 20 (by decide) (by decide) (by simp)]
    exact x5 b hb
end KINDS2

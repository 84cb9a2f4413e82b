/-! p32: THE LAW, its kinds of rounds, the third part: votes opened, ballots cast -/
theorem lnF_of {m : Wt} {b k : Nat} (h : m 18 b = nI k) (hk : k < 2147483648) : lnF m b = k := by unfold lnF; rw [h, nl_cl hk]
section KINDS3
variable {xs : Nat → Int32} {L : Nat} {i : Nat} {w m : Wt} {nE bn vn q : Nat}
set_option maxHeartbeats 1000000 in
theorem go_open (h : LI i w m nE bn vn) (hi : i < 50) {z : Nat} (hz : z < 2147483648) (hv : vn < 6) (a : Int32) : GO i (l_law_b198 xs L 1 (nI vn) (nI bn) (nI nE) (nI i) (nI z) (0 : Int32) a w) := by
  have h0 := h
  obtain ⟨⟨t, ht, hI⟩, hc, ⟨n1, n2, n3⟩, -, hX⟩ := h
  have r0 : nI z / (8 : Int32) = nI (z / 8) := pk_div (d := 8) hz (by omega) (by omega)
  generalize hq9 : z / 8 = q at r0
  have hq : q < 2147483648 := by omega
  have d1 : ¬ (6 : Int32) ≤ nI vn := by rw [qb_6 (by omega)]; omega
  have u1 : inb (nI vn) 8 = true := nl_in (by omega) (by omega)
  have u2 : (nI vn).toNatClampNeg = vn := nl_cl (by omega)
  have r1 : nI q - nI q / (5 : Int32) * (5 : Int32) = nI (q % 5) := pk_rem (d := 5) hq (by omega) (by omega)
  have r2 : (2 : Int32) + nI (q % 5) = nI (2 + q % 5) := nI_add 2 _
  have r3 : (1 : Int32) + nI (q % 5) = nI (1 + q % 5) := nI_add 1 _
  have r4 : nI q / (5 : Int32) = nI (q / 5) := pk_div (d := 5) hq (by omega) (by omega)
  have r1' : nI q - nI (q / 5) * (5 : Int32) = nI (q % 5) := by rw [← r4]; exact r1
  have b5 : q % 5 < 5 := Nat.mod_lt _ (by omega)
  have r5 : nI (q / 5) - nI (q / 5) / nI (1 + q % 5) * nI (1 + q % 5) = nI (q / 5 % (1 + q % 5)) := pk_rem (by omega) (by omega) (by omega)
  have b6 : q / 5 % (1 + q % 5) < 1 + q % 5 := Nat.mod_lt _ (by omega)
  have r6 : (1 : Int32) + nI (q / 5 % (1 + q % 5)) = nI (1 + q / 5 % (1 + q % 5)) := nI_add 1 _
  have r7 : nI q / (25 : Int32) = nI (q / 25) := pk_div (d := 25) hq (by omega) (by omega)
  have r8 : nI (q / 25) - nI (q / 25) / (3 : Int32) * (3 : Int32) = nI (q / 25 % 3) := pk_rem (d := 3) (by omega) (by omega) (by omega)
  have r9 : nI q / (75 : Int32) = nI (q / 75) := pk_div (d := 75) hq (by omega) (by omega)
  have r10 : nI (q / 75) - nI (q / 75) / (3 : Int32) * (3 : Int32) = nI (q / 75 % 3) := pk_rem (d := 3) (by omega) (by omega) (by omega)
  have b7 : q / 25 % 3 < 3 := Nat.mod_lt _ (by omega)
  have b8 : q / 75 % 3 < 3 := Nat.mod_lt _ (by omega)
  have nz1 : nzb (nI (1 + q % 5)) = true := nzn (by omega) (by omega)
  generalize hn : 2 + q % 5 = n at r2
  generalize hs : 1 + q / 5 % (1 + q % 5) = s at r6
  have hns : 2 ≤ n ∧ n ≤ 6 ∧ 1 ≤ s ∧ s < n := by omega
  generalize hwa : upd2 (upd2 (upd2 w 73 vn (nI n)) 74 vn (nI s)) 75 vn (-1) = wa
  have hlo : ∀ i, i < 72 → wa i = w i := fun i hi => by rw [← hwa, upd2_n (by omega), upd2_n (by omega), upd2_n (by omega)]
  have v73 : ∀ k, wa 73 k = if k = vn then nI n else w 73 k := fun k => by rw [← hwa, upd2_n (by decide), upd2_n (by decide), upd2_at, if_pos rfl]
  have v74 : ∀ k, wa 74 k = if k = vn then nI s else w 74 k := fun k => by rw [← hwa, upd2_n (by decide), upd2_at, if_pos rfl, upd2_n (by decide)]
  have v75 : ∀ k, wa 75 k = if k = vn then -1 else w 75 k := fun k => by rw [← hwa, upd2_at, if_pos rfl, upd2_n (by decide), upd2_n (by decide)]
  have v76 : wa 76 = w 76 := by rw [← hwa, upd2_n (by decide), upd2_n (by decide), upd2_n (by decide)]
  have Ia : Inv t wa m := hI.lo hlo
  obtain ⟨w1, m1, e1, i1, f1, e20, e9, e10, e11, e12, e14⟩ := s_open Ia hc (show vn < 8 by omega) b7 hns (show q / 75 % 3 < 3 from b8)
  have hM : LM i (jn w1 wa) m1 nE bn (vn + 1) := lm_open h0 hv i1.jn (by omega) f1 e20 e10 e11 e14 (fun k => by rw [jn_hi (by omega)]; exact v73 k) (fun k => by rw [jn_hi (by omega)]; exact v74 k) (fun k => by rw [jn_hi (by omega)]; exact v75 k) (by rw [jn_hi (by omega)]; exact v76)
  have := go_tail (xs := xs) (L := L) hM hi a
  unfold l_law_b198
  rw [nz8, gd_t, nmd_eq, r0, if_pos rfl, if_neg d1]
  simp only [nz5, nz25, nz3, nz75, nz1, gd_t, u1, u2, nmd_eq, r1, r1', r2, r3, r4, r5, r6, r7, r8, r9, r10, hwa, v73 vn, v74 vn, ↓reduceIte, e1, bnd_eq]
  unfold l_law_b290
  rw [nI_1]
  exact this
theorem mark_ne {n st x j k : Nat} (hn : 2 ≤ n ∧ n ≤ 6) (hst : st = if n = 5 then 2 else 1) (hjk : j < k) (hk : k < n) : (x + j * st) % n ≠ (x + k * st) % n := by
  obtain ⟨h1, h2⟩ := hn
  have hn' : n = 2 ∨ n = 3 ∨ n = 4 ∨ n = 5 ∨ n = 6 := by omega
  rcases hn' with e | e | e | e | e
  · subst e; rw [if_neg (by decide)] at hst; subst hst; omega
  · subst e; rw [if_neg (by decide)] at hst; subst hst; omega
  · subst e; rw [if_neg (by decide)] at hst; subst hst; omega
  · subst e; rw [if_pos rfl] at hst; subst hst; omega
  · subst e; rw [if_neg (by decide)] at hst; subst hst; omega
theorem marks443 {t n v mk : Nat} (hI : Inv t w m) (hq : q < 2147483648) (hn : 2 ≤ n ∧ n ≤ 6) (hmk : mk ≤ n) (hbn : bn < 48) (h29 : m 0 29 = 0) : ∃ w3 m3, lp (l_law_L443 xs L (nI vn) (nI bn) (nI nE) (nI i) (nI v) (nI q) (nI n) (nI mk)) 7 ((1 : Int32), (0 : Int32), w) = some (1, w3) ∧ Inv (t + mk) w3 m3 ∧ Fr [23] [29] m m3 ∧ m3 0 29 = nI mk ∧ (∀ j, j < mk → ∃ x, x < n ∧ m3 23 j = nI x) ∧ ∀ i, 72 ≤ i → w3 i = w i := by
  obtain ⟨st, hst⟩ : ∃ st, st = if n = 5 then 2 else 1 := ⟨_, rfl⟩
  have d48 : ¬ (48 : Int32) ≤ nI bn := by rw [qb_48 (by omega)]; omega
  have r7 : nI q / (7 : Int32) = nI (q / 7) := pk_div (d := 7) hq (by omega) (by omega)
  have hst2 : st ≤ 2 := by rw [hst]; split <;> omega
  have go : ∀ d k fuel t2 w2 m2, k + d = mk → d < fuel → Inv t2 w2 m2 → Fr [23] [29] m m2 → m2 0 29 = nI k → (∀ j, j < k → m2 23 j = nI ((q / 7 + j * st) % n)) → (∀ i, 72 ≤ i → w2 i = w i) → ∃ w3 m3, lp (l_law_L443 xs L (nI vn) (nI bn) (nI nE) (nI i) (nI v) (nI q) (nI n) (nI mk)) fuel (1, nI k, w2) = some (1, w3) ∧ Inv (t2 + d) w3 m3 ∧ Fr [23] [29] m m3 ∧ m3 0 29 = nI mk ∧ (∀ j, j < mk → m3 23 j = nI ((q / 7 + j * st) % n)) ∧ ∀ i, 72 ≤ i → w3 i = w i := by
    intro d
    induction d with
    | zero =>
      intro k fuel t2 w2 m2 s1 s2 s3 s4 s5 s6 s7
      obtain ⟨fuel, rfl⟩ : ∃ f, fuel = f + 1 := ⟨fuel - 1, by omega⟩
      have d1 : nI mk ≤ nI k := by rw [nl_le (by omega) (by omega)]; omega
      have : k = mk := by omega
      subst this
      refine ⟨w2, m2, ?_, s3, s4, s5, s6, s7⟩
      unfold lp; simp only [l_law_L443, d1, ↓reduceIte] <;> rfl
    | succ d ih =>
      intro k fuel t2 w2 m2 s1 s2 s3 s4 s5 s6 s7
      obtain ⟨fuel, rfl⟩ : ∃ f, fuel = f + 1 := ⟨fuel - 1, by omega⟩
      have d1 : ¬ nI mk ≤ nI k := by rw [nl_le (by omega) (by omega)]; omega
      have hgm : (q / 7 + k * st) % n < n := Nat.mod_lt _ (by omega)
      obtain ⟨w4, m4, e1, e2, e3, e4, e5⟩ := s_mark s3 s5 (show k < 6 by omega) (show (q / 7 + k * st) % n < 6 by omega) (fun p hp e => by
        rw [s6 p hp] at e
        have hpm : (q / 7 + p * st) % n < n := Nat.mod_lt _ (by omega)
        exact mark_ne hn hst hp (by omega) (nI_i (by omega) (by omega) e))
      obtain ⟨w3, m3, r1, r2, r3, r4, r5, r6⟩ := ih (k + 1) fuel (t2 + 1) (jn w4 w2) m4 (by omega) (by omega) e2.jn (s4.t2 e3) e4 (fun j hj => by
        rw [e5]
        by_cases g : j = k
        · rw [if_pos g, g]
        · rw [if_neg g]; exact s6 j (by omega)) (fun i hi => by rw [jn_hi hi]; exact s7 i hi)
      refine ⟨w3, m3, ?_, by rw [show t2 + (d + 1) = t2 + 1 + d by omega]; exact r2, r3, r4, r5, r6⟩
      have b481 : l_law_b481 xs L (nI vn) (nI bn) (nI nE) (nI i) (nI v) (nI q) (nI n) (nI mk) (nI k) (nI st) (nI k) (nI (q / 7)) w2 = some (.inl (1, nI (k + 1), jn w4 w2)) := by
        have hks : k * st < 100 := by
          have : k * st ≤ 6 * 2 := Nat.mul_le_mul (by omega) hst2
          omega
        unfold l_law_b481
        rw [nzn (by omega) (by omega), gd_t, pk_mul, nI_add, pk_rem (by omega) (by omega) (by omega), e1, bnd_eq, nmd_eq]
        (try dsimp only)
        rw [nI_1, if_pos rfl]
      show Option.bind _ _ = _
      by_cases g : n = 5
      · rw [if_pos g] at hst
        rw [hst] at b481
        have b481' : l_law_b481 xs L (nI vn) (nI bn) (nI nE) (nI i) (nI v) (nI q) (5 : Int32) (nI mk) (nI k) (2 : Int32) (nI k) (nI (q / 7)) w2 = some (.inl (1, nI (k + 1), jn w4 w2)) := by rw [g] at b481; exact b481
        simp only [l_law_L443, d1, ↓reduceIte, show ¬ (1 : Int32) = 0 from by decide, d48, nz7, gd_t, show nI n = (5 : Int32) from by rw [g]; rfl, r7, b481', bnd_eq]
        rw [show nI n = (5 : Int32) from by rw [g]; rfl] at r1
        exact r1
      · rw [if_neg g] at hst
        rw [hst] at b481
        have b481' : l_law_b481 xs L (nI vn) (nI bn) (nI nE) (nI i) (nI v) (nI q) (nI n) (nI mk) (nI k) (1 : Int32) (nI k) (nI (q / 7)) w2 = some (.inl (1, nI (k + 1), jn w4 w2)) := b481
        simp only [l_law_L443, d1, ↓reduceIte, show ¬ (1 : Int32) = 0 from by decide, d48, nz7, gd_t, qe_5 (show n < 2147483648 by omega), g, r7, b481', bnd_eq]
        exact r1
  obtain ⟨w3, m3, r1, r2, r3, r4, r5, r6⟩ := go mk 0 7 t w m (by omega) (by omega) hI (Fr.rf.up (by simp) (by simp)) h29 (fun j hj => absurd hj (Nat.not_lt_zero j)) (fun _ _ => rfl)
  exact ⟨w3, m3, r1, r2, r3, r4, fun j hj => ⟨_, Nat.mod_lt _ (by omega), r5 j hj⟩, r6⟩
/-- a ballot is in the box -/
theorem lm_cast {t p v : Nat} {w1 m0 m1 : Wt} {S Z : List Nat} (h : LM i w m0 nE bn vn) (hb : bn < 48) (i1 : Inv t w1 m1) (ht : t ≤ 350 + 200 * i) (f1 : Fr S Z m0 m1) (hS : ∀ j ∈ [10, 11, 13, 14, 15, 16], j ∉ S) (hZ : 0 ∉ Z ∧ 6 ∉ Z ∧ 11 ∉ Z ∧ 20 ∉ Z) (e27 : m1 0 27 = nI (bn + 1)) (e29 : m1 0 29 = 0) (e19 : ∀ b, m1 19 b = if b = bn then nI v else m0 19 b) (e20 : ∀ b, m1 20 b = if b = bn then nI p else m0 20 b) (hv : v < 8) (hp : p < 100) (h3 : w1 73 = w 73 ∧ w1 74 = w 74 ∧ w1 75 = w 75) (h76 : ∀ b, w1 76 b = if b = bn then nI (100 * v + p) else w 76 b) : LM i w1 m1 nE (bn + 1) vn := by
  obtain ⟨-, hc, ⟨n1, n2, n3⟩, ⟨td, t1, t2⟩, ⟨x1, ⟨x2, x3⟩, x4, x5⟩⟩ := h
  obtain ⟨⟨c1, c2, c3, c4⟩, z1, z2, z3, z4⟩ := hc
  have g : ∀ j ∈ [10, 11, 13, 14, 15, 16], m1 j = m0 j := fun j hj => f1.1 j (by simp at hj; omega) (by simp at hj; omega) (hS j hj)
  refine ⟨⟨t, ht, i1⟩, ⟨⟨by rw [f1.2 6 (by omega) hZ.2.1]; exact c1, e27, by rw [f1.2 11 (by omega) hZ.2.2.1]; exact c3, by rw [f1.2 20 (by omega) hZ.2.2.2]; exact c4⟩, z1, by omega, z3, z4⟩, ⟨n1, by omega, n3⟩, ⟨td, t1, by rw [f1.2 0 (by omega) hZ.1]; exact t2⟩, e29, ⟨fun u hu => by rw [g 13 (by simp)]; exact x2 u hu, fun u hu => by rw [g 15 (by simp), g 16 (by simp)]; exact x3 u hu⟩, fun u hu => ?_, fun b hb2 => ?_⟩
  · rw [h3.1, h3.2.1, h3.2.2, g 10 (by simp), g 11 (by simp), g 14 (by simp)]; exact x4 u hu
  · rw [e19, e20, h76]
    by_cases gg : b = bn
    · rw [if_pos gg, if_pos gg, if_pos gg]; exact ⟨v, p, hv, hp, rfl, rfl, rfl⟩
    · rw [if_neg gg, if_neg gg, if_neg gg]; exact x5 b (by omega)
set_option maxHeartbeats 2000000 in
theorem go_cast (h : LI i w m nE bn vn) (hi : i < 50) (hq : q < 2147483648) {v : Nat} (hv : v < vn) : GO i (gd (inb (nI v) 8) (nmd (w 73 (nI v).toNatClampNeg) fun v236 => gd (nzb v236) (nmd ((1 : Int32) + (nI q - nI q / v236 * v236)) fun v238 => Option.bind (lp (l_law_L443 xs L (nI vn) (nI bn) (nI nE) (nI i) (nI v) (nI q) v236 v238) 7 ((1 : Int32), (0 : Int32), w)) (l_law_x443 xs L (nI vn) (nI bn) (nI nE) (nI i) (nI v) (nI q) v238)))) := by
  have h0 := h
  obtain ⟨⟨t, ht, hI⟩, hc, ⟨n1, n2, n3⟩, ⟨td, t1, t2⟩, hX⟩ := h
  have hX0 := hX
  obtain ⟨x1, ⟨x2, x3⟩, x4, x5⟩ := hX
  have u1 : inb (nI v) 8 = true := nl_in (by omega) (by omega)
  have u2 : (nI v).toNatClampNeg = v := nl_cl (by omega)
  obtain ⟨hE2, hE3, -⟩ := (hI.at hc).2.2.2.2.2.2.1.2
  obtain ⟨n, s, r, ⟨p1, p2, p3, p4, p5⟩, ⟨p6, p7, p8⟩, -⟩ := hE3 v hv
  have e73 : w 73 v = nI n := (x4 v hv).1.trans p6
  have r1 : nI q - nI q / nI n * nI n = nI (q % n) := pk_rem hq (by omega) (by omega)
  have r2 : (1 : Int32) + nI (q % n) = nI (1 + q % n) := nI_add 1 _
  have bm : q % n < n := Nat.mod_lt _ (by omega)
  generalize hmk : 1 + q % n = mk at r2
  have r3 : nI q / (49 : Int32) = nI (q / 49) := pk_div (d := 49) hq (by omega) (by omega)
  have r4 : nI (q / 49) - nI (q / 49) / (8 : Int32) * (8 : Int32) = nI (q / 49 % 8) := pk_rem (d := 8) (by omega) (by omega) (by omega)
  have bp : q / 49 % 8 < 8 := Nat.mod_lt _ (by omega)
  rw [u1, gd_t, u2, e73, nmd_eq, nzn (by omega) (by omega), gd_t, nmd_eq, r1, r2]
  -- refused, what follows
  have refused48 : ∀ (wb mb : Wt) (tb : Nat), bn = 48 → Inv tb wb mb → tb ≤ 350 + 200 * i → Fr [] [] m mb → (∀ i, 72 ≤ i → wb i = w i) → GO i (l_law_b604 xs L (nI vn) (nI bn) (nI nE) (nI i) (nI v) (nI q) (-103 : Int32) wb) := fun wb mb tb g1 iB hB fB jB => by
    have hM : LM i wb mb nE bn vn := h0.lm iB hB fB (by simp) (by simp) (by rw [fB.2 6 (by omega) (by simp)]; exact hc.1.1) (by omega) hi (fun i hi => jB i (by omega))
    have := go_tail (xs := xs) (L := L) hM hi (nI v)
    unfold l_law_b604
    rw [if_pos rfl]
    unfold l_law_b611 l_law_b616
    rw [if_neg (by decide), if_pos (by decide)]
    unfold l_law_b653
    rw [if_neg (by decide), if_pos (by rw [qb_48 (by omega)]; omega)]
    exact this
  by_cases g48 : bn < 48
  · have d48 : ¬ (48 : Int32) ≤ nI bn := by rw [qb_48 (by omega)]; omega
    obtain ⟨w3, m3, l1, i3, f3, g29, gm, j3⟩ := marks443 (xs := xs) (L := L) (i := i) (nE := nE) (vn := vn) (v := v) hI hq ⟨p1, p2⟩ (show mk ≤ n by omega) g48 x1
    have c3 : Cn m3 nE bn 3 vn := hc.fr f3 (by simp)
    rw [l1, bnd_eq]
    show GO i (l_law_b509 xs L 1 (nI vn) (nI bn) (nI nE) (nI i) (nI v) (nI q) (nI mk) w3)
    unfold l_law_b509
    rw [nz49, gd_t, nz8, gd_t, r3, r4]
    have h103 : m3 10 v = nI n := by rw [f3.1 10 (by decide) (by decide) (by simp)]; exact p6
    by_cases g13 : m 13 v = 0
    · -- it is cast
      obtain ⟨w4, m4, e4, i4, f4, ⟨e27, e29⟩, e19, e20, e18, e17⟩ := s_cast i3 c3 g29 (show 1 ≤ mk ∧ mk ≤ 6 by omega) hv (show q / 49 % 8 < 20 by omega) h103 p2 (by rw [f3.1 13 (by decide) (by decide) (by simp)]; exact g13) (by omega) gm
      have c4 : Cn m4 nE (bn + 1) 3 vn := by
        obtain ⟨⟨y1, y2, y3, y4⟩, z1, z2, z3, z4⟩ := c3
        exact ⟨⟨by rw [f4.2 6 (by omega) (by simp)]; exact y1, e27, by rw [f4.2 11 (by omega) (by simp)]; exact y3, by rw [f4.2 20 (by omega) (by simp)]; exact y4⟩, z1, by omega, z3, z4⟩
      have I4 : Inv (t + mk + 1) (jn w4 w3) m4 := i4.jn
      have hcer := s_certified I4 c4 hv
      have ncer : ¬ m4 14 v < (-1 : Int32) := by
        rcases cer_or I4 c4 hv with z | ⟨e, he, z⟩
        · rw [z]; decide
        · rw [z, ilt, nI_toInt (by omega)]
          have : (-1 : Int32).toInt = -1 := rfl
          omega
      have hwhy := s_why I4 c4 (show bn < bn + 1 by omega)
      have nwhy : ¬ nI (rsM m4 (bn + 1) nE bn) = (1 : Int32) := by
        have hlt := rsM_lt (m := m4) (bn := bn + 1) (nE := nE) (b := bn)
        have hf : anyB (laM m4 bn) (bn + 1) = false := anyB_0 (fun k hk => by unfold laM; rw [decide_eq_false (show ¬ bn < k by omega), Bool.false_and])
        rw [qe_1 (by omega)]
        unfold rsM
        rw [hf, if_neg (by decide)]
        split <;> omega
      have hln : lnF m4 bn = mk := lnF_of e18 (by omega)
      have hF4 := (I4.at c4).2.2.2.2.2.2.2
      have hrd := (hF4.2.1 bn (by omega)).rd (show mk - 1 < lnF m4 bn by omega)
      obtain ⟨_, -, -, hr6, -⟩ := hrd
      have hread1 := s_read I4 c4 (show bn < bn + 1 by omega) (show mk - 1 < 6 by omega)
      rw [if_pos (by omega)] at hread1
      have i1 : inb (nI bn) 48 = true := nl_in (by omega) (by omega)
      have i2 : (nI bn).toNatClampNeg = bn := nl_cl (by omega)
      have s1 : (100 : Int32) * nI v = nI (100 * v) := pk_mul 100 v
      have done : GO i (l_law_b611 xs L (nI vn) (nI bn) (nI nE) (nI i) (nI v) (nI q) (nI bn) (jn w4 w3)) := by
        have hlo : ∀ i, i < 72 → upd2 (jn w4 w3) 76 bn (nI (100 * v + q / 49 % 8)) i = jn w4 w3 i := fun i hi => upd2_n (by omega)
        have hM0 : LM i w m nE bn vn := ⟨⟨t, by omega, hI⟩, hc, ⟨by omega, n2, n3⟩, ⟨td, by omega, t2⟩, hX0⟩
        have hM : LM i (upd2 (jn w4 w3) 76 bn (nI (100 * v + q / 49 % 8))) m4 nE (bn + 1) vn := lm_cast (S := [23] ++ [17, 18, 19, 20, 21]) (Z := [29] ++ [27, 29]) hM0 g48 (I4.lo hlo) (by omega) (f3.tr f4) (by simp) (by simp) e27 e29 (fun b => by rw [e19, f3.1 19 (by decide) (by decide) (by simp)]) (fun b => by rw [e20, f3.1 20 (by decide) (by decide) (by simp)]) (by omega) (by omega) ⟨by rw [upd2_n (by decide), jn_hi (by omega)]; exact j3 73 (by omega), by rw [upd2_n (by decide), jn_hi (by omega)]; exact j3 74 (by omega), by rw [upd2_n (by decide), jn_hi (by omega)]; exact j3 75 (by omega)⟩ (fun b => by rw [upd2_at, if_pos rfl, jn_hi (by omega), j3 76 (by omega)])
        have := go_tail (xs := xs) (L := L) hM hi (nI v)
        unfold l_law_b611 l_law_b616
        rw [if_neg (by decide), if_neg (nl_neg (by omega)), nz49, gd_t, nz8, gd_t, i1, gd_t, i2, r3, r4, s1, nI_add, nmd_eq, nI_1]
        exact this
      rw [e4, bnd_eq, nmd_eq, nmd_eq]
      (try dsimp only)
      rw [if_neg (by decide), if_neg d48, hcer, bnd_eq, if_neg ncer, if_neg (nl_neg (by omega)), if_pos rfl, hwhy, bnd_eq, if_neg nwhy, show nI mk - (1 : Int32) = nI (mk - 1) from pk_sub (b := 1) (by omega), hread1, bnd_eq, if_neg (nl_neg (by omega))]
      by_cases g6 : mk = 6
      · rw [if_pos (by rw [g6]; rfl)]; exact done
      · have hread2 := s_read I4 c4 (show bn < bn + 1 by omega) (show mk < 6 by omega)
        rw [if_neg (by omega)] at hread2
        rw [if_neg (by rw [qe_6 (by omega)]; exact g6), hread2, bnd_eq, if_pos rfl]
        exact done
    · -- the vote is closed
      obtain ⟨w4, m4, e4, i4, f4⟩ := s_castX i3 c3 g29 (show mk ≤ 6 by omega) hv (show q / 49 % 8 < 20 by omega) (Or.inl (by rw [f3.1 13 (by decide) (by decide) (by simp)]; exact g13))
      have c4 : Cn m4 nE bn 3 vn := c3.fr f4 (by simp)
      have I4 : Inv (t + mk + 1) (jn w4 w3) m4 := i4.jn
      have J4 : ∀ i, 72 ≤ i → jn w4 w3 i = w i := fun i hi => by rw [jn_hi hi]; exact j3 i hi
      have F4 : Fr [23] [29] m m4 := f3.t2 (f4.up (by simp) (by simp))
      have m429 : m4 0 29 = nI mk := by rw [f4.2 29 (by omega) (by simp)]; exact g29
      have hcer := s_certified I4 c4 hv
      have ncer : ¬ m4 14 v < (-1 : Int32) := by
        rcases cer_or I4 c4 hv with z | ⟨e, he, z⟩
        · rw [z]; decide
        · rw [z, ilt, nI_toInt (by omega)]
          have : (-1 : Int32).toInt = -1 := rfl
          omega
      rw [e4, bnd_eq, nmd_eq, nmd_eq]
      (try dsimp only)
      rw [if_neg (by decide), if_neg d48, hcer, bnd_eq, if_neg ncer, if_pos (by decide)]
      unfold l_law_b604
      rw [if_pos rfl]
      unfold l_law_b611 l_law_b616
      rw [if_neg (by decide), if_pos (by decide)]
      unfold l_law_b653
      rw [if_neg (by decide), if_neg d48]
      by_cases g6 : vn = 6
      · rw [if_pos (by rw [g6]; rfl)]
        obtain ⟨W, hW⟩ := ww_ex I4 c4
        obtain ⟨w5, e5, k5⟩ := s_stale I4 c4 hW (jn w4 w3) kpC.rfl'
        have hcb : cntS (slB m4 W) vn ≤ vn := cntS_le
        unfold l_law_b686 l_law_b691
        rw [if_pos (by rw [qb_6 (by omega)]; omega), if_neg (by decide), e5, bnd_eq, nmd_eq]
        (try dsimp only)
        rw [if_neg (nl_neg (by omega))]
        exact Or.inr ⟨_, rfl⟩
      · obtain ⟨w5, m5, e5, i5, f5, y20, y9, y10, y11, y12, y14⟩ := s_open I4 c4 (show vn < 8 by omega) (show 0 < 3 by omega) (show 2 ≤ 6 ∧ 6 ≤ 6 ∧ 1 ≤ 1 ∧ 1 < 6 by omega) (show 0 < 3 by omega)
        generalize hwb : upd2 (upd2 (upd2 (jn w5 (jn w4 w3)) 73 vn (6 : Int32)) 74 vn (1 : Int32)) 75 vn (-1) = wb
        have hlo : ∀ i, i < 72 → wb i = jn w5 (jn w4 w3) i := fun i hi => by rw [← hwb, upd2_n (by omega), upd2_n (by omega), upd2_n (by omega)]
        have J5 : ∀ i, 72 ≤ i → jn w5 (jn w4 w3) i = w i := fun i hi => by rw [jn_hi hi]; exact J4 i hi
        have v73 : ∀ k, wb 73 k = if k = vn then nI 6 else w 73 k := fun k => by rw [← hwb, upd2_n (by decide), upd2_n (by decide), upd2_at, if_pos rfl, J5 73 (by omega)]; rfl
        have v74 : ∀ k, wb 74 k = if k = vn then nI 1 else w 74 k := fun k => by rw [← hwb, upd2_n (by decide), upd2_at, if_pos rfl, upd2_n (by decide), J5 74 (by omega)]; rfl
        have v75 : ∀ k, wb 75 k = if k = vn then -1 else w 75 k := fun k => by rw [← hwb, upd2_at, if_pos rfl, upd2_n (by decide), upd2_n (by decide), J5 75 (by omega)]
        have v76 : wb 76 = w 76 := by rw [← hwb, upd2_n (by decide), upd2_n (by decide), upd2_n (by decide), J5 76 (by omega)]
        have I5 : Inv (t + mk + 1 + 1) wb m5 := i5.jn.lo hlo
        have c5 : Cn m5 nE bn 3 (vn + 1) := by
          obtain ⟨⟨z1, z2, z3, z4⟩, q1, q2, q3, q4⟩ := c4
          exact ⟨⟨by rw [f5.2 6 (by omega) (by simp)]; exact z1, by rw [f5.2 27 (by omega) (by simp)]; exact z2, by rw [f5.2 11 (by omega) (by simp)]; exact z3, y20⟩, q1, q2, q3, by omega⟩
        obtain ⟨w6, m6, e6, i6, f6, ⟨k27, k29⟩, k19, k20, -, -⟩ := s_cast I5 c5 (k := mk) (by rw [f5.2 29 (by omega) (by simp)]; exact m429) (show 1 ≤ mk ∧ mk ≤ 6 by omega) (show vn < vn + 1 by omega) (show 0 < 20 by omega) (by rw [y10, if_pos rfl]) (show 6 ≤ 6 by omega) (by rw [f5.1 13 (by decide) (by decide) (by simp), F4.1 13 (by decide) (by decide) (by simp)]; exact x2 vn (Nat.le_refl _)) (by omega) (fun j hj => by
          obtain ⟨x, hx, ex⟩ := gm j hj
          exact ⟨x, by omega, by rw [f5.1 23 (by decide) (by decide) (by simp), f4.1 23 (by decide) (by decide) (by simp)]; exact ex⟩)
        have s1 : (100 : Int32) * nI vn = nI (100 * vn) := pk_mul 100 vn
        have i1 : inb (nI bn) 48 = true := nl_in (by omega) (by omega)
        have i2 : (nI bn).toNatClampNeg = bn := nl_cl (by omega)
        have z1 : inb (nI vn) 8 = true := nl_in (by omega) (by omega)
        have z2 : (nI vn).toNatClampNeg = vn := nl_cl (by omega)
        have hlo6 : ∀ i, i < 72 → upd2 (jn w6 wb) 76 bn (nI (100 * vn)) i = jn w6 wb i := fun i hi => upd2_n (by omega)
        have hMa : LM i (upd2 (jn w6 wb) 76 bn (nI (100 * vn))) m6 nE (bn + 1) (vn + 1) := by
          have F5 : Fr ([23] ++ [9, 10, 11, 12, 14]) ([29] ++ [20]) m m5 := F4.tr f5
          have F6 : Fr (([23] ++ [9, 10, 11, 12, 14]) ++ [17, 18, 19, 20, 21]) (([29] ++ [20]) ++ [27, 29]) m m6 := F5.tr f6
          obtain ⟨⟨q1, q2, q3, q4⟩, a1, a2, a3, a4⟩ := hc
          refine ⟨⟨_, ?_, i6.jn.lo hlo6⟩, ⟨⟨by rw [F6.2 6 (by omega) (by simp)]; exact q1, k27, by rw [F6.2 11 (by omega) (by simp)]; exact q3, by rw [f6.2 20 (by omega) (by simp)]; exact y20⟩, a1, by omega, by omega, by omega⟩, ⟨by omega, by omega, by omega⟩, ⟨td, by omega, by rw [F6.2 0 (by omega) (by simp)]; exact t2⟩, k29, ⟨fun u hu => by rw [F6.1 13 (by decide) (by decide) (by simp)]; exact x2 u (by omega), fun u hu => by rw [F6.1 15 (by decide) (by decide) (by simp), F6.1 16 (by decide) (by decide) (by simp)]; exact x3 u hu⟩, fun u hu => ?_, fun b hb => ?_⟩
          · omega
          · rw [upd2_n (show (73 : Nat) ≠ 76 by decide), upd2_n (show (74 : Nat) ≠ 76 by decide), upd2_n (show (75 : Nat) ≠ 76 by decide), jn_hi (show 72 ≤ 73 by omega), jn_hi (show 72 ≤ 74 by omega), jn_hi (show 72 ≤ 75 by omega), v73, v74, v75, f6.1 10 (by decide) (by decide) (by simp), f6.1 11 (by decide) (by decide) (by simp), f6.1 14 (by decide) (by decide) (by simp), y10, y11, y14, F4.1 10 (by decide) (by decide) (by simp), F4.1 11 (by decide) (by decide) (by simp), F4.1 14 (by decide) (by decide) (by simp)]
            by_cases gg : u = vn
            · rw [if_pos gg, if_pos gg, if_pos gg, if_pos gg, if_pos gg, if_pos gg]; exact ⟨rfl, rfl, rfl⟩
            · rw [if_neg gg, if_neg gg, if_neg gg, if_neg gg, if_neg gg, if_neg gg]; exact x4 u (by omega)
          · rw [upd2_at, if_pos rfl, jn_hi (show 72 ≤ 76 by omega), v76, k19, k20, F5.1 19 (by decide) (by decide) (by simp), F5.1 20 (by decide) (by decide) (by simp)]
            by_cases gg : b = bn
            · rw [if_pos gg, if_pos gg, if_pos gg]; exact ⟨vn, 0, by omega, by omega, rfl, rfl, rfl⟩
            · rw [if_neg gg, if_neg gg, if_neg gg]; exact x5 b (by omega)
        have := go_tail (xs := xs) (L := L) hMa hi (nI v)
        rw [if_neg (by rw [qe_6 (by omega)]; exact g6), show l_open (0 : Int32) (6 : Int32) (1 : Int32) (0 : Int32) (jn w4 w3) = some (nI vn, w5) from e5, bnd_eq, nmd_eq, if_pos rfl]
        unfold l_law_b686 l_law_b691
        rw [if_neg (by rw [qb_6 (by omega)]; omega), z1, gd_t, z2, nmd_eq, gd_t, nmd_eq, gd_t, nmd_eq]
        (try dsimp only)
        rw [hwb, if_neg (by decide), show l_cast (nI vn) (0 : Int32) wb = some (nI bn, w6) from e6, bnd_eq, nmd_eq, if_pos rfl]
        unfold l_law_b740
        rw [i1, gd_t, i2, s1, nmd_eq, nI_1, nI_1]
        exact this
  · -- the box is full for the law
    have hb48 : bn = 48 := by omega
    have l0 : lp (l_law_L443 xs L (nI vn) (nI bn) (nI nE) (nI i) (nI v) (nI q) (nI n) (nI mk)) 7 ((1 : Int32), (0 : Int32), w) = some (1, w) := by
      have d1 : ¬ nI mk ≤ (0 : Int32) := by rw [qa_0 (by omega)]; omega
      have d2 : (48 : Int32) ≤ nI bn := by rw [qb_48 (by omega)]; omega
      show lp _ (6 + 1) _ = _
      unfold lp; simp only [l_law_L443, d1, d2, show ¬ (1 : Int32) = 0 from by decide, ↓reduceIte] <;> rfl
    obtain ⟨w4, m4, e4, i4, f4⟩ := s_castX hI hc (k := 0) x1 (by omega) hv (show q / 49 % 8 < 20 by omega) (Or.inr rfl)
    rw [l0, bnd_eq]
    show GO i (l_law_b509 xs L 1 (nI vn) (nI bn) (nI nE) (nI i) (nI v) (nI q) (nI mk) w)
    unfold l_law_b509
    rw [nz49, gd_t, nz8, gd_t, r3, r4, e4, bnd_eq, nmd_eq, nmd_eq]
    (try dsimp only)
    rw [if_neg (by decide), if_pos (by rw [qb_48 (by omega)]; omega)]
    exact refused48 _ m4 _ hb48 i4.jn (by omega) f4 (fun i hi => jn_hi hi)
end KINDS3

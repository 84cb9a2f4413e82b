/-! p32: THE LAW'S LOOP, and the law -/
theorem w0_n {i : Nat} (h : i < 64) : w0C i = fun _ => 0 := by
  funext k
  unfold w0C
  rw [if_neg (by omega)]
theorem w0_o {v k : Nat} (h : k ≠ 7) : w0C (64 + v) k = 0 := by
  unfold w0C
  rw [if_neg (by omega)]
theorem inv_0 : Inv 0 w0C (fun _ _ => 0) := by
  refine ⟨⟨0, by omega, by rw [w0_n (by omega)]; rfl, rfl⟩, ⟨0, by omega, by rw [w0_n (by omega)]; rfl, rfl, w0_n (by omega), fun k => ⟨0, by omega, rfl⟩⟩, ⟨0, by omega, by rw [w0_n (by omega)]; rfl, rfl, w0_n (by omega), fun p hp => absurd hp (Nat.not_lt_zero p), fun p q hp => absurd hp (Nat.not_lt_zero p)⟩, 0, 0, 0, 0, ⟨⟨by omega, by rw [w0_n (by omega)]; rfl, rfl⟩, ⟨by omega, by rw [w0_n (by omega)]; rfl, rfl⟩, ⟨w0_n (by omega), w0_n (by omega), w0_n (by omega), w0_n (by omega), w0_n (by omega)⟩, ⟨w0_n (by omega), w0_n (by omega), w0_n (by omega)⟩, fun b hb => absurd hb (Nat.not_lt_zero b)⟩, fun k _ => rfl, ⟨by omega, by rw [w0_n (by omega)]; rfl, rfl, fun r hr => absurd hr (Nat.not_lt_zero r)⟩, ⟨⟨by omega, by rw [w0_n (by omega)]; rfl, rfl⟩, fun v hv => ⟨⟨w0_o (by omega), w0_o (by omega), w0_o (by omega), w0_o (by omega)⟩, ⟨w0_o (by omega), w0_o (by omega), w0_o (by omega)⟩, 0, by omega, rfl⟩, fun v hv => absurd hv (Nat.not_lt_zero v), fun v _ hv => ?_⟩, ⟨⟨w0_n (by omega), w0_n (by omega), w0_n (by omega)⟩, fun b hb => absurd hb (Nat.not_lt_zero b), fun b _ => rfl⟩⟩
  unfold w0C
  rw [if_pos ⟨by omega, by omega, rfl⟩]
section LOOP
variable {xs : Nat → Int32} {L : Nat}
theorem go_298 {i : Nat} {w m : Wt} {nE bn vn q : Nat} (h : LI i w m nE bn vn) (hL : L ≤ 260) (hi : i < 50) (hq : q < 2147483648) {kd v : Nat} (hk : kd < 16) (hv : v < vn) : GO i (l_law_b298 xs L 1 (nI vn) (nI bn) (nI nE) (nI i) (nI kd) (nI v) (nI q) w) := by
  have hnE : nE ≤ i := h.2.2.1.1
  have hb48 : bn ≤ 48 := h.2.2.1.2.1
  have ent := go_enter (xs := xs) (L := L) h hi hq (nI v)
  have cas := go_cast (xs := xs) (L := L) h hi hq hv
  have e60 : ¬ (60 : Int32) ≤ nI nE := by rw [qb_60 (by omega)]; omega
  unfold l_law_b298
  by_cases g4 : kd < 4
  · rw [if_neg (by rw [qb_4 (by omega)]; omega), if_neg e60]
    exact ent
  · rw [if_pos (by rw [qb_4 (by omega)]; omega)]
    by_cases g9 : kd < 9
    · rw [if_neg (by rw [show (9 : Int32) = nI 9 from rfl, nl_le (by omega) (by omega)]; omega)]
      exact cas
    · rw [if_pos (by rw [show (9 : Int32) = nI 9 from rfl, nl_le (by omega) (by omega)]; omega)]
      have hcase : kd = 9 ∨ kd = 10 ∨ kd = 11 ∨ kd = 12 ∨ kd = 13 ∨ kd = 14 ∨ kd = 15 := by omega
      rcases hcase with e | e | e | e | e | e | e
      · subst e
        rw [if_pos (by decide)]
        exact go_pass h hi hq _
      · subst e
        rw [if_neg (by decide), if_pos (by decide)]
        exact go_strike h hi hq _
      · subst e
        rw [if_neg (by decide), if_neg (by decide), if_pos (by decide)]
        by_cases g0 : bn ≤ 0
        · rw [if_pos (by rw [qa_0 (by omega)]; exact g0)]
          exact go_fault h hL hi hq (kd := 11) (by omega) (by omega) _
        · rw [if_neg (by rw [qa_0 (by omega)]; exact g0)]
          exact go_misread h hi hq (by omega) _
      · subst e
        rw [if_neg (by decide), if_neg (by decide), if_neg (by decide)]
        exact go_sample h hi hq hv
      · subst e
        rw [if_neg (by decide), if_neg (by decide), if_neg (by decide)]
        exact go_certify h hi hv _
      · subst e
        rw [if_neg (by decide), if_neg (by decide), if_neg (by decide)]
        exact go_mend h hi hq _
      · subst e
        rw [if_neg (by decide), if_neg (by decide), if_neg (by decide)]
        exact go_fault h hL hi hq (kd := 15) (by omega) (by omega) _
theorem go_round {i : Nat} {w m : Wt} {nE bn vn : Nat} (h : LI i w m nE bn vn) (hL : L ≤ 260) (hi : i < 50) : GO i (l_law_L139 xs L (1, nI vn, nI bn, nI nE, nI i, w)) := by
  have hv6 : vn ≤ 6 := h.2.2.1.2.2
  have d1 : ¬ (50 : Int32) ≤ nI i := by rw [show (50 : Int32) = nI 50 from rfl, nl_le (by omega) (by omega)]; omega
  have r0 : (3 : Int32) + nI i = nI (3 + i) := nI_add 3 i
  obtain ⟨c, hc, ec⟩ := s_cell (xs := xs) hL (3 + i) (by omega)
  have r1 : nI c / (16 : Int32) = nI (c / 16) := pk_div (d := 16) hc (by omega) (by omega)
  have r2 : nI c - nI c / (16 : Int32) * (16 : Int32) = nI (c % 16) := pk_rem (d := 16) hc (by omega) (by omega)
  have hk : c % 16 < 16 := Nat.mod_lt _ (by omega)
  have hz : c / 16 < 2147483648 := by omega
  have h198 : ∀ kd v, kd < 16 → v < vn → GO i (l_law_b198 xs L 1 (nI vn) (nI bn) (nI nE) (nI i) (nI (c / 16)) (nI kd) (nI v) w) := fun kd v hkd hv => by
    have r3 : nI (c / 16) / (8 : Int32) = nI (c / 16 / 8) := pk_div (d := 8) hz (by omega) (by omega)
    have k298 := go_298 (xs := xs) (L := L) h hL hi (q := c / 16 / 8) (by omega) hkd hv
    by_cases g : kd = 0
    · subst g
      by_cases g6 : vn < 6
      · exact go_open h hi hz g6 _
      · unfold l_law_b198
        rw [nz8, gd_t, nmd_eq, r3, if_pos (show nI 0 = (0 : Int32) from rfl), if_pos (by rw [qb_6 (by omega)]; omega)]
        exact k298
    · unfold l_law_b198
      rw [nz8, gd_t, nmd_eq, r3, if_neg (by rw [qe_0 (by omega)]; exact g)]
      exact k298
  show GO i (if (50 : Int32) ≤ nI i then _ else _)
  rw [if_neg d1, if_neg (by decide), r0, ec, bnd_eq, nz16, gd_t, nmd_eq, r1]
  by_cases g : vn = 0
  · rw [if_pos (by rw [g]; rfl)]
    unfold l_law_b182
    rw [if_pos (by rw [g]; rfl)]
    exact go_open h hi hz (by omega) _
  · rw [if_neg (by rw [qe_0 (by omega)]; exact g), gd_t, ← r1, r2]
    unfold l_law_b182
    rw [if_neg (by rw [qe_0 (by omega)]; exact g), nzn (by omega) (by omega), gd_t, r1, pk_rem hz (by omega) (by omega)]
    exact h198 _ _ hk (Nat.mod_lt _ (by omega))
theorem go_loop (hL : L ≤ 260) : ∀ d i fuel w m nE bn vn, i + d = 50 → d < fuel → LI i w m nE bn vn → ∃ w', Option.bind (lp (l_law_L139 xs L) fuel (1, nI vn, nI bn, nI nE, nI i, w)) (l_law_x139 xs L) = some (1, w') := by
  intro d
  induction d with
  | zero =>
    intro i fuel w m nE bn vn h1 h2 h
    obtain ⟨fuel, rfl⟩ : ∃ f, fuel = f + 1 := ⟨fuel - 1, by omega⟩
    have : i = 50 := by omega
    subst this
    refine ⟨w, ?_⟩
    have e : lp (l_law_L139 xs L) (fuel + 1) (1, nI vn, nI bn, nI nE, nI 50, w) = some (.inl (1, w)) := by
      unfold lp; simp only [l_law_L139, show (50 : Int32) ≤ nI 50 from by decide, ↓reduceIte] <;> rfl
    rw [e, bnd_eq]
    rfl
  | succ d ih =>
    intro i fuel w m nE bn vn h1 h2 h
    obtain ⟨fuel, rfl⟩ : ∃ f, fuel = f + 1 := ⟨fuel - 1, by omega⟩
    have e : ∀ r, l_law_L139 xs L (1, nI vn, nI bn, nI nE, nI i, w) = some r → lp (l_law_L139 xs L) (fuel + 1) (1, nI vn, nI bn, nI nE, nI i, w) = (match r with | .inl s' => lp (l_law_L139 xs L) fuel s' | .inr r => some r) := fun r hr => by
      show Option.bind _ _ = _
      rw [hr, bnd_eq]
      cases r <;> rfl
    rcases go_round (xs := xs) h hL (by omega) with ⟨w', m', nE', bn', vn', e1, h'⟩ | ⟨w', e1⟩
    · obtain ⟨w2, e2⟩ := ih (i + 1) fuel w' m' nE' bn' vn' (by omega) (by omega) h'
      exact ⟨w2, by rw [e _ e1]; exact e2⟩
    · exact ⟨w', by rw [e _ e1]; rfl⟩
/-- the three first rules -/
theorem go_rules (hL : L ≤ 260) : ∀ d r fuel t w m, r + d = 3 → d < fuel → t ≤ 40 * r + 10 → Inv t w m → Cn m 0 0 r 0 → m 0 0 = 0 → LX w m 0 0 → ∃ w' m', lp (l_law_L53 xs L) fuel (1, nI r, w) = some (1, w') ∧ LI 0 w' m' 0 0 0 := by
  intro d
  induction d with
  | zero =>
    intro r fuel t w m h1 h2 ht hI hc h0 hX
    obtain ⟨fuel, rfl⟩ : ∃ f, fuel = f + 1 := ⟨fuel - 1, by omega⟩
    have : r = 3 := by omega
    subst this
    refine ⟨w, m, ?_, ⟨t, by omega, hI⟩, hc, ⟨by omega, by omega, by omega⟩, ⟨0, by omega, h0⟩, hX⟩
    unfold lp; simp only [l_law_L53, show (3 : Int32) ≤ nI 3 from by decide, ↓reduceIte] <;> rfl
  | succ d ih =>
    intro r fuel t w m h1 h2 ht hI hc h0 hX
    obtain ⟨fuel, rfl⟩ : ∃ f, fuel = f + 1 := ⟨fuel - 1, by omega⟩
    have d1 : ¬ (3 : Int32) ≤ nI r := by rw [qb_3 (by omega)]; omega
    obtain ⟨c, hc1, ec⟩ := s_cell (xs := xs) hL r (by omega)
    obtain ⟨n, w1, e1, hn, ⟨ly1, ly2, ly3⟩, k1⟩ := s_lays hc1 w
    have I1 : Inv t w1 m := hI.lo (fun i hi => k1 i (by omega))
    obtain ⟨w2, m2, e2, i2, f2, ⟨p2, q2⟩, k2⟩ := s_types I1 (show n ≤ 24 by omega) ly1
    have c2 : Cn m2 0 0 r 0 := hc.fr f2 (by simp)
    have X2 : Tx m2 (Tw w1) n := ⟨by omega, p2, fun k hk => ⟨q2 k hk, by have := (ly1 k hk).2.1; omega⟩⟩
    have hf := s_fault i2 X2
    rw [(flt_wf (show n ≤ 24 by omega)).mpr ly2] at hf
    obtain ⟨w3, m3, e3, i3, f3, g11, hU⟩ := s_rule i2 c2 (by omega) X2 ly2
    have c3 : Cn m3 0 0 (r + 1) 0 := by
      obtain ⟨⟨y1, y2, y3, y4⟩, z1, z2, z3, z4⟩ := c2
      exact ⟨⟨by rw [f3.2 6 (by omega) (by simp)]; exact y1, by rw [f3.2 27 (by omega) (by simp)]; exact y2, g11, by rw [f3.2 20 (by omega) (by simp)]; exact y4⟩, z1, z2, by omega, z4⟩
    have hcm := s_commands i3.jn c3 (w := jn w3 w2) (show r < r + 1 by omega) (show n ≤ 24 by omega) (fun k hk => by have := (ly1 k hk).2.1; omega) hU
    rw [ly3] at hcm
    have F3 : Fr ([6] ++ [7, 8]) ([8] ++ [11]) m m3 := f2.tr f3
    obtain ⟨w', m', r1, r2⟩ := ih (r + 1) fuel (t + 25 + 1) (jn w3 w2) m3 (by omega) (by omega) (by omega) i3.jn c3 (by rw [F3.2 0 (by omega) (by simp)]; exact h0) (hX.fr F3 (by simp) (by simp) (fun i hi => by rw [jn_hi (by omega), k2 i (by omega), k1 i (by omega)]))
    refine ⟨w', m', ?_, r2⟩
    show Option.bind _ _ = _
    simp only [l_law_L53, d1, ↓reduceIte, show ¬ (1 : Int32) = 0 from by decide, ec, bnd_eq, e1, nmd_eq, e2, hf, e3, hcm, show nI 6 = (6 : Int32) from rfl, nI_1]
    exact r1
theorem law_pure (hL : L ≤ 260) : ∃ w', l_law xs L (jn w0C (fun _ _ => 0)) = some (1, w') := by
  have h0 : Inv 0 (jn w0C (fun _ _ => 0)) (fun _ _ => 0) := inv_0.jn
  have c0 : Cn (fun _ _ => 0) 0 0 0 0 := ⟨⟨rfl, rfl, rfl, rfl⟩, by omega, by omega, by omega, by omega⟩
  obtain ⟨w1, e1, k1⟩ := s_stale h0 c0 (W := fun _ => 0) (fun v hv => absurd hv (Nat.not_lt_zero v)) _ kpC.rfl'
  have I1 : Inv 0 (jn w1 (jn w0C (fun _ _ => 0))) (fun _ _ => 0) := h0.kp k1.1 kpW.rfl'
  obtain ⟨w2, m2, e2, h2⟩ := go_rules (xs := xs) hL 3 0 4 0 _ _ (by omega) (by omega) (by omega) I1 c0 rfl ⟨rfl, ⟨fun _ _ => rfl, fun _ _ => ⟨0, 0, by omega, rfl, rfl, by omega⟩⟩, fun v hv => absurd hv (Nat.not_lt_zero v), fun b hb => absurd hb (Nat.not_lt_zero b)⟩
  obtain ⟨w3, e3⟩ := go_loop (xs := xs) hL 50 0 51 w2 m2 0 0 0 (by omega) (by omega) h2
  refine ⟨w3, ?_⟩
  unfold l_law
  rw [e1, bnd_eq, nmd_eq]
  (try dsimp only)
  rw [if_pos (show nI (cntS (slB (fun _ _ => 0) (fun _ => 0)) 0) = (0 : Int32) from rfl)]
  unfold l_law_b48
  rw [show ((1 : Int32), (0 : Int32), jn w1 (jn w0C (fun _ _ => 0))) = (1, nI 0, jn w1 (jn w0C (fun _ _ => 0))) from rfl, e2, bnd_eq]
  show l_law_b127 xs L 1 w2 = _
  unfold l_law_b127
  exact e3
end LOOP

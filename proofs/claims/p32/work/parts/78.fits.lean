/-! p32: fits -/
theorem zb_lsize : ∀ s, s < 64 → l_size (nI s) = some (nI (pcN s)) := by decide +kernel
theorem zb_one7 : ∀ k, k < 7 → (1 : Int32) <<< (nI k &&& 31) = nI (2 ^ k) := by decide +kernel
theorem zb_mod1 : ∀ s, s < 64 → ∀ k, k < 6 → hs s k = true → nI (s % 2 ^ k) ||| ((1 : Int32) <<< (nI k &&& 31)) = nI (s % 2 ^ (k + 1)) := by decide +kernel
theorem zb_mod0 : ∀ s, s < 64 → ∀ k, k < 6 → hs s k = false → s % 2 ^ (k + 1) = s % 2 ^ k := by decide +kernel
theorem zb_or0 : ∀ s, s < 64 → nI s ||| (0 : Int32) = nI s := by decide +kernel
theorem zb_nsub : ∀ s, s < 64 → ∀ t, t < 64 → (∀ k, k < 6 → hs s k = true → hs t k = true) → nI s &&& (nI t ^^^ (-1 : Int32)) = 0 := by decide +kernel
/-- scratch alone, and nothing of the law's own -/
def kpL (w w' : Wt) : Prop := kpC w w' ∧ ∀ i, 72 ≤ i → w' i = w i
theorem kpL.rf {w : Wt} : kpL w w := ⟨kpC.rfl', fun _ _ => rfl⟩
theorem kpL.tr {a b c : Wt} (h : kpL a b) (g : kpL b c) : kpL a c := ⟨h.1.tr g.1, fun i hi => (g.2 i hi).trans (h.2 i hi)⟩
theorem kpL.jn {w x : Wt} (h : kpC w x) : kpL w (jn x w) := ⟨fun i k e => by
  by_cases g : i < 72
  · rw [jn_l g]; exact h i k e
  · rw [jn_r g], fun i hi => jn_r (by omega)⟩
theorem s_doubt {t : Nat} {w m : Wt} {nE bn rn vn v : Nat} (h : Inv t w m) (c : Cn m nE bn rn vn) (ht : t ≤ 100000) (hv : v < vn) (ho : ∃ d f, f ≤ d ∧ m 15 v = nI d ∧ m 16 v = nI f ∧ d < 2147483648) (w2 : Wt) (k : kpC w w2) : ∃ x, x ≤ 100 ∧ l_doubt (nI v) w2 = some (nI x) := by
  obtain ⟨hA, hC, hG, hK, h5, hD, ⟨⟨v1, v2, v3⟩, hE2, -⟩, hF⟩ := h.at c
  obtain ⟨-, ⟨-, q5, q6⟩, d, hd, hd2⟩ := hE2 v (by omega)
  obtain ⟨d', f, hf, g1, g2, g3⟩ := ho
  have : d' = d := nI_i (by omega) (by omega) (g1.symm.trans hd2)
  subst this
  have e1 : inb (nI v) 8 = true := nl_in (by omega) (by omega)
  have e2 : (nI v).toNatClampNeg = v := nl_cl (by omega)
  have p5 : w2 (64 + v) 5 = nI d' := by rw [k.o (by decide), q5, hd2]
  have p6 : w2 (64 + v) 6 = nI f := by rw [k.o (by decide), q6, g2]
  have hw : w2 0 10 = nI vn := by rw [k.v _ (by omega)]; exact v2
  by_cases c0 : d' = 0
  · refine ⟨0, by omega, ?_⟩
    unfold l_doubt
    refine lx1 ?_
    unfold f_Ballotscript_doubt
    rw [need_V hw v1, bnd_eq, blw_t hv (by omega), if_pos rfl]
    show gd _ _ = _
    rw [e1, gd_t, e2, p5, if_neg (by rw [qd_0 (by omega)]; omega)]; rfl
  · have hnz : nzb (nI d') = true := by
      have : ¬ nI d' = 0 := by rw [qe_0 (by omega)]; exact c0
      unfold nzb; exact decide_eq_true this
    refine ⟨100 * f / d', ?_, ?_⟩
    · rw [Nat.div_le_iff_le_mul_add_pred (by omega)]
      have : 100 * f ≤ d' * 100 := by omega
      omega
    · unfold l_doubt
      refine lx1 ?_
      unfold f_Ballotscript_doubt
      rw [need_V hw v1, bnd_eq, blw_t hv (by omega), if_pos rfl]
      show gd _ _ = _
      rw [e1, gd_t, e2, p5, if_pos (by rw [qd_0 (by omega)]; omega), gd_t, gd_t, hnz, gd_t, p6, show (100 : Int32) = nI 100 from rfl, pk_mul, pk_div (by omega) (by omega) (by omega)]
set_option maxHeartbeats 4000000 in
theorem s_fits {t : Nat} {w m : Wt} {nE bn rn vn v n s : Nat} (h : Inv t w m) (c : Cn m nE bn rn vn) (ht : t ≤ 100000) (hv : v < vn) (ho : ∃ d f, f ≤ d ∧ m 15 v = nI d ∧ m 16 v = nI f ∧ d < 2147483648) (h10 : m 10 v = nI n) (h11 : m 11 v = nI s) (hn : n ≤ 6) (hs6 : s ≤ 6) {i : Nat} (hi : i < 1000) : ∃ w', l_fits (nI v) (nI n) (nI s) (nI i) w = some (1, w') ∧ kpL w w' := by
  obtain ⟨n', s', σ, ⟨p1, p2, p3, p4⟩, ⟨p5, p6⟩, hg, ⟨⟨⟨x1, x2, x3, x4⟩, x5⟩, x6, x7⟩, -, hP⟩ := picture h c hv
  have : n' = n := nI_i (by omega) (by omega) (p5.symm.trans h10)
  subst this
  have : s' = s := nI_i (by omega) (by omega) (p6.symm.trans h11)
  subst this
  obtain ⟨hA, hC, hG, hK, h5, hD, ⟨⟨v1, v2, v3⟩, hE2, hE3, -⟩, hF⟩ := h.at c
  obtain ⟨⟨q1, q2, q3, q4⟩, -, -⟩ := hE2 v (by omega)
  have hb := hK.2.1.1
  generalize hE : σ.1.2.1 = E at x1 x2 x4
  have hE64 : E < 64 := by rw [← hE]; exact hg.1.2.1
  have htn : σ.2.2.1 ≤ 156 := hg.2.1.2.1
  have hun : σ.1.2.2.2.1 ≤ 6 := by have := hg.1.2.2.2; omega
  have W0 : ∀ w2, kpL w w2 → w2 0 10 = nI vn := fun w2 k => by rw [k.1.v _ (by omega)]; exact v2
  have W1 : ∀ w2, kpL w w2 → w2 (64 + v) 1 = nI n' := fun w2 k => by rw [k.1.o (by decide)]; exact q2.trans p5
  have nextW : ∀ w2 w3, kpL w w2 → kpC w2 w3 → kpL w (jn w3 w2) := fun w2 w3 k g => k.tr (kpL.jn g)
  have A1 : ∀ w2, kpL w w2 → ∃ w3, l_winners (nI v) w2 = some (nI E, w3) ∧ kpL w (jn w3 w2) := fun w2 k => by
    obtain ⟨⟨w3, e1, e2, e3⟩, -⟩ := hP w2 k.1
    exact ⟨w3, by rw [← hE]; exact sc_winners (W0 w2 k) v1 hv e1 e2, nextW w2 w3 k e3⟩
  have A2 : ∀ w2, kpL w w2 → ∃ w3, l_tallies (nI v) w2 = some (nI σ.2.2.1, w3) ∧ kpL w (jn w3 w2) := fun w2 k => by
    obtain ⟨⟨w3, e1, e2, e3⟩, -⟩ := hP w2 k.1
    exact ⟨w3, sc_tallies (W0 w2 k) v1 hv e1 e2, nextW w2 w3 k e3⟩
  have A3 : ∀ w2, kpL w w2 → ∃ w3, l_ties (nI v) w2 = some (nI σ.1.2.2.2.1, w3) ∧ kpL w (jn w3 w2) := fun w2 k => by
    obtain ⟨⟨w3, e1, e2, e3⟩, -⟩ := hP w2 k.1
    exact ⟨w3, sc_ties (W0 w2 k) v1 hv e1 e2, nextW w2 w3 k e3⟩
  have A4 : ∀ w2, kpL w w2 → ∃ w3, l_hand (nI v) w2 = some (nI E, w3) ∧ kpL w (jn w3 w2) := fun w2 k => by
    obtain ⟨-, w3, e1, e3⟩ := hP w2 k.1
    exact ⟨w3, by rw [← hE]; exact sc_hand e1, nextW w2 w3 k e3⟩
  have A5 : ∀ T k', T < σ.2.2.1 → k' < n' → ∀ w2, kpL w w2 → ∃ w3 x, l_votes (nI v) (nI T) (nI k') w2 = some ((if hs (σ.2.2.2.2 T) k' = true then nI x else -1), w3) ∧ x < 2147483648 ∧ kpL w (jn w3 w2) := fun T k' hT hk' w2 k => by
    obtain ⟨⟨w3, e1, e2, e3⟩, -⟩ := hP w2 k.1
    have hl : (glS (ofV m bn nE (nI v)) bn 0).length ≤ 100 := Nat.le_trans glS_len hb
    obtain ⟨x, hx, ex⟩ := vtL_ge (rd := rdF m) (ln := lnF m) (c := k') (hg.2.1.2.2 T hT).1 (hg.2.1.2.2 T hT).2.2 (glS (ofV m bn nE (nI v)) bn 0) (fun b hb' => by
      have hm := glS_mem hb'
      have hB := hF.2.1 b (by omega)
      exact ⟨fun p hp => (hB.rd hp).choose_spec.2.2.1, read_nod hB⟩)
    refine ⟨w3, x, ?_, by omega, nextW w2 w3 k e3⟩
    rw [← ex]
    exact sc_votes (W0 w2 k) v1 hv (W1 w2 k) p2 e1 e2 hg hT hk'
  have A6 : ∀ w2, kpL w w2 → ∃ w3, l_votes (nI v) (nI σ.2.2.1) (0 : Int32) w2 = some (-101, w3) ∧ kpL w (jn w3 w2) := fun w2 k => by
    obtain ⟨⟨w3, e1, e2, e3⟩, -⟩ := hP w2 k.1
    exact ⟨w3, sc_votesT (W0 w2 k) v1 hv (W1 w2 k) ⟨p1, p2⟩ e1 e2 hg, nextW w2 w3 k e3⟩
  have A7 : ∀ a w2, kpL w w2 → l_votes (nI v) a (nI n') w2 = some (-101, w2) ∧ kpL w (jn w2 w2) := fun a w2 k => ⟨sc_votesC (W0 w2 k) v1 hv (W1 w2 k) p2 a, nextW w2 w2 k kpC.rfl'⟩
  have A8 : ∀ k', k' < σ.1.2.2.2.1 → ∀ w2, kpL w w2 → ∃ w3, l_tied (nI v) (nI k') w2 = some (nI (σ.1.2.2.2.2 k'), w3) ∧ kpL w (jn w3 w2) := fun k' hk' w2 k => by
    obtain ⟨⟨w3, e1, e2, e3⟩, -⟩ := hP w2 k.1
    exact ⟨w3, sc_tied (W0 w2 k) v1 hv e1 e2 hg hk', nextW w2 w3 k e3⟩
  have A9 : ∀ w2, kpL w w2 → ∃ w3, l_tied (nI v) (nI σ.1.2.2.2.1) w2 = some (-101, w3) ∧ kpL w (jn w3 w2) := fun w2 k => by
    obtain ⟨⟨w3, e1, e2, e3⟩, -⟩ := hP w2 k.1
    exact ⟨w3, sc_tiedX (W0 w2 k) v1 hv e1 e2 hg, nextW w2 w3 k e3⟩
  have A10 : ∀ w2, kpL w w2 → ∃ x, x ≤ 100 ∧ l_doubt (nI v) w2 = some (nI x) := fun w2 k => s_doubt h c ht hv ho w2 k.1
  -- the end
  have B294 : ∀ w2, kpL w w2 → l_fits_b294 (nI v) 1 w2 = some (1, w2) := fun w2 k => by
    obtain ⟨x, hx, ex⟩ := A10 w2 k
    unfold l_fits_b294
    rw [if_neg (by decide), ex, bnd_eq, if_neg (nl_neg (by omega)), bnd_eq, if_neg (by rw [qd_100 (by omega)]; omega)]
  have hpow : (1 : Int32) <<< (nI n' &&& 31) = nI (2 ^ n') := zb_one7 n' (by omega)
  have h2n : 2 ^ n' ≤ 64 := by
    have : 2 ^ n' ≤ 2 ^ 6 := Nat.pow_le_pow_right (by omega) p2
    omega
  have B248 : ∀ w2, kpL w w2 → ∃ w3, l_fits_b248 (nI v) (nI n') (nI i) (nI σ.1.2.2.2.1) 1 w2 = some (1, w3) ∧ kpL w w3 := fun w2 k => by
    unfold l_fits_b248
    by_cases g : σ.1.2.2.2.1 ≤ 0
    · rw [if_pos (by rw [qa_0 (by omega)]; exact g)]
      exact ⟨w2, B294 w2 k, k⟩
    · rw [if_neg (by rw [qa_0 (by omega)]; exact g), if_neg (by decide)]
      have hnz : nzb (nI σ.1.2.2.2.1) = true := by
        have : ¬ nI σ.1.2.2.2.1 = 0 := by rw [qe_0 (by omega)]; omega
        unfold nzb; exact decide_eq_true this
      have hmod : i % σ.1.2.2.2.1 < σ.1.2.2.2.1 := Nat.mod_lt _ (by omega)
      obtain ⟨w3, e1, e2⟩ := A8 _ hmod w2 k
      obtain ⟨y1, y2, y3⟩ := x5 _ hmod
      have y4 := zb_slt n' (by omega) _ y1 y3
      rw [hnz, gd_t, pk_rem (by omega) (by omega) (by omega), e1, bnd_eq, nmd_eq, nmd_eq]
      (try dsimp only)
      rw [zb_lsize _ y1, bnd_eq, if_neg (by have := zb_pc6 _ y1; rw [qc_2 (by omega)]; omega), hpow, if_neg (by rw [nl_le (by omega) (by omega)]; omega)]
      unfold l_fits_b292
      exact ⟨_, B294 _ e2, e2⟩
  -- one tally's candidates
  have L139 : ∀ T, T < σ.2.2.1 → ∀ f P d fuel k' w2, k' + d = n' → d < fuel → kpL w w2 → ∃ w3, lp (l_fits_L139 (nI v) (nI n') (nI i) (nI σ.2.2.1) (nI σ.1.2.2.2.1) P f (nI T)) fuel (1, nI (σ.2.2.2.2 T % 2 ^ k'), nI k', w2) = some (1, nI (σ.2.2.2.2 T % 2 ^ n'), w3) ∧ kpL w w3 := by
    intro T hT f P d
    have hS := (hg.2.1.2.2 T hT).1
    induction d with
    | zero =>
      intro fuel k' w2 hk' hf k
      obtain ⟨fuel, rfl⟩ : ∃ f, fuel = f + 1 := ⟨fuel - 1, by omega⟩
      have d1 : nI n' ≤ nI k' := by rw [nl_le (by omega) (by omega)]; omega
      have : k' = n' := by omega
      subst this
      refine ⟨w2, ?_, k⟩
      unfold lp; simp only [l_fits_L139, d1, ↓reduceIte] <;> rfl
    | succ d ih =>
      intro fuel k' w2 hk' hf k
      obtain ⟨fuel, rfl⟩ : ∃ f, fuel = f + 1 := ⟨fuel - 1, by omega⟩
      have d1 : ¬ nI n' ≤ nI k' := by rw [nl_le (by omega) (by omega)]; omega
      obtain ⟨w3, x, e1, e2, e3⟩ := A5 T k' hT (by omega) w2 k
      obtain ⟨w4, r1, r2⟩ := ih fuel (k' + 1) (jn w3 w2) (by omega) (by omega) e3
      refine ⟨w4, ?_, r2⟩
      have hlt : σ.2.2.2.2 T % 2 ^ k' < 64 := Nat.lt_of_le_of_lt (Nat.mod_le _ _) hS
      show Option.bind _ _ = _
      cases g : hs (σ.2.2.2.2 T) k' with
      | true =>
        rw [g, if_pos rfl] at e1
        have n1 : ¬ nI x < -1 := by
          rw [ilt, nI_toInt (by omega)]
          have : (-1 : Int32).toInt = -1 := rfl
          omega
        simp only [l_fits_L139, d1, ↓reduceIte, show ¬ (1 : Int32) = 0 from by decide, e1, bnd_eq, nmd_eq, nl_neg e2, l_fits_b176, n1, zb_mod1 _ hS k' (by omega) g, nI_1]
        exact r1
      | false =>
        rw [g, if_neg (by decide)] at e1
        simp only [l_fits_L139, d1, ↓reduceIte, show ¬ (1 : Int32) = 0 from by decide, e1, bnd_eq, nmd_eq, show (-1 : Int32) < 0 from by decide, l_fits_b176, show ¬ (-1 : Int32) < -1 from by decide, zb_or0 _ hlt, nI_1]
        rw [zb_mod0 _ hS k' (by omega) g] at r1
        exact r1
  -- the tallies
  have L112 : ∀ f, f ≤ 156 → ∀ d fuel T P w2, T + d = f + 2 → d < fuel → P < 64 → (∀ T', T ≤ T' → T' < σ.2.2.1 → sub (σ.2.2.2.2 T') P) → kpL w w2 → ∃ w3, lp (l_fits_L112 (nI v) (nI n') (nI i) (nI σ.2.2.1) (nI σ.1.2.2.2.1) (nI f)) fuel (1, nI P, nI T, w2) = some (1, w3) ∧ kpL w w3 := by
    intro f hf6 d
    induction d with
    | zero =>
      intro fuel T P w2 hT hf hP6 hsb k
      obtain ⟨fuel, rfl⟩ : ∃ f, fuel = f + 1 := ⟨fuel - 1, by omega⟩
      have d1 : nI f + (2 : Int32) ≤ nI T := by rw [show (2 : Int32) = nI 2 from rfl, nI_add, nl_le (by omega) (by omega)]; omega
      refine ⟨w2, ?_, k⟩
      unfold lp; simp only [l_fits_L112, d1, ↓reduceIte] <;> rfl
    | succ d ih =>
      intro fuel T P w2 hT hf hP6 hsb k
      obtain ⟨fuel, rfl⟩ : ∃ f, fuel = f + 1 := ⟨fuel - 1, by omega⟩
      have d1 : ¬ nI f + (2 : Int32) ≤ nI T := by rw [show (2 : Int32) = nI 2 from rfl, nI_add, nl_le (by omega) (by omega)]; omega
      by_cases g : σ.2.2.1 ≤ T
      · have d2 : nI σ.2.2.1 ≤ nI T := by rw [nl_le (by omega) (by omega)]; exact g
        refine ⟨w2, ?_, k⟩
        unfold lp; simp only [l_fits_L112, d1, d2, ↓reduceIte] <;> rfl
      · have d2 : ¬ nI σ.2.2.1 ≤ nI T := by rw [nl_le (by omega) (by omega)]; exact g
        have hTt : T < σ.2.2.1 := by omega
        have hS := (hg.2.1.2.2 T hTt).1
        obtain ⟨w3, e1, e2⟩ := L139 T hTt (nI f) (nI P) n' 7 0 w2 (by omega) (by omega) k
        have hm0 : σ.2.2.2.2 T % 2 ^ 0 = 0 := by rw [Nat.pow_zero, Nat.mod_one]
        have hmn : σ.2.2.2.2 T % 2 ^ n' = σ.2.2.2.2 T := Nat.mod_eq_of_lt (zb_slt n' (by omega) _ hS (x6 T hTt).2)
        rw [hm0, hmn] at e1
        obtain ⟨e3, e4⟩ := A7 (nI T) w3 e2
        obtain ⟨w4, r1, r2⟩ := ih fuel (T + 1) (σ.2.2.2.2 T) (jn w3 w3) (by omega) (by omega) hS (fun T' h1 h2 => x7 T T' (by omega) h2) e4
        refine ⟨w4, ?_, r2⟩
        show Option.bind _ _ = _
        have z0 : ¬ nI (σ.2.2.2.2 T) = 0 := by rw [qe_0 (by omega)]; exact (x6 T hTt).1
        have z1 : nI (σ.2.2.2.2 T) &&& (nI P ^^^ (-1 : Int32)) = 0 := zb_nsub _ hS P hP6 (hsb T (Nat.le_refl _) hTt)
        simp only [l_fits_L112, d1, d2, ↓reduceIte, show ¬ (1 : Int32) = 0 from by decide]
        rw [show lp (l_fits_L139 (nI v) (nI n') (nI i) (nI σ.2.2.1) (nI σ.1.2.2.2.1) (nI P) (nI f) (nI T)) 7 ((1 : Int32), (0 : Int32), (0 : Int32), w2) = some (1, nI (σ.2.2.2.2 T), w3) from e1, bnd_eq]
        simp only [l_fits_x139, l_fits_b198, show ¬ (1 : Int32) = 0 from by decide, ↓reduceIte, z1, z0, e3, bnd_eq, nmd_eq, nI_1]
        exact r1
  have hfull := zb_full n' (by omega)
  have hf64 := (zb_fullN n' (by omega)).1
  have B106 : ∀ f, f ≤ 156 → ∀ w2, kpL w w2 → ∃ w3, l_fits_b106 (nI v) (nI n') (nI i) (nI σ.2.2.1) (nI σ.1.2.2.2.1) 1 (nI (2 ^ n' - 1)) (nI f) w2 = some (1, w3) ∧ kpL w w3 := fun f hf w2 k => by
    obtain ⟨w3, e1, e2⟩ := L112 f hf 2 3 f (2 ^ n' - 1) w2 rfl (by omega) hf64 (fun T' _ h2 => (x6 T' h2).2) k
    obtain ⟨w4, r1, r2⟩ := B248 w3 e2
    refine ⟨w4, ?_, r2⟩
    unfold l_fits_b106
    rw [e1, bnd_eq]
    exact r1
  have B83 : ∀ w2, kpL w w2 → ∃ w3, l_fits_b83 (nI v) (nI n') (nI i) (nI σ.2.2.1) (nI σ.1.2.2.2.1) 1 w2 = some (1, w3) ∧ kpL w w3 := fun w2 k => by
    unfold l_fits_b83
    rw [hfull, nmd_eq]
    by_cases g : σ.2.2.1 = 0
    · rw [if_pos (by rw [g]; rfl)]
      exact B106 0 (by omega) w2 k
    · have hnz : nzb (nI σ.2.2.1) = true := by
        have : ¬ nI σ.2.2.1 = 0 := by rw [qe_0 (by omega)]; exact g
        unfold nzb; exact decide_eq_true this
      rw [if_neg (by rw [qe_0 (by omega)]; exact g), hnz, gd_t, pk_rem (by omega) (by omega) (by omega)]
      have hlt : i % σ.2.2.1 < σ.2.2.1 := Nat.mod_lt _ (by omega)
      exact B106 _ (by omega) w2 k
  obtain ⟨w1, e1, k1⟩ := A1 w kpL.rf
  obtain ⟨w2, e2, k2⟩ := A2 _ k1
  obtain ⟨w3, e3, k3⟩ := A3 _ k2
  obtain ⟨w4, e4, k4⟩ := A4 _ k3
  obtain ⟨w5, e5, k5⟩ := A6 _ k4
  obtain ⟨w6, e6, k6⟩ := A9 _ k5
  obtain ⟨w7, e7, k7⟩ := B83 _ k6
  have hEs : ¬ nI s' < nI (pcN E) := by have := zb_pc6 _ hE64; rw [nl_lt (by omega) (by omega)]; omega
  have hEn : ¬ nI (2 ^ n') ≤ nI E := by have := zb_slt n' (by omega) _ hE64 x2; rw [nl_le (by omega) (by omega)]; omega
  refine ⟨w7, ?_, k7⟩
  unfold l_fits
  simp only [e1, bnd_eq, nmd_eq, e2, e3, nl_neg (show E < 2147483648 by omega), ↓reduceIte, e4, zb_lsize _ hE64, hEs, hpow, hEn, e5, e6]
  exact e7

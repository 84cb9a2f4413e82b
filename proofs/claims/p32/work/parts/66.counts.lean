/-! A VOTE'S COUNT: by the machine, by hand, by the reference -/
def cfg0 (c s : Nat) : Cf := (0, [], ((2 ^ c - 1, 0, s, 0, fun _ => 0), (108, 0, fun _ => 0, fun _ => 0)))
theorem cfg_gd {c s : Nat} (h1 : 2 ≤ c) (h2 : c ≤ 6) (h3 : s < c) : gdC c (cfg0 c s).2.2 := by
  obtain ⟨a1, a2⟩ := zb_fullN c (by omega)
  refine ⟨⟨a1, by show 0 < 64; omega, ?_, ?_⟩, ⟨Or.inl rfl, by show 0 ≤ 156; omega, fun t ht => absurd ht (Nat.not_lt_zero t)⟩, ?_, h2⟩
  · show s ≤ pcN (2 ^ c - 1); omega
  · show 0 + pcN (2 ^ c - 1) ≤ 6; omega
  · show pcN (2 ^ c - 1) ≤ c; omega
theorem rs_kp {m m' : Wt} {bn nE b : Nat} (k : kpW m m') : rsM m' bn nE b = rsM m bn nE b := by
  unfold rsM laM enM
  rw [k.fn (i := 1) (by decide) (by decide), k.fn (i := 2) (by decide) (by decide), k.fn (i := 3) (by decide) (by decide), k.fn (i := 4) (by decide) (by decide), k.fn (i := 5) (by decide) (by decide), k.fn (i := 9) (by decide) (by decide), k.fn (i := 19) (by decide) (by decide), k.fn (i := 20) (by decide) (by decide), k.fn (i := 21) (by decide) (by decide)]
theorem rd_kp {m m' : Wt} (k : kpW m m') : rdF m' = rdF m ∧ lnF m' = lnF m := by
  refine ⟨?_, ?_⟩
  · funext b p
    unfold rdF
    rw [k.fn (i := 17) (by decide) (by decide), k.fn (i := 22) (by decide) (by decide)]
  · funext b
    unfold lnF
    rw [k.fn (i := 18) (by decide) (by decide)]
theorem bxm_of {w m : Wt} {vn bn : Nat} (h : InF w m vn bn) (hbn : bn ≤ 100) (h27 : m 0 27 = nI bn) : BXm m (rdF m) (lnF m) bn := by
  refine ⟨hbn, h27, fun b hb => ?_⟩
  have hB := h.2.1 b hb
  obtain ⟨l1, l2, l3⟩ := hB.ln
  exact ⟨l2, l3, fun p hp => ⟨(hB.rd hp).choose_spec.2.2.1, read_M h hbn hb hp⟩⟩
theorem bxc_of {w m : Wt} {vn bn : Nat} {p : Nat → Bool} (h : InF w m vn bn) (hbn : bn ≤ 100) : BXc w (rdF m) (lnF m) (glS p bn 0) := by
  intro b hb
  have hm := glS_mem hb
  have hB := h.2.1 b (by omega)
  obtain ⟨l1, l2, l3⟩ := hB.ln
  exact ⟨by omega, l2, by rw [h.1.1]; exact l3, fun q hq => ⟨(hB.rd hq).choose_spec.2.2.1, read_C h hbn (by omega) hq⟩⟩
theorem nod_of {w m : Wt} {vn bn : Nat} {p : Nat → Bool} (h : InF w m vn bn) : nod (rdF m) (lnF m) (glS p bn 0) := by
  intro b hb
  have hm := glS_mem hb
  exact read_nod (h.2.1 b (by omega))
section COUNTS
variable {w m : Wt} {nE bn vn v c s r len : Nat} {T : Nat → Nat}
theorem count_R (hC : Core w m nE bn) (hF : InF w m vn bn) (hv : v < 8) (hc2 : 2 ≤ c) (hc6 : c ≤ 6) (hsc : s < c) (hr : r < 8) (h10 : m 10 v = nI c) (h11 : m 11 v = nI s) (h12 : m 12 v = nI r) (hlen : len ≤ 24) (hWF : WF T len) (hT : ∀ k, k < len → T k < 65536) (hU : RuM m r T len) :
    ∃ m' n, m_winnersOf (nI v) m = some (nI (run (rdF m) (lnF m) (glS (ofV m bn nE (nI v)) bn 0) T len n (cfg0 c s)).2.2.1.2.1, m') ∧ ¬ going len (run (rdF m) (lnF m) (glS (ofV m bn nE (nI v)) bn 0) T len n (cfg0 c s)) ∧ RC m' (rdF m) (lnF m) (glS (ofV m bn nE (nI v)) bn 0) c (run (rdF m) (lnF m) (glS (ofV m bn nE (nI v)) bn 0) T len n (cfg0 c s)).2.2 ∧ gdC c (run (rdF m) (lnF m) (glS (ofV m bn nE (nI v)) bn 0) T len n (cfg0 c s)).2.2 ∧ kpW m m' ∧ m' 29 = m 29 ∧ m' 0 45 = m 0 45 := by
  have hb := hC.2.1.1
  have e1 : inb (nI v) 8 = true := nl_in (by omega) (by omega)
  have e2 : (nI v).toNatClampNeg = v := nl_cl (by omega)
  have hfull := zb_full c (by omega)
  -- the cells at the start
  generalize hm9 : upd2 (upd2 (upd2 (upd2 (upd2 (upd2 (upd2 (upd2 (upd2 m 0 32 0) 0 35 0) 0 33 0) 0 36 (nI (2 ^ c - 1))) 0 37 0) 0 38 (nI s)) 0 39 0) 0 40 0) 0 43 0 = m9
  have z : ∀ j, m9 0 j = if j = 43 then 0 else if j = 40 then 0 else if j = 39 then 0 else if j = 38 then nI s else if j = 37 then 0 else if j = 36 then nI (2 ^ c - 1) else if j = 33 then 0 else if j = 35 then 0 else if j = 32 then 0 else m 0 j := by
    intro j
    rw [← hm9]
    simp only [upd2_at, ↓reduceIte]
  have y : ∀ i, i ≠ 0 → m9 i = m i := by
    intro i hi
    rw [← hm9, upd2_n hi, upd2_n hi, upd2_n hi, upd2_n hi, upd2_n hi, upd2_n hi, upd2_n hi, upd2_n hi, upd2_n hi]
  have hk9 : kpW m m9 := by
    intro i k hik
    by_cases hi : i = 0
    · subst hi
      have hk : k < 32 := by
        unfold scM at hik
        simp at hik
        omega
      rw [z]
      rw [if_neg (by omega), if_neg (by omega), if_neg (by omega), if_neg (by omega), if_neg (by omega), if_neg (by omega), if_neg (by omega), if_neg (by omega), if_neg (by omega)]
    · rw [y i hi]
  have hstart : m_winnersOf (nI v) m = Option.bind (lp (m_winnersOf_L61 (nI v)) FU ((0 : Int32), m9)) (m_winnersOf_x61 (nI v)) := by
    unfold m_winnersOf
    simp only [nmd_eq, e1, e2, gd_t]
    rw [upd2_n (show (10 : Nat) ≠ 0 by decide), upd2_n (show (10 : Nat) ≠ 0 by decide), upd2_n (show (10 : Nat) ≠ 0 by decide), h10, hfull]
    rw [upd2_n (show (11 : Nat) ≠ 0 by decide), upd2_n (show (11 : Nat) ≠ 0 by decide), upd2_n (show (11 : Nat) ≠ 0 by decide), upd2_n (show (11 : Nat) ≠ 0 by decide), upd2_n (show (11 : Nat) ≠ 0 by decide), h11, hm9]
  -- who counts
  have key : Ok (lp (m_winnersOf_L61 (nI v)) FU ((0 : Int32), m9)) (fun m1 => IN m1 (ofV m bn nE (nI v)) bn ∧ ∀ i, i ≠ 24 → m1 i = m9 i) := by
    refine Ok.count bn (fun k x => x.1 = nI k ∧ (∀ j, j < k → x.2 24 j = tI (ofV m bn nE (nI v) j)) ∧ ∀ i, i ≠ 24 → x.2 i = m9 i) (fun k x hk h => ?_) (fun x h => ?_) bn FU 0 _ (by omega) (by show _ < 100000; omega) ⟨rfl, fun j hj => by omega, fun _ _ => rfl⟩
    · obtain ⟨x1, m1⟩ := x
      obtain ⟨rfl, a1, a2⟩ := h
      dsimp only at a1 a2
      have hk1 : kpW m m1 := fun i j hij => by
        by_cases hi : i = 24
        · subst hi; cases hij
        · rw [a2 i hi]; exact hk9 i j hij
      have H := hC.kpm hk1
      have hrs := H.m hk
      rw [rs_kp hk1] at hrs
      have hlt := rsM_lt (m := m) (bn := bn) (nE := nE) (b := k)
      have d1 : ¬ m1 0 27 ≤ nI k := by rw [H.2.1.2.2, nl_le (by omega) (by omega)]; omega
      have d2 : inb (nI k) 100 = true := nl_in (by omega) (by omega)
      have d3 : (nI k).toNatClampNeg = k := nl_cl (by omega)
      have d4 : m1 19 = m 19 := hk1.fn (by decide) (by decide)
      refine Ok.eq (a := .inl (nI k + 1, upd2 m1 24 k (tI (ofV m bn nE (nI v) k)))) ?_ (And.intro (nI_1 k) ⟨fun j hj => ?_, fun i hi => ?_⟩)
      · unfold ofV
        by_cases c1 : m 19 k = nI v
        · by_cases c2 : rsM m bn nE k = 0
          · simp only [m_winnersOf_L61, d1, d2, d3, d4, gd_t, c1, hrs, bnd_eq, nI_e0 (show rsM m bn nE k < 2147483648 by omega), c2, nmd_eq, nar_b1, ↓reduceIte, n0]
            rfl
          · simp only [m_winnersOf_L61, d1, d2, d3, d4, gd_t, c1, hrs, bnd_eq, nI_e0 (show rsM m bn nE k < 2147483648 by omega), c2, nmd_eq, nar_b0, ↓reduceIte]
            rfl
        · simp only [m_winnersOf_L61, d1, d2, d3, d4, gd_t, c1, nmd_eq, nar_b0, ↓reduceIte]
          rfl
      · dsimp only
        rw [upd2_at, if_pos rfl]
        by_cases g : j = k
        · rw [if_pos g, g]
        · rw [if_neg g]; exact a1 j (by omega)
      · dsimp only
        rw [upd2_n hi]; exact a2 i hi
    · obtain ⟨x1, m1⟩ := x
      obtain ⟨rfl, a1, a2⟩ := h
      dsimp only at a1 a2
      have d1 : m1 0 27 ≤ nI bn := by rw [a2 0 (by decide), hk9.z (by decide), hC.2.1.2.2, nl_le (by omega) (by omega)]; omega
      exact Ok.eq (a := .inr m1) (by simp only [m_winnersOf_L61, d1, ↓reduceIte]) ⟨a1, a2⟩
  obtain ⟨m1, ek, hI, hk⟩ := key
  have hk1 : kpW m m1 := fun i j hij => by
    by_cases hi : i = 24
    · subst hi; cases hij
    · rw [hk i hi]; exact hk9 i j hij
  have h0 : ∀ j, m1 0 j = m9 0 j := fun j => by rw [hk 0 (by decide)]
  have hS : RSt m1 (rdF m) (lnF m) (ofV m bn nE (nI v)) bn T len c r (cfg0 c s) := by
    have hg := cfg_gd hc2 hc6 hsc
    have hp := (zb_fullN c (by omega)).2
    refine ⟨⟨⟨?_, ?_, ?_, ?_, fun i hi => absurd hi (Nat.not_lt_zero i), ?_, hg.2.2⟩, ⟨?_, ?_, fun t ht => absurd ht (Nat.not_lt_zero t)⟩, ?_⟩, ⟨?_, trivial⟩, hI, ?_, ?_⟩
    · rw [h0, z]; rfl
    · rw [h0, z]; rfl
    · rw [h0, z]; rfl
    · rw [h0, z]; rfl
    · rw [h0, z]
      show (0 : Int32) = nI (c - pcN (2 ^ c - 1))
      rw [hp, Nat.sub_self]; rfl
    · rw [h0, z]; rfl
    · rw [h0, z]; rfl
    · rw [h0, z]; rfl
    · rw [h0, z]; rfl
    · have hb1 := bxm_of hF hb hC.2.1.2.2
      refine ⟨hb1.1, by rw [hk1.z (by decide)]; exact hb1.2.1, fun b hbb => ?_⟩
      obtain ⟨q1, q2, q3⟩ := hb1.2.2 b hbb
      exact ⟨q1, by rw [hk1.fn (i := 18) (by decide) (by decide)]; exact q2, fun p hp => ⟨(q3 p hp).1, by rw [rA_cong (hk1.fn (i := 17) (by decide) (by decide)) (hk1.fn (i := 22) (by decide) (by decide))]; exact (q3 p hp).2⟩⟩
    · exact ⟨by rw [hk1.fn (i := 8) (by decide) (by decide)]; exact hU.1, fun j hj => by rw [hk1.fn (i := 7) (by decide) (by decide)]; exact hU.2 j hj⟩
  have hg0 := gcf_0 (T := T) (n0 := c) hWF hlen (cfg_gd hc2 hc6 hsc) rfl
  have hphi := phi1_0 (T := T) (σ := (cfg0 c s).2.2) hlen (cfg_gd hc2 hc6 hsc).1.1
  obtain ⟨m2, er, n, g1, g2, g3, g4⟩ := r_run (v := v) hv hr hlen hWF hT 2904 FU (cfg0 c s) m1 hphi (by show _ < 100000; omega) (by rw [hk1.fn (i := 12) (by decide) (by decide)]; exact h12) hg0 hS
  refine ⟨m2, n, ?_, g1, g2, g3, hk1.tr (fun i j hij => ?_), by rw [g4.1 29 (by decide) (by decide), hk 29 (by decide), y 29 (by decide)], (g4.2 45 (by omega)).trans ((h0 45).trans (z 45))⟩
  · rw [hstart, ek, bnd_eq]
    show m_winnersOf_b104 (nI v) m1 = _
    unfold m_winnersOf_b104
    rw [show ((0 : Int32), m1) = (nI (cfg0 c s).1, m1) from rfl, er, bnd_eq]
    show some (m2 0 37, m2) = _
    rw [g2.1.2.1]
  · unfold scM at hij
    simp at hij
    by_cases hi : i = 0
    · subst hi; exact g4.2 j (by omega)
    · rw [g4.1 i hi (by omega)]
theorem count_M (hC : Core w m nE bn) (hF : InF w m vn bn) (hv : v < 8) (hc2 : 2 ≤ c) (hc6 : c ≤ 6) (hsc : s < c) (hr : r < 8) (h10 : w (64 + v) 1 = nI c) (h11 : w (64 + v) 2 = nI s) (h12 : w (64 + v) 3 = nI r) (hlen : len ≤ 24) (hWF : WF T len) (hT : ∀ k, k < len → T k < 65536) (hU : RuC w r T len) :
    ∃ w' n, f_Ballotscript_countVote (nI v) w = some w' ∧ ¬ going len (run (rdF m) (lnF m) (glS (ofV m bn nE (nI v)) bn 0) T len n (cfg0 c s)) ∧ MC w' (rdF m) (lnF m) (glS (ofV m bn nE (nI v)) bn 0) (run (rdF m) (lnF m) (glS (ofV m bn nE (nI v)) bn 0) T len n (cfg0 c s)).2.2 ∧ kpC w w' ∧ ∀ i, 32 ≤ i → w' i = w i := by
  have hb := hC.2.1.1
  have e1 : inb (nI v) 8 = true := nl_in (by omega) (by omega)
  have e2 : (nI v).toNatClampNeg = v := nl_cl (by omega)
  have e3 : inb (nI r) 8 = true := nl_in (by omega) (by omega)
  have e4 : (nI r).toNatClampNeg = r := nl_cl (by omega)
  have hfull := zb_full c (by omega)
  obtain ⟨w1, eg, k1, k2, k3, k4⟩ := hC.gather (nI v)
  have hw1 : ∀ j, w1 (64 + v) j = w (64 + v) j := fun j => by rw [k2 _ (by omega) (by omega)]
  generalize hw9 : upd2 (upd2 (upd2 (upd2 (upd2 (upd2 w1 22 2 0) 22 3 0) 22 4 (nI s)) 22 5 (nI (2 ^ c - 1))) 22 6 0) 22 7 108 = w9
  have z : ∀ j, w9 22 j = if j = 7 then 108 else if j = 6 then 0 else if j = 5 then nI (2 ^ c - 1) else if j = 4 then nI s else if j = 3 then 0 else if j = 2 then 0 else w1 22 j := by
    intro j
    rw [← hw9]
    simp only [upd2_at, ↓reduceIte]
  have y : ∀ i, i ≠ 22 → w9 i = w1 i := by
    intro i hi
    rw [← hw9, upd2_n hi, upd2_n hi, upd2_n hi, upd2_n hi, upd2_n hi, upd2_n hi]
  have hbeg : f_Count_begin_M (nI c) (nI s) w1 = some w9 := by
    unfold f_Count_begin_M
    simp only [nmd_eq, hfull, hw9]
  have k9 : kpC w w9 := k1.tr (fun i k hik => by
    by_cases hi : i = 22
    · subst hi; cases hik
    · rw [y i hi])
  have hGA : GA w9 (glS (ofV m bn nE (nI v)) bn 0) := ⟨by rw [y 13 (by decide)]; exact k3, fun j b hj => by rw [y 21 (by decide)]; exact k4 j b hj, Nat.le_trans glS_len hb⟩
  have hF9 : InF w9 m vn bn := hF.kp k9 kpW.rfl'
  have hg := cfg_gd hc2 hc6 hsc
  have hRU : RuC w9 r T len := by
    obtain ⟨⟨a1, a2, a3⟩, a4, a5, a6, a7⟩ := hU
    refine ⟨⟨?_, ?_, ?_⟩, fun j hj => ?_, fun j hj hs => ?_, fun j hj hs => ?_, fun j hj hs => ?_⟩
    · rw [k9.v _ (by omega)]; exact a1
    · rw [k9.v _ (by omega)]; exact a2
    · rw [k9.v _ (by omega)]; exact a3
    · rw [k9.v _ (by omega)]; exact a4 j hj
    · rw [k9.v _ (by omega)]; exact a5 j hj hs
    · rw [k9.v _ (by omega)]; exact a6 j hj hs
    · rw [k9.v _ (by omega)]; exact a7 j hj hs
  have hS : MSt w9 (rdF m) (lnF m) (glS (ofV m bn nE (nI v)) bn 0) T len r (cfg0 c s) := by
    refine ⟨⟨⟨?_, ?_, ?_, ?_, fun i hi => absurd hi (Nat.not_lt_zero i)⟩, ⟨?_, fun t ht => absurd ht (Nat.not_lt_zero t)⟩, ?_⟩, trivial, hGA, bxc_of hF9 hb, hRU⟩
    · rw [z]; rfl
    · rw [z]; rfl
    · rw [z]; rfl
    · rw [z]; rfl
    · rw [z]; rfl
    · rw [z]; rfl
  have hg0 := gcf_0 (T := T) (n0 := c) hWF hlen hg rfl
  have hphi := phi1_0 (T := T) (σ := (cfg0 c s).2.2) hlen hg.1.1
  obtain ⟨x, er, w2, ex, n, g1, g2, g3⟩ := m_run hr hlen hWF hT 2904 FU 0 (cfg0 c s) w9 hphi (by show _ ≤ 100000; omega) (by omega) hg0 hS
  refine ⟨w2, n, ?_, g1, g2, k9.tr (fun i k hik => ?_), fun i hi => by rw [g3 i (by omega), y i (by omega), k2 i (by omega) (by omega)]⟩
  · unfold f_Ballotscript_countVote
    rw [eg, bnd_eq]
    simp only [e1, e2, gd_t, hw1, h10, h11, hbeg, bnd_eq, y (64 + v) (by omega), h12, e3, e4]
    have hfo : f_MachineCount_follow r w9 = some w2 := by
      unfold f_MachineCount_follow
      rw [show ((0 : Int32), (0 : Int32), w9) = (nI (idx T (cfg0 c s).1), nI 0, w9) from rfl, er, bnd_eq]
      exact ex
    rw [hfo]; rfl
  · rw [g3 i]
    unfold scC at hik
    simp at hik
    omega
theorem count_H (hC : Core w m nE bn) (hF : InF w m vn bn) (hv : v < 8) (hc2 : 2 ≤ c) (hc6 : c ≤ 6) (hsc : s < c) (hr : r < 8) (h10 : w (64 + v) 1 = nI c) (h11 : w (64 + v) 2 = nI s) (h12 : w (64 + v) 3 = nI r) (hlen : len ≤ 24) (hWF : WF T len) (hT : ∀ k, k < len → T k < 65536) (hU : RuC w r T len) (hneed : f_Ballotscript_needVote (nI v) w = some (.inr 0)) :
    ∃ w' n, f_Ballotscript_winnersByHand (nI v) w = some (.inr (nI (run (rdF m) (lnF m) (glS (ofV m bn nE (nI v)) bn 0) T len n (cfg0 c s)).2.2.1.2.1), w') ∧ ¬ going len (run (rdF m) (lnF m) (glS (ofV m bn nE (nI v)) bn 0) T len n (cfg0 c s)) ∧ kpC w w' := by
  have hb := hC.2.1.1
  have e1 : inb (nI v) 8 = true := nl_in (by omega) (by omega)
  have e2 : (nI v).toNatClampNeg = v := nl_cl (by omega)
  have e3 : inb (nI r) 8 = true := nl_in (by omega) (by omega)
  have e4 : (nI r).toNatClampNeg = r := nl_cl (by omega)
  have hfull := zb_full c (by omega)
  obtain ⟨w1, eg, k1, k2, k3, k4⟩ := hC.gather (nI v)
  have hw1 : ∀ j, w1 (64 + v) j = w (64 + v) j := fun j => by rw [k2 _ (by omega) (by omega)]
  generalize hw9 : upd2 (upd2 (upd2 (upd2 (upd2 (upd2 w1 28 2 0) 28 3 0) 28 4 (nI s)) 28 5 (nI (2 ^ c - 1))) 28 6 0) 28 7 108 = w9
  have z : ∀ j, w9 28 j = if j = 7 then 108 else if j = 6 then 0 else if j = 5 then nI (2 ^ c - 1) else if j = 4 then nI s else if j = 3 then 0 else if j = 2 then 0 else w1 28 j := by
    intro j
    rw [← hw9]
    simp only [upd2_at, ↓reduceIte]
  have y : ∀ i, i ≠ 28 → w9 i = w1 i := by
    intro i hi
    rw [← hw9, upd2_n hi, upd2_n hi, upd2_n hi, upd2_n hi, upd2_n hi, upd2_n hi]
  have hbeg : f_Count_begin_H (nI c) (nI s) w1 = some w9 := by
    unfold f_Count_begin_H
    simp only [nmd_eq, hfull, hw9]
  have k9 : kpC w w9 := k1.tr (fun i k hik => by
    by_cases hi : i = 28
    · subst hi; cases hik
    · rw [y i hi])
  have hGA : GA w9 (glS (ofV m bn nE (nI v)) bn 0) := ⟨by rw [y 13 (by decide)]; exact k3, fun j b hj => by rw [y 21 (by decide)]; exact k4 j b hj, Nat.le_trans glS_len hb⟩
  have hF9 : InF w9 m vn bn := hF.kp k9 kpW.rfl'
  have hg := cfg_gd hc2 hc6 hsc
  have hS : HSt w9 (rdF m) (lnF m) (glS (ofV m bn nE (nI v)) bn 0) T len r (cfg0 c s).2.2 := by
    refine ⟨⟨⟨?_, ?_, ?_, ?_, fun i hi => absurd hi (Nat.not_lt_zero i)⟩, ⟨?_, fun t ht => absurd ht (Nat.not_lt_zero t)⟩, ?_⟩, hGA, bxc_of hF9 hb, ?_, fun j hj => ?_⟩
    · rw [z]; rfl
    · rw [z]; rfl
    · rw [z]; rfl
    · rw [z]; rfl
    · rw [z]; rfl
    · rw [z]; rfl
    · rw [k9.v _ (by omega)]; exact hU.1.1
    · rw [k9.v _ (by omega)]; exact hU.2.1 j hj
  have hg0 := gcf_0 (T := T) (n0 := c) hWF hlen hg rfl
  obtain ⟨⟨z9, w2⟩, er, n, g1, g2, g3⟩ := h_run hr hlen hWF hT (nod_of hF) hg0 hS
  dsimp only at g2 g3
  refine ⟨w2, n, ?_, g1, k9.tr (fun i k hik => ?_)⟩
  · unfold f_Ballotscript_winnersByHand
    rw [hneed, bnd_eq]
    show Option.bind (f_Box_gather (nI v) w) _ = _
    rw [eg, bnd_eq]
    simp only [e1, e2, gd_t, hw1, h10, h11, hbeg, bnd_eq, y (64 + v) (by omega), h12, e3, e4, er, g2.1.2.1]
    rfl
  · rw [g3 i]
    unfold scC at hik
    simp at hik
    omega
end COUNTS

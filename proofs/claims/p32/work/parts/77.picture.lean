/-! p32: the calls that count a vote, over one picture of it -/
theorem RuC.kp {w w' : Wt} {r len : Nat} {T : Nat → Nat} (h : RuC w r T len) (hr : r < 8) (k : kpC w w') : RuC w' r T len := by
  obtain ⟨⟨a1, a2, a3⟩, a4, a5, a6, a7⟩ := h
  refine ⟨⟨?_, ?_, ?_⟩, fun j hj => ?_, fun j hj hs => ?_, fun j hj hs => ?_, fun j hj hs => ?_⟩
  · rw [k.v _ (by omega)]; exact a1
  · rw [k.v _ (by omega)]; exact a2
  · rw [k.v _ (by omega)]; exact a3
  · rw [k.v _ (by omega)]; exact a4 j hj
  · rw [k.v _ (by omega)]; exact a5 j hj hs
  · rw [k.v _ (by omega)]; exact a6 j hj hs
  · rw [k.v _ (by omega)]; exact a7 j hj hs
/-- the winners of a vote, as the shared state has them -/
def Wn (m : Wt) (v e : Nat) : Prop := ∃ m', m_winnersOf (nI v) m = some (nI e, m')
theorem Wn.u {m : Wt} {v e e' : Nat} (h : Wn m v e) (h' : Wn m v e') (he : e < 64) (he' : e' < 64) : e = e' := by
  obtain ⟨m1, h1⟩ := h
  obtain ⟨m2, h2⟩ := h'
  exact nI_i (by omega) (by omega) (Prod.mk.inj (Option.some.inj (h1.symm.trans h2))).1
/-- what a picture of a vote's count is to each state of the class that differs in scratch alone -/
def PicW (w m : Wt) (nE bn v : Nat) (σ : CS) : Prop := ∀ w2, kpC w w2 → (∃ w3, f_Ballotscript_countVote (nI v) w2 = some w3 ∧ MC w3 (rdF m) (lnF m) (glS (ofV m bn nE (nI v)) bn 0) σ ∧ kpC w2 w3) ∧ ∃ w3, f_Ballotscript_winnersByHand (nI v) w2 = some (.inr (nI σ.1.2.1), w3) ∧ kpC w2 w3
theorem picture {t : Nat} {w m : Wt} {nE bn rn vn v : Nat} (h : Inv t w m) (c : Cn m nE bn rn vn) (hv : v < vn) : ∃ n s σ, (2 ≤ n ∧ n ≤ 6 ∧ 1 ≤ s ∧ s < n) ∧ (m 10 v = nI n ∧ m 11 v = nI s) ∧ gdC n σ ∧ XC n s σ ∧ (∃ m', m_winnersOf (nI v) m = some (nI σ.1.2.1, m') ∧ kpW m m' ∧ m' 29 = m 29 ∧ m' 0 45 = m 0 45) ∧ PicW w m nE bn v σ := by
  obtain ⟨hA, hC, hG, hK, h5, hD, hE, hF⟩ := h.at c
  obtain ⟨⟨v1, v2, v3⟩, hE2, hE3, -⟩ := hE
  obtain ⟨⟨q1, q2, q3, q4⟩, -, -⟩ := hE2 v (by omega)
  obtain ⟨n, s, r, ⟨p1, p2, p3, p4, p5⟩, ⟨p6, p7, p8⟩, -⟩ := hE3 v hv
  obtain ⟨d1, d2, d3, d4⟩ := hD
  obtain ⟨T, len, ⟨t1, t2, t3⟩, t4, t5⟩ := d4 r p5
  obtain ⟨m', n1, r1, r2, r3, r4, r5, r6, r7⟩ := count_R hK hF (show v < 8 by omega) p1 p2 p4 (show r < 8 by omega) p6 p7 p8 t1 t2 t3 t5
  have hg0 := gcf_0 (T := T) (n0 := n) t2 t1 (cfg_gd p1 p2 p4) rfl
  have hX := run_X (rd := rdF m) (ln := lnF m) (l := glS (ofV m bn nE (nI v)) bn 0) (s := s) t2 n1 (cfg0 n s) hg0 (cfg_X p2)
  refine ⟨n, s, _, ⟨p1, p2, p3, p4⟩, ⟨p6, p7⟩, r4, hX, ⟨m', r1, r5, r6, r7⟩, fun w2 k => ?_⟩
  have h1 : w2 (64 + v) 1 = nI n := by rw [k.o (by decide)]; exact q2.trans p6
  have h2 : w2 (64 + v) 2 = nI s := by rw [k.o (by decide)]; exact q3.trans p7
  have h3 : w2 (64 + v) 3 = nI r := by rw [k.o (by decide)]; exact q4.trans p8
  have hK2 := hK.kp k
  have hF2 := hF.kp k kpW.rfl'
  have hU2 := t4.kp (by omega) k
  have hneed : f_Ballotscript_needVote (nI v) w2 = some (.inr 0) := by
    rw [need_V (vn := vn) (by rw [k.v _ (by omega)]; exact v2) v1, blw_nI (by omega) (by omega), decide_eq_true hv, if_pos rfl]
  obtain ⟨w', n2, s1, s2, s3, s4, s5⟩ := count_M hK2 hF2 (show v < 8 by omega) p1 p2 p4 (show r < 8 by omega) h1 h2 h3 t1 t2 t3 hU2
  obtain ⟨w'', n3, u1, u2, u3⟩ := count_H hK2 hF2 (show v < 8 by omega) p1 p2 p4 (show r < 8 by omega) h1 h2 h3 t1 t2 t3 hU2 hneed
  rw [← run_uniq rfl rfl r2 s2] at s3
  rw [← run_uniq rfl rfl r2 u2] at u1
  exact ⟨⟨w', s1, s3, s4⟩, w'', u1, u3⟩
/-- a count doesn't hang on what isn't the vote's, its rule's, its ballots' or the entries' -/
theorem wn_fr {t t2 : Nat} {w m w2 m2 : Wt} {nE bn rn vn v e : Nat} {S Z : List Nat} (h : Inv t w m) (c : Cn m nE bn rn vn) (h2 : Inv t2 w2 m2) (c2 : Cn m2 nE bn rn vn) (hv : v < vn) (f : Fr S Z m m2) (hS : ∀ i ∈ [1, 2, 3, 4, 5, 7, 8, 9, 10, 11, 12, 17, 18, 19, 20, 21, 22], i ∉ S) (hW : Wn m v e) (he : e < 64) : Wn m2 v e := by
  obtain ⟨hA, hC, hG, hK, h5, hD, hE, hF⟩ := h.at c
  obtain ⟨-, -, -, hK', -, -, -, hF'⟩ := h2.at c2
  obtain ⟨⟨v1, v2, v3⟩, hE2, hE3, -⟩ := hE
  obtain ⟨n, s, r, ⟨p1, p2, p3, p4, p5⟩, ⟨p6, p7, p8⟩, -⟩ := hE3 v hv
  obtain ⟨d1, d2, d3, d4⟩ := hD
  obtain ⟨T, len, ⟨t1, t2', t3⟩, t4, t5⟩ := d4 r p5
  have g : ∀ i, i ∈ [1, 2, 3, 4, 5, 7, 8, 9, 10, 11, 12, 17, 18, 19, 20, 21, 22] → m2 i = m i := fun i hi => f.1 i (by simp at hi; omega) (by simp at hi; omega) (hS i hi)
  have t6 : RuM m2 r T len := by unfold RuM; rw [g 8 (by decide), g 7 (by decide)]; exact t5
  obtain ⟨m', n1, r1, r2, r3, r4, r5⟩ := count_R hK hF (show v < 8 by omega) p1 p2 p4 (show r < 8 by omega) p6 p7 p8 t1 t2' t3 t5
  obtain ⟨m'', n2, s1, s2, -⟩ := count_R hK' hF' (show v < 8 by omega) p1 p2 p4 (show r < 8 by omega) (by rw [g 10 (by decide)]; exact p6) (by rw [g 11 (by decide)]; exact p7) (by rw [g 12 (by decide)]; exact p8) t1 t2' t3 t6
  have e1 : rdF m2 = rdF m := by funext b p; unfold rdF; rw [g 17 (by decide), g 22 (by decide)]
  have e2 : lnF m2 = lnF m := by funext b; unfold lnF; rw [g 18 (by decide)]
  have e3 : ofV m2 bn nE (nI v) = ofV m bn nE (nI v) := by
    funext b
    unfold ofV rsM laM enM
    rw [g 1 (by decide), g 2 (by decide), g 3 (by decide), g 4 (by decide), g 5 (by decide), g 9 (by decide), g 19 (by decide), g 20 (by decide), g 21 (by decide)]
  rw [e1, e2, e3] at s1 s2
  rw [← run_uniq rfl rfl r2 s2] at s1
  have : e = _ := Wn.u hW ⟨m', r1⟩ he r4.1.2.1
  rw [this]
  exact ⟨m'', s1⟩
section CNT
variable {w m w2 w3 : Wt} {nE bn vn v n : Nat} {σ : CS} {rd : Nat → Nat → Nat} {ln : Nat → Nat} {l : List Nat}
theorem sc_winners (hw : w2 0 10 = nI vn) (hn : vn ≤ 8) (hv : v < vn) (hc : f_Ballotscript_countVote (nI v) w2 = some w3) (hM : MC w3 rd ln l σ) : l_winners (nI v) w2 = some (nI σ.1.2.1, w3) := by
  unfold l_winners
  refine lx2 ?_
  unfold f_Ballotscript_winners
  rw [need_V hw hn, bnd_eq, blw_t hv (by omega), if_pos rfl, wa_in, hc, bnd_eq]
  (try dsimp only)
  rw [show w3 22 6 = nI σ.1.2.1 from hM.1.2.1]
theorem sc_tallies (hw : w2 0 10 = nI vn) (hn : vn ≤ 8) (hv : v < vn) (hc : f_Ballotscript_countVote (nI v) w2 = some w3) (hM : MC w3 rd ln l σ) : l_tallies (nI v) w2 = some (nI σ.2.2.1, w3) := by
  unfold l_tallies
  refine lx2 ?_
  unfold f_Ballotscript_tallies
  rw [need_V hw hn, bnd_eq, blw_t hv (by omega), if_pos rfl, wa_in, hc, bnd_eq]
  (try dsimp only)
  rw [show w3 22 3 = nI σ.2.2.1 from hM.2.1.1]
theorem sc_ties (hw : w2 0 10 = nI vn) (hn : vn ≤ 8) (hv : v < vn) (hc : f_Ballotscript_countVote (nI v) w2 = some w3) (hM : MC w3 rd ln l σ) : l_ties (nI v) w2 = some (nI σ.1.2.2.2.1, w3) := by
  unfold l_ties
  refine lx2 ?_
  unfold f_Ballotscript_ties
  rw [need_V hw hn, bnd_eq, blw_t hv (by omega), if_pos rfl, wa_in, hc, bnd_eq]
  (try dsimp only)
  rw [show w3 22 2 = nI σ.1.2.2.2.1 from hM.1.2.2.2.1]
theorem sc_hand (hc : f_Ballotscript_winnersByHand (nI v) w2 = some (.inr (nI σ.1.2.1), w3)) : l_hand (nI v) w2 = some (nI σ.1.2.1, w3) := by
  unfold l_hand
  exact lx2 hc
/-- votes: of a tally and a candidate of this vote -/
theorem sc_votes (hw : w2 0 10 = nI vn) (hn : vn ≤ 8) (hv : v < vn) (h1 : w2 (64 + v) 1 = nI n) (hn6 : n ≤ 6) (hc : f_Ballotscript_countVote (nI v) w2 = some w3) (hM : MC w3 rd ln l σ) (hg : gdC n σ) {T k : Nat} (hT : T < σ.2.2.1) (hk : k < n) : l_votes (nI v) (nI T) (nI k) w2 = some (if hs (σ.2.2.2.2 T) k = true then vtL rd ln (σ.2.2.2.1 T) (σ.2.2.2.2 T) k l else -1, w3) := by
  have htn : σ.2.2.1 ≤ 156 := hg.2.1.2.1
  have u1 : inb (nI v) 8 = true := nl_in (by omega) (by omega)
  have u2 : (nI v).toNatClampNeg = v := nl_cl (by omega)
  have t0 : ¬ tI true = (0 : Int32) := by decide
  have t1 : w3 22 3 = nI σ.2.2.1 := hM.2.1.1
  obtain ⟨x1, x2, x3⟩ := hM.2.1.2 T hT
  have x4 := x3 k (by omega)
  have hS := (hg.2.1.2.2 T hT).1
  have y1 : inb (nI T) 156 = true := nl_in (by omega) (by omega)
  have y2 : (nI T).toNatClampNeg = T := nl_cl (by omega)
  have d2 : blw (nI T) (nI σ.2.2.1) = true := blw_t hT (by omega)
  have d3 : blw (nI k) (nI n) = true := blw_t hk (by omega)
  have hst : f_MachineCount_stoodIn (nI T) (nI k) w3 = some (tI (hs (σ.2.2.2.2 T) k)) := by
    unfold f_MachineCount_stoodIn
    rw [t1, f_within, blw_within _ _ (by omega), d2, bnd_eq, if_neg t0, y1, gd_t, y2, x1, zb_has _ hS k (by omega), bnd_eq]
    cases hs (σ.2.2.2.2 T) k <;> rfl
  have hvo : f_MachineCount_votesIn (nI T) (nI k) w3 = some (w3 24 (T * 6 + k)) := by
    unfold f_MachineCount_votesIn
    rw [if_pos (show (0 : Int32) ≤ nI T by rw [qb_0 (by omega)]; omega), show nI T * (6 : Int32) = nI (T * 6) from pk_mul T 6, nI_add, nl_in (show T * 6 + k < 936 by omega) (by omega), gd_t, nl_cl (by omega)]
  unfold l_votes
  refine lx2 ?_
  unfold f_Ballotscript_votes
  rw [need_V hw hn, bnd_eq, blw_t hv (by omega), if_pos rfl, wa_in, u1, gd_t, u2, h1, f_within, blw_within _ n (by omega), d3, bnd_eq, if_neg t0, hc, bnd_eq, t1, f_within, blw_within _ _ (by omega), d2, bnd_eq, if_neg t0, hst, bnd_eq, hvo]
  cases hb : hs (σ.2.2.2.2 T) k with
  | false => rfl
  | true => rw [← x4]; rfl
/-- votes: no such tally -/
theorem sc_votesT (hw : w2 0 10 = nI vn) (hn : vn ≤ 8) (hv : v < vn) (h1 : w2 (64 + v) 1 = nI n) (hn6 : 2 ≤ n ∧ n ≤ 6) (hc : f_Ballotscript_countVote (nI v) w2 = some w3) (hM : MC w3 rd ln l σ) (hg : gdC n σ) : l_votes (nI v) (nI σ.2.2.1) (0 : Int32) w2 = some (-101, w3) := by
  have htn : σ.2.2.1 ≤ 156 := hg.2.1.2.1
  have u1 : inb (nI v) 8 = true := nl_in (by omega) (by omega)
  have u2 : (nI v).toNatClampNeg = v := nl_cl (by omega)
  have t0 : ¬ tI true = (0 : Int32) := by decide
  have t1 : w3 22 3 = nI σ.2.2.1 := hM.2.1.1
  have d3 : blw (0 : Int32) (nI n) = true := blw_t (a := 0) (by omega) (by omega)
  unfold l_votes
  refine lx2x (k := 0) (by decide) ?_
  unfold f_Ballotscript_votes
  rw [need_V hw hn, bnd_eq, blw_t hv (by omega), if_pos rfl, wa_in, u1, gd_t, u2, h1, f_within, blw_within _ n (by omega), d3, bnd_eq, if_neg t0, hc, bnd_eq, t1, f_within, blw_within _ _ (by omega), blw_f (Nat.le_refl _) (by omega), bnd_eq, if_pos (show tI false = 0 from rfl)]
  rfl
/-- votes: no such candidate -/
theorem sc_votesC (hw : w2 0 10 = nI vn) (hn : vn ≤ 8) (hv : v < vn) (h1 : w2 (64 + v) 1 = nI n) (hn6 : n ≤ 6) (a : Int32) : l_votes (nI v) a (nI n) w2 = some (-101, w2) := by
  have u1 : inb (nI v) 8 = true := nl_in (by omega) (by omega)
  have u2 : (nI v).toNatClampNeg = v := nl_cl (by omega)
  unfold l_votes
  refine lx2x (k := 0) (by decide) ?_
  unfold f_Ballotscript_votes
  rw [need_V hw hn, bnd_eq, blw_t hv (by omega), if_pos rfl, wa_in, u1, gd_t, u2, h1, f_within, blw_within _ n (by omega), blw_f (Nat.le_refl _) (by omega), bnd_eq, if_pos (show tI false = 0 from rfl)]
  rfl
theorem sc_tied (hw : w2 0 10 = nI vn) (hn : vn ≤ 8) (hv : v < vn) (hc : f_Ballotscript_countVote (nI v) w2 = some w3) (hM : MC w3 rd ln l σ) (hg : gdC n σ) {k : Nat} (hk : k < σ.1.2.2.2.1) : l_tied (nI v) (nI k) w2 = some (nI (σ.1.2.2.2.2 k), w3) := by
  have hun : σ.1.2.2.2.1 ≤ 6 := by have := hg.1.2.2.2; omega
  have t0 : ¬ tI true = (0 : Int32) := by decide
  have t1 : w3 22 2 = nI σ.1.2.2.2.1 := hM.1.2.2.2.1
  have y1 : inb (nI k) 6 = true := nl_in (by omega) (by omega)
  have y2 : (nI k).toNatClampNeg = k := nl_cl (by omega)
  unfold l_tied
  refine lx2 ?_
  unfold f_Ballotscript_tied
  rw [need_V hw hn, bnd_eq, blw_t hv (by omega), if_pos rfl, wa_in, hc, bnd_eq, t1, f_within, blw_within _ _ (by omega), blw_t hk (by omega), bnd_eq, if_neg t0, y1, gd_t, y2, hM.1.2.2.2.2 k hk]
theorem sc_tiedX (hw : w2 0 10 = nI vn) (hn : vn ≤ 8) (hv : v < vn) (hc : f_Ballotscript_countVote (nI v) w2 = some w3) (hM : MC w3 rd ln l σ) (hg : gdC n σ) : l_tied (nI v) (nI σ.1.2.2.2.1) w2 = some (-101, w3) := by
  have hun : σ.1.2.2.2.1 ≤ 6 := by have := hg.1.2.2.2; omega
  have t1 : w3 22 2 = nI σ.1.2.2.2.1 := hM.1.2.2.2.1
  unfold l_tied
  refine lx2x (k := 0) (by decide) ?_
  unfold f_Ballotscript_tied
  rw [need_V hw hn, bnd_eq, blw_t hv (by omega), if_pos rfl, wa_in, hc, bnd_eq, t1, f_within, blw_within _ _ (by omega), blw_f (Nat.le_refl _) (by omega), bnd_eq, if_pos (show tI false = 0 from rfl)]
end CNT

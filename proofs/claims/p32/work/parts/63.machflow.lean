/-! THE MACHINE does the steps of a rule -/
section MFLOW
variable {rd : Nat → Nat → Nat} {ln : Nat → Nat} {l : List Nat} {T : Nat → Nat} {len n0 r : Nat}
def SM (w : Wt) (T : Nat → Nat) : List Nat → List Nat → Prop
  | [], [] => True
  | b :: bs, s :: ss => w 27 (idx T b) = nI s ∧ SM w T bs ss
  | _, _ => False
theorem SM.kp {w w' : Wt} : ∀ {bs ss : List Nat}, SM w T bs ss → (∀ b, b ∈ bs → w' 27 (idx T b) = w 27 (idx T b)) → SM w' T bs ss := by
  intro bs
  induction bs with
  | nil =>
    intro ss h k
    cases ss with
    | nil => trivial
    | cons s ss => exact h.elim
  | cons b bs ih =>
    intro ss h k
    cases ss with
    | nil => exact h.elim
    | cons s ss =>
      obtain ⟨h1, h2⟩ := h
      exact ⟨by rw [k b List.mem_cons_self]; exact h1, ih h2 (fun x hx => k x (List.mem_cons_of_mem _ hx))⟩
def kpM (w w' : Wt) : Prop := ∀ i, i < 22 ∨ 27 < i → w' i = w i
theorem kpM.tr {a b c : Wt} (h : kpM a b) (g : kpM b c) : kpM a c := fun i hi => (g i hi).trans (h i hi)
def MSt (w : Wt) (rd : Nat → Nat → Nat) (ln : Nat → Nat) (l : List Nat) (T : Nat → Nat) (len r : Nat) (c : Cf) : Prop := MC w rd ln l c.2.2 ∧ SM w T (bst T c.1) c.2.1 ∧ GA w l ∧ BXc w rd ln l ∧ RuC w r T len
theorem MSt.kp3 {w w' : Wt} (k : kpM w w') (h1 : GA w l) (h2 : BXc w rd ln l) (h3 : RuC w r T len) : GA w' l ∧ BXc w' rd ln l ∧ RuC w' r T len := by
  obtain ⟨⟨a1, a2, a3⟩, a4, a5, a6, a7⟩ := h3
  refine ⟨⟨by rw [k 13 (by omega)]; exact h1.1, fun j b hj => by rw [k 21 (by omega)]; exact h1.2.1 j b hj, h1.2.2⟩, h2.kp (k 18 (by omega)) (k 19 (by omega)) (k 20 (by omega)), ⟨?_, ?_, ?_⟩, fun j hj => ?_, fun j hj hs => ?_, fun j hj hs => ?_, fun j hj hs => ?_⟩
  · rw [k _ (by omega)]; exact a1
  · rw [k _ (by omega)]; exact a2
  · rw [k _ (by omega)]; exact a3
  · rw [k _ (by omega)]; exact a4 j hj
  · rw [k _ (by omega)]; exact a5 j hj hs
  · rw [k _ (by omega)]; exact a6 j hj hs
  · rw [k _ (by omega)]; exact a7 j hj hs
theorem MC.kp {w w' : Wt} {σ : CS} (h : MC w rd ln l σ) (k : ∀ i, 22 ≤ i → i ≤ 26 → w' i = w i) : MC w' rd ln l σ := by
  obtain ⟨⟨a1, a2, a3, a4, a5⟩, ⟨b1, b2⟩, c1⟩ := h
  refine ⟨⟨?_, ?_, ?_, ?_, fun i hi => ?_⟩, ⟨?_, fun t ht => ⟨?_, ?_, fun c hc => ?_⟩⟩, ?_⟩
  · rw [k 22 (by decide) (by decide)]; exact a1
  · rw [k 22 (by decide) (by decide)]; exact a2
  · rw [k 22 (by decide) (by decide)]; exact a3
  · rw [k 22 (by decide) (by decide)]; exact a4
  · rw [k (22 + 1) (by decide) (by decide)]; exact a5 i hi
  · rw [k 22 (by decide) (by decide)]; exact b1
  · rw [k 25 (by decide) (by decide)]; exact (b2 t ht).1
  · rw [k 26 (by decide) (by decide)]; exact (b2 t ht).2.1
  · rw [k 24 (by decide) (by decide)]; exact (b2 t ht).2.2 c hc
  · rw [k 22 (by decide) (by decide)]; exact c1
/-- the machine's step: one turn, or two where a bracket is done again -/
theorem m_step {w : Wt} {c : Cf} {t fuel : Nat} (hr : r < 8) (hlen : len ≤ 24) (hWF : WF T len) (hT : ∀ k, k < len → T k < 65536) (hg : gcf T len n0 c) (hgo : going len c) (h : MSt w rd ln l T len r c) (ht : t + 2 ≤ 10000) :
    ∃ w' t', t' ≤ 2 ∧ lp (f_MachineCount_follow_L4 r) (fuel + 2) (nI (idx T c.1), nI t, w) = lp (f_MachineCount_follow_L4 r) (fuel + 2 - t') (nI (idx T (stS rd ln l T c).1), nI (t + t'), w') ∧ MSt w' rd ln l T len r (stS rd ln l T c) ∧ kpM w w' := by
  have htal := fun hx => tal_lt hg hgo hx
  obtain ⟨p, ss, σ⟩ := c
  obtain ⟨⟨hp, s, hs1, hsc⟩, hC, hss, htt⟩ := hg
  obtain ⟨hlt, hO0⟩ := hgo
  obtain ⟨hM, hSM, hG, hB, hU⟩ := h
  dsimp only at hp hsc hC hss htt hlt hO0 hM hSM htal
  have hU0 := hU
  obtain ⟨⟨u1, u2, u3⟩, u4, u5, u6, u7⟩ := hU
  have hbl := bst_len p _ _ hsc
  have hTp := hT p hlt
  have hp6 := zb_pc6 _ hC.1.1
  have hOb := hC.1.2.2.1
  have hstp : stp (T p) = true := by
    rcases st_kind hWF hlt hsc hs1 with ⟨g, -⟩ | ⟨g, -⟩ | ⟨-, -, -, g3, g4, -⟩
    · rw [g]; rfl
    · rw [g]; rfl
    · unfold stp; rw [g4, decide_eq_false g3]; rfl
  have hilt : idx T p < idx T len := idx_lt hlt hstp
  have hile := idx_le T len
  have hipe := idx_le T p
  have e2 : ¬ w 22 4 ≤ (0 : Int32) := by rw [hM.1.2.2.1, qa_0 (by omega)]; omega
  have e3 : ¬ nI (idx T p) < (0 : Int32) := nl_neg (by omega)
  have e4 : nI (idx T p) < w (32 + r) 4 := by rw [u2, nl_lt (by omega) (by omega)]; exact hilt
  have e5 : inb (nI (idx T p)) 24 = true := nl_in (by omega) (by omega)
  have e6 : (nI (idx T p)).toNatClampNeg = idx T p := nl_cl (by omega)
  have e7 : w (48 + r) (idx T p) = nI (T p) := u5 p hlt hstp
  have e1 : ¬ (10000 : Int32) ≤ nI t := by rw [qb_10000 (by omega)]; omega
  -- an opening bracket, at any place
  have hopen : ∀ (b t f : Nat) (w1 : Wt), b < len → T b = 40 → t < 10000 → kpM w w1 → w1 22 4 = w 22 4 → w1 22 5 = nI σ.1.1 → lp (f_MachineCount_follow_L4 r) (f + 1) (nI (idx T b), nI t, w1) = lp (f_MachineCount_follow_L4 r) f (nI (idx T (b + 1)), nI (t + 1), upd2 w1 27 (idx T b) (nI σ.1.1)) := by
    intro b t f w1 hb hb40 ht1 hk h4 h5
    have i1 : idx T b < idx T len := idx_lt hb (by rw [hb40]; rfl)
    have d1 : ¬ (10000 : Int32) ≤ nI t := by rw [qb_10000 (by omega)]; omega
    have d2 : ¬ w1 22 4 ≤ (0 : Int32) := by rw [h4]; exact e2
    have d3 : ¬ nI (idx T b) < (0 : Int32) := nl_neg (by omega)
    have d4 : nI (idx T b) < w1 (32 + r) 4 := by rw [hk _ (by omega), u2, nl_lt (by omega) (by omega)]; exact i1
    have d5 : inb (nI (idx T b)) 24 = true := nl_in (by omega) (by omega)
    have d6 : (nI (idx T b)).toNatClampNeg = idx T b := nl_cl (by omega)
    have d7 : w1 (48 + r) (idx T b) = (40 : Int32) := by rw [hk _ (by omega), u5 b hb (by rw [hb40]; rfl), hb40]; rfl
    have d8 : idx T (b + 1) = idx T b + 1 := by rw [idx_s, hb40]; rfl
    show Option.bind _ _ = _
    simp only [f_MachineCount_follow_L4, d1, d2, d3, d4, d5, d6, d7, gd_t, nmd_eq, ↓reduceIte, show ¬ (40 : Int32) = 41 from by decide, h5, nI_1, d8]
    rfl
  rcases st_kind hWF hlt hsc hs1 with ⟨g, g0⟩ | ⟨g, hd, g0⟩ | ⟨hx, g1, g2, g3, g4, g5, g6, g7, g8, g9⟩
  · have e : stS rd ln l T (p, ss, σ) = (p + 1, σ.1.1 :: ss, σ) := by unfold stS; rw [if_pos g]
    have hb : bst T (p + 1) = p :: bst T p := by rw [bst_s, if_pos g]
    rw [e]
    have hk : kpM w (upd2 w 27 (idx T p) (nI σ.1.1)) := fun i hi => upd2_n (by omega)
    refine ⟨upd2 w 27 (idx T p) (nI σ.1.1), 1, by omega, hopen p t (fuel + 1) w hlt g (by omega) (fun _ _ => rfl) rfl hM.1.1, ⟨hM.kp (fun i h1 h2 => upd2_n (by omega)), ?_, MSt.kp3 hk hG hB hU0⟩, hk⟩
    dsimp only
    rw [hb]
    refine ⟨by rw [upd2_at, if_pos rfl, if_pos rfl], hSM.kp (fun b hbm => ?_)⟩
    have hm := bst_mem p b hbm
    rw [upd2_at, if_pos rfl, if_neg (idx_ne (by omega) (by rw [hm.2]; rfl) hstp)]
  · obtain ⟨s0, sr, rfl⟩ : ∃ s0 sr, ss = s0 :: sr := by
      cases ss with
      | nil => exact absurd hd (by decide)
      | cons a b => exact ⟨a, b, rfl⟩
    obtain ⟨b, bs, hb⟩ : ∃ b bs, bst T p = b :: bs := by
      cases hq : bst T p with
      | nil => rw [hq] at hbl; cases hbl
      | cons b bs => exact ⟨b, bs, rfl⟩
    rw [hb] at hSM
    obtain ⟨k1, k2⟩ := hSM
    obtain ⟨f1, f2, f3⟩ := hss s0 List.mem_cons_self
    have hhd : (bst T p).headD 0 = b := by rw [hb]; rfl
    have e : stS rd ln l T (p, s0 :: sr, σ) = if s0 = σ.1.1 then (p + 1, sr, σ) else (b + 1, σ.1.1 :: sr, σ) := by unfold stS; rw [if_neg (by show ¬ T p = 40; omega), if_pos g, hhd]
    obtain ⟨v1, v2, v3⟩ := bst_up p p b bs (Nat.le_refl _) hb
    obtain ⟨b', st', hb', hnum⟩ := u6 p hlt g
    rw [hb] at hb'
    obtain ⟨rfl, rfl⟩ := List.cons.inj hb'
    have hib : idx T b < idx T p := idx_lt v2 (by rw [v3]; rfl)
    have d5 : inb (nI (idx T b)) 24 = true := nl_in (by omega) (by omega)
    have d6 : (nI (idx T b)).toNatClampNeg = idx T b := nl_cl (by omega)
    have hw : wthn (nI (idx T b)) 0 (nI (idx T p)) = true := by
      unfold wthn
      rw [decide_eq_true (nl_neg (by omega)), decide_eq_true (by rw [nl_lt (by omega) (by omega)]; omega)]; rfl
    have hi1 : idx T (p + 1) = idx T p + 1 := by rw [idx_s, hstp]; rfl
    have hsp : f_MachineCount_stepAfterPass (nI (idx T p)) (nI (idx T b)) w = some (if s0 = σ.1.1 then nI (idx T (p + 1)) else nI (idx T b)) := by
      unfold f_MachineCount_stepAfterPass
      rw [f_within, hw, bnd_eq, if_neg (show ¬ tI true = 0 from by decide), d5, gd_t, d6, k1, hM.1.1]
      simp only [nl_eq (show s0 < 2147483648 by omega) (show σ.1.1 < 2147483648 by have := hC.1.1; omega)]
      unfold f_MachineCount_stepAfterPass_b26 f_MachineCount_stepAfterPass_b27
      by_cases cs : s0 = σ.1.1
      · rw [if_pos cs, if_pos cs, if_pos rfl, nI_1, hi1]
      · rw [if_neg cs, if_neg cs, if_neg (by decide)]
    have h41 : nI (T p) = (41 : Int32) := by rw [g]; rfl
    have hturn : ∀ f, lp (f_MachineCount_follow_L4 r) (f + 1) (nI (idx T p), nI t, w) = lp (f_MachineCount_follow_L4 r) f ((if s0 = σ.1.1 then nI (idx T (p + 1)) else nI (idx T b)), nI (t + 1), w) := by
      intro f
      show Option.bind _ _ = _
      simp only [f_MachineCount_follow_L4, e1, e2, e3, e4, e5, e6, e7, h41, gd_t, nmd_eq, ↓reduceIte, hnum, hsp, bnd_eq, nI_1]
    rw [e]
    by_cases cs : s0 = σ.1.1
    · rw [if_pos cs]
      have hb1 : bst T (p + 1) = bs := by rw [bst_s, if_neg (by omega), if_pos g, hb]; rfl
      refine ⟨w, 1, by omega, ?_, ⟨hM, by dsimp only; rw [hb1]; exact k2, hG, hB, hU0⟩, fun _ _ => rfl⟩
      rw [hturn (fuel + 1), if_pos cs]; rfl
    · rw [if_neg cs]
      have hb1 : bst T (b + 1) = b :: bs := by rw [bst_s, if_pos v3, v1]
      have hk : kpM w (upd2 w 27 (idx T b) (nI σ.1.1)) := fun i hi => upd2_n (by omega)
      refine ⟨upd2 w 27 (idx T b) (nI σ.1.1), 2, by omega, ?_, ⟨hM.kp (fun i h1 h2 => upd2_n (by omega)), ?_, MSt.kp3 hk hG hB hU0⟩, hk⟩
      · rw [hturn (fuel + 1), if_neg cs, hopen b (t + 1) fuel w (by omega) v3 (by omega) (fun _ _ => rfl) rfl hM.1.1]; rfl
      · dsimp only
        rw [hb1]
        refine ⟨by rw [upd2_at, if_pos rfl, if_pos rfl], k2.kp (fun x hxm => ?_)⟩
        have hm := bst_mem b x (by rw [v1]; exact hxm)
        rw [upd2_at, if_pos rfl, if_neg (idx_ne (by omega) (by rw [hm.2]; rfl) (by rw [v3]; rfl))]
  · have e : stS rd ln l T (p, ss, σ) = (nx T p, ss, obS rd ln l (T p) (shr T p) σ) := by unfold stS; rw [if_neg g1, if_neg g2]
    rw [e]
    obtain ⟨w', ew, f1, f2⟩ := ob_M (num := shr T p) (nm := w (56 + r) (idx T p)) hC hM hG hB htal hx (fun h => u7 p hlt h)
    have hk : kpM w w' := fun i hi => f2 i (by omega)
    refine ⟨w', 1, by omega, ?_, ⟨f1, ?_, MSt.kp3 hk hG hB hU0⟩, hk⟩
    · show Option.bind _ _ = _
      simp only [f_MachineCount_follow_L4, e1, e2, e3, e4, e5, e6, e7, gd_t, nmd_eq, ↓reduceIte, qe_41 (show T p < 2147483648 by omega), qe_40 (show T p < 2147483648 by omega), g1, g2, ew, bnd_eq, nI_1, g9]
      rfl
    · dsimp only
      rw [g8]
      exact hSM.kp (fun b _ => by rw [f2 27 (by omega)])
theorem m_run (hr : r < 8) (hlen : len ≤ 24) (hWF : WF T len) (hT : ∀ k, k < len → T k < 65536) : ∀ N fuel t (c : Cf) (w : Wt), phi1 T len c ≤ N → 2 * N + 4 ≤ fuel → t + 2 * N + 4 ≤ 10000 → gcf T len n0 c → MSt w rd ln l T len r c →
    Ok (lp (f_MachineCount_follow_L4 r) fuel (nI (idx T c.1), nI t, w)) (fun x => ∃ w', f_MachineCount_follow_x4 r x = some w' ∧ ∃ n, ¬ going len (run rd ln l T len n c) ∧ MC w' rd ln l (run rd ln l T len n c).2.2 ∧ kpM w w') := by
  have hdone : ∀ fuel t (c : Cf) (w : Wt), t < 10000 → gcf T len n0 c → MSt w rd ln l T len r c → ¬ going len c → Ok (lp (f_MachineCount_follow_L4 r) (fuel + 1) (nI (idx T c.1), nI t, w)) (fun x => ∃ w', f_MachineCount_follow_x4 r x = some w' ∧ ∃ n, ¬ going len (run rd ln l T len n c) ∧ MC w' rd ln l (run rd ln l T len n c).2.2 ∧ kpM w w') := by
    intro fuel t c w ht hg h hng
    have hc1 := hg.1.1
    have hOb := hg.2.1.1.2.2.1
    have hp6 := zb_pc6 _ hg.2.1.1.1
    have hi1 := idx_le T c.1
    have hi2 := idx_le T len
    have h4 : w 22 4 = nI c.2.2.1.2.2.1 := h.1.1.2.2.1
    have e1 : ¬ (10000 : Int32) ≤ nI t := by rw [qb_10000 (by omega)]; omega
    have e3 : ¬ nI (idx T c.1) < (0 : Int32) := nl_neg (by omega)
    have hend : ∀ (w1 : Wt), w1 = w → ∃ w', some w1 = some w' ∧ ∃ n, ¬ going len (run rd ln l T len n c) ∧ MC w' rd ln l (run rd ln l T len n c).2.2 ∧ kpM w w' := fun w1 e => ⟨w, by rw [e], 0, hng, h.1, fun _ _ => rfl⟩
    unfold lp
    by_cases g : 0 < c.2.2.1.2.2.1
    · have hce : c.1 = len := by
        have : ¬ c.1 < len := fun e => hng ⟨e, g⟩
        omega
      have e2 : ¬ w 22 4 ≤ (0 : Int32) := by rw [h4, qa_0 (by omega)]; omega
      have e4 : ¬ nI (idx T c.1) < w (32 + r) 4 := by rw [h.2.2.2.2.1.2.1, hce, nl_lt (by omega) (by omega)]; omega
      exact ⟨.inr w, by simp only [f_MachineCount_follow_L4, e1, e2, e3, e4, ↓reduceIte] <;> rfl, hend w rfl⟩
    · have e2 : w 22 4 ≤ (0 : Int32) := by rw [h4, qa_0 (by omega)]; omega
      exact ⟨.inl w, by simp only [f_MachineCount_follow_L4, e1, e2, ↓reduceIte] <;> rfl, hend w rfl⟩
  intro N
  induction N with
  | zero =>
    intro fuel t c w h1 h2 h3 hg h
    obtain ⟨fuel, rfl⟩ : ∃ f, fuel = f + 2 := ⟨fuel - 2, by omega⟩
    by_cases hgo : going len c
    · obtain ⟨w1, t1, q1, q2, q3, q4⟩ := m_step (t := t) (fuel := fuel) hr hlen hWF hT hg hgo h (by omega)
      have hg1 := st_gd (rd := rd) (ln := ln) (l := l) hWF hg hgo
      have hng : ¬ going len (stS rd ln l T c) := fun hh => by
        have := st_phi1 hWF hg hgo hh.2
        omega
      obtain ⟨x, ex, w2, ex2, n, g1, g2, g3⟩ := hdone (fuel + 2 - t1 - 1) (t + t1) _ w1 (by omega) hg1 q3 hng
      rw [show fuel + 2 - t1 - 1 + 1 = fuel + 2 - t1 by omega] at ex
      exact ⟨x, by rw [q2]; exact ex, w2, ex2, n + 1, by rw [run_go hgo]; exact g1, by rw [run_go hgo]; exact g2, q4.tr g3⟩
    · exact hdone (fuel + 1) t c w (by omega) hg h hgo
  | succ N ih =>
    intro fuel t c w h1 h2 h3 hg h
    obtain ⟨fuel, rfl⟩ : ∃ f, fuel = f + 2 := ⟨fuel - 2, by omega⟩
    by_cases hgo : going len c
    · obtain ⟨w1, t1, q1, q2, q3, q4⟩ := m_step (t := t) (fuel := fuel) hr hlen hWF hT hg hgo h (by omega)
      have hg1 := st_gd (rd := rd) (ln := ln) (l := l) hWF hg hgo
      have hnext : Ok (lp (f_MachineCount_follow_L4 r) (fuel + 2 - t1) (nI (idx T (stS rd ln l T c).1), nI (t + t1), w1)) (fun x => ∃ w', f_MachineCount_follow_x4 r x = some w' ∧ ∃ n, ¬ going len (run rd ln l T len n (stS rd ln l T c)) ∧ MC w' rd ln l (run rd ln l T len n (stS rd ln l T c)).2.2 ∧ kpM w1 w') := by
        by_cases hng : going len (stS rd ln l T c)
        · have := st_phi1 hWF hg hgo hng.2
          exact ih (fuel + 2 - t1) (t + t1) _ w1 (by omega) (by omega) (by omega) hg1 q3
        · have := hdone (fuel + 2 - t1 - 1) (t + t1) _ w1 (by omega) hg1 q3 hng
          rw [show fuel + 2 - t1 - 1 + 1 = fuel + 2 - t1 by omega] at this
          exact this
      obtain ⟨x, ex, w2, ex2, n, g1, g2, g3⟩ := hnext
      exact ⟨x, by rw [q2]; exact ex, w2, ex2, n + 1, by rw [run_go hgo]; exact g1, by rw [run_go hgo]; exact g2, q4.tr g3⟩
    · exact hdone (fuel + 1) t c w (by omega) hg h hgo
end MFLOW

/-! THE REFERENCE does the rows of a rule step by step -/
section RFLOW
variable {rd : Nat → Nat → Nat} {ln : Nat → Nat} {p9 : Nat → Bool} {bn : Nat} {T : Nat → Nat} {len n0 r : Nat}
def SK (m : Wt) (n0 : Nat) : List Nat → List Nat → Prop
  | [], [] => True
  | b :: bs, s :: ss => m 27 bs.length = nI (b + 1) ∧ m 28 bs.length = nI (n0 - pcN s) ∧ SK m n0 bs ss
  | _, _ => False
theorem SK.kp {m m' : Wt} : ∀ {bs ss : List Nat}, SK m n0 bs ss → (∀ k, k < bs.length → m' 27 k = m 27 k ∧ m' 28 k = m 28 k) → SK m' n0 bs ss := by
  intro bs
  induction bs with
  | nil =>
    intro ss h k
    cases ss with
    | nil => trivial
    | cons s ss => exact h.elim
  | cons b bs ih =>
    intro ss h k
    cases ss with
    | nil => exact h.elim
    | cons s ss =>
      obtain ⟨h1, h2, h3⟩ := h
      rw [List.length_cons] at k
      refine ⟨?_, ?_, ih h3 (fun j hj => k j (by omega))⟩
      · rw [(k bs.length (by omega)).1]; exact h1
      · rw [(k bs.length (by omega)).2]; exact h2
theorem SK.leng {m : Wt} : ∀ {bs ss : List Nat}, SK m n0 bs ss → ss.length = bs.length := by
  intro bs
  induction bs with
  | nil =>
    intro ss h
    cases ss with
    | nil => rfl
    | cons s ss => exact h.elim
  | cons b bs ih =>
    intro ss h
    cases ss with
    | nil => exact h.elim
    | cons s ss => rw [List.length_cons, List.length_cons, ih h.2.2]
def kpF (m m' : Wt) : Prop := (∀ i, i ≠ 0 → i < 25 ∨ 28 < i → m' i = m i) ∧ ∀ j, j < 32 ∨ 43 < j → m' 0 j = m 0 j
theorem kpF.rfl' {m : Wt} : kpF m m := ⟨fun _ _ _ => rfl, fun _ _ => rfl⟩
theorem kpF.tr {a b c : Wt} (h : kpF a b) (g : kpF b c) : kpF a c := ⟨fun i h1 h2 => (g.1 i h1 h2).trans (h.1 i h1 h2), fun j h1 => (g.2 j h1).trans (h.2 j h1)⟩
/-- what the reference's count is, at a place -/
def RSt (m : Wt) (rd : Nat → Nat → Nat) (ln : Nat → Nat) (p9 : Nat → Bool) (bn : Nat) (T : Nat → Nat) (len n0 r : Nat) (c : Cf) : Prop := RC m rd ln (glS p9 bn 0) n0 c.2.2 ∧ (m 0 43 = nI (bst T c.1).length ∧ SK m n0 (bst T c.1) c.2.1) ∧ IN m p9 bn ∧ BXm m rd ln bn ∧ RuM m r T len
theorem RSt.kp3 {m m' : Wt} (k : kpF m m') (h1 : IN m p9 bn) (h2 : BXm m rd ln bn) (h3 : RuM m r T len) : IN m' p9 bn ∧ BXm m' rd ln bn ∧ RuM m' r T len := by
  refine ⟨fun j hj => ?_, ⟨h2.1, ?_, fun b hb => ?_⟩, ?_, fun j hj => ?_⟩
  · rw [k.1 24 (by decide) (by decide)]; exact h1 j hj
  · rw [k.2 27 (by decide)]; exact h2.2.1
  · obtain ⟨g1, g2, g3⟩ := h2.2.2 b hb
    refine ⟨g1, by rw [k.1 18 (by decide) (by decide)]; exact g2, fun q hq => ⟨(g3 q hq).1, ?_⟩⟩
    rw [rA_cong (k.1 17 (by decide) (by decide)) (k.1 22 (by decide) (by decide))]
    exact (g3 q hq).2
  · rw [k.1 8 (by decide) (by decide)]; exact h3.1
  · rw [k.1 7 (by decide) (by decide)]; exact h3.2 j hj
theorem RC.kp {m m' : Wt} {l : List Nat} {σ : CS} (h : RC m rd ln l n0 σ) (h0 : ∀ j, 32 ≤ j → j ≤ 40 → m' 0 j = m 0 j) (h25 : m' 25 = m 25) (h26 : m' 26 = m 26) : RC m' rd ln l n0 σ := by
  obtain ⟨⟨a1, a2, a3, a4, a5, a6, a7⟩, ⟨b1, b2, b3⟩, c1⟩ := h
  refine ⟨⟨?_, ?_, ?_, ?_, fun i hi => ?_, ?_, a7⟩, ⟨?_, ?_, fun t ht c hc => ?_⟩, ?_⟩
  · rw [h0 36 (by decide) (by decide)]; exact a1
  · rw [h0 37 (by decide) (by decide)]; exact a2
  · rw [h0 38 (by decide) (by decide)]; exact a3
  · rw [h0 35 (by decide) (by decide)]; exact a4
  · rw [h26]; exact a5 i hi
  · rw [h0 40 (by decide) (by decide)]; exact a6
  · rw [h0 32 (by decide) (by decide)]; exact b1
  · rw [h0 33 (by decide) (by decide)]; exact b2
  · rw [h25]; exact b3 t ht c hc
  · rw [h0 39 (by decide) (by decide)]; exact c1
/-- the number behind a letter, up to its semicolon -/
theorem r_num {m : Wt} {p : Nat} (hr : r < 8) (hlen : len ≤ 24) (hWF : WF T len) (hR : RuM m r T len) (hT : ∀ k, k < len → T k < 65536) {s d : Nat} (hp : p < len) (e : scn T p = some (s, d)) (hs : s ≤ 1) (h40 : T p ≠ 40) (h41 : T p ≠ 41) (l3 : Int32) :
    ∃ num, lp (m_goesOn_L150 (nI (24 * r)) l3 m) FU (nI (p + 1), (0 : Int32)) = some (nI (nx T p - 1), num) ∧ (T p = 101 → num = nI (shr T p)) := by
  have hrow : ∀ k, k < len → nI (24 * r) + nI k = nI (24 * r + k) ∧ inb (nI (24 * r + k)) 192 = true ∧ (nI (24 * r + k)).toNatClampNeg = 24 * r + k ∧ m 7 (24 * r + k) = nI (T k) := fun k hk => ⟨nI_add _ _, nl_in (by omega) (by omega), nl_cl (by omega), hR.2 k hk⟩
  have hend : ∀ (k : Nat) (v : Int32) fuel, k < len → T k = 59 → lp (m_goesOn_L150 (nI (24 * r)) l3 m) (fuel + 1) (nI k, v) = some (nI k, v) := by
    intro k v fuel hk h59
    obtain ⟨a1, a2, a3, a4⟩ := hrow k hk
    unfold lp
    simp only [m_goesOn_L150, a1, a2, a3, a4, gd_t, h59, show nI 59 = (59 : Int32) from rfl, ↓reduceIte] <;> rfl
  have hfig : ∀ (k : Nat) (v : Nat) fuel, k < len → dgN (T k) = true → lp (m_goesOn_L150 (nI (24 * r)) l3 m) (fuel + 1) (nI k, nI v) = lp (m_goesOn_L150 (nI (24 * r)) l3 m) fuel (nI (k + 1), nI (10 * v + (T k - 48))) := by
    intro k v fuel hk hd
    obtain ⟨a1, a2, a3, a4⟩ := hrow k hk
    have hne := dg_ne hd
    have hge : 48 ≤ T k := by unfold dgN at hd; simp at hd; omega
    have hT2 := hT k hk
    have e1 : (10 : Int32) * nI v = nI (10 * v) := pk_mul 10 v
    have e2 : nI (10 * v + T k) - (48 : Int32) = nI (10 * v + (T k - 48)) := by
      rw [show (48 : Int32) = nI 48 from rfl, pk_sub (by omega)]
      congr 1; omega
    show (Option.bind _ _) = _
    simp only [m_goesOn_L150, a1, a2, a3, a4, gd_t, qe_59 (show T k < 2147483648 by omega), hne.2.2, nmd_eq, e1, nI_add, e2, nI_1, ↓reduceIte] <;> rfl
  rcases st_kind hWF hp e hs with ⟨g, -⟩ | ⟨g, -⟩ | ⟨hx, -, -, g59, gd, -⟩
  · exact absurd g h40
  · exact absurd g h41
  · by_cases c : T p = 101
    · obtain ⟨d2, b1, b2, b3, b4, b5⟩ := e_nx hWF hp c
      refine ⟨nI (shr T p), ?_, fun _ => rfl⟩
      unfold nx
      rw [if_pos c, show FU = 99997 + 1 + 1 + 1 from rfl, show (0 : Int32) = nI 0 from rfl, hfig (p + 1) 0 _ (by omega) b4]
      rcases b5 with ⟨f1, f2⟩ | ⟨f1, f2, f3, f4, f5⟩
      · have hnd : ¬ dgN (T (p + 2)) = true := by rw [f1]; decide
        rw [if_neg hnd, hend (p + 1 + 1) _ _ b3 f1]
        unfold shr
        rw [if_neg hnd, show 10 * 0 + (T (p + 1) - 48) = T (p + 1) - 48 from by omega]
        rfl
      · rw [if_pos f1, hfig (p + 1 + 1) _ _ b3 f1, hend (p + 1 + 1 + 1) _ _ f2 f3]
        unfold shr
        rw [if_pos f1, show 10 * (10 * 0 + (T (p + 1) - 48)) + (T (p + 1 + 1) - 48) = 10 * (T (p + 1) - 48) + (T (p + 2) - 48) from by rw [show p + 1 + 1 = p + 2 from rfl]; omega]
        rfl
    · have hpl : plN (T p) = true := by
        unfold plN
        refine decide_eq_true ?_
        unfold isT isB isG at hx
        omega
      obtain ⟨d2, b1, b2, b3, b4⟩ := p_nx hWF hp hpl
      refine ⟨0, ?_, fun h => absurd h c⟩
      unfold nx
      rw [if_neg c, show FU = 99999 + 1 from rfl, hend (p + 1) _ _ b2 b3]
      rfl
theorem r_step {m : Wt} {c : Cf} (hr : r < 8) (hlen : len ≤ 24) (hWF : WF T len) (hT : ∀ k, k < len → T k < 65536) (hg : gcf T len n0 c) (hgo : going len c) (h : RSt m rd ln p9 bn T len n0 r c) :
    Ok (m_goesOn (nI (24 * r)) (nI c.1) m) (fun x => x.1 = nI (stS rd ln (glS p9 bn 0) T c).1 ∧ RSt x.2 rd ln p9 bn T len n0 r (stS rd ln (glS p9 bn 0) T c) ∧ kpF m x.2) := by
  have htal := fun hx => tal_lt hg hgo hx
  obtain ⟨p, ss, σ⟩ := c
  obtain ⟨⟨hp, s, hs1, hsc⟩, hC, hss, ht⟩ := hg
  obtain ⟨hlt, hO0⟩ := hgo
  obtain ⟨hR, ⟨h43, hSK⟩, hI, hB, hU⟩ := h
  dsimp only at hp hsc hC hss ht hlt hO0 hR h43 hSK htal
  have hbl := bst_len p _ _ hsc
  have hbd : (bst T p).length ≤ p := Nat.le_trans (bst_cB p) cntS_le
  have hTp := hT p hlt
  have a1 : nI (24 * r) + nI p = nI (24 * r + p) := nI_add _ _
  have a2 : inb (nI (24 * r + p)) 192 = true := nl_in (by omega) (by omega)
  have a3 : (nI (24 * r + p)).toNatClampNeg = 24 * r + p := nl_cl (by omega)
  have a4 : m 7 (24 * r + p) = nI (T p) := hU.2 p hlt
  have hev : m 0 40 = nI (n0 - pcN σ.1.1) := hR.1.2.2.2.2.2.1
  unfold m_goesOn
  simp only [a1, a2, a3, a4, gd_t, nmd_eq, qe_40 (show T p < 2147483648 by omega), qe_41 (show T p < 2147483648 by omega)]
  rcases st_kind hWF hlt hsc hs1 with ⟨g, g0⟩ | ⟨g, hd, g0⟩ | ⟨hx, g1, g2, g3, g4, g5, g6, g7, g8, g9⟩
  · have e : stS rd ln (glS p9 bn 0) T (p, ss, σ) = (p + 1, σ.1.1 :: ss, σ) := by unfold stS; rw [if_pos g]
    have b1 : inb (nI (bst T p).length) 24 = true := nl_in (by omega) (by omega)
    have b2 : (nI (bst T p).length).toNatClampNeg = (bst T p).length := nl_cl (by omega)
    have b3 : ∀ v, upd2 m 27 (bst T p).length v 0 = m 0 := fun v => upd2_n (by decide)
    have b4 : ∀ v u, upd2 (upd2 m 27 (bst T p).length v) 28 (bst T p).length u 0 = m 0 := fun v u => by rw [upd2_n (by decide), upd2_n (by decide)]
    rw [e]
    simp only [g, ↓reduceIte, h43, b1, b2, b3, b4, gd_t, nI_1, hev]
    have hk : kpF m (upd2 (upd2 (upd2 m 27 (bst T p).length (nI (p + 1))) 28 (bst T p).length (nI (n0 - pcN σ.1.1))) 0 43 (nI ((bst T p).length + 1))) := ⟨fun i h1 h2 => by rw [upd2_n h1, upd2_n (by omega), upd2_n (by omega)], fun j hj => by rw [upd2_at, if_pos rfl, if_neg (by omega), upd2_n (by decide), upd2_n (by decide)]⟩
    have hb : bst T (p + 1) = p :: bst T p := by rw [bst_s, if_pos g]
    refine ⟨_, rfl, rfl, ⟨?_, ⟨?_, ?_⟩, RSt.kp3 hk hI hB hU⟩, hk⟩
    · exact hR.kp (fun j h1 h2 => by dsimp only; rw [upd2_at, if_pos rfl, if_neg (by omega), upd2_n (by decide), upd2_n (by decide)]) (by dsimp only; rw [upd2_n (by decide), upd2_n (by decide), upd2_n (by decide)]) (by dsimp only; rw [upd2_n (by decide), upd2_n (by decide), upd2_n (by decide)])
    · dsimp only; rw [hb, upd2_at, if_pos rfl, if_pos rfl]; rfl
    · dsimp only
      rw [hb]
      refine ⟨?_, ?_, hSK.kp (fun k hk => ⟨?_, ?_⟩)⟩
      · rw [upd2_n (by decide), upd2_n (by decide), upd2_at, if_pos rfl, if_pos rfl]
      · rw [upd2_n (by decide), upd2_at, if_pos rfl, if_pos rfl]
      · rw [upd2_n (by decide), upd2_n (by decide), upd2_at, if_pos rfl, if_neg (by omega)]
      · rw [upd2_n (by decide), upd2_at, if_pos rfl, if_neg (by omega), upd2_n (by decide)]
  · obtain ⟨s0, sr, rfl⟩ : ∃ s0 sr, ss = s0 :: sr := by
      cases ss with
      | nil => exact absurd hd (by decide)
      | cons a b => exact ⟨a, b, rfl⟩
    obtain ⟨b, bs, hb⟩ : ∃ b bs, bst T p = b :: bs := by
      cases hq : bst T p with
      | nil => rw [hq] at hbl; cases hbl
      | cons b bs => exact ⟨b, bs, rfl⟩
    rw [hb] at h43 hSK hbd
    rw [List.length_cons] at hbd
    obtain ⟨k1, k2, k3⟩ := hSK
    obtain ⟨f1, f2, f3⟩ := hss s0 List.mem_cons_self
    have hpcs := sub_pc f1 hC.1.1 f2
    have hpe : pcN σ.1.1 = pcN s0 ↔ s0 = σ.1.1 := ⟨fun e => (sub_eq f1 hC.1.1 f2 e).symm, fun e => by rw [e]⟩
    have hhd : (bst T p).headD 0 = b := by rw [hb]; rfl
    have e : stS rd ln (glS p9 bn 0) T (p, s0 :: sr, σ) = if s0 = σ.1.1 then (p + 1, sr, σ) else (b + 1, σ.1.1 :: sr, σ) := by unfold stS; rw [if_neg (by show ¬ T p = 40; omega), if_pos g, hhd]
    obtain ⟨u1, u2, u3⟩ := bst_up p p b bs (Nat.le_refl _) hb
    have hl1 : m 0 43 - 1 = nI bs.length := by rw [h43]; exact nI_pred _
    have b1 : inb (nI bs.length) 24 = true := nl_in (by omega) (by omega)
    have b2 : (nI bs.length).toNatClampNeg = bs.length := nl_cl (by omega)
    have hn0 := hC.2.2.2
    have hcond : (nI (n0 - pcN σ.1.1) ≤ nI (n0 - pcN s0)) = (s0 = σ.1.1) := by
      rw [nl_le (by omega) (by omega)]
      refine propext ⟨fun h => hpe.mp (by have := hC.2.2.1; omega), fun h => by rw [h]; exact Nat.le_refl _⟩
    have h9 : ¬ (41 : Nat) = 40 := by decide
    rw [e]
    simp only [g, h9, ↓reduceIte, hl1, b1, b2, gd_t, hev, k2, hcond]
    have hd1 : ∀ v, upd2 m 28 bs.length v 0 = m 0 := fun v => upd2_n (by decide)
    by_cases cs : s0 = σ.1.1
    · rw [if_pos cs, if_pos cs]
      have hres : m_goesOn_b83 (nI p) (0 : Int32) m = some (nI (p + 1), upd2 (upd2 m 28 bs.length (nI (n0 - pcN σ.1.1))) 0 43 (nI bs.length)) := by
        unfold m_goesOn_b83 m_goesOn_b115
        simp only [hl1, b1, b2, gd_t, nmd_eq, hd1, ↓reduceIte, hev, nI_1]
      rw [hres]
      have hk : kpF m (upd2 (upd2 m 28 bs.length (nI (n0 - pcN σ.1.1))) 0 43 (nI bs.length)) := ⟨fun i h1 h2 => by rw [upd2_n h1, upd2_n (by omega)], fun j hj => by rw [upd2_at, if_pos rfl, if_neg (by omega), upd2_n (by decide)]⟩
      have hb1 : bst T (p + 1) = bs := by rw [bst_s, if_neg (by omega), if_pos g, hb]; rfl
      refine ⟨_, rfl, rfl, ⟨?_, ⟨?_, ?_⟩, RSt.kp3 hk hI hB hU⟩, hk⟩
      · exact hR.kp (fun j h1 h2 => by dsimp only; rw [upd2_at, if_pos rfl, if_neg (by omega), upd2_n (by decide)]) (by dsimp only; rw [upd2_n (by decide), upd2_n (by decide)]) (by dsimp only; rw [upd2_n (by decide), upd2_n (by decide)])
      · dsimp only; rw [hb1, upd2_at, if_pos rfl, if_pos rfl]
      · dsimp only
        rw [hb1]
        refine k3.kp (fun k hk => ⟨?_, ?_⟩)
        · rw [upd2_n (by decide), upd2_n (by decide)]
        · rw [upd2_n (by decide), upd2_at, if_pos rfl, if_neg (by omega)]
    · rw [if_neg cs, if_neg cs]
      have hres : m_goesOn_b83 (nI p) (1 : Int32) m = some (nI (b + 1), upd2 (upd2 m 28 bs.length (nI (n0 - pcN σ.1.1))) 0 43 (nI (bs.length + 1))) := by
        have hv : nI (bs.length + 1) - (0 : Int32) = nI (bs.length + 1) := Int32.sub_zero _
        have h10 : ¬ (1 : Int32) = 0 := by decide
        unfold m_goesOn_b83 m_goesOn_b115
        simp only [hl1, b1, b2, gd_t, nmd_eq, hd1, ↓reduceIte, h10, hev, h43, List.length_cons, hv, upd2_at, nI_pred, show ¬ (27 : Nat) = 0 from by decide, show ¬ (27 : Nat) = 28 from by decide, show ¬ (0 : Nat) = 28 from by decide, k1]
      rw [hres]
      have hk : kpF m (upd2 (upd2 m 28 bs.length (nI (n0 - pcN σ.1.1))) 0 43 (nI (bs.length + 1))) := ⟨fun i h1 h2 => by rw [upd2_n h1, upd2_n (by omega)], fun j hj => by rw [upd2_at, if_pos rfl, if_neg (by omega), upd2_n (by decide)]⟩
      have hb1 : bst T (b + 1) = b :: bs := by rw [bst_s, if_pos u3, u1]
      refine ⟨_, rfl, rfl, ⟨?_, ⟨?_, ?_⟩, RSt.kp3 hk hI hB hU⟩, hk⟩
      · exact hR.kp (fun j h1 h2 => by dsimp only; rw [upd2_at, if_pos rfl, if_neg (by omega), upd2_n (by decide)]) (by dsimp only; rw [upd2_n (by decide), upd2_n (by decide)]) (by dsimp only; rw [upd2_n (by decide), upd2_n (by decide)])
      · dsimp only; rw [hb1, upd2_at, if_pos rfl, if_pos rfl]; rfl
      · dsimp only
        rw [hb1]
        refine ⟨?_, ?_, k3.kp (fun k hk => ⟨?_, ?_⟩)⟩
        · rw [upd2_n (by decide), upd2_n (by decide)]; exact k1
        · rw [upd2_n (by decide), upd2_at, if_pos rfl, if_pos rfl]
        · rw [upd2_n (by decide), upd2_n (by decide)]
        · rw [upd2_n (by decide), upd2_at, if_pos rfl, if_neg (by omega)]
  · have e : stS rd ln (glS p9 bn 0) T (p, ss, σ) = (nx T p, ss, obS rd ln (glS p9 bn 0) (T p) (shr T p) σ) := by unfold stS; rw [if_neg g1, if_neg g2]
    rw [e]
    obtain ⟨num, hnum, hnum2⟩ := r_num hr hlen hWF hU hT hlt hsc hs1 g1 g2 (nI (T p))
    obtain ⟨m', em, f1, f2⟩ := ob_R (num := shr T p) hO0 hC hR hI hB htal hx
    have hk : kpF m m' := ⟨fun i h1 h2 => f2.1 i h1 (by omega) (by omega), fun j hj => f2.2 j (by omega)⟩
    have hb190 : m_goesOn_b190 (nI (T p)) (nI (nx T p - 1)) num m = some (nI (nx T p), m') := by
      unfold m_goesOn_b190
      rw [nI_1, show nx T p - 1 + 1 = nx T p by omega]
      simp only [qe_101 (show T p < 2147483648 by omega)]
      unfold doR at em
      by_cases c : T p = 101
      · rw [if_pos c] at em ⊢
        rw [hnum2 c, em, bnd_eq]
      · rw [if_neg c] at em ⊢
        rw [em, bnd_eq]
    simp only [g1, g2, ↓reduceIte, nI_1, hnum, bnd_eq]
    show Ok (m_goesOn_b190 (nI (T p)) (nI (nx T p - 1)) num m) _
    rw [hb190]
    refine ⟨_, rfl, rfl, ⟨f1, ⟨?_, ?_⟩, RSt.kp3 hk hI hB hU⟩, hk⟩
    · dsimp only; rw [g8, f2.2 43 (by decide)]; exact h43
    · dsimp only; rw [g8]
      exact hSK.kp (fun k _ => ⟨by rw [f2.1 27 (by decide) (by decide) (by decide)], by rw [f2.1 28 (by decide) (by decide) (by decide)]⟩)
theorem r_run {v : Nat} (hv : v < 8) (hr : r < 8) (hlen : len ≤ 24) (hWF : WF T len) (hT : ∀ k, k < len → T k < 65536) : ∀ N fuel (c : Cf) (m : Wt), phi1 T len c ≤ N → N + 1 < fuel → m 12 v = nI r → gcf T len n0 c → RSt m rd ln p9 bn T len n0 r c →
    Ok (lp (m_winnersOf_L106 (nI v)) fuel (nI c.1, m)) (fun m' => ∃ n, ¬ going len (run rd ln (glS p9 bn 0) T len n c) ∧ RC m' rd ln (glS p9 bn 0) n0 (run rd ln (glS p9 bn 0) T len n c).2.2 ∧ gdC n0 (run rd ln (glS p9 bn 0) T len n c).2.2 ∧ kpF m m') := by
  have e1 : inb (nI v) 8 = true := nl_in (by omega) (by omega)
  have e2 : (nI v).toNatClampNeg = v := nl_cl (by omega)
  have e3 : inb (nI r) 8 = true := nl_in (by omega) (by omega)
  have e4 : (nI r).toNatClampNeg = r := nl_cl (by omega)
  have e5 : (24 : Int32) * nI r = nI (24 * r) := pk_mul 24 r
  have hstop : ∀ fuel (c : Cf) (m : Wt), m 12 v = nI r → gcf T len n0 c → RSt m rd ln p9 bn T len n0 r c → ¬ going len c → lp (m_winnersOf_L106 (nI v)) (fuel + 1) (nI c.1, m) = some m := by
    intro fuel c m h12 hg h hng
    have hc1 := hg.1.1
    have h8 : m 8 r = nI len := h.2.2.2.2.1
    have h38 : m 0 38 = nI c.2.2.1.2.2.1 := h.1.1.2.2.1
    have hOb := hg.2.1.1.2.2.1
    have hp6 := zb_pc6 _ hg.2.1.1.1
    unfold lp
    by_cases g : c.1 < len
    · have hO : ¬ 0 < c.2.2.1.2.2.1 := fun e => hng ⟨g, e⟩
      have d1 : ¬ nI len ≤ nI c.1 := by rw [nl_le (by omega) (by omega)]; omega
      have d2 : nI c.2.2.1.2.2.1 ≤ (0 : Int32) := by rw [qa_0 (by omega)]; omega
      simp only [m_winnersOf_L106, e1, e2, h12, e3, e4, h8, gd_t, d1, h38, d2, ↓reduceIte] <;> rfl
    · have d1 : nI len ≤ nI c.1 := by rw [nl_le (by omega) (by omega)]; omega
      simp only [m_winnersOf_L106, e1, e2, h12, e3, e4, h8, gd_t, d1, ↓reduceIte] <;> rfl
  have hdone : ∀ fuel (c : Cf) (m : Wt), m 12 v = nI r → gcf T len n0 c → RSt m rd ln p9 bn T len n0 r c → ¬ going len c → Ok (lp (m_winnersOf_L106 (nI v)) (fuel + 1) (nI c.1, m)) (fun m' => ∃ n, ¬ going len (run rd ln (glS p9 bn 0) T len n c) ∧ RC m' rd ln (glS p9 bn 0) n0 (run rd ln (glS p9 bn 0) T len n c).2.2 ∧ gdC n0 (run rd ln (glS p9 bn 0) T len n c).2.2 ∧ kpF m m') :=
    fun fuel c m h12 hg h hng => ⟨m, hstop fuel c m h12 hg h hng, 0, hng, h.1, hg.2.1, kpF.rfl'⟩
  intro N
  induction N with
  | zero =>
    intro fuel c m h1 h2 h12 hg h
    obtain ⟨fuel, rfl⟩ : ∃ f, fuel = f + 1 + 1 := ⟨fuel - 2, by omega⟩
    by_cases hgo : going len c
    · obtain ⟨⟨z, m1⟩, e9, f1, f2, f3⟩ := r_step hr hlen hWF hT hg hgo h
      dsimp only at f1 f2 f3
      subst f1
      have hg1 := st_gd (rd := rd) (ln := ln) (l := glS p9 bn 0) hWF hg hgo
      have hng : ¬ going len (stS rd ln (glS p9 bn 0) T c) := fun hh => by
        have := st_phi1 hWF hg hgo hh.2
        omega
      obtain ⟨m2, e10, n, g1, g2, g3, g4⟩ := hdone fuel (stS rd ln (glS p9 bn 0) T c) m1 (by rw [f3.1 12 (by decide) (by decide)]; exact h12) hg1 f2 hng
      refine ⟨m2, ?_, n + 1, by rw [run_go hgo]; exact g1, by rw [run_go hgo]; exact g2, by rw [run_go hgo]; exact g3, f3.tr g4⟩
      have hc1 := hgo.1
      have h8 : m 8 r = nI len := h.2.2.2.2.1
      have h38 : m 0 38 = nI c.2.2.1.2.2.1 := h.1.1.2.2.1
      have hOb := hg.2.1.1.2.2.1
      have hp6 := zb_pc6 _ hg.2.1.1.1
      have hO := hgo.2
      have d1 : ¬ nI len ≤ nI c.1 := by rw [nl_le (by omega) (by omega)]; omega
      have d2 : ¬ nI c.2.2.1.2.2.1 ≤ (0 : Int32) := by rw [qa_0 (by omega)]; omega
      unfold lp
      simp only [m_winnersOf_L106, e1, e2, h12, e3, e4, e5, h8, gd_t, d1, h38, d2, ↓reduceIte, e9, bnd_eq, nmd_eq]
      exact e10
    · exact hdone (fuel + 1) c m h12 hg h hgo
  | succ N ih =>
    intro fuel c m h1 h2 h12 hg h
    obtain ⟨fuel, rfl⟩ : ∃ f, fuel = f + 1 + 1 := ⟨fuel - 2, by omega⟩
    by_cases hgo : going len c
    · obtain ⟨⟨z, m1⟩, e9, f1, f2, f3⟩ := r_step hr hlen hWF hT hg hgo h
      dsimp only at f1 f2 f3
      subst f1
      have hg1 := st_gd (rd := rd) (ln := ln) (l := glS p9 bn 0) hWF hg hgo
      have hnext : Ok (lp (m_winnersOf_L106 (nI v)) (fuel + 1) (nI (stS rd ln (glS p9 bn 0) T c).1, m1)) (fun m' => ∃ n, ¬ going len (run rd ln (glS p9 bn 0) T len n (stS rd ln (glS p9 bn 0) T c)) ∧ RC m' rd ln (glS p9 bn 0) n0 (run rd ln (glS p9 bn 0) T len n (stS rd ln (glS p9 bn 0) T c)).2.2 ∧ gdC n0 (run rd ln (glS p9 bn 0) T len n (stS rd ln (glS p9 bn 0) T c)).2.2 ∧ kpF m1 m') := by
        by_cases hng : going len (stS rd ln (glS p9 bn 0) T c)
        · have := st_phi1 hWF hg hgo hng.2
          exact ih (fuel + 1) _ m1 (by omega) (by omega) (by rw [f3.1 12 (by decide) (by decide)]; exact h12) hg1 f2
        · exact hdone fuel _ m1 (by rw [f3.1 12 (by decide) (by decide)]; exact h12) hg1 f2 hng
      obtain ⟨m2, e10, n, g1, g2, g3, g4⟩ := hnext
      refine ⟨m2, ?_, n + 1, by rw [run_go hgo]; exact g1, by rw [run_go hgo]; exact g2, by rw [run_go hgo]; exact g3, f3.tr g4⟩
      have hc1 := hgo.1
      have h8 : m 8 r = nI len := h.2.2.2.2.1
      have h38 : m 0 38 = nI c.2.2.1.2.2.1 := h.1.1.2.2.1
      have hOb := hg.2.1.1.2.2.1
      have hp6 := zb_pc6 _ hg.2.1.1.1
      have hO := hgo.2
      have d1 : ¬ nI len ≤ nI c.1 := by rw [nl_le (by omega) (by omega)]; omega
      have d2 : ¬ nI c.2.2.1.2.2.1 ≤ (0 : Int32) := by rw [qa_0 (by omega)]; omega
      unfold lp
      simp only [m_winnersOf_L106, e1, e2, h12, e3, e4, e5, h8, gd_t, d1, h38, d2, ↓reduceIte, e9, bnd_eq, nmd_eq]
      exact e10
    · exact hdone (fuel + 1) c m h12 hg h hgo
end RFLOW

/-! WHO GOES, one after the other: the class's commands m, e, r, x -/
theorem vI_cong_M {w w' : Wt} (h : ∀ i, i ≠ 22 → i ≠ 23 → w' i = w i) (a b : Int32) : f_MachineCount_votesIn a b w' = f_MachineCount_votesIn a b w := by
  unfold f_MachineCount_votesIn
  rw [h 24 (by decide) (by decide)]
theorem wI_cong_M {w w' : Wt} (h : ∀ i, i ≠ 22 → i ≠ 23 → w' i = w i) (a : Int32) : f_MachineCount_weightOf a w' = f_MachineCount_weightOf a w := by
  unfold f_MachineCount_weightOf
  rw [h 26 (by decide) (by decide)]
theorem cA_cong {w w' : Wt} (h18 : w' 18 = w 18) (h19 : w' 19 = w 19) (h20 : w' 20 = w 20) (a b : Int32) : f_Box_candidateAt a b w' = f_Box_candidateAt a b w := by
  unfold f_Box_candidateAt f_Box_candidateAt_b32 f_Box_candidateAt_b33
  rw [h18, h19, h20]
theorem gB_cong {w w' : Wt} (h18 : w' 18 = w 18) (h19 : w' 19 = w 19) (h20 : w' 20 = w 20) (h30 : w' 30 = w 30) (h31 : w' 31 = w 31) (a b c : Int32) : f_HandCount_givenBy a b c w' = f_HandCount_givenBy a b c w := by
  have e : f_HandCount_givenBy_L6 a b c w' = f_HandCount_givenBy_L6 a b c w := by
    funext x
    obtain ⟨x1, x2⟩ := x
    simp only [f_HandCount_givenBy_L6, h18, cA_cong h18 h19 h20, h30, h31]
  unfold f_HandCount_givenBy
  rw [e]
  rfl
theorem gS_cong {w w' : Wt} (h18 : w' 18 = w 18) (h19 : w' 19 = w 19) (h20 : w' 20 = w 20) (h31 : w' 31 = w 31) (a b : Int32) : f_HandCount_gaveSomething a b w' = f_HandCount_gaveSomething a b w := by
  have e : f_HandCount_gaveSomething_L2 a b w' = f_HandCount_gaveSomething_L2 a b w := by
    funext x
    simp only [f_HandCount_gaveSomething_L2, h18, cA_cong h18 h19 h20, h31]
  unfold f_HandCount_gaveSomething
  rw [e]
  rfl
theorem vI_cong_H {w w' : Wt} (h : ∀ i, i ≠ 28 → i ≠ 29 → w' i = w i) (a b : Int32) : f_HandCount_votesIn a b w' = f_HandCount_votesIn a b w := by
  have g := fun x => gB_cong (h 18 (by decide) (by decide)) (h 19 (by decide) (by decide)) (h 20 (by decide) (by decide)) (h 30 (by decide) (by decide)) (h 31 (by decide) (by decide)) x
  have e : f_HandCount_votesIn_L11 a b w' = f_HandCount_votesIn_L11 a b w := by
    funext x
    obtain ⟨x1, x2⟩ := x
    simp only [f_HandCount_votesIn_L11, h 13 (by decide) (by decide), h 21 (by decide) (by decide), g]
  unfold f_HandCount_votesIn
  rw [e]
  rfl
theorem wI_cong_H {w w' : Wt} (h : ∀ i, i ≠ 28 → i ≠ 29 → w' i = w i) (a : Int32) : f_HandCount_weightOf a w' = f_HandCount_weightOf a w := by
  have g := fun x => gS_cong (h 18 (by decide) (by decide)) (h 19 (by decide) (by decide)) (h 20 (by decide) (by decide)) (h 31 (by decide) (by decide)) x
  have e : f_HandCount_weightOf_L10 a w' = f_HandCount_weightOf_L10 a w := by
    funext x
    obtain ⟨x1, x2⟩ := x
    simp only [f_HandCount_weightOf_L10, h 13 (by decide) (by decide), h 21 (by decide) (by decide), g]
  unfold f_HandCount_weightOf
  rw [e]
  rfl
theorem VV_M.kp {w w' : Wt} {S tn : Nat} {vt : Nat → Nat → Int32} (h : VV_M w S tn vt) (k : ∀ i, i ≠ 22 → i ≠ 23 → w' i = w i) : VV_M w' S tn vt := fun t ht c hc hs' => by
  rw [vI_cong_M k]; exact h t ht c hc hs'
theorem VV_M.sub {w : Wt} {S S' tn : Nat} {vt : Nat → Nat → Int32} (h : VV_M w S tn vt) (k : sub S' S) : VV_M w S' tn vt := fun t ht c hc hs' => h t ht c hc (k c hc hs')
theorem f_turn_M {w : Wt} {tn : Nat} {vt : Nat → Nat → Int32} {wl num : Int32} {cmd B : Nat} {δ : DS} {l4 l6 : Int32} (hB : w 22 7 = nI B) (hB2 : B < 65536) (hcmd : cmd < 65536) (hδ : gdD δ) (hw : MMd 22 w δ) (hv : VV_M w δ.1 tn vt) (htn : tn ≤ 156) (h3 : w 22 3 = nI tn) (hwl : f_MachineCount_weightOf (nI tn - 1) w = some wl) (hO : 0 < δ.2.2.1) (hl : ¬ l4 ≤ l6) :
    Ok (f_Count_letGo_M_L43 (nI cmd) num (tI (decide (cmd ≠ 120))) l4 (nI tn - 1) (l6, w)) (fun x => if mayS vt tn wl cmd num δ = true then ∃ w', x = .inl (l6 + 1, w') ∧ MMd 22 w' (elS vt tn B (decide (cmd ≠ 120)) δ) ∧ KpD 22 w w' else x = .inr (.inr w)) := by
  have hm := f_may_M (num := num) hcmd hδ hw hv htn h3 hwl
  have hel := fun h => elS_gd (vt := vt) (tn := tn) (B := B) (cmd := cmd) (wl := wl) (num := num) hδ hO h
  have hmn := fun h => may_ne (vt := vt) (tn := tn) (wl := wl) (cmd := cmd) (num := num) hδ.1 h
  generalize hb : decide (cmd ≠ 120) = b at hm hel ⊢
  obtain ⟨S, E, O, un, us⟩ := δ
  obtain ⟨d1, d2, d3, d4⟩ := hδ
  obtain ⟨w5, w6, w4, w2, wus⟩ := hw
  dsimp only at d1 d2 d3 d4 w5 w6 w4 w2 wus hv hO hm hmn
  have hp := zb_pc6 S d1
  have e2 : ¬ w 22 4 ≤ (0 : Int32) := by rw [w4, qa_0 (by omega)]; omega
  have hL : f_Count_leaders_M (nI S) (nI tn - 1) (tI b) w = some (nI (leadS vt tn b S)) := f_lead_M d1 (hv.lat htn) b
  cases c : mayS vt tn wl cmd num (S, E, O, un, us) with
  | false =>
    rw [c] at hm
    refine ⟨.inr (.inr w), ?_, by simp only [Bool.false_eq_true, ↓reduceIte]⟩
    simp only [f_Count_letGo_M_L43, hl, e2, w5, hL, bnd_eq, hm, tI0, ↓reduceIte]
  | true =>
    rw [c] at hm
    have hne := hmn c
    have l1 : leadS vt tn b S < 64 := ldS_lt d1
    have l2 : leadS vt tn b S ≠ 0 := ldS_ne d1 hne
    have l3 : sub (leadS vt tn b S) S := ldS_sub d1
    obtain ⟨c1, c2, c3⟩ := choS_in (vt := vt) (tn := tn) (B := B) (b := b) d1 hne
    have hpp := zb_rpc S d1 _ c1 c3
    have hk := f_keep_M l1 w2 (fun _ => by omega)
    generalize hw1 : (if 1 < pcN (leadS vt tn b S) then upd2 (upd2 w 23 un (nI (leadS vt tn b S))) 22 2 (nI (un + 1)) else w) = w1 at hk
    have k1 : ∀ i, i ≠ 22 → i ≠ 23 → w1 i = w i := by
      intro i g1 g2
      rw [← hw1]
      split
      · rw [upd2_n g1, upd2_n g2]
      · rfl
    have k2 : ∀ j, j ≠ 2 → w1 22 j = w 22 j := by
      intro j g
      rw [← hw1]
      split
      · rw [upd2_at, if_pos rfl, if_neg g, upd2_n (by decide)]
      · rfl
    have k3 : w1 22 2 = nI (if 1 < pcN (leadS vt tn b S) then un + 1 else un) := by
      rw [← hw1]
      split
      · rw [upd2_at, if_pos rfl, if_pos rfl]
      · exact w2
    have k4 : ∀ i, i < (if 1 < pcN (leadS vt tn b S) then un + 1 else un) → w1 (22 + 1) i = nI ((if 1 < pcN (leadS vt tn b S) then fup us un (leadS vt tn b S) else us) i) := by
      intro i hi
      rw [← hw1]
      split
      · rename_i g
        rw [if_pos g] at hi
        rw [upd2_n (by decide), upd2_at, if_pos rfl]
        unfold fup
        by_cases g2 : i = un
        · rw [if_pos g2, if_pos g2]
        · rw [if_neg g2, if_neg g2]; exact wus i (by omega)
      · rename_i g
        rw [if_neg g] at hi
        exact wus i hi
    have hq : ∀ t0 : Int32, t0 = (if B = 113 then nI tn - 1 - 1 else -1) → Ok (lp (f_Count_letGo_M_L111 (nI cmd) num (tI b) l4 (nI tn - 1) l6 w1) FU (nI (leadS vt tn b S), t0)) (fun r => r = nI (if B = 113 then qlS vt b (tn - 1) (leadS vt tn b S) else leadS vt tn b S)) := by
      intro t0 ht0
      have hex : t0 < 0 → Ok (lp (f_Count_letGo_M_L111 (nI cmd) num (tI b) l4 (nI tn - 1) l6 w1) FU (nI (leadS vt tn b S), t0)) (fun r => r = nI (leadS vt tn b S)) := by
        intro hneg
        show Ok (lp _ (99999 + 1) _) _
        unfold lp
        exact ⟨_, by simp only [f_Count_letGo_M_L111, hneg, ↓reduceIte] <;> rfl, rfl⟩
      by_cases cB : B = 113
      · rw [if_pos cB] at ht0 ⊢
        cases tn with
        | zero => exact hex (by rw [ht0]; decide)
        | succ t =>
          rw [nI_pred] at ht0
          subst ht0
          exact f_ql_M d1 (hv.kp k1) htn t _ FU (by omega) l1 l3 (by show _ < 100000; omega)
      · rw [if_neg cB] at ht0 ⊢
        exact hex (by rw [ht0]; decide)
    have hrest : ∀ t0 : Int32, t0 = (if B = 113 then nI tn - 1 - 1 else -1) → Ok (f_Count_letGo_M_b105 (nI cmd) num (tI b) l4 (nI tn - 1) l6 (nI (leadS vt tn b S)) t0 w1) (fun x => ∃ w', x = .inl (l6 + 1, w') ∧ MMd 22 w' (elS vt tn B b (S, E, O, un, us)) ∧ KpD 22 w w') := by
      intro t0 ht0
      obtain ⟨r, e, rfl⟩ := hq t0 ht0
      unfold f_Count_letGo_M_b105
      rw [e]
      have hL' : (if B = 113 then qlS vt b (tn - 1) (leadS vt tn b S) else leadS vt tn b S) < 64 := by
        split
        · exact (qlS_ok _ _ l1 l2).1
        · exact l1
      obtain ⟨w', e9, f5, f6, f4, f1, f2⟩ := f_rem_M (w := w1) d1 d2 c1 (by rw [k2 5 (by decide)]; exact w5) (by rw [k2 6 (by decide)]; exact w6) (by rw [k2 4 (by decide)]; exact w4) b (fun _ => hO)
      refine ⟨.inl (l6 + 1, w'), ?_, w', rfl, ⟨f5, f6, f4, ?_, ?_⟩, ?_, ?_⟩
      · show f_Count_letGo_M_b142 _ _ _ _ _ _ (nI _) w1 = _
        unfold f_Count_letGo_M_b142 f_Count_letGo_M_b165
        rw [k2 7 (by decide), hB]
        simp only [qe_104 (show B < 2147483648 by omega), zb_high _ hL', zb_low _ hL', bnd_eq]
        have hc : choS vt tn B b S = if B = 104 then hiN (if B = 113 then qlS vt b (tn - 1) (leadS vt tn b S) else leadS vt tn b S) else loN (if B = 113 then qlS vt b (tn - 1) (leadS vt tn b S) else leadS vt tn b S) := rfl
        by_cases cB : B = 104
        · rw [if_pos cB] at hc ⊢
          rw [← hc, e9]; rfl
        · rw [if_neg cB] at hc ⊢
          rw [← hc, e9]; rfl
      · rw [f2 2 (by decide) (by decide) (by decide)]; exact k3
      · intro i hi
        rw [f1 _ (by decide)]; exact k4 i hi
      · intro i g1 g2
        rw [f1 i g1]; exact k1 i g1 g2
      · intro j g1 g2 g3 g4
        rw [f2 j g2 g3 g4]; exact k2 j g1
    obtain ⟨x, ex, hx⟩ := hrest (if B = 113 then nI tn - 1 - 1 else -1) rfl
    refine ⟨x, ?_, by simp only [↓reduceIte]; exact hx⟩
    simp only [f_Count_letGo_M_L43, hl, e2, w5, hL, bnd_eq, hm, tI0, ↓reduceIte, Bool.true_eq_false, hk, k2 7 (by decide), hB, qe_113 (show B < 2147483648 by omega)]
    by_cases cB : B = 113
    · rw [if_pos cB] at ex ⊢; exact ex
    · rw [if_neg cB] at ex ⊢; exact ex
/-- d turns more -/
theorem f_go_M {tn : Nat} {vt : Nat → Nat → Int32} {wl num : Int32} {cmd B N : Nat} (hB2 : B < 65536) (hcmd : cmd < 65536) (htn : tn ≤ 156) (hN : N < 2147483648) : ∀ d fuel (w : Wt) (δ : DS), d ≤ N → d < fuel → w 22 7 = nI B → gdD δ → MMd 22 w δ → VV_M w δ.1 tn vt → w 22 3 = nI tn → f_MachineCount_weightOf (nI tn - 1) w = some wl →
    Ok (lp (f_Count_letGo_M_L43 (nI cmd) num (tI (decide (cmd ≠ 120))) (nI N) (nI tn - 1)) fuel (nI (N - d), w)) (fun r => ∃ w', f_Count_letGo_M_x43 r = some w' ∧ MMd 22 w' (lgS vt tn B wl cmd num d δ) ∧ gdD (lgS vt tn B wl cmd num d δ) ∧ KpD 22 w w' ∧ sub (lgS vt tn B wl cmd num d δ).1 δ.1) := by
  intro d
  induction d with
  | zero =>
    intro fuel w δ h1 h2 hB hδ hw hv h3 hwl
    obtain ⟨fuel, rfl⟩ : ∃ f, fuel = f + 1 := ⟨fuel - 1, by omega⟩
    have e : nI N ≤ nI (N - 0) := by rw [Nat.sub_zero, nl_le (by omega) (by omega)]; omega
    unfold lp
    refine ⟨.inl w, ?_, w, rfl, hw, hδ, KpD.rfl', sub_rfl⟩
    simp only [f_Count_letGo_M_L43, e, ↓reduceIte] <;> rfl
  | succ d ih =>
    intro fuel w δ h1 h2 hB hδ hw hv h3 hwl
    obtain ⟨fuel, rfl⟩ : ∃ f, fuel = f + 1 := ⟨fuel - 1, by omega⟩
    have e : ¬ nI N ≤ nI (N - (d + 1)) := by rw [nl_le (by omega) (by omega)]; omega
    unfold lp
    by_cases hO : 0 < δ.2.2.1
    · obtain ⟨x, ex, hx⟩ := f_turn_M hB hB2 hcmd hδ hw hv htn h3 hwl hO e (num := num)
      rw [ex]
      cases c : mayS vt tn wl cmd num δ with
      | false =>
        rw [c, if_neg (by decide)] at hx
        subst hx
        refine ⟨.inr w, rfl, w, rfl, ?_⟩
        unfold lgS
        rw [if_neg (fun g => by rw [c] at g; cases g.2)]
        exact ⟨hw, hδ, KpD.rfl', sub_rfl⟩
      | true =>
        rw [c, if_pos rfl] at hx
        obtain ⟨w1, rfl, hw1, hk⟩ := hx
        have hg := elS_gd (vt := vt) (tn := tn) (B := B) (cmd := cmd) (wl := wl) (num := num) hδ hO c
        have hsub : sub (elS vt tn B (decide (cmd ≠ 120)) δ).1 δ.1 := sub_rmv hδ.1 (choS_in hδ.1 (may_ne hδ.1 c)).1
        obtain ⟨r, e1, w2, e2, g1, g2, g3, g4⟩ := ih fuel w1 (elS vt tn B (decide (cmd ≠ 120)) δ) (by omega) (by omega) (by rw [hk.2 7 (by decide) (by decide) (by decide) (by decide)]; exact hB) hg.1 hw1 ((hv.kp hk.1).sub hsub) (by rw [hk.2 3 (by decide) (by decide) (by decide) (by decide)]; exact h3) (by rw [wI_cong_M hk.1]; exact hwl)
        have hun : lgS vt tn B wl cmd num (d + 1) δ = lgS vt tn B wl cmd num d (elS vt tn B (decide (cmd ≠ 120)) δ) := by
          show (if _ then _ else _) = _
          rw [if_pos ⟨hO, c⟩]
        refine ⟨r, ?_, w2, e2, ?_⟩
        · show lp _ fuel (nI (N - (d + 1)) + 1, w1) = _
          rw [nI_1, show N - (d + 1) + 1 = N - d from by omega]
          exact e1
        · rw [hun]
          exact ⟨g1, g2, hk.tr g3, sub_tr g4 hsub⟩
    · have e2 : w 22 4 ≤ (0 : Int32) := by
        have := zb_pc6 δ.1 hδ.1
        have := hδ.2.2.1
        rw [hw.2.2.1, qa_0 (by omega)]; omega
      refine ⟨.inl w, ?_, w, rfl, ?_⟩
      · simp only [f_Count_letGo_M_L43, e, e2, ↓reduceIte] <;> rfl
      · unfold lgS
        rw [if_neg (fun g => hO g.1)]
        exact ⟨hw, hδ, KpD.rfl', sub_rfl⟩
theorem f_letgo_M {w : Wt} {tn : Nat} {vt : Nat → Nat → Int32} {wl num : Int32} {cmd B : Nat} {δ : DS} (hB2 : B < 65536) (hcmd : cmd < 65536) (htn : tn ≤ 156) (hB : w 22 7 = nI B) (hδ : gdD δ) (hw : MMd 22 w δ) (hv : VV_M w δ.1 tn vt) (h3 : w 22 3 = nI tn) (hwl : f_MachineCount_weightOf (nI tn - 1) w = some wl) :
    Ok (f_Count_letGo_M (nI cmd) num w) (fun w' => MMd 22 w' (lgS vt tn B wl cmd num (if cmd = 101 ∨ cmd = 114 then 6 else 1) δ) ∧ gdD (lgS vt tn B wl cmd num (if cmd = 101 ∨ cmd = 114 then 6 else 1) δ) ∧ KpD 22 w w' ∧ sub (lgS vt tn B wl cmd num (if cmd = 101 ∨ cmd = 114 then 6 else 1) δ).1 δ.1) := by
  have hb : f_Count_letGo_M (nI cmd) num w = f_Count_letGo_M_b11 (nI cmd) num (tI (decide (cmd ≠ 120))) w := by
    unfold f_Count_letGo_M
    simp only [qe_120 (show cmd < 2147483648 by omega)]
    by_cases c : cmd = 120
    · rw [if_pos c, decide_eq_false (fun e => e c)]; rfl
    · rw [if_neg c, decide_eq_true c]; rfl
  have hb2 : f_Count_letGo_M_b11 (nI cmd) num (tI (decide (cmd ≠ 120))) w = f_Count_letGo_M_b30 (nI cmd) num (tI (decide (cmd ≠ 120))) (nI (if cmd = 101 ∨ cmd = 114 then 6 else 1)) w := by
    unfold f_Count_letGo_M_b11 f_Count_letGo_M_b24
    simp only [qe_101 (show cmd < 2147483648 by omega), qe_114 (show cmd < 2147483648 by omega)]
    by_cases c1 : cmd = 101
    · rw [if_pos c1, if_pos (Or.inl c1)]; rfl
    · rw [if_neg c1]
      by_cases c2 : cmd = 114
      · rw [if_pos c2, if_pos (Or.inr c2)]; rfl
      · rw [if_neg c2, if_neg (fun e => e.elim c1 c2)]; rfl
  rw [hb, hb2]
  generalize hN : (if cmd = 101 ∨ cmd = 114 then 6 else 1) = N
  have hN6 : N ≤ 6 := by rw [← hN]; split <;> omega
  unfold f_Count_letGo_M_b30
  rw [nmd_eq, h3]
  obtain ⟨r, e1, w', e2, g⟩ := f_go_M (vt := vt) (wl := wl) (num := num) (N := N) hB2 hcmd htn (by omega) N FU w δ (by omega) (by show _ < 100000; omega) hB hδ hw hv h3 hwl
  rw [Nat.sub_self] at e1
  exact ⟨w', by rw [show (0 : Int32) = nI 0 from rfl, e1]; exact e2, g⟩
theorem VV_H.kp {w w' : Wt} {S tn : Nat} {vt : Nat → Nat → Int32} (h : VV_H w S tn vt) (k : ∀ i, i ≠ 28 → i ≠ 29 → w' i = w i) : VV_H w' S tn vt := fun t ht c hc hs' => by
  rw [vI_cong_H k]; exact h t ht c hc hs'
theorem VV_H.sub {w : Wt} {S S' tn : Nat} {vt : Nat → Nat → Int32} (h : VV_H w S tn vt) (k : sub S' S) : VV_H w S' tn vt := fun t ht c hc hs' => h t ht c hc (k c hc hs')
theorem f_turn_H {w : Wt} {tn : Nat} {vt : Nat → Nat → Int32} {wl num : Int32} {cmd B : Nat} {δ : DS} {l4 l6 : Int32} (hB : w 28 7 = nI B) (hB2 : B < 65536) (hcmd : cmd < 65536) (hδ : gdD δ) (hw : MMd 28 w δ) (hv : VV_H w δ.1 tn vt) (htn : tn ≤ 156) (h3 : w 28 3 = nI tn) (hwl : f_HandCount_weightOf (nI tn - 1) w = some wl) (hO : 0 < δ.2.2.1) (hl : ¬ l4 ≤ l6) :
    Ok (f_Count_letGo_H_L43 (nI cmd) num (tI (decide (cmd ≠ 120))) l4 (nI tn - 1) (l6, w)) (fun x => if mayS vt tn wl cmd num δ = true then ∃ w', x = .inl (l6 + 1, w') ∧ MMd 28 w' (elS vt tn B (decide (cmd ≠ 120)) δ) ∧ KpD 28 w w' else x = .inr (.inr w)) := by
  have hm := f_may_H (num := num) hcmd hδ hw hv htn h3 hwl
  have hel := fun h => elS_gd (vt := vt) (tn := tn) (B := B) (cmd := cmd) (wl := wl) (num := num) hδ hO h
  have hmn := fun h => may_ne (vt := vt) (tn := tn) (wl := wl) (cmd := cmd) (num := num) hδ.1 h
  generalize hb : decide (cmd ≠ 120) = b at hm hel ⊢
  obtain ⟨S, E, O, un, us⟩ := δ
  obtain ⟨d1, d2, d3, d4⟩ := hδ
  obtain ⟨w5, w6, w4, w2, wus⟩ := hw
  dsimp only at d1 d2 d3 d4 w5 w6 w4 w2 wus hv hO hm hmn
  have hp := zb_pc6 S d1
  have e2 : ¬ w 28 4 ≤ (0 : Int32) := by rw [w4, qa_0 (by omega)]; omega
  have hL : f_Count_leaders_H (nI S) (nI tn - 1) (tI b) w = some (nI (leadS vt tn b S)) := f_lead_H d1 (hv.lat htn) b
  cases c : mayS vt tn wl cmd num (S, E, O, un, us) with
  | false =>
    rw [c] at hm
    refine ⟨.inr (.inr w), ?_, by simp only [Bool.false_eq_true, ↓reduceIte]⟩
    simp only [f_Count_letGo_H_L43, hl, e2, w5, hL, bnd_eq, hm, tI0, ↓reduceIte]
  | true =>
    rw [c] at hm
    have hne := hmn c
    have l1 : leadS vt tn b S < 64 := ldS_lt d1
    have l2 : leadS vt tn b S ≠ 0 := ldS_ne d1 hne
    have l3 : sub (leadS vt tn b S) S := ldS_sub d1
    obtain ⟨c1, c2, c3⟩ := choS_in (vt := vt) (tn := tn) (B := B) (b := b) d1 hne
    have hpp := zb_rpc S d1 _ c1 c3
    have hk := f_keep_H l1 w2 (fun _ => by omega)
    generalize hw1 : (if 1 < pcN (leadS vt tn b S) then upd2 (upd2 w 29 un (nI (leadS vt tn b S))) 28 2 (nI (un + 1)) else w) = w1 at hk
    have k1 : ∀ i, i ≠ 28 → i ≠ 29 → w1 i = w i := by
      intro i g1 g2
      rw [← hw1]
      split
      · rw [upd2_n g1, upd2_n g2]
      · rfl
    have k2 : ∀ j, j ≠ 2 → w1 28 j = w 28 j := by
      intro j g
      rw [← hw1]
      split
      · rw [upd2_at, if_pos rfl, if_neg g, upd2_n (by decide)]
      · rfl
    have k3 : w1 28 2 = nI (if 1 < pcN (leadS vt tn b S) then un + 1 else un) := by
      rw [← hw1]
      split
      · rw [upd2_at, if_pos rfl, if_pos rfl]
      · exact w2
    have k4 : ∀ i, i < (if 1 < pcN (leadS vt tn b S) then un + 1 else un) → w1 (28 + 1) i = nI ((if 1 < pcN (leadS vt tn b S) then fup us un (leadS vt tn b S) else us) i) := by
      intro i hi
      rw [← hw1]
      split
      · rename_i g
        rw [if_pos g] at hi
        rw [upd2_n (by decide), upd2_at, if_pos rfl]
        unfold fup
        by_cases g2 : i = un
        · rw [if_pos g2, if_pos g2]
        · rw [if_neg g2, if_neg g2]; exact wus i (by omega)
      · rename_i g
        rw [if_neg g] at hi
        exact wus i hi
    have hq : ∀ t0 : Int32, t0 = (if B = 113 then nI tn - 1 - 1 else -1) → Ok (lp (f_Count_letGo_H_L111 (nI cmd) num (tI b) l4 (nI tn - 1) l6 w1) FU (nI (leadS vt tn b S), t0)) (fun r => r = nI (if B = 113 then qlS vt b (tn - 1) (leadS vt tn b S) else leadS vt tn b S)) := by
      intro t0 ht0
      have hex : t0 < 0 → Ok (lp (f_Count_letGo_H_L111 (nI cmd) num (tI b) l4 (nI tn - 1) l6 w1) FU (nI (leadS vt tn b S), t0)) (fun r => r = nI (leadS vt tn b S)) := by
        intro hneg
        show Ok (lp _ (99999 + 1) _) _
        unfold lp
        exact ⟨_, by simp only [f_Count_letGo_H_L111, hneg, ↓reduceIte] <;> rfl, rfl⟩
      by_cases cB : B = 113
      · rw [if_pos cB] at ht0 ⊢
        cases tn with
        | zero => exact hex (by rw [ht0]; decide)
        | succ t =>
          rw [nI_pred] at ht0
          subst ht0
          exact f_ql_H d1 (hv.kp k1) htn t _ FU (by omega) l1 l3 (by show _ < 100000; omega)
      · rw [if_neg cB] at ht0 ⊢
        exact hex (by rw [ht0]; decide)
    have hrest : ∀ t0 : Int32, t0 = (if B = 113 then nI tn - 1 - 1 else -1) → Ok (f_Count_letGo_H_b105 (nI cmd) num (tI b) l4 (nI tn - 1) l6 (nI (leadS vt tn b S)) t0 w1) (fun x => ∃ w', x = .inl (l6 + 1, w') ∧ MMd 28 w' (elS vt tn B b (S, E, O, un, us)) ∧ KpD 28 w w') := by
      intro t0 ht0
      obtain ⟨r, e, rfl⟩ := hq t0 ht0
      unfold f_Count_letGo_H_b105
      rw [e]
      have hL' : (if B = 113 then qlS vt b (tn - 1) (leadS vt tn b S) else leadS vt tn b S) < 64 := by
        split
        · exact (qlS_ok _ _ l1 l2).1
        · exact l1
      obtain ⟨w', e9, f5, f6, f4, f1, f2⟩ := f_rem_H (w := w1) d1 d2 c1 (by rw [k2 5 (by decide)]; exact w5) (by rw [k2 6 (by decide)]; exact w6) (by rw [k2 4 (by decide)]; exact w4) b (fun _ => hO)
      refine ⟨.inl (l6 + 1, w'), ?_, w', rfl, ⟨f5, f6, f4, ?_, ?_⟩, ?_, ?_⟩
      · show f_Count_letGo_H_b142 _ _ _ _ _ _ (nI _) w1 = _
        unfold f_Count_letGo_H_b142 f_Count_letGo_H_b165
        rw [k2 7 (by decide), hB]
        simp only [qe_104 (show B < 2147483648 by omega), zb_high _ hL', zb_low _ hL', bnd_eq]
        have hc : choS vt tn B b S = if B = 104 then hiN (if B = 113 then qlS vt b (tn - 1) (leadS vt tn b S) else leadS vt tn b S) else loN (if B = 113 then qlS vt b (tn - 1) (leadS vt tn b S) else leadS vt tn b S) := rfl
        by_cases cB : B = 104
        · rw [if_pos cB] at hc ⊢
          rw [← hc, e9]; rfl
        · rw [if_neg cB] at hc ⊢
          rw [← hc, e9]; rfl
      · rw [f2 2 (by decide) (by decide) (by decide)]; exact k3
      · intro i hi
        rw [f1 _ (by decide)]; exact k4 i hi
      · intro i g1 g2
        rw [f1 i g1]; exact k1 i g1 g2
      · intro j g1 g2 g3 g4
        rw [f2 j g2 g3 g4]; exact k2 j g1
    obtain ⟨x, ex, hx⟩ := hrest (if B = 113 then nI tn - 1 - 1 else -1) rfl
    refine ⟨x, ?_, by simp only [↓reduceIte]; exact hx⟩
    simp only [f_Count_letGo_H_L43, hl, e2, w5, hL, bnd_eq, hm, tI0, ↓reduceIte, Bool.true_eq_false, hk, k2 7 (by decide), hB, qe_113 (show B < 2147483648 by omega)]
    by_cases cB : B = 113
    · rw [if_pos cB] at ex ⊢; exact ex
    · rw [if_neg cB] at ex ⊢; exact ex
/-- d turns more -/
theorem f_go_H {tn : Nat} {vt : Nat → Nat → Int32} {wl num : Int32} {cmd B N : Nat} (hB2 : B < 65536) (hcmd : cmd < 65536) (htn : tn ≤ 156) (hN : N < 2147483648) : ∀ d fuel (w : Wt) (δ : DS), d ≤ N → d < fuel → w 28 7 = nI B → gdD δ → MMd 28 w δ → VV_H w δ.1 tn vt → w 28 3 = nI tn → f_HandCount_weightOf (nI tn - 1) w = some wl →
    Ok (lp (f_Count_letGo_H_L43 (nI cmd) num (tI (decide (cmd ≠ 120))) (nI N) (nI tn - 1)) fuel (nI (N - d), w)) (fun r => ∃ w', f_Count_letGo_H_x43 r = some w' ∧ MMd 28 w' (lgS vt tn B wl cmd num d δ) ∧ gdD (lgS vt tn B wl cmd num d δ) ∧ KpD 28 w w' ∧ sub (lgS vt tn B wl cmd num d δ).1 δ.1) := by
  intro d
  induction d with
  | zero =>
    intro fuel w δ h1 h2 hB hδ hw hv h3 hwl
    obtain ⟨fuel, rfl⟩ : ∃ f, fuel = f + 1 := ⟨fuel - 1, by omega⟩
    have e : nI N ≤ nI (N - 0) := by rw [Nat.sub_zero, nl_le (by omega) (by omega)]; omega
    unfold lp
    refine ⟨.inl w, ?_, w, rfl, hw, hδ, KpD.rfl', sub_rfl⟩
    simp only [f_Count_letGo_H_L43, e, ↓reduceIte] <;> rfl
  | succ d ih =>
    intro fuel w δ h1 h2 hB hδ hw hv h3 hwl
    obtain ⟨fuel, rfl⟩ : ∃ f, fuel = f + 1 := ⟨fuel - 1, by omega⟩
    have e : ¬ nI N ≤ nI (N - (d + 1)) := by rw [nl_le (by omega) (by omega)]; omega
    unfold lp
    by_cases hO : 0 < δ.2.2.1
    · obtain ⟨x, ex, hx⟩ := f_turn_H hB hB2 hcmd hδ hw hv htn h3 hwl hO e (num := num)
      rw [ex]
      cases c : mayS vt tn wl cmd num δ with
      | false =>
        rw [c, if_neg (by decide)] at hx
        subst hx
        refine ⟨.inr w, rfl, w, rfl, ?_⟩
        unfold lgS
        rw [if_neg (fun g => by rw [c] at g; cases g.2)]
        exact ⟨hw, hδ, KpD.rfl', sub_rfl⟩
      | true =>
        rw [c, if_pos rfl] at hx
        obtain ⟨w1, rfl, hw1, hk⟩ := hx
        have hg := elS_gd (vt := vt) (tn := tn) (B := B) (cmd := cmd) (wl := wl) (num := num) hδ hO c
        have hsub : sub (elS vt tn B (decide (cmd ≠ 120)) δ).1 δ.1 := sub_rmv hδ.1 (choS_in hδ.1 (may_ne hδ.1 c)).1
        obtain ⟨r, e1, w2, e2, g1, g2, g3, g4⟩ := ih fuel w1 (elS vt tn B (decide (cmd ≠ 120)) δ) (by omega) (by omega) (by rw [hk.2 7 (by decide) (by decide) (by decide) (by decide)]; exact hB) hg.1 hw1 ((hv.kp hk.1).sub hsub) (by rw [hk.2 3 (by decide) (by decide) (by decide) (by decide)]; exact h3) (by rw [wI_cong_H hk.1]; exact hwl)
        have hun : lgS vt tn B wl cmd num (d + 1) δ = lgS vt tn B wl cmd num d (elS vt tn B (decide (cmd ≠ 120)) δ) := by
          show (if _ then _ else _) = _
          rw [if_pos ⟨hO, c⟩]
        refine ⟨r, ?_, w2, e2, ?_⟩
        · show lp _ fuel (nI (N - (d + 1)) + 1, w1) = _
          rw [nI_1, show N - (d + 1) + 1 = N - d from by omega]
          exact e1
        · rw [hun]
          exact ⟨g1, g2, hk.tr g3, sub_tr g4 hsub⟩
    · have e2 : w 28 4 ≤ (0 : Int32) := by
        have := zb_pc6 δ.1 hδ.1
        have := hδ.2.2.1
        rw [hw.2.2.1, qa_0 (by omega)]; omega
      refine ⟨.inl w, ?_, w, rfl, ?_⟩
      · simp only [f_Count_letGo_H_L43, e, e2, ↓reduceIte] <;> rfl
      · unfold lgS
        rw [if_neg (fun g => hO g.1)]
        exact ⟨hw, hδ, KpD.rfl', sub_rfl⟩
theorem f_letgo_H {w : Wt} {tn : Nat} {vt : Nat → Nat → Int32} {wl num : Int32} {cmd B : Nat} {δ : DS} (hB2 : B < 65536) (hcmd : cmd < 65536) (htn : tn ≤ 156) (hB : w 28 7 = nI B) (hδ : gdD δ) (hw : MMd 28 w δ) (hv : VV_H w δ.1 tn vt) (h3 : w 28 3 = nI tn) (hwl : f_HandCount_weightOf (nI tn - 1) w = some wl) :
    Ok (f_Count_letGo_H (nI cmd) num w) (fun w' => MMd 28 w' (lgS vt tn B wl cmd num (if cmd = 101 ∨ cmd = 114 then 6 else 1) δ) ∧ gdD (lgS vt tn B wl cmd num (if cmd = 101 ∨ cmd = 114 then 6 else 1) δ) ∧ KpD 28 w w' ∧ sub (lgS vt tn B wl cmd num (if cmd = 101 ∨ cmd = 114 then 6 else 1) δ).1 δ.1) := by
  have hb : f_Count_letGo_H (nI cmd) num w = f_Count_letGo_H_b11 (nI cmd) num (tI (decide (cmd ≠ 120))) w := by
    unfold f_Count_letGo_H
    simp only [qe_120 (show cmd < 2147483648 by omega)]
    by_cases c : cmd = 120
    · rw [if_pos c, decide_eq_false (fun e => e c)]; rfl
    · rw [if_neg c, decide_eq_true c]; rfl
  have hb2 : f_Count_letGo_H_b11 (nI cmd) num (tI (decide (cmd ≠ 120))) w = f_Count_letGo_H_b30 (nI cmd) num (tI (decide (cmd ≠ 120))) (nI (if cmd = 101 ∨ cmd = 114 then 6 else 1)) w := by
    unfold f_Count_letGo_H_b11 f_Count_letGo_H_b24
    simp only [qe_101 (show cmd < 2147483648 by omega), qe_114 (show cmd < 2147483648 by omega)]
    by_cases c1 : cmd = 101
    · rw [if_pos c1, if_pos (Or.inl c1)]; rfl
    · rw [if_neg c1]
      by_cases c2 : cmd = 114
      · rw [if_pos c2, if_pos (Or.inr c2)]; rfl
      · rw [if_neg c2, if_neg (fun e => e.elim c1 c2)]; rfl
  rw [hb, hb2]
  generalize hN : (if cmd = 101 ∨ cmd = 114 then 6 else 1) = N
  have hN6 : N ≤ 6 := by rw [← hN]; split <;> omega
  unfold f_Count_letGo_H_b30
  rw [nmd_eq, h3]
  obtain ⟨r, e1, w', e2, g⟩ := f_go_H (vt := vt) (wl := wl) (num := num) (N := N) hB2 hcmd htn (by omega) N FU w δ (by omega) (by show _ < 100000; omega) hB hδ hw hv h3 hwl
  rw [Nat.sub_self] at e1
  exact ⟨w', by rw [show (0 : Int32) = nI 0 from rfl, e1]; exact e2, g⟩

/-! TALLIES of the reference; weights by hand -/
theorem f_weight_H {w : Wt} {rd : Nat → Nat → Nat} {ln : Nat → Nat} {l : List Nat} {S t : Nat} (hS : S < 64) (ht : t < 156) (hG : GA w l) (hB : BXc w rd ln l) (h31 : w 31 t = nI S) : f_HandCount_weightOf (nI t) w = some (nI (wtL rd ln S l)) := by
  have key : ∀ (rest pre : List Nat) fuel (s : Nat), l = pre ++ rest → rest.length < fuel → lp (f_HandCount_weightOf_L10 (nI t) w) fuel (nI s, nI pre.length) = some (nI (s + wtL rd ln S rest)) := by
    intro rest
    induction rest with
    | nil =>
      intro pre fuel s h1 h2
      obtain ⟨fuel, rfl⟩ : ∃ f, fuel = f + 1 := ⟨fuel - 1, by omega⟩
      have hl : l.length = pre.length := by rw [h1, List.append_nil]
      have h9 := hG.2.2
      have e1 : w 13 10 ≤ nI pre.length := by rw [hG.1, nl_le (by omega) (by omega)]; omega
      unfold lp
      simp only [f_HandCount_weightOf_L10, e1, ↓reduceIte] <;> rfl
    | cons b rest ih =>
      intro pre fuel s h1 h2
      obtain ⟨fuel, rfl⟩ : ∃ f, fuel = f + 1 := ⟨fuel - 1, by omega⟩
      rw [List.length_cons] at h2
      have hl : l.length = pre.length + (rest.length + 1) := by rw [h1, List.length_append, List.length_cons]
      have h9 := hG.2.2
      have e1 : ¬ w 13 10 ≤ nI pre.length := by rw [hG.1, nl_le (by omega) (by omega)]; omega
      have e2 : inb (nI pre.length) 100 = true := nl_in (by omega) (by omega)
      have e3 : (nI pre.length).toNatClampNeg = pre.length := nl_cl (by omega)
      have e4 : w 21 pre.length = nI b := hG.2.1 _ _ (by rw [h1, List.getElem?_append_right (Nat.le_refl _), Nat.sub_self]; rfl)
      have hbl : b ∈ l := by rw [h1]; exact List.mem_append_right _ List.mem_cons_self
      obtain ⟨b1, b2, b3, b4⟩ := hB b hbl
      obtain ⟨r, er, hx⟩ := f_gave b1 b2 hS ht b3 h31 b4 (ln b) 0 FU (by omega) (by show _ < 100000; omega)
      have hgb : f_HandCount_gaveSomething (nI b) (nI t) w = some (tI (anS S (rd b) (ln b) 0)) := by
        unfold f_HandCount_gaveSomething
        rw [show (0 : Int32) = nI 0 from rfl, er]; exact hx
      have := ih (pre ++ [b]) fuel (s + (if anS S (rd b) (ln b) 0 = true then 1 else 0)) (by rw [h1, List.append_assoc]; rfl) (by omega)
      rw [List.length_append] at this
      rw [wtL_c, ← Nat.add_assoc]
      unfold lp
      cases ha : anS S (rd b) (ln b) 0 with
      | false =>
        rw [ha] at hgb this
        simp only [f_HandCount_weightOf_L10, e1, e2, e3, e4, gd_t, hgb, bnd_eq, tI0, nI_1, ↓reduceIte]
        exact this
      | true =>
        rw [ha] at hgb this
        simp only [f_HandCount_weightOf_L10, e1, e2, e3, e4, gd_t, hgb, bnd_eq, tI0, nI_1, ↓reduceIte, Bool.true_eq_false]
        exact this
  have h0 : (0 : Int32) ≤ nI t := by rw [qb_0 (by omega)]; omega
  unfold f_HandCount_weightOf
  rw [if_pos h0, show ((0 : Int32), (0 : Int32)) = (nI 0, nI ([] : List Nat).length) from rfl, key l [] FU 0 rfl (by have := hG.2.2; show _ < 100000; omega), bnd_eq, Nat.zero_add]
  rfl
theorem rA_cong {m m' : Wt} (h17 : m' 17 = m 17) (h22 : m' 22 = m 22) (a b : Int32) : m_readAt a b m' = m_readAt a b m := by
  unfold m_readAt m_readAt_b20 m_readAt_b21
  rw [h17, h22]
def BXm (m : Wt) (rd : Nat → Nat → Nat) (ln : Nat → Nat) (bn : Nat) : Prop := bn ≤ 100 ∧ m 0 27 = nI bn ∧ ∀ b, b < bn → ln b ≤ 6 ∧ m 18 b = nI (ln b) ∧ ∀ p, p < ln b → rd b p < 6 ∧ m_readAt (nI b) (nI p) m = some (nI (rd b p))
theorem r_addB {rd : Nat → Nat} {b ln kd n S tn : Nat} (hb : b < 100) (hln : ln ≤ 6) (hkd : kd = 116 ∨ kd = 98 ∨ kd = 97) (hS : S < 64) (htn : tn < 156) : ∀ d p a fuel (m : Wt), p + d = ln → d < fuel → a ≤ p → m 18 b = nI ln → m 24 b = 1 → m 0 36 = nI S → (∀ p, p < ln → rd p < 6 ∧ m_readAt (nI b) (nI p) m = some (nI (rd p))) →
    Ok (lp (m_makesTally_L81 (nI kd) (nI (6 * tn)) (nI n) (nI b)) fuel (nI a, nI p, m)) (fun x => ∃ a', x.1 = nI a' ∧ a' ≤ a + d ∧ (0 < a' ↔ 0 < a ∨ anS S rd d p = true) ∧ (∀ c, c < 6 → x.2 25 (6 * tn + c) = m 25 (6 * tn + c) + giv kd n S c rd d p a) ∧ (∀ i, i ≠ 25 → x.2 i = m i) ∧ ∀ k, k < 6 * tn ∨ 6 * tn + 6 ≤ k → x.2 25 k = m 25 k) := by
  intro d
  have e4 : inb (nI b) 100 = true := nl_in (by omega) (by omega)
  have e5 : (nI b).toNatClampNeg = b := nl_cl (by omega)
  have hkd2 : kd < 2147483648 := by omega
  induction d with
  | zero =>
    intro p a fuel m h1 h2 h3 h6 h24 h7 h8
    obtain ⟨fuel, rfl⟩ : ∃ f, fuel = f + 1 := ⟨fuel - 1, by omega⟩
    have e1 : m 18 b ≤ nI p := by rw [h6, nl_le (by omega) (by omega)]; omega
    unfold lp
    refine ⟨(nI a, m), by simp only [m_makesTally_L81, e4, e5, gd_t, e1, ↓reduceIte] <;> rfl, a, rfl, by omega, ?_, fun c hc => ?_, fun i _ => rfl, fun k _ => rfl⟩
    · unfold anS; simp
    · unfold giv; rw [Int32.add_zero]
  | succ d ih =>
    intro p a fuel m h1 h2 h3 h6 h24 h7 h8
    obtain ⟨fuel, rfl⟩ : ∃ f, fuel = f + 1 := ⟨fuel - 1, by omega⟩
    have e1 : ¬ m 18 b ≤ nI p := by rw [h6, nl_le (by omega) (by omega)]; omega
    have e9 : ¬ (1 : Int32) = 0 := by decide
    obtain ⟨hr, hc⟩ := h8 p (by omega)
    unfold lp
    cases hh : hs S (rd p) with
    | false =>
      obtain ⟨x, er, a', g1, g2, g3, g4, g5, g6⟩ := ih (p + 1) a fuel m (by omega) (by omega) (by omega) h6 h24 h7 h8
      refine ⟨x, ?_, a', g1, by omega, ?_, fun c hc => ?_, g5, g6⟩
      · simp only [m_makesTally_L81, e4, e5, gd_t, e1, h24, e9, hc, bnd_eq, h7, zb_mhas S hS _ hr, hh, tI0, nI_1, ↓reduceIte]
        exact er
      · unfold anS; rw [hh, Bool.false_or]; exact g3
      · unfold giv; rw [hh, if_neg (by decide)]; exact g4 c hc
    | true =>
      have e6 : nI (6 * tn) + nI (rd p) = nI (6 * tn + rd p) := nI_add _ _
      have e7 : inb (nI (6 * tn + rd p)) 2400 = true := nl_in (by omega) (by omega)
      have e8 : (nI (6 * tn + rd p)).toNatClampNeg = 6 * tn + rd p := nl_cl (by omega)
      generalize hm1 : upd2 m 25 (6 * tn + rd p) (m 25 (6 * tn + rd p) + val kd n a) = m1
      have k1 : ∀ i, i ≠ 25 → m1 i = m i := fun i hi => by rw [← hm1, upd2_n hi]
      have k2 : ∀ c, c < 6 → m1 25 (6 * tn + c) = m 25 (6 * tn + c) + (if rd p = c then val kd n a else 0) := by
        intro c hc6
        rw [← hm1, upd2_at, if_pos rfl]
        by_cases c1 : rd p = c
        · rw [if_pos (by omega), if_pos c1, c1]
        · rw [if_neg (by omega), if_neg c1, Int32.add_zero]
      have k3 : ∀ k, k < 6 * tn ∨ 6 * tn + 6 ≤ k → m1 25 k = m 25 k := fun k hk => by rw [← hm1, upd2_at, if_pos rfl, if_neg (by omega)]
      have hc1 : ∀ q, q < ln → rd q < 6 ∧ m_readAt (nI b) (nI q) m1 = some (nI (rd q)) := fun q hq => ⟨(h8 q hq).1, by rw [rA_cong (k1 17 (by decide)) (k1 22 (by decide))]; exact (h8 q hq).2⟩
      obtain ⟨x, er, a', g1, g2, g3, g4, g5, g6⟩ := ih (p + 1) (a + 1) fuel m1 (by omega) (by omega) (by omega) (by rw [k1 18 (by decide)]; exact h6) (by rw [k1 24 (by decide)]; exact h24) (by rw [k1 0 (by decide)]; exact h7) hc1
      refine ⟨x, ?_, a', g1, by omega, ?_, fun c hc6 => ?_, fun i hi => (g5 i hi).trans (k1 i hi), fun k hk => (g6 k hk).trans (k3 k hk)⟩
      · simp only [m_makesTally_L81, e4, e5, gd_t, e1, h24, e9, hc, bnd_eq, h7, zb_mhas S hS _ hr, hh, tI0, nI_1, ↓reduceIte, Bool.true_eq_false, e6, e7, e8, nmd_eq, qe_98 hkd2, qe_97 hkd2, qe_0 (show a < 2147483648 by omega)]
        rw [← er, ← hm1]
        unfold val
        by_cases c2 : kd = 98
        · simp only [if_pos c2] <;> rfl
        · by_cases c3 : kd = 97
          · simp only [if_neg c2, if_pos c3] <;> rfl
          · by_cases c4 : a = 0
            · simp only [if_neg c2, if_neg c3, if_pos c4] <;> rfl
            · simp only [if_neg c2, if_neg c3, if_neg c4] <;> rfl
      · unfold anS; rw [hh, Bool.true_or]
        constructor
        · intro _; exact Or.inr rfl
        · intro _; exact g3.mpr (Or.inl (by omega))
      · unfold giv
        rw [g4 c hc6, k2 c hc6, hh, if_pos rfl, Int32.add_assoc]
theorem vtL_a (rd : Nat → Nat → Nat) (ln : Nat → Nat) (kd S c : Nat) : ∀ (l r : List Nat), vtL rd ln kd S c (l ++ r) = vtL rd ln kd S c l + vtL rd ln kd S c r := by
  intro l r
  induction l with
  | nil => show _ = 0 + _; rw [Int32.zero_add]; rfl
  | cons b l ih => rw [List.cons_append, vtL_c, vtL_c, ih, Int32.add_assoc]
theorem wtL_a (rd : Nat → Nat → Nat) (ln : Nat → Nat) (S : Nat) : ∀ (l r : List Nat), wtL rd ln S (l ++ r) = wtL rd ln S l + wtL rd ln S r := by
  intro l r
  induction l with
  | nil => show _ = 0 + _; rw [Nat.zero_add]; rfl
  | cons b l ih => rw [List.cons_append, wtL_c, wtL_c, ih, Nat.add_assoc]
theorem vtL_n {rd : Nat → Nat → Nat} {ln : Nat → Nat} {kd S c : Nat} (hc : hs S c = false) : ∀ l : List Nat, vtL rd ln kd S c l = 0 := by
  intro l
  induction l with
  | nil => rfl
  | cons b l ih => rw [vtL_c, ih, giv_n hc]; rfl
/-- who counts, as the reference marks it -/
def IN (m : Wt) (p : Nat → Bool) (bn : Nat) : Prop := ∀ k, k < bn → m 24 k = tI (p k)
def RRt (m : Wt) (rd : Nat → Nat → Nat) (ln : Nat → Nat) (l : List Nat) (tn : Nat) (kd sd : Nat → Nat) : Prop := m 0 32 = nI tn ∧ m 0 33 = nI (if tn = 0 then 0 else wtL rd ln (sd (tn - 1)) l) ∧ ∀ t, t < tn → ∀ c, c < 6 → m 25 (6 * t + c) = if hs (sd t) c = true then vtL rd ln (kd t) (sd t) c l else -1
theorem r_tally {m : Wt} {rd : Nat → Nat → Nat} {ln : Nat → Nat} {p : Nat → Bool} {bn tn k0 S : Nat} {kd sd : Nat → Nat} (hkd : k0 = 116 ∨ k0 = 98 ∨ k0 = 97) (hS : S < 64) (htn : tn < 156) (hM : RRt m rd ln (glS p bn 0) tn kd sd) (hI : IN m p bn) (hB : BXm m rd ln bn) (h5 : m 0 36 = nI S) :
    Ok (m_makesTally (nI k0) m) (fun m' => RRt m' rd ln (glS p bn 0) (tn + 1) (fup kd tn k0) (fup sd tn S) ∧ (∀ i, i ≠ 0 → i ≠ 25 → m' i = m i) ∧ ∀ j, j ≠ 32 → j ≠ 33 → m' 0 j = m 0 j) := by
  obtain ⟨h3, h33, hM⟩ := hM
  obtain ⟨hbn, h27, hB⟩ := hB
  have e6 : (6 : Int32) * nI tn = nI (6 * tn) := pk_mul 6 tn
  have hpc := zb_pc6 S hS
  unfold m_makesTally
  rw [h3, nmd_eq, e6, h5, zb_size S hS, bnd_eq]
  have key : Ok (lp (m_makesTally_L19 (nI k0) (nI (6 * tn)) (nI (pcN S))) FU ((0 : Int32), m)) (fun w1 => (∀ c, c < 6 → w1 25 (6 * tn + c) = if hs S c = true then 0 else -1) ∧ (∀ i, i ≠ 25 → w1 i = m i) ∧ ∀ k, k < 6 * tn ∨ 6 * tn + 6 ≤ k → w1 25 k = m 25 k) := by
    refine Ok.count 6 (fun k z => z.1 = nI k ∧ (∀ c, c < k → z.2 25 (6 * tn + c) = if hs S c = true then 0 else -1) ∧ (∀ i, i ≠ 25 → z.2 i = m i) ∧ ∀ k, k < 6 * tn ∨ 6 * tn + 6 ≤ k → z.2 25 k = m 25 k) (fun k z hk h => ?_) (fun z h => ?_) 6 FU 0 _ (by omega) (by show _ < 100000; omega) ⟨rfl, fun c hc => by omega, fun i _ => rfl, fun k _ => rfl⟩
    · obtain ⟨z1, z2⟩ := z
      obtain ⟨rfl, a1, a2, a3⟩ := h
      dsimp only at a1 a2 a3
      have d1 : ¬ (6 : Int32) ≤ nI k := by rw [qb_6 (by omega)]; omega
      have d2 : nI (6 * tn) + nI k = nI (6 * tn + k) := nI_add _ _
      have d3 : inb (nI (6 * tn + k)) 2400 = true := nl_in (by omega) (by omega)
      have d4 : (nI (6 * tn + k)).toNatClampNeg = 6 * tn + k := nl_cl (by omega)
      have d5 : z2 0 36 = nI S := by rw [a2 0 (by decide)]; exact h5
      refine Ok.eq (a := .inl (nI k + 1, upd2 z2 25 (6 * tn + k) (if hs S k = true then 0 else -1))) ?_ (And.intro (nI_1 k) ⟨fun c hc => ?_, fun i hi => ?_, fun k2 hk2 => ?_⟩)
      · cases hh : hs S k with
        | false => simp only [m_makesTally_L19, d1, d2, d3, d4, d5, gd_t, nmd_eq, zb_mhas S hS k hk, hh, bnd_eq, tI0, ↓reduceIte, Bool.false_eq_true]
        | true => simp only [m_makesTally_L19, d1, d2, d3, d4, d5, gd_t, nmd_eq, zb_mhas S hS k hk, hh, bnd_eq, tI0, ↓reduceIte, Bool.true_eq_false]
      · dsimp only; rw [upd2_at, if_pos rfl]
        by_cases g : c = k
        · rw [if_pos (by omega), g]
        · rw [if_neg (by omega)]; exact a1 c (by omega)
      · dsimp only; rw [upd2_n hi]; exact a2 i hi
      · dsimp only; rw [upd2_at, if_pos rfl, if_neg (by omega)]; exact a3 k2 hk2
    · obtain ⟨z1, z2⟩ := z
      obtain ⟨rfl, a1, a2, a3⟩ := h
      have d1 : (6 : Int32) ≤ nI 6 := by decide
      exact Ok.eq (a := .inr z2) (by simp only [m_makesTally_L19, d1, ↓reduceIte]) ⟨a1, a2, a3⟩
  obtain ⟨w1, ew1, a1, a2, a3⟩ := key
  rw [ew1, bnd_eq]
  show Ok (Option.bind (lp (m_makesTally_L66 (nI k0) (nI (6 * tn)) (nI (pcN S))) FU ((0 : Int32), upd2 w1 0 33 (0 : Int32))) m_makesTally_x66) _
  have key2 : Ok (lp (m_makesTally_L66 (nI k0) (nI (6 * tn)) (nI (pcN S))) FU ((0 : Int32), upd2 w1 0 33 (0 : Int32))) (fun w2 => (∀ c, c < 6 → w2 25 (6 * tn + c) = w1 25 (6 * tn + c) + vtL rd ln k0 S c (glS p bn 0)) ∧ w2 0 33 = nI (wtL rd ln S (glS p bn 0)) ∧ (∀ i, i ≠ 0 → i ≠ 25 → w2 i = m i) ∧ (∀ j, j ≠ 33 → w2 0 j = m 0 j) ∧ ∀ k, k < 6 * tn ∨ 6 * tn + 6 ≤ k → w2 25 k = m 25 k) := by
    refine Ok.count bn (fun k z => z.1 = nI k ∧ (∀ c, c < 6 → z.2 25 (6 * tn + c) = w1 25 (6 * tn + c) + vtL rd ln k0 S c (glS p k 0)) ∧ z.2 0 33 = nI (wtL rd ln S (glS p k 0)) ∧ (∀ i, i ≠ 0 → i ≠ 25 → z.2 i = m i) ∧ (∀ j, j ≠ 33 → z.2 0 j = m 0 j) ∧ ∀ k, k < 6 * tn ∨ 6 * tn + 6 ≤ k → z.2 25 k = m 25 k) (fun k z hk h => ?_) (fun z h => ?_) bn FU 0 _ (by omega) (by show _ < 100000; omega) ⟨rfl, fun c hc => ?_, ?_, fun i g1 g2 => ?_, fun j hj => ?_, fun k hk => ?_⟩
    · obtain ⟨z1, z2⟩ := z
      obtain ⟨rfl, b1, b2, b3, b4, b5⟩ := h
      dsimp only at b1 b2 b3 b4 b5
      obtain ⟨c1, c2, c3⟩ := hB k hk
      have d1 : ¬ z2 0 27 ≤ nI k := by rw [b4 27 (by decide), h27, nl_le (by omega) (by omega)]; omega
      have e4 : inb (nI k) 100 = true := nl_in (by omega) (by omega)
      have e5 : (nI k).toNatClampNeg = k := nl_cl (by omega)
      have h18 : z2 18 k = nI (ln k) := by rw [b3 18 (by decide) (by decide)]; exact c2
      have h24 : z2 24 k = tI (p k) := by rw [b3 24 (by decide) (by decide)]; exact hI k hk
      have hrd : ∀ q, q < ln k → rd k q < 6 ∧ m_readAt (nI k) (nI q) z2 = some (nI (rd k q)) := fun q hq => ⟨(c3 q hq).1, by rw [rA_cong (b3 17 (by decide) (by decide)) (b3 22 (by decide) (by decide))]; exact (c3 q hq).2⟩
      cases hp : p k with
      | false =>
        have hin : lp (m_makesTally_L81 (nI k0) (nI (6 * tn)) (nI (pcN S)) (nI k)) FU ((0 : Int32), (0 : Int32), z2) = some ((0 : Int32), z2) := by
          rw [hp] at h24
          show lp _ (99999 + 1) _ = _
          unfold lp
          by_cases g : z2 18 k ≤ (0 : Int32)
          · simp only [m_makesTally_L81, e4, e5, gd_t, g, ↓reduceIte] <;> rfl
          · simp only [m_makesTally_L81, e4, e5, gd_t, g, h24, tI_f, ↓reduceIte] <;> rfl
        refine Ok.eq (a := .inl (nI k + 1, upd2 z2 0 33 (z2 0 33 + 0))) ?_ ?_
        · simp only [m_makesTally_L66, d1, ↓reduceIte, hin, bnd_eq]
          rfl
        · refine And.intro (nI_1 k) ?_
          dsimp only
          rw [glS_snoc, Nat.zero_add, hp, if_neg (by decide), List.append_nil]
          refine ⟨fun c hc => ?_, ?_, fun i g1 g2 => ?_, fun j hj => ?_, fun k2 hk2 => ?_⟩
          · rw [upd2_n (by decide)]; exact b1 c hc
          · rw [upd2_at, if_pos rfl, if_pos rfl, Int32.add_zero]; exact b2
          · rw [upd2_n g1]; exact b3 i g1 g2
          · rw [upd2_at, if_pos rfl, if_neg hj]; exact b4 j hj
          · rw [upd2_n (by decide)]; exact b5 k2 hk2
      | true =>
        rw [hp] at h24
        obtain ⟨⟨x1, x2⟩, ex, a', f1, f2, f3, f4, f5, f6⟩ := r_addB (n := pcN S) (rd := rd k) (show k < 100 by omega) c1 hkd hS htn (ln k) 0 0 FU z2 (by omega) (by show _ < 100000; omega) (by omega) h18 h24 (by rw [b4 36 (by decide)]; exact h5) hrd
        dsimp only at f1 f4 f5 f6
        subst f1
        refine Ok.eq (a := .inl (nI k + 1, upd2 x2 0 33 (nI (wtL rd ln S (glS p (k + 1) 0))))) ?_ ?_
        · simp only [m_makesTally_L66, d1, ↓reduceIte]
          rw [show ((0 : Int32), (0 : Int32), z2) = (nI 0, nI 0, z2) from rfl, ex, bnd_eq]
          unfold m_makesTally_x81
          dsimp only
          unfold m_makesTally_b175
          simp only [qa_0 (show a' < 2147483648 by omega), nmd_eq, f5 0 (by decide), b2]
          rw [glS_snoc, Nat.zero_add, hp, if_pos rfl, wtL_a, wtL_c]
          by_cases g : a' ≤ 0
          · have g2 : ¬ anS S (rd k) (ln k) 0 = true := fun e => by have := f3.mpr (Or.inr e); omega
            rw [if_pos g, if_neg g2]
            have : nI (wtL rd ln S (glS p k 0)) + (0 : Int32) = nI (wtL rd ln S (glS p k 0) + (0 + wtL rd ln S [])) := nI_add _ 0
            rw [this]
          · have g2 : anS S (rd k) (ln k) 0 = true := by
              rcases f3.mp (by omega) with g3 | g3
              · omega
              · exact g3
            rw [if_neg g, if_pos g2]
            have : nI (wtL rd ln S (glS p k 0)) + (1 : Int32) = nI (wtL rd ln S (glS p k 0) + (1 + wtL rd ln S [])) := nI_add _ 1
            rw [this]
        · refine And.intro (nI_1 k) ?_
          dsimp only
          refine ⟨fun c hc => ?_, ?_, fun i g1 g2 => ?_, fun j hj => ?_, fun k2 hk2 => ?_⟩
          · rw [upd2_n (by decide), f4 c hc, b1 c hc, glS_snoc, Nat.zero_add, hp, if_pos rfl, vtL_a, vtL_c, Int32.add_assoc]
            congr 2
            show _ = _ + (0 : Int32)
            rw [Int32.add_zero]
          · rw [upd2_at, if_pos rfl, if_pos rfl]
          · rw [upd2_n g1, f5 i g2]; exact b3 i g1 g2
          · rw [upd2_at, if_pos rfl, if_neg hj, f5 0 (by decide)]; exact b4 j hj
          · rw [upd2_n (by decide), f6 k2 hk2]; exact b5 k2 hk2
    · obtain ⟨z1, z2⟩ := z
      obtain ⟨rfl, b1, b2, b3, b4, b5⟩ := h
      dsimp only at b1 b2 b3 b4 b5
      have d1 : z2 0 27 ≤ nI bn := by rw [b4 27 (by decide), h27, nl_le (by omega) (by omega)]; omega
      exact Ok.eq (a := .inr z2) (by simp only [m_makesTally_L66, d1, ↓reduceIte]) ⟨b1, b2, b3, b4, b5⟩
    · dsimp only; rw [upd2_n (by decide)]
      show _ = _ + (0 : Int32)
      rw [Int32.add_zero]
    · dsimp only; rw [upd2_at, if_pos rfl, if_pos rfl]; rfl
    · dsimp only; rw [upd2_n g1]; exact a2 i g2
    · dsimp only; rw [upd2_at, if_pos rfl, if_neg hj, a2 0 (by decide)]
    · dsimp only; rw [upd2_n (by decide)]; exact a3 k hk
  obtain ⟨w2, ew2, b1, b2, b3, b4, b5⟩ := key2
  rw [ew2, bnd_eq]
  refine ⟨upd2 w2 0 32 (nI (tn + 1)), ?_, ⟨?_, ?_, fun t ht c hc => ?_⟩, fun i g1 g2 => ?_, fun j g1 g2 => ?_⟩
  · show some (upd2 w2 0 32 (w2 0 32 + 1)) = _
    rw [b4 32 (by decide), h3, nI_1]
  · rw [upd2_at, if_pos rfl, if_pos rfl]
  · rw [upd2_at, if_pos rfl, if_neg (by decide), b2, if_neg (by omega), Nat.add_sub_cancel]
    unfold fup
    rw [if_pos rfl]
  · rw [upd2_n (by decide)]
    unfold fup
    by_cases g : t = tn
    · rw [if_pos g, if_pos g, g, b1 c hc, a1 c hc]
      by_cases g2 : hs S c = true
      · rw [if_pos g2, if_pos g2, Int32.zero_add]
      · rw [if_neg g2, if_neg g2, vtL_n (by simpa using g2), Int32.add_zero]
    · rw [if_neg g, if_neg g, b5 _ (by omega)]; exact hM t (by omega) c hc
  · rw [upd2_n g1]; exact b3 i g1 g2
  · rw [upd2_at, if_pos rfl, if_neg g1]; exact b4 j g2

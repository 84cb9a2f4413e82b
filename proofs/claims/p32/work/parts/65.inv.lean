/-! WHAT THE TWO SIDES SHARE; a vote's count: machine, hand, reference -/
def InA (w m : Wt) : Prop := ∃ td, td ≤ 1000 ∧ w 0 8 = nI td ∧ m 0 0 = nI td
def InC (w m : Wt) : Prop := ∃ n, n ≤ 24 ∧ w 7 1 = nI n ∧ m 0 8 = nI n ∧ w 8 = m 6 ∧ ∀ k, ∃ x, x < 65536 ∧ m 6 k = nI x
def InR (w m : Wt) (r : Nat) : Prop := ∃ (T : Nat → Nat) (len : Nat), (len ≤ 24 ∧ WF T len ∧ ∀ k, k < len → T k < 65536) ∧ RuC w r T len ∧ RuM m r T len
def InD (w m : Wt) (rn : Nat) : Prop := rn ≤ 8 ∧ w 0 9 = nI rn ∧ m 0 11 = nI rn ∧ ∀ r, r < rn → InR w m r
def InV (w m : Wt) (t v : Nat) : Prop := (w (64 + v) 0 = m 9 v ∧ w (64 + v) 1 = m 10 v ∧ w (64 + v) 2 = m 11 v ∧ w (64 + v) 3 = m 12 v) ∧ (w (64 + v) 4 = m 13 v ∧ w (64 + v) 5 = m 15 v ∧ w (64 + v) 6 = m 16 v) ∧ ∃ d, d ≤ 20 * t ∧ m 15 v = nI d
def InW (w m : Wt) (rn v : Nat) : Prop := ∃ c s r, (2 ≤ c ∧ c ≤ 6 ∧ 1 ≤ s ∧ s < c ∧ r < rn) ∧ (m 10 v = nI c ∧ m 11 v = nI s ∧ m 12 v = nI r) ∧ w (64 + v) 7 = m 14 v ∧ (m 14 v = -1 ∨ ∃ e, e < 64 ∧ m 14 v = nI e)
def InE (w m : Wt) (t rn vn : Nat) : Prop := (vn ≤ 8 ∧ w 0 10 = nI vn ∧ m 0 20 = nI vn) ∧ (∀ v, v < 8 → InV w m t v) ∧ (∀ v, v < vn → InW w m rn v) ∧ ∀ v, vn ≤ v → v < 8 → w (64 + v) 7 = -1
def InB (m : Wt) (vn b : Nat) : Prop := ∃ v n, (v < vn ∧ m 19 b = nI v) ∧ (1 ≤ n ∧ n ≤ 6 ∧ m 18 b = nI n) ∧ (∀ p, p < n → ∃ c, c < 6 ∧ m 17 (6 * b + p) = nI c) ∧ (∀ p q, p < n → q < n → p ≠ q → m 17 (6 * b + p) ≠ m 17 (6 * b + q)) ∧ (m 22 b = 0 ∨ (m 22 b = 1 ∧ 2 ≤ n))
def InF (w m : Wt) (vn bn : Nat) : Prop := (w 18 = m 18 ∧ w 19 = m 17 ∧ w 20 = m 22) ∧ (∀ b, b < bn → InB m vn b) ∧ ∀ b, bn ≤ b → m 22 b = 0
def InG (w m : Wt) : Prop := ∃ k, k ≤ 6 ∧ w 11 1 = nI k ∧ m 0 29 = nI k ∧ w 12 = m 23 ∧ (∀ p, p < k → ∃ c, c < 6 ∧ m 23 p = nI c) ∧ ∀ p q, p < k → q < k → p ≠ q → m 23 p ≠ m 23 q
def Inv (t : Nat) (w m : Wt) : Prop := InA w m ∧ InC w m ∧ InG w m ∧ ∃ nE bn rn vn, Core w m nE bn ∧ (∀ k, nE ≤ k → m 5 k = 0) ∧ InD w m rn ∧ InE w m t rn vn ∧ InF w m vn bn
/-- what a count writes of the reference's world -/
def scM (i k : Nat) : Bool := decide (24 ≤ i) || (decide (i = 0) && decide (32 ≤ k))
def kpW (m m' : Wt) : Prop := ∀ i k, scM i k = false → m' i k = m i k
theorem kpW.rfl' {m : Wt} : kpW m m := fun _ _ _ => rfl
theorem kpW.tr {a b c : Wt} (h : kpW a b) (g : kpW b c) : kpW a c := fun i k e => (g i k e).trans (h i k e)
theorem kpW.up {m : Wt} {i k : Nat} {v : Int32} (h : scM i k = true) : kpW m (upd2 m i k v) := fun a b e => by
  rw [upd2_at]
  by_cases c1 : a = i
  · by_cases c2 : b = k
    · subst c1; subst c2; rw [h] at e; cases e
    · rw [if_pos c1, if_neg c2]
  · rw [if_neg c1]
theorem kpW.fn {m m' : Wt} (h : kpW m m') {i : Nat} (h0 : i ≠ 0) (h1 : i < 24) : m' i = m i := funext fun k => h i k (by unfold scM; rw [decide_eq_false (show ¬ 24 ≤ i by omega), decide_eq_false h0]; rfl)
theorem kpW.z {m m' : Wt} (h : kpW m m') {k : Nat} (h1 : k < 32) : m' 0 k = m 0 k := h 0 k (by unfold scM; rw [decide_eq_false (show ¬ 32 ≤ k by omega)]; rfl)
theorem kpC.v {w w' : Wt} (h : kpC w w') {i : Nat} (k : Nat) (hi : (i ≠ 13 ∧ i < 21) ∨ (32 ≤ i ∧ i < 64)) : w' i k = w i k := h i k (by unfold scC; rw [decide_eq_false (show ¬ i = 13 by omega), decide_eq_false (show ¬ 64 ≤ i by omega)]; rcases hi with g | g; rw [decide_eq_false (show ¬ 21 ≤ i by omega)]; rfl; rw [decide_eq_false (show ¬ i < 32 by omega), Bool.and_false]; rfl)
theorem kpC.o {w w' : Wt} (h : kpC w w') {v k : Nat} (hk : k ≠ 8) : w' (64 + v) k = w (64 + v) k := h (64 + v) k (by unfold scC; rw [decide_eq_false (show ¬ 64 + v = 13 by omega), decide_eq_false (show ¬ 64 + v < 32 by omega), decide_eq_false hk, Bool.and_false, Bool.and_false]; rfl)
theorem kpC.f {w w' : Wt} (h : kpC w w') {i : Nat} (hi : (i ≠ 13 ∧ i < 21) ∨ (32 ≤ i ∧ i < 64)) : w' i = w i := funext fun k => h.v k hi
theorem Core.kpm {w m m' : Wt} {nE bn : Nat} (h : Core w m nE bn) (k : kpW m m') : Core w m' nE bn := by
  obtain ⟨⟨a1, a2, a3⟩, ⟨b1, b2, b3⟩, ⟨c1, c2, c3, c4, c5⟩, ⟨d1, d2, d3⟩, e1⟩ := h
  refine ⟨⟨a1, a2, ?_⟩, ⟨b1, b2, ?_⟩, ⟨?_, ?_, ?_, ?_, ?_⟩, ⟨?_, ?_, ?_⟩, ?_⟩
  · rw [k.z (by decide)]; exact a3
  · rw [k.z (by decide)]; exact b3
  · rw [k.fn (i := 1) (by decide) (by decide)]; exact c1
  · rw [k.fn (i := 2) (by decide) (by decide)]; exact c2
  · rw [k.fn (i := 3) (by decide) (by decide)]; exact c3
  · rw [k.fn (i := 4) (by decide) (by decide)]; exact c4
  · rw [k.fn (i := 5) (by decide) (by decide)]; exact c5
  · rw [k.fn (i := 19) (by decide) (by decide)]; exact d1
  · rw [k.fn (i := 20) (by decide) (by decide)]; exact d2
  · rw [k.fn (i := 21) (by decide) (by decide)]; exact d3
  · intro b hb
    rw [k.fn (i := 9) (by decide) (by decide), k.fn (i := 19) (by decide) (by decide)]
    exact e1 b hb
theorem InR.kp {w w' m m' : Wt} {r : Nat} (h : InR w m r) (hr : r < 8) (k : kpC w w') (g : kpW m m') : InR w' m' r := by
  obtain ⟨T, len, h1, ⟨⟨a1, a2, a3⟩, a4, a5, a6, a7⟩, b1, b2⟩ := h
  refine ⟨T, len, h1, ⟨⟨?_, ?_, ?_⟩, fun j hj => ?_, fun j hj hs => ?_, fun j hj hs => ?_, fun j hj hs => ?_⟩, ?_, fun j hj => ?_⟩
  · rw [k.v _ (by omega)]; exact a1
  · rw [k.v _ (by omega)]; exact a2
  · rw [k.v _ (by omega)]; exact a3
  · rw [k.v _ (by omega)]; exact a4 j hj
  · rw [k.v _ (by omega)]; exact a5 j hj hs
  · rw [k.v _ (by omega)]; exact a6 j hj hs
  · rw [k.v _ (by omega)]; exact a7 j hj hs
  · rw [g.fn (i := 8) (by decide) (by decide)]; exact b1
  · rw [g.fn (i := 7) (by decide) (by decide)]; exact b2 j hj
theorem InV.kp {w w' m m' : Wt} {t v : Nat} (h : InV w m t v) (k : kpC w w') (g : kpW m m') : InV w' m' t v := by
  obtain ⟨⟨a1, a2, a3, a4⟩, ⟨b1, b2, b3⟩, c1⟩ := h
  refine ⟨⟨?_, ?_, ?_, ?_⟩, ⟨?_, ?_, ?_⟩, ?_⟩
  · rw [k.o (by decide), g.fn (i := 9) (by decide) (by decide)]; exact a1
  · rw [k.o (by decide), g.fn (i := 10) (by decide) (by decide)]; exact a2
  · rw [k.o (by decide), g.fn (i := 11) (by decide) (by decide)]; exact a3
  · rw [k.o (by decide), g.fn (i := 12) (by decide) (by decide)]; exact a4
  · rw [k.o (by decide), g.fn (i := 13) (by decide) (by decide)]; exact b1
  · rw [k.o (by decide), g.fn (i := 15) (by decide) (by decide)]; exact b2
  · rw [k.o (by decide), g.fn (i := 16) (by decide) (by decide)]; exact b3
  · rw [g.fn (i := 15) (by decide) (by decide)]; exact c1
theorem InW.kp {w w' m m' : Wt} {rn v : Nat} (h : InW w m rn v) (k : kpC w w') (g : kpW m m') : InW w' m' rn v := by
  obtain ⟨c, s, r, h1, ⟨a1, a2, a3⟩, a4, a5⟩ := h
  refine ⟨c, s, r, h1, ⟨?_, ?_, ?_⟩, ?_, ?_⟩
  · rw [g.fn (i := 10) (by decide) (by decide)]; exact a1
  · rw [g.fn (i := 11) (by decide) (by decide)]; exact a2
  · rw [g.fn (i := 12) (by decide) (by decide)]; exact a3
  · rw [k.o (by decide), g.fn (i := 14) (by decide) (by decide)]; exact a4
  · rw [g.fn (i := 14) (by decide) (by decide)]; exact a5
theorem InB.kp {m m' : Wt} {vn b : Nat} (h : InB m vn b) (g : kpW m m') : InB m' vn b := by
  unfold InB
  rw [g.fn (i := 19) (by decide) (by decide), g.fn (i := 18) (by decide) (by decide), g.fn (i := 17) (by decide) (by decide), g.fn (i := 22) (by decide) (by decide)]
  exact h
theorem InA.kp {w w' m m' : Wt} (h : InA w m) (k : kpC w w') (g : kpW m m') : InA w' m' := by
  unfold InA
  rw [k.v _ (by omega), g.z (by decide)]; exact h
theorem InC.kp {w w' m m' : Wt} (h : InC w m) (k : kpC w w') (g : kpW m m') : InC w' m' := by
  unfold InC
  rw [k.v _ (by omega), k.f (by omega), g.z (by decide), g.fn (i := 6) (by decide) (by decide)]; exact h
theorem InG.kp {w w' m m' : Wt} (h : InG w m) (k : kpC w w') (g : kpW m m') : InG w' m' := by
  unfold InG
  rw [k.v _ (by omega), k.f (by omega), g.z (by decide), g.fn (i := 23) (by decide) (by decide)]; exact h
theorem InD.kp {w w' m m' : Wt} {rn : Nat} (h : InD w m rn) (k : kpC w w') (g : kpW m m') : InD w' m' rn := by
  obtain ⟨h1, h2, h3, h4⟩ := h
  exact ⟨h1, by rw [k.v _ (by omega)]; exact h2, by rw [g.z (by decide)]; exact h3, fun r hr => (h4 r hr).kp (by omega) k g⟩
theorem InE.kp {w w' m m' : Wt} {t rn vn : Nat} (h : InE w m t rn vn) (k : kpC w w') (g : kpW m m') : InE w' m' t rn vn := by
  obtain ⟨⟨h1, h2, h3⟩, h4, h5, h6⟩ := h
  exact ⟨⟨h1, by rw [k.v _ (by omega)]; exact h2, by rw [g.z (by decide)]; exact h3⟩, fun v hv => (h4 v hv).kp k g, fun v hv => (h5 v hv).kp k g, fun v h7 h8 => by rw [k.o (by decide)]; exact h6 v h7 h8⟩
theorem InF.kp {w w' m m' : Wt} {vn bn : Nat} (h : InF w m vn bn) (k : kpC w w') (g : kpW m m') : InF w' m' vn bn := by
  obtain ⟨⟨h1, h2, h3⟩, h4, h5⟩ := h
  exact ⟨⟨by rw [k.f (by omega), g.fn (i := 18) (by decide) (by decide)]; exact h1, by rw [k.f (by omega), g.fn (i := 17) (by decide) (by decide)]; exact h2, by rw [k.f (by omega), g.fn (i := 22) (by decide) (by decide)]; exact h3⟩, fun b hb => (h4 b hb).kp g, fun b hb => by rw [g.fn (i := 22) (by decide) (by decide)]; exact h5 b hb⟩
theorem Inv.kp {w w' m m' : Wt} {t : Nat} (h : Inv t w m) (k : kpC w w') (g : kpW m m') : Inv t w' m' := by
  obtain ⟨a, c, e, nE, bn, rn, vn, h1, h2, h3, h4, h5⟩ := h
  exact ⟨a.kp k g, c.kp k g, e.kp k g, nE, bn, rn, vn, (h1.kp k).kpm g, fun j hj => by rw [g.fn (i := 5) (by decide) (by decide)]; exact h2 j hj, h3.kp k g, h4.kp k g, h5.kp k g⟩
theorem Inv.up {w m : Wt} {t t' : Nat} (h : Inv t w m) (ht : t ≤ t') : Inv t' w m := by
  obtain ⟨a, c, e, nE, bn, rn, vn, h1, h2, h3, ⟨h4, h5, h6, h7⟩, h8⟩ := h
  refine ⟨a, c, e, nE, bn, rn, vn, h1, h2, h3, ⟨h4, fun v hv => ?_, h6, h7⟩, h8⟩
  obtain ⟨q1, q2, d, q3, q4⟩ := h5 v hv
  exact ⟨q1, q2, d, by omega, q4⟩
/-! how a ballot is read -/
def lnF (m : Wt) (b : Nat) : Nat := (m 18 b).toNatClampNeg
def rdF (m : Wt) (b p : Nat) : Nat := (m 17 (6 * b + (if m 22 b ≠ 0 ∧ p < 2 then 1 - p else p))).toNatClampNeg
theorem InB.ln {m : Wt} {vn b : Nat} (h : InB m vn b) : 1 ≤ lnF m b ∧ lnF m b ≤ 6 ∧ m 18 b = nI (lnF m b) := by
  obtain ⟨v, n, h1, ⟨h2, h3, h4⟩, -⟩ := h
  unfold lnF
  rw [h4, nl_cl (by omega)]
  exact ⟨h2, h3, rfl⟩
theorem InB.rd {m : Wt} {vn b p : Nat} (h : InB m vn b) (hp : p < lnF m b) : ∃ q, q < lnF m b ∧ q = (if m 22 b ≠ 0 ∧ p < 2 then 1 - p else p) ∧ rdF m b p < 6 ∧ m 17 (6 * b + q) = nI (rdF m b p) := by
  have hl := h.ln
  obtain ⟨v, n, h1, ⟨h2, h3, h4⟩, h5, h6, h7⟩ := h
  have hn : n = lnF m b := by unfold lnF; rw [h4, nl_cl (by omega)]
  subst hn
  have hq : (if m 22 b ≠ 0 ∧ p < 2 then 1 - p else p) < lnF m b := by
    by_cases c : m 22 b ≠ 0 ∧ p < 2
    · rw [if_pos c]
      rcases h7 with g | ⟨g1, g2⟩
      · exact absurd g c.1
      · omega
    · rw [if_neg c]; exact hp
  refine ⟨_, hq, rfl, ?_⟩
  obtain ⟨c, hc, e⟩ := h5 _ hq
  unfold rdF
  rw [e, nl_cl (by omega)]
  exact ⟨hc, rfl⟩
theorem read_C {w m : Wt} {vn bn b p : Nat} (h : InF w m vn bn) (hbn : bn ≤ 100) (hb : b < bn) (hp : p < lnF m b) : f_Box_candidateAt (nI b) (nI p) w = some (nI (rdF m b p)) := by
  have hB := h.2.1 b hb
  obtain ⟨q, hq, hq2, hr, hr2⟩ := hB.rd hp
  obtain ⟨l1, l2, l3⟩ := hB.ln
  have e1 : inb (nI b) 100 = true := nl_in (by omega) (by omega)
  have e2 : (nI b).toNatClampNeg = b := nl_cl (by omega)
  have e3 : nI p < w 18 b := by rw [h.1.1, l3, nl_lt (by omega) (by omega)]; exact hp
  have e4 : nI b * (6 : Int32) = nI (b * 6) := pk_mul b 6
  have hrow : ∀ k, k < 6 → f_Box_candidateAt_b33 (nI b) (nI k) w = some (m 17 (6 * b + k)) := by
    intro k hk
    unfold f_Box_candidateAt_b33
    rw [e4, nI_add, nl_in (show b * 6 + k < 600 by omega) (by omega), gd_t, nl_cl (by omega), h.1.2.1, Nat.mul_comm b 6]
  unfold f_Box_candidateAt f_Box_candidateAt_b32
  rw [e1, gd_t, e2, if_pos e3, gd_t, h.1.2.2]
  simp only [qb_2 (show p < 2147483648 by omega)]
  by_cases c1 : m 22 b = 0
  · rw [if_pos c1, hrow p (by omega), ← hr2, hq2, if_neg (fun g => g.1 c1)]
  · rw [if_neg c1]
    by_cases c2 : 2 ≤ p
    · rw [if_pos c2, hrow p (by omega), ← hr2, hq2, if_neg (fun g => by omega)]
    · have e5 : (1 : Int32) - nI p = nI (1 - p) := pk_sub (a := 1) (by omega)
      rw [if_neg c2, e5, hrow (1 - p) (by omega), ← hr2, hq2, if_pos ⟨c1, by omega⟩]
theorem read_M {w m : Wt} {vn bn b p : Nat} (h : InF w m vn bn) (hbn : bn ≤ 100) (hb : b < bn) (hp : p < lnF m b) : m_readAt (nI b) (nI p) m = some (nI (rdF m b p)) := by
  have hB := h.2.1 b hb
  obtain ⟨q, hq, hq2, hr, hr2⟩ := hB.rd hp
  obtain ⟨l1, l2, l3⟩ := hB.ln
  have e1 : inb (nI b) 100 = true := nl_in (by omega) (by omega)
  have e2 : (nI b).toNatClampNeg = b := nl_cl (by omega)
  have e4 : (6 : Int32) * nI b = nI (6 * b) := pk_mul 6 b
  have hrow : ∀ k, k < 6 → m_readAt_b21 (nI b) (nI k) m = some (m 17 (6 * b + k)) := by
    intro k hk
    unfold m_readAt_b21
    rw [e4, nI_add, nl_in (show 6 * b + k < 600 by omega) (by omega), gd_t, nl_cl (by omega)]
  unfold m_readAt m_readAt_b20
  rw [e1, gd_t, e2]
  simp only [qb_2 (show p < 2147483648 by omega)]
  by_cases c1 : m 22 b = 0
  · rw [if_pos c1, hrow p (by omega), ← hr2, hq2, if_neg (fun g => g.1 c1)]
  · rw [if_neg c1]
    by_cases c2 : 2 ≤ p
    · rw [if_pos c2, hrow p (by omega), ← hr2, hq2, if_neg (fun g => by omega)]
    · have e5 : (1 : Int32) - nI p = nI (1 - p) := pk_sub (a := 1) (by omega)
      rw [if_neg c2, e5, hrow (1 - p) (by omega), ← hr2, hq2, if_pos ⟨c1, by omega⟩]
theorem read_nod {m : Wt} {vn b : Nat} (h : InB m vn b) : ∀ p q, p < lnF m b → q < lnF m b → p ≠ q → rdF m b p ≠ rdF m b q := by
  intro p q hp hq hne e
  obtain ⟨p', hp', hp2, hp3, hp4⟩ := h.rd hp
  obtain ⟨q', hq', hq2, hq3, hq4⟩ := h.rd hq
  have hl := h.ln
  obtain ⟨v, n, h1, ⟨h2, h3, h4⟩, h5, h6, h7⟩ := h
  have hn : n = lnF m b := by unfold lnF; rw [h4, nl_cl (by omega)]
  subst hn
  have hne2 : p' ≠ q' := by
    rw [hp2, hq2]
    by_cases c1 : m 22 b ≠ 0
    · by_cases c2 : p < 2 <;> by_cases c3 : q < 2
      · rw [if_pos ⟨c1, c2⟩, if_pos ⟨c1, c3⟩]; omega
      · rw [if_pos ⟨c1, c2⟩, if_neg (fun g => c3 g.2)]; omega
      · rw [if_neg (fun g => c2 g.2), if_pos ⟨c1, c3⟩]; omega
      · rw [if_neg (fun g => c2 g.2), if_neg (fun g => c3 g.2)]; exact hne
    · rw [if_neg (fun g => c1 g.1), if_neg (fun g => c1 g.1)]; exact hne
  exact h6 p' q' hp' hq' hne2 (by rw [hp4, hq4, e])

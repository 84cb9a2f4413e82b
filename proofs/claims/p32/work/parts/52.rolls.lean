/-! ROLLS AND BALLOTS: who is allowed, which ballots count: both sides alike -/
def enC (w : Wt) (a b d : Int32) (k : Nat) : Bool := decide (w 6 k = 0) && (decide (w 2 k = a) && (decide (w 3 k = b) && wthn d (w 4 k) (w 5 k)))
def enM (m : Wt) (a b d : Int32) (k : Nat) : Bool := decide (m 5 k = 0) && (decide (m 1 k = a) && (decide (m 2 k = b) && wthn d (m 3 k) (m 4 k)))
theorem f_allows {w : Wt} {n : Nat} (hn : n ≤ 60) (hw : w 1 5 = nI n) (a b d : Int32) : f_Rolls_allows a b d w = some (tI (anyB (enC w a b d) n)) := by
  have key : Ok (lp (f_Rolls_allows_L3 a b d w) FU (0 : Int32)) (fun r => f_Rolls_allows_x3 w r = some (tI (anyB (enC w a b d) n))) := by
    refine Ok.count n (fun k s => s = nI k ∧ anyB (enC w a b d) k = false) (fun k s hk h => ?_) (fun s h => ?_) n FU 0 _ (by omega) (by show n < 100000; omega) ⟨rfl, rfl⟩
    · obtain ⟨rfl, ha⟩ := h
      have e1 : ¬ w 1 5 ≤ nI k := by rw [hw, nl_le (by omega) (by omega)]; omega
      have e2 : inb (nI k) 60 = true := nl_in (by omega) (by omega)
      have e3 : (nI k).toNatClampNeg = k := nl_cl (by omega)
      have body : f_Rolls_allows_L3 a b d w (nI k) = some (if enC w a b d k then .inr (.inr 1) else .inl (nI k + 1)) := by
        by_cases c1 : w 6 k = 0 <;> by_cases c2 : w 2 k = a <;> by_cases c3 : w 3 k = b <;> cases c4 : wthn d (w 4 k) (w 5 k) <;> simp [f_Rolls_allows_L3, enC, e1, e2, e3, c1, c2, c3, c4, f_within, gd_t, tI]
      refine Ok.eq body ?_
      cases c : enC w a b d k with
      | true =>
        show some (1 : Int32) = _
        rw [anyB_t hk c]; rfl
      | false => exact And.intro (nI_1 k) (anyB_s ha c)
    · obtain ⟨rfl, ha⟩ := h
      have e1 : w 1 5 ≤ nI n := by rw [hw, nl_le (by omega) (by omega)]; omega
      refine Ok.eq (a := .inr (.inl ())) (by simp [f_Rolls_allows_L3, e1]) ?_
      show some (0 : Int32) = _
      rw [ha]; rfl
  obtain ⟨r, e, hr⟩ := key
  unfold f_Rolls_allows
  rw [e]
  exact hr
theorem m_allows {m : Wt} {n : Nat} (hn : n ≤ 60) (hw : m 0 6 = nI n) (a b d : Int32) : m_allowed a b d m = some (tI (anyB (enM m a b d) n)) := by
  have key : Ok (lp (m_allowed_L6 a b d m) FU ((0 : Int32), (0 : Int32))) (fun r => r = tI (anyB (enM m a b d) n)) := by
    refine Ok.count n (fun k s => s = (tI (anyB (enM m a b d) k), nI k)) (fun k s hk h => ?_) (fun s h => ?_) n FU 0 _ (by omega) (by show n < 100000; omega) rfl
    · subst h
      have e1 : ¬ m 0 6 ≤ nI k := by rw [hw, nl_le (by omega) (by omega)]; omega
      have e2 : inb (nI k) 60 = true := nl_in (by omega) (by omega)
      have e3 : (nI k).toNatClampNeg = k := nl_cl (by omega)
      have body : m_allowed_L6 a b d m (tI (anyB (enM m a b d) k), nI k) = some (.inl (tI (anyB (enM m a b d) k || enM m a b d k), nI k + 1)) := by
        cases c0 : anyB (enM m a b d) k <;> by_cases c1 : m 5 k = 0 <;> by_cases c2 : m 1 k = a <;> by_cases c3 : m 2 k = b <;> cases c4 : wthn d (m 3 k) (m 4 k) <;> simp [m_allowed_L6, enM, e1, e2, e3, c1, c2, c3, c4, m_within, gd_t, tI]
      exact Ok.eq body (by show _ = _; rw [nI_1]; rfl)
    · subst h
      have e1 : m 0 6 ≤ nI n := by rw [hw, nl_le (by omega) (by omega)]; omega
      exact Ok.eq (a := .inr _) (by simp only [m_allowed_L6, e1, ↓reduceIte]) rfl
  obtain ⟨r, e, rfl⟩ := key
  unfold m_allowed
  rw [e]
  show m_allowed_b86 _ m = _
  unfold m_allowed_b86
  rw [tI_bob]; rfl
def laC (w : Wt) (b k : Nat) : Bool := decide (b < k) && (decide (w 14 k = w 14 b) && decide (w 16 k = w 16 b))
def laM (m : Wt) (b k : Nat) : Bool := decide (b < k) && (decide (m 19 k = m 19 b) && decide (m 20 k = m 20 b))
def rsC (w : Wt) (bn nE b : Nat) : Nat := if anyB (laC w b) bn then 1 else if anyB (enC w (w 15 b) (w 16 b) (w 17 b)) nE then 0 else 2
def rsM (m : Wt) (bn nE b : Nat) : Nat := if anyB (laM m b) bn then 1 else if anyB (enM m (m 9 (m 19 b).toNatClampNeg) (m 20 b) (m 21 b)) nE then 0 else 2
theorem f_reason {w : Wt} {bn nE b : Nat} (hb : bn ≤ 100) (hw : w 13 8 = nI bn) (hE : nE ≤ 60) (hw2 : w 1 5 = nI nE) (hlt : b < bn) : f_Box_reasonOf (nI b) w = some (nI (rsC w bn nE b)) := by
  have e4 : inb (nI b) 100 = true := nl_in (by omega) (by omega)
  have e5 : (nI b).toNatClampNeg = b := nl_cl (by omega)
  have key : Ok (lp (f_Box_reasonOf_L4 (nI b) w) FU (nI (b + 1))) (fun r => f_Box_reasonOf_x4 (nI b) w r = some (nI (rsC w bn nE b))) := by
    refine Ok.count bn (fun k s => s = nI k ∧ b < k ∧ anyB (laC w b) k = false) (fun k s hk h => ?_) (fun s h => ?_) (bn - (b + 1)) FU (b + 1) _ (by omega) (by show _ < 100000; omega) ⟨rfl, by omega, anyB_0 (fun k hk => by unfold laC; rw [decide_eq_false (by omega)]; rfl)⟩
    · obtain ⟨rfl, hbk, ha⟩ := h
      have e1 : ¬ w 13 8 ≤ nI k := by rw [hw, nl_le (by omega) (by omega)]; omega
      have e2 : inb (nI k) 100 = true := nl_in (by omega) (by omega)
      have e3 : (nI k).toNatClampNeg = k := nl_cl (by omega)
      have body : f_Box_reasonOf_L4 (nI b) w (nI k) = some (if laC w b k then .inr (.inr 1) else .inl (nI k + 1)) := by
        by_cases c1 : w 14 k = w 14 b <;> by_cases c2 : w 16 k = w 16 b <;> simp [f_Box_reasonOf_L4, laC, e1, e2, e3, e4, e5, c1, c2, gd_t, hbk]
      refine Ok.eq body ?_
      cases c : laC w b k with
      | true =>
        show some (1 : Int32) = _
        unfold rsC
        rw [anyB_t hk c]; rfl
      | false => exact And.intro (nI_1 k) (And.intro (by omega) (anyB_s ha c))
    · obtain ⟨rfl, hbk, ha⟩ := h
      have e1 : w 13 8 ≤ nI bn := by rw [hw, nl_le (by omega) (by omega)]; omega
      refine Ok.eq (a := .inr (.inl ())) (by simp [f_Box_reasonOf_L4, e1]) ?_
      show f_Box_reasonOf_b50 (nI b) w = _
      unfold f_Box_reasonOf_b50 rsC
      rw [ha]
      cases c : anyB (enC w (w 15 b) (w 16 b) (w 17 b)) nE <;> simp [e4, e5, gd_t, f_allows hE hw2, c, tI] <;> rfl
  obtain ⟨r, e, hr⟩ := key
  unfold f_Box_reasonOf
  rw [nI_1, nmd_eq, e]
  exact hr
theorem m_reason_eq {m : Wt} {bn nE b : Nat} (hb : bn ≤ 100) (hw : m 0 27 = nI bn) (hE : nE ≤ 60) (hw2 : m 0 6 = nI nE) (hlt : b < bn) (hv : inb (m 19 b) 8 = true) : m_reason (nI b) m = some (nI (rsM m bn nE b)) := by
  have e4 : inb (nI b) 100 = true := nl_in (by omega) (by omega)
  have e5 : (nI b).toNatClampNeg = b := nl_cl (by omega)
  have key : Ok (lp (m_reason_L6 (nI b) m) FU ((0 : Int32), nI (b + 1))) (fun r => r = tI (anyB (laM m b) bn)) := by
    refine Ok.count bn (fun k s => s = (tI (anyB (laM m b) k), nI k) ∧ b < k) (fun k s hk h => ?_) (fun s h => ?_) (bn - (b + 1)) FU (b + 1) _ (by omega) (by show _ < 100000; omega) ⟨by rw [anyB_0 (fun k hk => by unfold laM; rw [decide_eq_false (by omega)]; rfl)]; rfl, by omega⟩
    · obtain ⟨rfl, hbk⟩ := h
      have e1 : ¬ m 0 27 ≤ nI k := by rw [hw, nl_le (by omega) (by omega)]; omega
      have e2 : inb (nI k) 100 = true := nl_in (by omega) (by omega)
      have e3 : (nI k).toNatClampNeg = k := nl_cl (by omega)
      have body : m_reason_L6 (nI b) m (tI (anyB (laM m b) k), nI k) = some (.inl (tI (anyB (laM m b) k || laM m b k), nI k + 1)) := by
        cases c0 : anyB (laM m b) k <;> by_cases c1 : m 19 k = m 19 b <;> by_cases c2 : m 20 k = m 20 b <;> simp [m_reason_L6, laM, e1, e2, e3, e4, e5, c1, c2, gd_t, hbk, tI]
      exact Ok.eq body (And.intro (by rw [nI_1]; rfl) (by omega))
    · obtain ⟨rfl, hbk⟩ := h
      have e1 : m 0 27 ≤ nI bn := by rw [hw, nl_le (by omega) (by omega)]; omega
      exact Ok.eq (a := .inr _) (by simp only [m_reason_L6, e1, ↓reduceIte]) rfl
  obtain ⟨r, e, rfl⟩ := key
  unfold m_reason
  rw [nI_1, nmd_eq, e]
  show m_reason_b60 (nI b) _ m = _
  unfold m_reason_b60 rsM
  cases c0 : anyB (laM m b) bn
  · cases c : anyB (enM m (m 9 (m 19 b).toNatClampNeg) (m 20 b) (m 21 b)) nE <;> simp [e4, e5, hv, gd_t, m_allows hE hw2, c, tI] <;> rfl
  · rfl
/-- what the two sides share of rolls and ballots -/
def Core (w m : Wt) (nE bn : Nat) : Prop := (nE ≤ 60 ∧ w 1 5 = nI nE ∧ m 0 6 = nI nE) ∧ (bn ≤ 100 ∧ w 13 8 = nI bn ∧ m 0 27 = nI bn) ∧ (w 2 = m 1 ∧ w 3 = m 2 ∧ w 4 = m 3 ∧ w 5 = m 4 ∧ w 6 = m 5) ∧ (w 14 = m 19 ∧ w 16 = m 20 ∧ w 17 = m 21) ∧ (∀ b, b < bn → w 15 b = m 9 (m 19 b).toNatClampNeg ∧ inb (m 19 b) 8 = true)
theorem Core.en {w m : Wt} {nE bn : Nat} (h : Core w m nE bn) : enC w = enM m := by
  obtain ⟨-, -, ⟨h1, h2, h3, h4, h5⟩, -, -⟩ := h
  funext a b d k
  unfold enC enM
  rw [h1, h2, h3, h4, h5]
theorem Core.rs {w m : Wt} {nE bn : Nat} (h : Core w m nE bn) {b : Nat} (hb : b < bn) : rsC w bn nE b = rsM m bn nE b := by
  have he := h.en
  obtain ⟨-, -, -, ⟨h1, h2, h3⟩, h4⟩ := h
  unfold rsC rsM laC laM
  rw [he, (h4 b hb).1, h1, h2, h3]
theorem Core.f {w m : Wt} {nE bn : Nat} (h : Core w m nE bn) {b : Nat} (hb : b < bn) : f_Box_reasonOf (nI b) w = some (nI (rsM m bn nE b)) := by
  rw [← h.rs hb]
  exact f_reason h.2.1.1 h.2.1.2.1 h.1.1 h.1.2.1 hb
theorem Core.m {w m : Wt} {nE bn : Nat} (h : Core w m nE bn) {b : Nat} (hb : b < bn) : m_reason (nI b) m = some (nI (rsM m bn nE b)) :=
  m_reason_eq h.2.1.1 h.2.1.2.2 h.1.1 h.1.2.2 hb (h.2.2.2.2 b hb).2
theorem rsM_lt {m : Wt} {bn nE b : Nat} : rsM m bn nE b < 3 := by unfold rsM; split <;> (try split) <;> omega
theorem nI_e0 {k : Nat} (h : k < 2147483648) : (nI k = 0) = (k = 0) := nl_eq (b := 0) h (by decide)
theorem Core.countC {w m : Wt} {nE bn : Nat} (h : Core w m nE bn) : f_Box_countAll w = some (nI (cntS (fun b => decide (rsM m bn nE b = 0)) bn)) := by
  have key : Ok (lp (f_Box_countAll_L4 w) FU ((0 : Int32), (0 : Int32))) (fun r => r = nI (cntS (fun b => decide (rsM m bn nE b = 0)) bn)) := by
    refine Ok.count bn (fun k s => s = (nI (cntS (fun b => decide (rsM m bn nE b = 0)) k), nI k)) (fun k s hk e => ?_) (fun s e => ?_) bn FU 0 _ (by omega) (by have := h.2.1.1; show _ < 100000; omega) rfl
    · subst e
      have hb := h.2.1.1
      have e1 : ¬ w 13 8 ≤ nI k := by rw [h.2.1.2.1, nl_le (by omega) (by omega)]; omega
      have hr := rsM_lt (m := m) (bn := bn) (nE := nE) (b := k)
      refine Ok.eq (a := .inl (nI (cntS (fun b => decide (rsM m bn nE b = 0)) (k + 1)), nI (k + 1))) ?_ rfl
      by_cases c : rsM m bn nE k = 0 <;> simp [n0, f_Box_countAll_L4, e1, h.f hk, nI_e0 (show rsM m bn nE k < 2147483648 from by omega), c, cntS, nI_1]
    · subst e
      have hb := h.2.1.1
      have e1 : w 13 8 ≤ nI bn := by rw [h.2.1.2.1, nl_le (by omega) (by omega)]; omega
      exact Ok.eq (a := .inr _) (by simp only [f_Box_countAll_L4, e1, ↓reduceIte]) rfl
  obtain ⟨r, e, rfl⟩ := key
  unfold f_Box_countAll
  rw [e]; rfl
theorem Core.countM {w m : Wt} {nE bn : Nat} (h : Core w m nE bn) : m_counting m = some (nI (cntS (fun b => decide (rsM m bn nE b = 0)) bn)) := by
  have key : Ok (lp (m_counting_L4 m) FU ((0 : Int32), (0 : Int32))) (fun r => r = nI (cntS (fun b => decide (rsM m bn nE b = 0)) bn)) := by
    refine Ok.count bn (fun k s => s = (nI (cntS (fun b => decide (rsM m bn nE b = 0)) k), nI k)) (fun k s hk e => ?_) (fun s e => ?_) bn FU 0 _ (by omega) (by have := h.2.1.1; show _ < 100000; omega) rfl
    · subst e
      have hb := h.2.1.1
      have e1 : ¬ m 0 27 ≤ nI k := by rw [h.2.1.2.2, nl_le (by omega) (by omega)]; omega
      have hr := rsM_lt (m := m) (bn := bn) (nE := nE) (b := k)
      refine Ok.eq (a := .inl (nI (cntS (fun b => decide (rsM m bn nE b = 0)) (k + 1)), nI (k + 1))) ?_ rfl
      by_cases c : rsM m bn nE k = 0 <;> simp [n0, m_counting_L4, e1, h.m hk, nI_e0 (show rsM m bn nE k < 2147483648 from by omega), c, cntS, nI_1, nmd_eq]
    · subst e
      have hb := h.2.1.1
      have e1 : m 0 27 ≤ nI bn := by rw [h.2.1.2.2, nl_le (by omega) (by omega)]; omega
      exact Ok.eq (a := .inr _) (by simp only [m_counting_L4, e1, ↓reduceIte]) rfl
  obtain ⟨r, e, rfl⟩ := key
  unfold m_counting
  rw [e]; rfl
/-- the ballots of a vote that count -/
def ofV (m : Wt) (bn nE : Nat) (v : Int32) (b : Nat) : Bool := decide (m 19 b = v) && decide (rsM m bn nE b = 0)
theorem Core.inM {w m : Wt} {nE bn : Nat} (h : Core w m nE bn) (v : Int32) : m_countingIn v m = some (nI (cntS (ofV m bn nE v) bn)) := by
  have key : Ok (lp (m_countingIn_L4 v m) FU ((0 : Int32), (0 : Int32))) (fun r => r = nI (cntS (ofV m bn nE v) bn)) := by
    refine Ok.count bn (fun k s => s = (nI (cntS (ofV m bn nE v) k), nI k)) (fun k s hk e => ?_) (fun s e => ?_) bn FU 0 _ (by omega) (by have := h.2.1.1; show _ < 100000; omega) rfl
    · subst e
      have hb := h.2.1.1
      have e1 : ¬ m 0 27 ≤ nI k := by rw [h.2.1.2.2, nl_le (by omega) (by omega)]; omega
      have e2 : inb (nI k) 100 = true := nl_in (by omega) (by omega)
      have e3 : (nI k).toNatClampNeg = k := nl_cl (by omega)
      have hr := rsM_lt (m := m) (bn := bn) (nE := nE) (b := k)
      refine Ok.eq (a := .inl (nI (cntS (ofV m bn nE v) (k + 1)), nI (k + 1))) ?_ rfl
      by_cases c1 : m 19 k = v <;> by_cases c : rsM m bn nE k = 0 <;> simp [n0, n0, m_countingIn_L4, e1, e2, e3, gd_t, c1, h.m hk, nI_e0 (show rsM m bn nE k < 2147483648 from by omega), c, cntS, nI_1, nmd_eq, ofV]
    · subst e
      have hb := h.2.1.1
      have e1 : m 0 27 ≤ nI bn := by rw [h.2.1.2.2, nl_le (by omega) (by omega)]; omega
      exact Ok.eq (a := .inr _) (by simp only [m_countingIn_L4, e1, ↓reduceIte]) rfl
  obtain ⟨r, e, rfl⟩ := key
  unfold m_countingIn
  rw [e]; rfl
/-- what a count writes of the class's world: the gathered, the counts' own cells -/
def scC (i k : Nat) : Bool := (decide (i = 13) && decide (k = 10)) || (decide (21 ≤ i) && decide (i < 32)) || (decide (64 ≤ i) && decide (k = 8))
theorem scC_in {i k : Nat} (h1 : 21 ≤ i) (h2 : i < 32) : scC i k = true := by unfold scC; rw [decide_eq_true h1, decide_eq_true h2, Bool.true_and, Bool.or_true, Bool.true_or]
def kpC (w w' : Wt) : Prop := ∀ i k, scC i k = false → w' i k = w i k
theorem kpC.rfl' {w : Wt} : kpC w w := fun _ _ _ => rfl
theorem kpC.tr {a b c : Wt} (h : kpC a b) (g : kpC b c) : kpC a c := fun i k e => (g i k e).trans (h i k e)
theorem kpC.up {w : Wt} {i k : Nat} {v : Int32} (h : scC i k = true) : kpC w (upd2 w i k v) := fun a b e => by
  rw [upd2_at]
  by_cases c1 : a = i
  · by_cases c2 : b = k
    · subst c1; subst c2; rw [h] at e; cases e
    · rw [if_pos c1, if_neg c2]
  · rw [if_neg c1]
theorem kpC.fn {w w' : Wt} (h : kpC w w') {i : Nat} (hi : ∀ k, scC i k = false) : w' i = w i := funext fun k => h i k (hi k)
theorem Core.kp {w w' m : Wt} {nE bn : Nat} (h : Core w m nE bn) (k : kpC w w') : Core w' m nE bn := by
  have f := fun (i : Nat) (hi : i ≠ 13 ∧ i < 21) => k.fn (i := i) (fun k => by unfold scC; rw [decide_eq_false hi.1, decide_eq_false (show ¬ 21 ≤ i by omega), decide_eq_false (show ¬ 64 ≤ i by omega)]; rfl)
  obtain ⟨⟨a1, a2, a3⟩, ⟨b1, b2, b3⟩, ⟨c1, c2, c3, c4, c5⟩, ⟨d1, d2, d3⟩, e1⟩ := h
  refine ⟨⟨a1, ?_, a3⟩, ⟨b1, ?_, b3⟩, ⟨?_, ?_, ?_, ?_, ?_⟩, ⟨?_, ?_, ?_⟩, ?_⟩
  · rw [f 1 (by decide)]; exact a2
  · rw [k 13 8 (by decide)]; exact b2
  · rw [f 2 (by decide)]; exact c1
  · rw [f 3 (by decide)]; exact c2
  · rw [f 4 (by decide)]; exact c3
  · rw [f 5 (by decide)]; exact c4
  · rw [f 6 (by decide)]; exact c5
  · rw [f 14 (by decide)]; exact d1
  · rw [f 16 (by decide)]; exact d2
  · rw [f 17 (by decide)]; exact d3
  · intro b hb
    rw [f 15 (by decide)]; exact e1 b hb
theorem Core.gather {w m : Wt} {nE bn : Nat} (h : Core w m nE bn) (v : Int32) : Ok (f_Box_gather v w) (fun w' => kpC w w' ∧ (∀ i, i ≠ 13 → i ≠ 21 → w' i = w i) ∧ w' 13 10 = nI (glS (ofV m bn nE v) bn 0).length ∧ ∀ j b, (glS (ofV m bn nE v) bn 0)[j]? = some b → w' 21 j = nI b) := by
  have hb := h.2.1.1
  have key : Ok (lp (f_Box_gather_L7 v) FU ((0 : Int32), upd2 w 13 10 (0 : Int32))) (fun w' => kpC w w' ∧ (∀ i, i ≠ 13 → i ≠ 21 → w' i = w i) ∧ w' 13 10 = nI (glS (ofV m bn nE v) bn 0).length ∧ ∀ j b, (glS (ofV m bn nE v) bn 0)[j]? = some b → w' 21 j = nI b) := by
    refine Ok.count bn (fun k s => s.1 = nI k ∧ kpC w s.2 ∧ (∀ i, i ≠ 13 → i ≠ 21 → s.2 i = w i) ∧ s.2 13 10 = nI (glS (ofV m bn nE v) k 0).length ∧ ∀ j b, (glS (ofV m bn nE v) k 0)[j]? = some b → s.2 21 j = nI b) (fun k s hk e => ?_) (fun s e => ?_) bn FU 0 _ (by omega) (by show _ < 100000; omega) ⟨rfl, kpC.up (by decide), fun i hi _ => upd2_n hi, by show upd2 w 13 10 0 13 10 = nI 0; rw [upd2_at]; rfl, fun j b e => by cases e⟩
    · obtain ⟨l, w1⟩ := s
      obtain ⟨rfl, k1, k2, k3, k4⟩ := e
      dsimp only at k1 k2 k3 k4
      have H := h.kp k1
      have hr := rsM_lt (m := m) (bn := bn) (nE := nE) (b := k)
      have e1 : ¬ w1 13 8 ≤ nI k := by rw [H.2.1.2.1, nl_le (by omega) (by omega)]; omega
      have e2 : inb (nI k) 100 = true := nl_in (by omega) (by omega)
      have e3 : (nI k).toNatClampNeg = k := nl_cl (by omega)
      have e4 : w1 14 k = m 19 k := by rw [H.2.2.2.1.1]
      have hl := glS_len (p := ofV m bn nE v) (d := k) (k := 0)
      have e5 : inb (w1 13 10) 100 = true := by rw [k3]; exact nl_in (by omega) (by omega)
      have e6 : (w1 13 10).toNatClampNeg = (glS (ofV m bn nE v) k 0).length := by rw [k3]; exact nl_cl (by omega)
      cases c : ofV m bn nE v k with
      | false =>
        refine Ok.eq (a := .inl (nI k + 1, w1)) ?_ ?_
        · have c2 := c
          unfold ofV at c2
          by_cases c1 : m 19 k = v
          · have c3 : ¬ rsM m bn nE k = 0 := by simpa [c1] using c2
            simp [f_Box_gather_L7, e1, e2, e3, e4, c1, H.f hk, nI_e0 (show rsM m bn nE k < 2147483648 from by omega), c3, gd_t]
          · simp [f_Box_gather_L7, e1, e2, e3, e4, c1, gd_t]
        · refine And.intro (nI_1 k) ⟨k1, k2, ?_, ?_⟩
          · rw [glS_snoc, Nat.zero_add, c]; simpa using k3
          · rw [glS_snoc, Nat.zero_add, c]; simpa using k4
      | true =>
        have c2 := c
        unfold ofV at c2
        simp only [Bool.and_eq_true, decide_eq_true_eq] at c2
        refine Ok.eq (a := .inl (nI k + 1, upd2 (upd2 w1 21 (glS (ofV m bn nE v) k 0).length (nI k)) 13 10 (w1 13 10 + 1))) ?_ ?_
        · simp [f_Box_gather_L7, e1, e2, e3, e4, e5, e6, c2.1, H.f hk, c2.2, nmd_eq, gd_t, upd2_at, nI_e0]
        · refine And.intro (nI_1 k) ⟨k1.tr ((kpC.up (scC_in (by decide) (by decide))).tr (kpC.up (by decide))), fun i h1 h2 => ?_, ?_, ?_⟩
          · show upd2 (upd2 w1 _ _ _) _ _ _ i = _
            rw [upd2_n h1, upd2_n h2, k2 i h1 h2]
          · dsimp only
            rw [upd2_at, if_pos rfl, if_pos rfl, k3, glS_snoc, Nat.zero_add, c, nI_1, List.length_append]
            rfl
          · intro j b hj
            dsimp only
            rw [upd2_n (by decide), upd2_at, if_pos rfl]
            rw [glS_snoc, Nat.zero_add, c, List.getElem?_append] at hj
            by_cases hjl : j < (glS (ofV m bn nE v) k 0).length
            · rw [if_pos hjl] at hj
              rw [if_neg (by omega)]
              exact k4 j b hj
            · rw [if_neg hjl] at hj
              have hj2 : j - (glS (ofV m bn nE v) k 0).length = 0 := by
                by_cases h0 : j - (glS (ofV m bn nE v) k 0).length = 0
                · exact h0
                · rw [if_pos rfl, List.getElem?_eq_none (by show 1 ≤ _; omega)] at hj; cases hj
              rw [hj2] at hj
              rw [if_pos (by omega)]
              simp at hj
              rw [hj]
    · obtain ⟨l, w1⟩ := s
      obtain ⟨rfl, k1, k2, k3, k4⟩ := e
      dsimp only at k1 k2 k3 k4
      have H := h.kp k1
      have e1 : w1 13 8 ≤ nI bn := by rw [H.2.1.2.1, nl_le (by omega) (by omega)]; omega
      exact Ok.eq (a := .inr w1) (by simp only [f_Box_gather_L7, e1, ↓reduceIte]) ⟨k1, k2, k3, k4⟩
  obtain ⟨r, e, hr⟩ := key
  unfold f_Box_gather
  rw [nmd_eq, e]
  exact ⟨r, rfl, hr⟩
